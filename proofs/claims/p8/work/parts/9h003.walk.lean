/-! what a text means: the walk, as a function of the text b, of the names' values, of what is open. Its answer: the first fault and its place, or where it comes to and the value -/
abbrev RS7 : Type := Except (Int × Nat) (Nat × Int32)
/-- which name stands at q (-1: none): its number among the names -/
def nmv (b : Nat → Int) (law : Bool) (q : Nat) : Int := if wc b q = 10989829 then 0 else if wc b q = 10284818 then 1 else if wc b q = 1896526 then 2 else if wc b q = 315904 then 3 else if wc b q = 168984 then 4 else if wc b q = 9173 then 5 else if law = true ∧ wc b q = 2228 then 6 else -1
/-- behind a comma: the second value, the closing sign -/
def nCm (b : Nat → Int) (r : Nat → Nat → Nat → RS7) (ls : Bool) (p2 : Nat) (v : Int32) (o1 : Nat) : RS7 :=
  if b (sk b p2) ≠ 44 then .error (1, sk b p2) else
  match r 2 (sk b p2 + 1) o1 with
  | .error e => .error e
  | .ok z => if b (sk b z.1) ≠ 41 then .error (1, sk b z.1) else .ok (sk b z.1 + 1, if ls then (if z.2 < v then z.2 else v) else (if z.2 < v then v else z.2))
/-- behind the first value -/
def nE (b : Nat → Int) (r : Nat → Nat → Nat → RS7) (lm ls : Bool) (p2 : Nat) (v : Int32) (o1 : Nat) : RS7 :=
  if lm then nCm b r ls p2 v o1 else if b (sk b p2) ≠ 41 then .error (1, sk b p2) else .ok (sk b p2 + 1, v)
/-- what stands in brackets from q on -/
def nB (b : Nat → Int) (r : Nat → Nat → Nat → RS7) (lm ls : Bool) (q o : Nat) : RS7 :=
  if b q ≠ 40 then .error (1, q) else if o = 6 then .error (3, q) else
  match r 2 (q + 1) (o + 1) with
  | .error e => .error e
  | .ok z => nE b r lm ls z.1 z.2 (o + 1)
def nU (b : Nat → Int) (law : Bool) (env : Nat → Int32) (r : Nat → Nat → Nat → RS7) (p o : Nat) : RS7 :=
  if 48 ≤ b (sk b p) ∧ b (sk b p) ≤ 57 then
    (if 999 < nuv b (sk b p) (rn b 48 57 (sk b p) - sk b p) then .error (2, sk b p) else .ok (rn b 48 57 (sk b p), Int32.ofInt (nuv b (sk b p) (rn b 48 57 (sk b p) - sk b p))))
  else if ¬ nmv b law (sk b p) = -1 then .ok (rn b 97 122 (sk b p), env (nmv b law (sk b p)).toNat)
  else if wc b (sk b p) = 6476969 then nB b r true true (sk b (rn b 97 122 (sk b p))) o
  else if wc b (sk b p) = 267347 then nB b r true false (sk b (rn b 97 122 (sk b p))) o
  else nB b r false false (sk b p) o
def lP (b : Nat → Int) (r : Nat → Nat → Nat → RS7) (o : Nat) : Nat → Nat → Int32 → RS7
  | 0, q, v => .ok (q, v)
  | f + 1, q, v => if b q = 42 ∨ b q = 47 then
      (match r 0 (q + 1) o with
      | .error e => .error e
      | .ok z => lP b r o f (sk b z.1) (if b q = 42 then v * z.2 else if z.2 = 0 then 0 else v / z.2))
    else .ok (q, v)
def nP (b : Nat → Int) (r : Nat → Nat → Nat → RS7) (p o : Nat) : RS7 :=
  match r 0 p o with
  | .error e => .error e
  | .ok z => lP b r o 302 (sk b z.1) z.2
def lS (b : Nat → Int) (r : Nat → Nat → Nat → RS7) (o : Nat) : Nat → Nat → Int32 → RS7
  | 0, q, v => .ok (q, v)
  | f + 1, q, v => if b q = 43 ∨ b q = 45 then
      (match r 1 (q + 1) o with
      | .error e => .error e
      | .ok z => lS b r o f (sk b z.1) (if b q = 43 then v + z.2 else v - z.2))
    else .ok (q, v)
def nS (b : Nat → Int) (r : Nat → Nat → Nat → RS7) (p o : Nat) : RS7 :=
  match r 1 p o with
  | .error e => .error e
  | .ok z => lS b r o 302 (sk b z.1) z.2
/-- the three comparisons: behind the first value, which is a, the sign stands at q -/
def cmp7 (s : Int) (a u : Int32) : Int32 := if s = 60 then (if a < u then 1 else 0) else if s = 62 then (if u < a then 1 else 0) else if a = u then 1 else 0
def nQ (b : Nat → Int) (r : Nat → Nat → Nat → RS7) (q o : Nat) (a : Int32) : RS7 :=
  if b q = 60 ∨ b q = 62 ∨ b q = 61 then
    (match r 2 (q + 1) o with
    | .error e => .error e
    | .ok z => .ok (z.1, cmp7 (b q) a z.2))
  else .error (1, q)
def nT7 (b : Nat → Int) (r : Nat → Nat → Nat → RS7) (p o : Nat) : RS7 :=
  if wc b (sk b p) = 10631 then
    (if o = 6 then .error (3, sk b p) else
    match r 3 (sk b p + 3) (o + 1) with
    | .error e => .error e
    | .ok z => .ok (z.1, if z.2 = 0 then 1 else 0))
  else if b (sk b p) = 91 then
    (if o = 6 then .error (3, sk b p) else
    match r 5 (sk b p + 1) (o + 1) with
    | .error e => .error e
    | .ok z => if b (sk b z.1) ≠ 93 then .error (1, sk b z.1) else .ok (sk b z.1 + 1, z.2))
  else
    match r 2 (sk b p) o with
    | .error e => .error e
    | .ok z => nQ b r (sk b z.1) o z.2
def lA (b : Nat → Int) (r : Nat → Nat → Nat → RS7) (o : Nat) : Nat → Nat → Int32 → RS7
  | 0, q, v => .ok (q, v)
  | f + 1, q, v => if wc b (sk b q) = 1111 then
      (match r 3 (rn b 97 122 (sk b q)) o with
      | .error e => .error e
      | .ok z => lA b r o f z.1 (if v = 0 then 0 else if z.2 = 0 then 0 else 1))
    else .ok (sk b q, v)
def nA (b : Nat → Int) (r : Nat → Nat → Nat → RS7) (p o : Nat) : RS7 :=
  match r 3 p o with
  | .error e => .error e
  | .ok z => lA b r o 302 z.1 z.2
def lO (b : Nat → Int) (r : Nat → Nat → Nat → RS7) (o : Nat) : Nat → Nat → Int32 → RS7
  | 0, q, v => .ok (q, v)
  | f + 1, q, v => if wc b (sk b q) = 423 then
      (match r 4 (rn b 97 122 (sk b q)) o with
      | .error e => .error e
      | .ok z => lO b r o f z.1 (if v = 0 then (if z.2 = 0 then 0 else 1) else 1))
    else .ok (sk b q, v)
def nO (b : Nat → Int) (r : Nat → Nat → Nat → RS7) (p o : Nat) : RS7 :=
  match r 4 p o with
  | .error e => .error e
  | .ok z => lO b r o 302 z.1 z.2
def Wk (b : Nat → Int) (law : Bool) (env : Nat → Int32) : Nat → Nat → Nat → Nat → RS7
  | 0 => fun _ _ _ => .error (0, 0)
  | d + 1 => fun j p o => match j with
    | 0 => nU b law env (Wk b law env d) p o
    | 1 => nP b (Wk b law env d) p o
    | 2 => nS b (Wk b law env d) p o
    | 3 => nT7 b (Wk b law env d) p o
    | 4 => nA b (Wk b law env d) p o
    | _ => nO b (Wk b law env d) p o
