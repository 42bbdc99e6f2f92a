/-! what the functions write: if one ends, all else is as it was -/
theorem w_F_X7_byteAt {W : Nat → Nat → Nat → Bool} {S0 : fS}  (p1 : Int32) {S : fS} (h : FX W S0 S) : fr W S0 (F_X7_byteAt p1 S) := by
  unfold F_X7_byteAt
  repeat' first
    | (with_reducible exact fr_some (by assumption))
    | (with_reducible refine fr_iv fun _ => ?_)
    | (with_reducible refine fr_bb (fun _ => ?_) (fun _ => ?_))
    | (with_reducible refine fr_gd fun _ => ?_)
theorem w_B_X7_blanks_0 {W : Nat → Nat → Nat → Bool} {S0 : fS} (w40_0_4 : W 40 0 4 = true) (k0 : (Unit) → fS → Option (Int32 × fS)) (hk : ∀ (z : (Unit)) (S : fS), FX W S0 S → fr W S0 (k0 z S)) (z : (Unit)) {S : fS} (h : FX W S0 S) : fr W S0 (B_X7_blanks_0 k0 z S) := by
  unfold B_X7_blanks_0
  repeat' first
    | (with_reducible exact fr_some (by assumption))
    | (with_reducible refine fr_iv fun _ => ?_)
    | (with_reducible refine fr_bb (fun _ => ?_) (fun _ => ?_))
    | (with_reducible refine fr_pu (by assumption) w40_0_4 (fun _ _ => ?_))
    | (with_reducible refine fr_bd (w_F_X7_byteAt  _ (by assumption)) (fun _ _ _ => ?_))
    | (with_reducible exact hk _ _ (by assumption))
theorem w_F_X7_blanks {W : Nat → Nat → Nat → Bool} {S0 : fS} (w40_0_4 : W 40 0 4 = true)  {S : fS} (h : FX W S0 S) : fr W S0 (F_X7_blanks  S) := by
  unfold F_X7_blanks
  repeat' first
    | (with_reducible exact fr_some (by assumption))
    | (with_reducible exact fr_lp (fun k hk z S h => w_B_X7_blanks_0 w40_0_4 k hk z h) (by assumption))
theorem w_F_X7_wrong {W : Nat → Nat → Nat → Bool} {S0 : fS} (w40_0_6 : W 40 0 6 = true) (w40_0_7 : W 40 0 7 = true) (p1 : Int32) (p2 : Int32) {S : fS} (h : FX W S0 S) : fr W S0 (F_X7_wrong p1 p2 S) := by
  unfold F_X7_wrong
  repeat' first
    | (with_reducible exact fr_some (by assumption))
    | (with_reducible refine fr_iv fun _ => ?_)
    | (with_reducible refine fr_bb (fun _ => ?_) (fun _ => ?_))
    | (with_reducible refine fr_pu (by assumption) w40_0_6 (fun _ _ => ?_))
    | (with_reducible refine fr_pu (by assumption) w40_0_7 (fun _ _ => ?_))
theorem w_F_X7_isDigit {W : Nat → Nat → Nat → Bool} {S0 : fS}  (p0 : Int32) {S : fS} (h : FX W S0 S) : fr W S0 (F_X7_isDigit p0 S) := by
  unfold F_X7_isDigit
  repeat' first
    | (with_reducible exact fr_some (by assumption))
    | (with_reducible refine fr_bb (fun _ => ?_) (fun _ => ?_))
theorem w_B_X7_number_52 {W : Nat → Nat → Nat → Bool} {S0 : fS} (w40_0_4 : W 40 0 4 = true) (k7 : (Int32 × Int32) → fS → Option (Int32 × fS)) (hk : ∀ (z : (Int32 × Int32)) (S : fS), FX W S0 S → fr W S0 (k7 z S)) (a1 : Int32) (t0 : Int32) {S : fS} (h : FX W S0 S) : fr W S0 (B_X7_number_52 k7 a1 t0 S) := by
  unfold B_X7_number_52
  repeat' first
    | (with_reducible exact fr_some (by assumption))
    | (with_reducible refine fr_iv fun _ => ?_)
    | (with_reducible refine fr_pu (by assumption) w40_0_4 (fun _ _ => ?_))
    | (with_reducible exact hk _ _ (by assumption))
theorem w_B_X7_number_7 {W : Nat → Nat → Nat → Bool} {S0 : fS} (w40_0_4 : W 40 0 4 = true) (w40_0_6 : W 40 0 6 = true) (w40_0_7 : W 40 0 7 = true) (k7 : (Int32 × Int32) → fS → Option (Int32 × fS)) (hk : ∀ (z : (Int32 × Int32)) (S : fS), FX W S0 S → fr W S0 (k7 z S)) (z : (Int32 × Int32)) {S : fS} (h : FX W S0 S) : fr W S0 (B_X7_number_7 k7 z S) := by
  obtain ⟨a1, a2⟩ := z
  unfold B_X7_number_7
  dsimp only
  repeat' first
    | (with_reducible exact fr_some (by assumption))
    | (with_reducible refine fr_iv fun _ => ?_)
    | (with_reducible refine fr_bb (fun _ => ?_) (fun _ => ?_))
    | (with_reducible refine fr_bd (w_F_X7_byteAt  _ (by assumption)) (fun _ _ _ => ?_))
    | (with_reducible refine fr_bd (w_F_X7_isDigit  _ (by assumption)) (fun _ _ _ => ?_))
    | (with_reducible refine fr_bd (w_F_X7_wrong w40_0_6 w40_0_7 _ _ (by assumption)) (fun _ _ _ => ?_))
    | (with_reducible exact w_B_X7_number_52 w40_0_4 _ hk _ _ (by assumption))
    | (with_reducible exact hk _ _ (by assumption))
theorem w_F_X7_number {W : Nat → Nat → Nat → Bool} {S0 : fS} (w40_0_4 : W 40 0 4 = true) (w40_0_6 : W 40 0 6 = true) (w40_0_7 : W 40 0 7 = true)  {S : fS} (h : FX W S0 S) : fr W S0 (F_X7_number  S) := by
  unfold F_X7_number
  repeat' first
    | (with_reducible exact fr_some (by assumption))
    | (with_reducible refine fr_iv fun _ => ?_)
    | (with_reducible exact fr_lp (fun k hk z S h => w_B_X7_number_7 w40_0_4 w40_0_6 w40_0_7 k hk z h) (by assumption))
theorem w_B_X7_wordHere_67 {W : Nat → Nat → Nat → Bool} {S0 : fS}  (k8 : (Int32 × Int32) → fS → Option (Int32 × fS)) (hk : ∀ (z : (Int32 × Int32)) (S : fS), FX W S0 S → fr W S0 (k8 z S)) (a2 : Int32) (t0 : Int32) {S : fS} (h : FX W S0 S) : fr W S0 (B_X7_wordHere_67 k8 a2 t0 S) := by
  unfold B_X7_wordHere_67
  repeat' first
    | (with_reducible exact fr_some (by assumption))
    | (with_reducible refine fr_iv fun _ => ?_)
    | (with_reducible exact hk _ _ (by assumption))
theorem w_B_X7_wordHere_74 {W : Nat → Nat → Nat → Bool} {S0 : fS}  (a1 : Int32) (a2 : Int32) {S : fS} (h : FX W S0 S) : fr W S0 (B_X7_wordHere_74 a1 a2 S) := by
  unfold B_X7_wordHere_74
  repeat' first
    | (with_reducible exact fr_some (by assumption))
    | (with_reducible refine fr_bb (fun _ => ?_) (fun _ => ?_))
theorem w_B_X7_wordHere_8 {W : Nat → Nat → Nat → Bool} {S0 : fS}  (k8 : (Int32 × Int32) → fS → Option (Int32 × fS)) (hk : ∀ (z : (Int32 × Int32)) (S : fS), FX W S0 S → fr W S0 (k8 z S)) (z : (Int32 × Int32)) {S : fS} (h : FX W S0 S) : fr W S0 (B_X7_wordHere_8 k8 z S) := by
  obtain ⟨a1, a2⟩ := z
  unfold B_X7_wordHere_8
  dsimp only
  repeat' first
    | (with_reducible exact fr_some (by assumption))
    | (with_reducible refine fr_iv fun _ => ?_)
    | (with_reducible refine fr_bb (fun _ => ?_) (fun _ => ?_))
    | (with_reducible refine fr_bd (w_F_X7_byteAt  _ (by assumption)) (fun _ _ _ => ?_))
    | (with_reducible exact w_B_X7_wordHere_74  _ _ (by assumption))
    | (with_reducible exact w_B_X7_wordHere_67  _ hk _ _ (by assumption))
    | (with_reducible exact hk _ _ (by assumption))
theorem w_F_X7_wordHere {W : Nat → Nat → Nat → Bool} {S0 : fS} (w40_0_4 : W 40 0 4 = true)  {S : fS} (h : FX W S0 S) : fr W S0 (F_X7_wordHere  S) := by
  unfold F_X7_wordHere
  repeat' first
    | (with_reducible exact fr_some (by assumption))
    | (with_reducible refine fr_bd (w_F_X7_blanks w40_0_4  (by assumption)) (fun _ _ _ => ?_))
    | (with_reducible exact fr_lp (fun k hk z S h => w_B_X7_wordHere_8  k hk z h) (by assumption))
theorem w_B_X7_word_42 {W : Nat → Nat → Nat → Bool} {S0 : fS}  (a4 : Int32) (t0 : Int32) {S : fS} (h : FX W S0 S) : fr W S0 (B_X7_word_42 a4 t0 S) := by
  unfold B_X7_word_42
  repeat' first
    | (with_reducible exact fr_some (by assumption))
    | (with_reducible refine fr_iv fun _ => ?_)
    | (with_reducible refine fr_bb (fun _ => ?_) (fun _ => ?_))
theorem w_B_X7_word_24 {W : Nat → Nat → Nat → Bool} {S0 : fS}  (a3 : Int32) (a4 : Int32) (t0 : Int32) {S : fS} (h : FX W S0 S) : fr W S0 (B_X7_word_24 a3 a4 t0 S) := by
  unfold B_X7_word_24
  repeat' first
    | (with_reducible exact fr_some (by assumption))
    | (with_reducible refine fr_iv fun _ => ?_)
    | (with_reducible refine fr_bb (fun _ => ?_) (fun _ => ?_))
    | (with_reducible exact w_B_X7_word_42  _ _ (by assumption))
theorem w_F_X7_word {W : Nat → Nat → Nat → Bool} {S0 : fS}  (p0 : Int32) (p1 : Int32) (p2 : Int32) (p3 : Int32) (p4 : Int32) {S : fS} (h : FX W S0 S) : fr W S0 (F_X7_word p0 p1 p2 p3 p4 S) := by
  unfold F_X7_word
  repeat' first
    | (with_reducible exact fr_some (by assumption))
    | (with_reducible refine fr_iv fun _ => ?_)
    | (with_reducible refine fr_bb (fun _ => ?_) (fun _ => ?_))
    | (with_reducible exact w_B_X7_word_24  _ _ _ (by assumption))
theorem w_F_X7_isWord {W : Nat → Nat → Nat → Bool} {S0 : fS} (w40_0_4 : W 40 0 4 = true) (p1 : Int32) (p2 : Int32) (p3 : Int32) (p4 : Int32) (p5 : Int32) {S : fS} (h : FX W S0 S) : fr W S0 (F_X7_isWord p1 p2 p3 p4 p5 S) := by
  unfold F_X7_isWord
  repeat' first
    | (with_reducible exact fr_some (by assumption))
    | (with_reducible refine fr_bb (fun _ => ?_) (fun _ => ?_))
    | (with_reducible refine fr_bd (w_F_X7_wordHere w40_0_4  (by assumption)) (fun _ _ _ => ?_))
    | (with_reducible refine fr_bd (w_F_X7_word  _ _ _ _ _ (by assumption)) (fun _ _ _ => ?_))
theorem w_B_X7_skipWord_0 {W : Nat → Nat → Nat → Bool} {S0 : fS} (w40_0_4 : W 40 0 4 = true) (k0 : (Unit) → fS → Option (Int32 × fS)) (hk : ∀ (z : (Unit)) (S : fS), FX W S0 S → fr W S0 (k0 z S)) (z : (Unit)) {S : fS} (h : FX W S0 S) : fr W S0 (B_X7_skipWord_0 k0 z S) := by
  unfold B_X7_skipWord_0
  repeat' first
    | (with_reducible exact fr_some (by assumption))
    | (with_reducible refine fr_iv fun _ => ?_)
    | (with_reducible refine fr_bb (fun _ => ?_) (fun _ => ?_))
    | (with_reducible refine fr_pu (by assumption) w40_0_4 (fun _ _ => ?_))
    | (with_reducible refine fr_bd (w_F_X7_byteAt  _ (by assumption)) (fun _ _ _ => ?_))
    | (with_reducible exact hk _ _ (by assumption))
theorem w_F_X7_skipWord {W : Nat → Nat → Nat → Bool} {S0 : fS} (w40_0_4 : W 40 0 4 = true)  {S : fS} (h : FX W S0 S) : fr W S0 (F_X7_skipWord  S) := by
  unfold F_X7_skipWord
  repeat' first
    | (with_reducible exact fr_some (by assumption))
    | (with_reducible exact fr_lp (fun k hk z S h => w_B_X7_skipWord_0 w40_0_4 k hk z h) (by assumption))
theorem w_F_X7_sign {W : Nat → Nat → Nat → Bool} {S0 : fS} (w40_0_4 : W 40 0 4 = true) (w40_0_6 : W 40 0 6 = true) (w40_0_7 : W 40 0 7 = true) (p1 : Int32) {S : fS} (h : FX W S0 S) : fr W S0 (F_X7_sign p1 S) := by
  unfold F_X7_sign
  repeat' first
    | (with_reducible exact fr_some (by assumption))
    | (with_reducible refine fr_iv fun _ => ?_)
    | (with_reducible refine fr_bb (fun _ => ?_) (fun _ => ?_))
    | (with_reducible refine fr_pu (by assumption) w40_0_4 (fun _ _ => ?_))
    | (with_reducible refine fr_pu (by assumption) w40_0_6 (fun _ _ => ?_))
    | (with_reducible refine fr_pu (by assumption) w40_0_7 (fun _ _ => ?_))
    | (with_reducible refine fr_bd (w_F_X7_blanks w40_0_4  (by assumption)) (fun _ _ _ => ?_))
    | (with_reducible refine fr_bd (w_F_X7_byteAt  _ (by assumption)) (fun _ _ _ => ?_))
    | (with_reducible refine fr_bd (w_F_X7_wrong w40_0_6 w40_0_7 _ _ (by assumption)) (fun _ _ _ => ?_))
theorem w_B_X7_opens_18 {W : Nat → Nat → Nat → Bool} {S0 : fS} (w40_0_4 : W 40 0 4 = true) (w40_0_5 : W 40 0 5 = true) (a1 : Int32) {S : fS} (h : FX W S0 S) : fr W S0 (B_X7_opens_18 a1 S) := by
  unfold B_X7_opens_18
  repeat' first
    | (with_reducible exact fr_some (by assumption))
    | (with_reducible refine fr_iv fun _ => ?_)
    | (with_reducible refine fr_pu (by assumption) w40_0_4 (fun _ _ => ?_))
    | (with_reducible refine fr_pu (by assumption) w40_0_5 (fun _ _ => ?_))
theorem w_F_X7_opens {W : Nat → Nat → Nat → Bool} {S0 : fS} (w40_0_4 : W 40 0 4 = true) (w40_0_5 : W 40 0 5 = true) (w40_0_6 : W 40 0 6 = true) (w40_0_7 : W 40 0 7 = true) (p1 : Int32) {S : fS} (h : FX W S0 S) : fr W S0 (F_X7_opens p1 S) := by
  unfold F_X7_opens
  repeat' first
    | (with_reducible exact fr_some (by assumption))
    | (with_reducible refine fr_iv fun _ => ?_)
    | (with_reducible refine fr_bb (fun _ => ?_) (fun _ => ?_))
    | (with_reducible refine fr_bd (w_F_X7_wrong w40_0_6 w40_0_7 _ _ (by assumption)) (fun _ _ _ => ?_))
    | (with_reducible exact w_B_X7_opens_18 w40_0_4 w40_0_5 _ (by assumption))
theorem w_F_X7_nameHere {W : Nat → Nat → Nat → Bool} {S0 : fS} (w40_0_4 : W 40 0 4 = true)  {S : fS} (h : FX W S0 S) : fr W S0 (F_X7_nameHere  S) := by
  unfold F_X7_nameHere
  repeat' first
    | (with_reducible exact fr_some (by assumption))
    | (with_reducible refine fr_iv fun _ => ?_)
    | (with_reducible refine fr_bb (fun _ => ?_) (fun _ => ?_))
    | (with_reducible refine fr_bd (w_F_X7_isWord w40_0_4 _ _ _ _ _ (by assumption)) (fun _ _ _ => ?_))
theorem w_B_X7_unit_176 {W : Nat → Nat → Nat → Bool} {S0 : fS} (w40_0_4 : W 40 0 4 = true) (w40_0_5 : W 40 0 5 = true) (w40_0_6 : W 40 0 6 = true) (w40_0_7 : W 40 0 7 = true) (R : Nat → Int32 → fS → Option (Int32 × fS)) (hR : ∀ (j : Nat) (q : Int32) (S : fS), FX W S0 S → fr W S0 (R j q S)) (a4 : Int32) {S : fS} (h : FX W S0 S) : fr W S0 (B_X7_unit_176 R a4 S) := by
  unfold B_X7_unit_176
  repeat' first
    | (with_reducible exact fr_some (by assumption))
    | (with_reducible refine fr_iv fun _ => ?_)
    | (with_reducible refine fr_pu (by assumption) w40_0_4 (fun _ _ => ?_))
    | (with_reducible refine fr_pu (by assumption) w40_0_5 (fun _ _ => ?_))
    | (with_reducible refine fr_pu (by assumption) w40_0_6 (fun _ _ => ?_))
    | (with_reducible refine fr_pu (by assumption) w40_0_7 (fun _ _ => ?_))
    | (with_reducible refine fr_bd (w_F_X7_sign w40_0_4 w40_0_6 w40_0_7 _ (by assumption)) (fun _ _ _ => ?_))
theorem w_B_X7_unit_174 {W : Nat → Nat → Nat → Bool} {S0 : fS} (w40_0_4 : W 40 0 4 = true) (w40_0_5 : W 40 0 5 = true) (w40_0_6 : W 40 0 6 = true) (w40_0_7 : W 40 0 7 = true) (R : Nat → Int32 → fS → Option (Int32 × fS)) (hR : ∀ (j : Nat) (q : Int32) (S : fS), FX W S0 S → fr W S0 (R j q S)) (t0 : Int32) {S : fS} (h : FX W S0 S) : fr W S0 (B_X7_unit_174 R t0 S) := by
  unfold B_X7_unit_174
  repeat' first
    | (with_reducible exact fr_some (by assumption))
    | (with_reducible exact w_B_X7_unit_176 w40_0_4 w40_0_5 w40_0_6 w40_0_7 R hR _ (by assumption))
theorem w_B_X7_unit_164 {W : Nat → Nat → Nat → Bool} {S0 : fS} (w40_0_4 : W 40 0 4 = true) (w40_0_5 : W 40 0 5 = true) (w40_0_6 : W 40 0 6 = true) (w40_0_7 : W 40 0 7 = true) (R : Nat → Int32 → fS → Option (Int32 × fS)) (hR : ∀ (j : Nat) (q : Int32) (S : fS), FX W S0 S → fr W S0 (R j q S)) (a4 : Int32) (a5 : Int32) (t0 : Int32) (t1 : Int32) {S : fS} (h : FX W S0 S) : fr W S0 (B_X7_unit_164 R a4 a5 t0 t1 S) := by
  unfold B_X7_unit_164
  repeat' first
    | (with_reducible exact fr_some (by assumption))
    | (with_reducible refine fr_bb (fun _ => ?_) (fun _ => ?_))
    | (with_reducible exact w_B_X7_unit_174 w40_0_4 w40_0_5 w40_0_6 w40_0_7 R hR _ (by assumption))
theorem w_B_X7_unit_139 {W : Nat → Nat → Nat → Bool} {S0 : fS} (w40_0_4 : W 40 0 4 = true) (w40_0_5 : W 40 0 5 = true) (w40_0_6 : W 40 0 6 = true) (w40_0_7 : W 40 0 7 = true) (R : Nat → Int32 → fS → Option (Int32 × fS)) (hR : ∀ (j : Nat) (q : Int32) (S : fS), FX W S0 S → fr W S0 (R j q S)) (a2 : Int32) (a4 : Int32) {S : fS} (h : FX W S0 S) : fr W S0 (B_X7_unit_139 R a2 a4 S) := by
  unfold B_X7_unit_139
  repeat' first
    | (with_reducible exact fr_some (by assumption))
    | (with_reducible refine fr_bb (fun _ => ?_) (fun _ => ?_))
    | (with_reducible refine fr_bd (w_F_X7_sign w40_0_4 w40_0_6 w40_0_7 _ (by assumption)) (fun _ _ _ => ?_))
    | (with_reducible exact w_B_X7_unit_164 w40_0_4 w40_0_5 w40_0_6 w40_0_7 R hR _ _ _ _ (by assumption))
    | (with_reducible refine fr_bd (hR _ _ _ (by assumption)) (fun _ _ _ => ?_))
theorem w_B_X7_unit_92 {W : Nat → Nat → Nat → Bool} {S0 : fS} (w40_0_4 : W 40 0 4 = true) (w40_0_5 : W 40 0 5 = true) (w40_0_6 : W 40 0 6 = true) (w40_0_7 : W 40 0 7 = true) (R : Nat → Int32 → fS → Option (Int32 × fS)) (hR : ∀ (j : Nat) (q : Int32) (S : fS), FX W S0 S → fr W S0 (R j q S)) (a2 : Int32) (a3 : Int32) {S : fS} (h : FX W S0 S) : fr W S0 (B_X7_unit_92 R a2 a3 S) := by
  unfold B_X7_unit_92
  repeat' first
    | (with_reducible exact fr_some (by assumption))
    | (with_reducible refine fr_iv fun _ => ?_)
    | (with_reducible refine fr_bb (fun _ => ?_) (fun _ => ?_))
    | (with_reducible refine fr_bd (w_F_X7_blanks w40_0_4  (by assumption)) (fun _ _ _ => ?_))
    | (with_reducible refine fr_bd (w_F_X7_byteAt  _ (by assumption)) (fun _ _ _ => ?_))
    | (with_reducible refine fr_bd (w_F_X7_opens w40_0_4 w40_0_5 w40_0_6 w40_0_7 _ (by assumption)) (fun _ _ _ => ?_))
    | (with_reducible exact w_B_X7_unit_176 w40_0_4 w40_0_5 w40_0_6 w40_0_7 R hR _ (by assumption))
    | (with_reducible exact w_B_X7_unit_139 w40_0_4 w40_0_5 w40_0_6 w40_0_7 R hR _ _ (by assumption))
    | (with_reducible refine fr_bd (w_F_X7_wrong w40_0_6 w40_0_7 _ _ (by assumption)) (fun _ _ _ => ?_))
    | (with_reducible refine fr_bd (hR _ _ _ (by assumption)) (fun _ _ _ => ?_))
theorem w_B_X7_unit_88 {W : Nat → Nat → Nat → Bool} {S0 : fS} (w40_0_4 : W 40 0 4 = true) (w40_0_5 : W 40 0 5 = true) (w40_0_6 : W 40 0 6 = true) (w40_0_7 : W 40 0 7 = true) (R : Nat → Int32 → fS → Option (Int32 × fS)) (hR : ∀ (j : Nat) (q : Int32) (S : fS), FX W S0 S → fr W S0 (R j q S)) (a2 : Int32) (a3 : Int32) {S : fS} (h : FX W S0 S) : fr W S0 (B_X7_unit_88 R a2 a3 S) := by
  unfold B_X7_unit_88
  repeat' first
    | (with_reducible exact fr_some (by assumption))
    | (with_reducible refine fr_bd (w_F_X7_skipWord w40_0_4  (by assumption)) (fun _ _ _ => ?_))
    | (with_reducible exact w_B_X7_unit_92 w40_0_4 w40_0_5 w40_0_6 w40_0_7 R hR _ _ (by assumption))
theorem w_N_X7_unit {W : Nat → Nat → Nat → Bool} {S0 : fS} (w40_0_4 : W 40 0 4 = true) (w40_0_5 : W 40 0 5 = true) (w40_0_6 : W 40 0 6 = true) (w40_0_7 : W 40 0 7 = true) (R : Nat → Int32 → fS → Option (Int32 × fS)) (hR : ∀ (j : Nat) (q : Int32) (S : fS), FX W S0 S → fr W S0 (R j q S)) {S : fS} (h : FX W S0 S) : fr W S0 (N_X7_unit R S) := by
  unfold N_X7_unit
  repeat' first
    | (with_reducible exact fr_some (by assumption))
    | (with_reducible refine fr_iv fun _ => ?_)
    | (with_reducible refine fr_bb (fun _ => ?_) (fun _ => ?_))
    | (with_reducible refine fr_gd fun _ => ?_)
    | (with_reducible refine fr_bd (w_F_X7_blanks w40_0_4  (by assumption)) (fun _ _ _ => ?_))
    | (with_reducible refine fr_bd (w_F_X7_byteAt  _ (by assumption)) (fun _ _ _ => ?_))
    | (with_reducible refine fr_bd (w_F_X7_isDigit  _ (by assumption)) (fun _ _ _ => ?_))
    | (with_reducible refine fr_bd (w_F_X7_nameHere w40_0_4  (by assumption)) (fun _ _ _ => ?_))
    | (with_reducible refine fr_bd (w_F_X7_isWord w40_0_4 _ _ _ _ _ (by assumption)) (fun _ _ _ => ?_))
    | (with_reducible exact w_B_X7_unit_92 w40_0_4 w40_0_5 w40_0_6 w40_0_7 R hR _ _ (by assumption))
    | (with_reducible exact w_B_X7_unit_88 w40_0_4 w40_0_5 w40_0_6 w40_0_7 R hR _ _ (by assumption))
    | (with_reducible refine fr_bd (w_F_X7_skipWord w40_0_4  (by assumption)) (fun _ _ _ => ?_))
    | (with_reducible refine fr_bd (w_F_X7_number w40_0_4 w40_0_6 w40_0_7  (by assumption)) (fun _ _ _ => ?_))
theorem w_B_X7_product_89 {W : Nat → Nat → Nat → Bool} {S0 : fS} (w40_0_4 : W 40 0 4 = true) (w40_0_5 : W 40 0 5 = true) (w40_0_6 : W 40 0 6 = true) (w40_0_7 : W 40 0 7 = true) (R : Nat → Int32 → fS → Option (Int32 × fS)) (hR : ∀ (j : Nat) (q : Int32) (S : fS), FX W S0 S → fr W S0 (R j q S)) (k9 : (Int32) → fS → Option (Int32 × fS)) (hk : ∀ (z : (Int32)) (S : fS), FX W S0 S → fr W S0 (k9 z S)) (t0 : Int32) {S : fS} (h : FX W S0 S) : fr W S0 (B_X7_product_89 R k9 t0 S) := by
  unfold B_X7_product_89
  repeat' first
    | (with_reducible exact fr_some (by assumption))
    | (with_reducible refine fr_bd (w_F_X7_blanks w40_0_4  (by assumption)) (fun _ _ _ => ?_))
    | (with_reducible exact hk _ _ (by assumption))
theorem w_B_X7_product_42 {W : Nat → Nat → Nat → Bool} {S0 : fS} (w40_0_4 : W 40 0 4 = true) (w40_0_5 : W 40 0 5 = true) (w40_0_6 : W 40 0 6 = true) (w40_0_7 : W 40 0 7 = true) (R : Nat → Int32 → fS → Option (Int32 × fS)) (hR : ∀ (j : Nat) (q : Int32) (S : fS), FX W S0 S → fr W S0 (R j q S)) (k9 : (Int32) → fS → Option (Int32 × fS)) (hk : ∀ (z : (Int32)) (S : fS), FX W S0 S → fr W S0 (k9 z S)) (a1 : Int32) {S : fS} (h : FX W S0 S) : fr W S0 (B_X7_product_42 R k9 a1 S) := by
  unfold B_X7_product_42
  repeat' first
    | (with_reducible exact fr_some (by assumption))
    | (with_reducible refine fr_iv fun _ => ?_)
    | (with_reducible refine fr_bb (fun _ => ?_) (fun _ => ?_))
    | (with_reducible refine fr_gd fun _ => ?_)
    | (with_reducible refine fr_pu (by assumption) w40_0_4 (fun _ _ => ?_))
    | (with_reducible refine fr_pu (by assumption) w40_0_5 (fun _ _ => ?_))
    | (with_reducible refine fr_pu (by assumption) w40_0_6 (fun _ _ => ?_))
    | (with_reducible refine fr_pu (by assumption) w40_0_7 (fun _ _ => ?_))
    | (with_reducible refine fr_bd (w_F_X7_byteAt  _ (by assumption)) (fun _ _ _ => ?_))
    | (with_reducible exact w_B_X7_product_89 w40_0_4 w40_0_5 w40_0_6 w40_0_7 R hR _ hk _ (by assumption))
    | (with_reducible refine fr_bd (hR _ _ _ (by assumption)) (fun _ _ _ => ?_))
    | (with_reducible exact hk _ _ (by assumption))
theorem w_B_X7_product_9 {W : Nat → Nat → Nat → Bool} {S0 : fS} (w40_0_4 : W 40 0 4 = true) (w40_0_5 : W 40 0 5 = true) (w40_0_6 : W 40 0 6 = true) (w40_0_7 : W 40 0 7 = true) (R : Nat → Int32 → fS → Option (Int32 × fS)) (hR : ∀ (j : Nat) (q : Int32) (S : fS), FX W S0 S → fr W S0 (R j q S)) (k9 : (Int32) → fS → Option (Int32 × fS)) (hk : ∀ (z : (Int32)) (S : fS), FX W S0 S → fr W S0 (k9 z S)) (z : (Int32)) {S : fS} (h : FX W S0 S) : fr W S0 (B_X7_product_9 R k9 z S) := by
  unfold B_X7_product_9
  repeat' first
    | (with_reducible exact fr_some (by assumption))
    | (with_reducible refine fr_iv fun _ => ?_)
    | (with_reducible refine fr_bb (fun _ => ?_) (fun _ => ?_))
    | (with_reducible refine fr_bd (w_F_X7_byteAt  _ (by assumption)) (fun _ _ _ => ?_))
    | (with_reducible exact w_B_X7_product_42 w40_0_4 w40_0_5 w40_0_6 w40_0_7 R hR _ hk _ (by assumption))
    | (with_reducible exact hk _ _ (by assumption))
theorem w_N_X7_product {W : Nat → Nat → Nat → Bool} {S0 : fS} (w40_0_4 : W 40 0 4 = true) (w40_0_5 : W 40 0 5 = true) (w40_0_6 : W 40 0 6 = true) (w40_0_7 : W 40 0 7 = true) (R : Nat → Int32 → fS → Option (Int32 × fS)) (hR : ∀ (j : Nat) (q : Int32) (S : fS), FX W S0 S → fr W S0 (R j q S)) {S : fS} (h : FX W S0 S) : fr W S0 (N_X7_product R S) := by
  unfold N_X7_product
  repeat' first
    | (with_reducible exact fr_some (by assumption))
    | (with_reducible refine fr_bd (w_F_X7_blanks w40_0_4  (by assumption)) (fun _ _ _ => ?_))
    | (with_reducible exact fr_lp (fun k hk z S h => w_B_X7_product_9 w40_0_4 w40_0_5 w40_0_6 w40_0_7 R hR k hk z h) (by assumption))
    | (with_reducible refine fr_bd (hR _ _ _ (by assumption)) (fun _ _ _ => ?_))
theorem w_B_X7_sum_81 {W : Nat → Nat → Nat → Bool} {S0 : fS} (w40_0_4 : W 40 0 4 = true) (w40_0_5 : W 40 0 5 = true) (w40_0_6 : W 40 0 6 = true) (w40_0_7 : W 40 0 7 = true) (R : Nat → Int32 → fS → Option (Int32 × fS)) (hR : ∀ (j : Nat) (q : Int32) (S : fS), FX W S0 S → fr W S0 (R j q S)) (k9 : (Int32) → fS → Option (Int32 × fS)) (hk : ∀ (z : (Int32)) (S : fS), FX W S0 S → fr W S0 (k9 z S)) (t0 : Int32) {S : fS} (h : FX W S0 S) : fr W S0 (B_X7_sum_81 R k9 t0 S) := by
  unfold B_X7_sum_81
  repeat' first
    | (with_reducible exact fr_some (by assumption))
    | (with_reducible refine fr_bd (w_F_X7_blanks w40_0_4  (by assumption)) (fun _ _ _ => ?_))
    | (with_reducible exact hk _ _ (by assumption))
theorem w_B_X7_sum_42 {W : Nat → Nat → Nat → Bool} {S0 : fS} (w40_0_4 : W 40 0 4 = true) (w40_0_5 : W 40 0 5 = true) (w40_0_6 : W 40 0 6 = true) (w40_0_7 : W 40 0 7 = true) (R : Nat → Int32 → fS → Option (Int32 × fS)) (hR : ∀ (j : Nat) (q : Int32) (S : fS), FX W S0 S → fr W S0 (R j q S)) (k9 : (Int32) → fS → Option (Int32 × fS)) (hk : ∀ (z : (Int32)) (S : fS), FX W S0 S → fr W S0 (k9 z S)) (a1 : Int32) {S : fS} (h : FX W S0 S) : fr W S0 (B_X7_sum_42 R k9 a1 S) := by
  unfold B_X7_sum_42
  repeat' first
    | (with_reducible exact fr_some (by assumption))
    | (with_reducible refine fr_iv fun _ => ?_)
    | (with_reducible refine fr_bb (fun _ => ?_) (fun _ => ?_))
    | (with_reducible refine fr_pu (by assumption) w40_0_4 (fun _ _ => ?_))
    | (with_reducible refine fr_pu (by assumption) w40_0_5 (fun _ _ => ?_))
    | (with_reducible refine fr_pu (by assumption) w40_0_6 (fun _ _ => ?_))
    | (with_reducible refine fr_pu (by assumption) w40_0_7 (fun _ _ => ?_))
    | (with_reducible refine fr_bd (w_F_X7_byteAt  _ (by assumption)) (fun _ _ _ => ?_))
    | (with_reducible exact w_B_X7_sum_81 w40_0_4 w40_0_5 w40_0_6 w40_0_7 R hR _ hk _ (by assumption))
    | (with_reducible refine fr_bd (hR _ _ _ (by assumption)) (fun _ _ _ => ?_))
    | (with_reducible exact hk _ _ (by assumption))
theorem w_B_X7_sum_9 {W : Nat → Nat → Nat → Bool} {S0 : fS} (w40_0_4 : W 40 0 4 = true) (w40_0_5 : W 40 0 5 = true) (w40_0_6 : W 40 0 6 = true) (w40_0_7 : W 40 0 7 = true) (R : Nat → Int32 → fS → Option (Int32 × fS)) (hR : ∀ (j : Nat) (q : Int32) (S : fS), FX W S0 S → fr W S0 (R j q S)) (k9 : (Int32) → fS → Option (Int32 × fS)) (hk : ∀ (z : (Int32)) (S : fS), FX W S0 S → fr W S0 (k9 z S)) (z : (Int32)) {S : fS} (h : FX W S0 S) : fr W S0 (B_X7_sum_9 R k9 z S) := by
  unfold B_X7_sum_9
  repeat' first
    | (with_reducible exact fr_some (by assumption))
    | (with_reducible refine fr_iv fun _ => ?_)
    | (with_reducible refine fr_bb (fun _ => ?_) (fun _ => ?_))
    | (with_reducible refine fr_bd (w_F_X7_byteAt  _ (by assumption)) (fun _ _ _ => ?_))
    | (with_reducible exact w_B_X7_sum_42 w40_0_4 w40_0_5 w40_0_6 w40_0_7 R hR _ hk _ (by assumption))
    | (with_reducible exact hk _ _ (by assumption))
theorem w_N_X7_sum {W : Nat → Nat → Nat → Bool} {S0 : fS} (w40_0_4 : W 40 0 4 = true) (w40_0_5 : W 40 0 5 = true) (w40_0_6 : W 40 0 6 = true) (w40_0_7 : W 40 0 7 = true) (R : Nat → Int32 → fS → Option (Int32 × fS)) (hR : ∀ (j : Nat) (q : Int32) (S : fS), FX W S0 S → fr W S0 (R j q S)) {S : fS} (h : FX W S0 S) : fr W S0 (N_X7_sum R S) := by
  unfold N_X7_sum
  repeat' first
    | (with_reducible exact fr_some (by assumption))
    | (with_reducible refine fr_bd (w_F_X7_blanks w40_0_4  (by assumption)) (fun _ _ _ => ?_))
    | (with_reducible exact fr_lp (fun k hk z S h => w_B_X7_sum_9 w40_0_4 w40_0_5 w40_0_6 w40_0_7 R hR k hk z h) (by assumption))
    | (with_reducible refine fr_bd (hR _ _ _ (by assumption)) (fun _ _ _ => ?_))
theorem w_B_X7_test_41 {W : Nat → Nat → Nat → Bool} {S0 : fS} (w40_0_4 : W 40 0 4 = true) (w40_0_5 : W 40 0 5 = true) (w40_0_6 : W 40 0 6 = true) (w40_0_7 : W 40 0 7 = true) (R : Nat → Int32 → fS → Option (Int32 × fS)) (hR : ∀ (j : Nat) (q : Int32) (S : fS), FX W S0 S → fr W S0 (R j q S)) (t0 : Int32) {S : fS} (h : FX W S0 S) : fr W S0 (B_X7_test_41 R t0 S) := by
  unfold B_X7_test_41
  repeat' first
    | (with_reducible exact fr_some (by assumption))
    | (with_reducible refine fr_iv fun _ => ?_)
    | (with_reducible refine fr_gd fun _ => ?_)
    | (with_reducible refine fr_pu (by assumption) w40_0_4 (fun _ _ => ?_))
    | (with_reducible refine fr_pu (by assumption) w40_0_5 (fun _ _ => ?_))
    | (with_reducible refine fr_pu (by assumption) w40_0_6 (fun _ _ => ?_))
    | (with_reducible refine fr_pu (by assumption) w40_0_7 (fun _ _ => ?_))
theorem w_B_X7_test_140 {W : Nat → Nat → Nat → Bool} {S0 : fS} (w40_0_4 : W 40 0 4 = true) (w40_0_5 : W 40 0 5 = true) (w40_0_6 : W 40 0 6 = true) (w40_0_7 : W 40 0 7 = true) (R : Nat → Int32 → fS → Option (Int32 × fS)) (hR : ∀ (j : Nat) (q : Int32) (S : fS), FX W S0 S → fr W S0 (R j q S)) (a1 : Int32) (a2 : Int32) {S : fS} (h : FX W S0 S) : fr W S0 (B_X7_test_140 R a1 a2 S) := by
  unfold B_X7_test_140
  repeat' first
    | (with_reducible exact fr_some (by assumption))
    | (with_reducible refine fr_iv fun _ => ?_)
    | (with_reducible refine fr_bb (fun _ => ?_) (fun _ => ?_))
    | (with_reducible refine fr_pu (by assumption) w40_0_4 (fun _ _ => ?_))
    | (with_reducible refine fr_pu (by assumption) w40_0_5 (fun _ _ => ?_))
    | (with_reducible refine fr_pu (by assumption) w40_0_6 (fun _ _ => ?_))
    | (with_reducible refine fr_pu (by assumption) w40_0_7 (fun _ _ => ?_))
    | (with_reducible refine fr_bd (hR _ _ _ (by assumption)) (fun _ _ _ => ?_))
theorem w_N_X7_test {W : Nat → Nat → Nat → Bool} {S0 : fS} (w40_0_4 : W 40 0 4 = true) (w40_0_5 : W 40 0 5 = true) (w40_0_6 : W 40 0 6 = true) (w40_0_7 : W 40 0 7 = true) (R : Nat → Int32 → fS → Option (Int32 × fS)) (hR : ∀ (j : Nat) (q : Int32) (S : fS), FX W S0 S → fr W S0 (R j q S)) {S : fS} (h : FX W S0 S) : fr W S0 (N_X7_test R S) := by
  unfold N_X7_test
  repeat' first
    | (with_reducible exact fr_some (by assumption))
    | (with_reducible refine fr_iv fun _ => ?_)
    | (with_reducible refine fr_bb (fun _ => ?_) (fun _ => ?_))
    | (with_reducible refine fr_gd fun _ => ?_)
    | (with_reducible refine fr_pu (by assumption) w40_0_4 (fun _ _ => ?_))
    | (with_reducible refine fr_pu (by assumption) w40_0_5 (fun _ _ => ?_))
    | (with_reducible refine fr_pu (by assumption) w40_0_6 (fun _ _ => ?_))
    | (with_reducible refine fr_pu (by assumption) w40_0_7 (fun _ _ => ?_))
    | (with_reducible refine fr_bd (w_F_X7_isWord w40_0_4 _ _ _ _ _ (by assumption)) (fun _ _ _ => ?_))
    | (with_reducible refine fr_bd (w_F_X7_byteAt  _ (by assumption)) (fun _ _ _ => ?_))
    | (with_reducible refine fr_bd (w_F_X7_opens w40_0_4 w40_0_5 w40_0_6 w40_0_7 _ (by assumption)) (fun _ _ _ => ?_))
    | (with_reducible refine fr_bd (w_F_X7_sign w40_0_4 w40_0_6 w40_0_7 _ (by assumption)) (fun _ _ _ => ?_))
    | (with_reducible refine fr_bd (w_F_X7_blanks w40_0_4  (by assumption)) (fun _ _ _ => ?_))
    | (with_reducible exact w_B_X7_test_140 w40_0_4 w40_0_5 w40_0_6 w40_0_7 R hR _ _ (by assumption))
    | (with_reducible refine fr_bd (w_F_X7_wrong w40_0_6 w40_0_7 _ _ (by assumption)) (fun _ _ _ => ?_))
    | (with_reducible exact w_B_X7_test_41 w40_0_4 w40_0_5 w40_0_6 w40_0_7 R hR _ (by assumption))
    | (with_reducible refine fr_bd (hR _ _ _ (by assumption)) (fun _ _ _ => ?_))
theorem w_B_X7_ands_47 {W : Nat → Nat → Nat → Bool} {S0 : fS} (w40_0_4 : W 40 0 4 = true) (w40_0_5 : W 40 0 5 = true) (w40_0_6 : W 40 0 6 = true) (w40_0_7 : W 40 0 7 = true) (R : Nat → Int32 → fS → Option (Int32 × fS)) (hR : ∀ (j : Nat) (q : Int32) (S : fS), FX W S0 S → fr W S0 (R j q S)) (k5 : (Int32) → fS → Option (Int32 × fS)) (hk : ∀ (z : (Int32)) (S : fS), FX W S0 S → fr W S0 (k5 z S)) (t0 : Int32) {S : fS} (h : FX W S0 S) : fr W S0 (B_X7_ands_47 R k5 t0 S) := by
  unfold B_X7_ands_47
  repeat' first
    | (with_reducible exact fr_some (by assumption))
    | (with_reducible exact hk _ _ (by assumption))
theorem w_B_X7_ands_46 {W : Nat → Nat → Nat → Bool} {S0 : fS} (w40_0_4 : W 40 0 4 = true) (w40_0_5 : W 40 0 5 = true) (w40_0_6 : W 40 0 6 = true) (w40_0_7 : W 40 0 7 = true) (R : Nat → Int32 → fS → Option (Int32 × fS)) (hR : ∀ (j : Nat) (q : Int32) (S : fS), FX W S0 S → fr W S0 (R j q S)) (k5 : (Int32) → fS → Option (Int32 × fS)) (hk : ∀ (z : (Int32)) (S : fS), FX W S0 S → fr W S0 (k5 z S)) {S : fS} (h : FX W S0 S) : fr W S0 (B_X7_ands_46 R k5 S) := by
  unfold B_X7_ands_46
  repeat' first
    | (with_reducible exact fr_some (by assumption))
    | (with_reducible exact w_B_X7_ands_47 w40_0_4 w40_0_5 w40_0_6 w40_0_7 R hR _ hk _ (by assumption))
    | (with_reducible exact hk _ _ (by assumption))
theorem w_B_X7_ands_5 {W : Nat → Nat → Nat → Bool} {S0 : fS} (w40_0_4 : W 40 0 4 = true) (w40_0_5 : W 40 0 5 = true) (w40_0_6 : W 40 0 6 = true) (w40_0_7 : W 40 0 7 = true) (R : Nat → Int32 → fS → Option (Int32 × fS)) (hR : ∀ (j : Nat) (q : Int32) (S : fS), FX W S0 S → fr W S0 (R j q S)) (k5 : (Int32) → fS → Option (Int32 × fS)) (hk : ∀ (z : (Int32)) (S : fS), FX W S0 S → fr W S0 (k5 z S)) (z : (Int32)) {S : fS} (h : FX W S0 S) : fr W S0 (B_X7_ands_5 R k5 z S) := by
  unfold B_X7_ands_5
  repeat' first
    | (with_reducible exact fr_some (by assumption))
    | (with_reducible refine fr_iv fun _ => ?_)
    | (with_reducible refine fr_bb (fun _ => ?_) (fun _ => ?_))
    | (with_reducible refine fr_gd fun _ => ?_)
    | (with_reducible refine fr_bd (w_F_X7_isWord w40_0_4 _ _ _ _ _ (by assumption)) (fun _ _ _ => ?_))
    | (with_reducible refine fr_bd (w_F_X7_skipWord w40_0_4  (by assumption)) (fun _ _ _ => ?_))
    | (with_reducible exact w_B_X7_ands_46 w40_0_4 w40_0_5 w40_0_6 w40_0_7 R hR _ hk (by assumption))
    | (with_reducible exact w_B_X7_ands_47 w40_0_4 w40_0_5 w40_0_6 w40_0_7 R hR _ hk _ (by assumption))
    | (with_reducible refine fr_bd (hR _ _ _ (by assumption)) (fun _ _ _ => ?_))
    | (with_reducible exact hk _ _ (by assumption))
theorem w_N_X7_ands {W : Nat → Nat → Nat → Bool} {S0 : fS} (w40_0_4 : W 40 0 4 = true) (w40_0_5 : W 40 0 5 = true) (w40_0_6 : W 40 0 6 = true) (w40_0_7 : W 40 0 7 = true) (R : Nat → Int32 → fS → Option (Int32 × fS)) (hR : ∀ (j : Nat) (q : Int32) (S : fS), FX W S0 S → fr W S0 (R j q S)) {S : fS} (h : FX W S0 S) : fr W S0 (N_X7_ands R S) := by
  unfold N_X7_ands
  repeat' first
    | (with_reducible exact fr_some (by assumption))
    | (with_reducible exact fr_lp (fun k hk z S h => w_B_X7_ands_5 w40_0_4 w40_0_5 w40_0_6 w40_0_7 R hR k hk z h) (by assumption))
    | (with_reducible refine fr_bd (hR _ _ _ (by assumption)) (fun _ _ _ => ?_))
theorem w_B_X7_ors_48 {W : Nat → Nat → Nat → Bool} {S0 : fS} (w40_0_4 : W 40 0 4 = true) (w40_0_5 : W 40 0 5 = true) (w40_0_6 : W 40 0 6 = true) (w40_0_7 : W 40 0 7 = true) (R : Nat → Int32 → fS → Option (Int32 × fS)) (hR : ∀ (j : Nat) (q : Int32) (S : fS), FX W S0 S → fr W S0 (R j q S)) (k5 : (Int32) → fS → Option (Int32 × fS)) (hk : ∀ (z : (Int32)) (S : fS), FX W S0 S → fr W S0 (k5 z S)) (t0 : Int32) {S : fS} (h : FX W S0 S) : fr W S0 (B_X7_ors_48 R k5 t0 S) := by
  unfold B_X7_ors_48
  repeat' first
    | (with_reducible exact fr_some (by assumption))
    | (with_reducible exact hk _ _ (by assumption))
theorem w_B_X7_ors_43 {W : Nat → Nat → Nat → Bool} {S0 : fS} (w40_0_4 : W 40 0 4 = true) (w40_0_5 : W 40 0 5 = true) (w40_0_6 : W 40 0 6 = true) (w40_0_7 : W 40 0 7 = true) (R : Nat → Int32 → fS → Option (Int32 × fS)) (hR : ∀ (j : Nat) (q : Int32) (S : fS), FX W S0 S → fr W S0 (R j q S)) (k5 : (Int32) → fS → Option (Int32 × fS)) (hk : ∀ (z : (Int32)) (S : fS), FX W S0 S → fr W S0 (k5 z S)) {S : fS} (h : FX W S0 S) : fr W S0 (B_X7_ors_43 R k5 S) := by
  unfold B_X7_ors_43
  repeat' first
    | (with_reducible exact fr_some (by assumption))
    | (with_reducible exact w_B_X7_ors_48 w40_0_4 w40_0_5 w40_0_6 w40_0_7 R hR _ hk _ (by assumption))
    | (with_reducible exact hk _ _ (by assumption))
theorem w_B_X7_ors_5 {W : Nat → Nat → Nat → Bool} {S0 : fS} (w40_0_4 : W 40 0 4 = true) (w40_0_5 : W 40 0 5 = true) (w40_0_6 : W 40 0 6 = true) (w40_0_7 : W 40 0 7 = true) (R : Nat → Int32 → fS → Option (Int32 × fS)) (hR : ∀ (j : Nat) (q : Int32) (S : fS), FX W S0 S → fr W S0 (R j q S)) (k5 : (Int32) → fS → Option (Int32 × fS)) (hk : ∀ (z : (Int32)) (S : fS), FX W S0 S → fr W S0 (k5 z S)) (z : (Int32)) {S : fS} (h : FX W S0 S) : fr W S0 (B_X7_ors_5 R k5 z S) := by
  unfold B_X7_ors_5
  repeat' first
    | (with_reducible exact fr_some (by assumption))
    | (with_reducible refine fr_iv fun _ => ?_)
    | (with_reducible refine fr_bb (fun _ => ?_) (fun _ => ?_))
    | (with_reducible refine fr_gd fun _ => ?_)
    | (with_reducible refine fr_bd (w_F_X7_isWord w40_0_4 _ _ _ _ _ (by assumption)) (fun _ _ _ => ?_))
    | (with_reducible refine fr_bd (w_F_X7_skipWord w40_0_4  (by assumption)) (fun _ _ _ => ?_))
    | (with_reducible exact w_B_X7_ors_48 w40_0_4 w40_0_5 w40_0_6 w40_0_7 R hR _ hk _ (by assumption))
    | (with_reducible exact w_B_X7_ors_43 w40_0_4 w40_0_5 w40_0_6 w40_0_7 R hR _ hk (by assumption))
    | (with_reducible refine fr_bd (hR _ _ _ (by assumption)) (fun _ _ _ => ?_))
    | (with_reducible exact hk _ _ (by assumption))
theorem w_N_X7_ors {W : Nat → Nat → Nat → Bool} {S0 : fS} (w40_0_4 : W 40 0 4 = true) (w40_0_5 : W 40 0 5 = true) (w40_0_6 : W 40 0 6 = true) (w40_0_7 : W 40 0 7 = true) (R : Nat → Int32 → fS → Option (Int32 × fS)) (hR : ∀ (j : Nat) (q : Int32) (S : fS), FX W S0 S → fr W S0 (R j q S)) {S : fS} (h : FX W S0 S) : fr W S0 (N_X7_ors R S) := by
  unfold N_X7_ors
  repeat' first
    | (with_reducible exact fr_some (by assumption))
    | (with_reducible exact fr_lp (fun k hk z S h => w_B_X7_ors_5 w40_0_4 w40_0_5 w40_0_6 w40_0_7 R hR k hk z h) (by assumption))
    | (with_reducible refine fr_bd (hR _ _ _ (by assumption)) (fun _ _ _ => ?_))
theorem w_R_X7r {W : Nat → Nat → Nat → Bool} {S0 : fS} (w40_0_4 : W 40 0 4 = true) (w40_0_5 : W 40 0 5 = true) (w40_0_6 : W 40 0 6 = true) (w40_0_7 : W 40 0 7 = true) : ∀ (d j : Nat) (q : Int32) (S : fS), FX W S0 S → fr W S0 (R_X7r d j q S)
  | 0, _, _, _, _ => fr_none
  | d + 1, 0, q, S, h => w_N_X7_unit w40_0_4 w40_0_5 w40_0_6 w40_0_7 (R_X7r d) (fun j q S h => w_R_X7r w40_0_4 w40_0_5 w40_0_6 w40_0_7 d j q S h) h
  | d + 1, 1, q, S, h => w_N_X7_product w40_0_4 w40_0_5 w40_0_6 w40_0_7 (R_X7r d) (fun j q S h => w_R_X7r w40_0_4 w40_0_5 w40_0_6 w40_0_7 d j q S h) h
  | d + 1, 2, q, S, h => w_N_X7_sum w40_0_4 w40_0_5 w40_0_6 w40_0_7 (R_X7r d) (fun j q S h => w_R_X7r w40_0_4 w40_0_5 w40_0_6 w40_0_7 d j q S h) h
  | d + 1, 3, q, S, h => w_N_X7_test w40_0_4 w40_0_5 w40_0_6 w40_0_7 (R_X7r d) (fun j q S h => w_R_X7r w40_0_4 w40_0_5 w40_0_6 w40_0_7 d j q S h) h
  | d + 1, 4, q, S, h => w_N_X7_ands w40_0_4 w40_0_5 w40_0_6 w40_0_7 (R_X7r d) (fun j q S h => w_R_X7r w40_0_4 w40_0_5 w40_0_6 w40_0_7 d j q S h) h
  | d + 1, 5, q, S, h => w_N_X7_ors w40_0_4 w40_0_5 w40_0_6 w40_0_7 (R_X7r d) (fun j q S h => w_R_X7r w40_0_4 w40_0_5 w40_0_6 w40_0_7 d j q S h) h
  | d + 1, j + 6, q, S, h => by
    show fr W S0 none
    exact fr_none
theorem w_F_X7_sum {W : Nat → Nat → Nat → Bool} {S0 : fS} (w40_0_4 : W 40 0 4 = true) (w40_0_5 : W 40 0 5 = true) (w40_0_6 : W 40 0 6 = true) (w40_0_7 : W 40 0 7 = true)  {S : fS} (h : FX W S0 S) : fr W S0 (F_X7_sum  S) := w_R_X7r w40_0_4 w40_0_5 w40_0_6 w40_0_7 64 _ _ _ h
theorem w_F_X7_ors {W : Nat → Nat → Nat → Bool} {S0 : fS} (w40_0_4 : W 40 0 4 = true) (w40_0_5 : W 40 0 5 = true) (w40_0_6 : W 40 0 6 = true) (w40_0_7 : W 40 0 7 = true)  {S : fS} (h : FX W S0 S) : fr W S0 (F_X7_ors  S) := w_R_X7r w40_0_4 w40_0_5 w40_0_6 w40_0_7 64 _ _ _ h
theorem w_B_X7_clause_194 {W : Nat → Nat → Nat → Bool} {S0 : fS} (w40_0_9 : W 40 0 9 = true)  {S : fS} (h : FX W S0 S) : fr W S0 (B_X7_clause_194  S) := by
  unfold B_X7_clause_194
  repeat' first
    | (with_reducible exact fr_some (by assumption))
    | (with_reducible refine fr_iv fun _ => ?_)
    | (with_reducible refine fr_pu (by assumption) w40_0_9 (fun _ _ => ?_))
theorem w_B_X7_clause_179 {W : Nat → Nat → Nat → Bool} {S0 : fS} (w40_0_20 : W 40 0 20 = true) (w40_0_9 : W 40 0 9 = true) (a3 : Int32) (a4 : Int32) (a5 : Int32) {S : fS} (h : FX W S0 S) : fr W S0 (B_X7_clause_179 a3 a4 a5 S) := by
  unfold B_X7_clause_179
  repeat' first
    | (with_reducible exact fr_some (by assumption))
    | (with_reducible refine fr_bb (fun _ => ?_) (fun _ => ?_))
    | (with_reducible refine fr_pu (by assumption) w40_0_20 (fun _ _ => ?_))
    | (with_reducible refine fr_pu (by assumption) w40_0_9 (fun _ _ => ?_))
    | (with_reducible exact w_B_X7_clause_194 w40_0_9  (by assumption))
theorem w_B_X7_clause_164 {W : Nat → Nat → Nat → Bool} {S0 : fS} (w40_0_19 : W 40 0 19 = true) (w40_0_20 : W 40 0 20 = true) (w40_0_9 : W 40 0 9 = true) (a2 : Int32) (a3 : Int32) (a4 : Int32) (a5 : Int32) {S : fS} (h : FX W S0 S) : fr W S0 (B_X7_clause_164 a2 a3 a4 a5 S) := by
  unfold B_X7_clause_164
  repeat' first
    | (with_reducible exact fr_some (by assumption))
    | (with_reducible refine fr_bb (fun _ => ?_) (fun _ => ?_))
    | (with_reducible refine fr_pu (by assumption) w40_0_19 (fun _ _ => ?_))
    | (with_reducible refine fr_pu (by assumption) w40_0_20 (fun _ _ => ?_))
    | (with_reducible refine fr_pu (by assumption) w40_0_9 (fun _ _ => ?_))
    | (with_reducible exact w_B_X7_clause_179 w40_0_20 w40_0_9 _ _ _ (by assumption))
theorem w_B_X7_clause_149 {W : Nat → Nat → Nat → Bool} {S0 : fS} (w40_0_18 : W 40 0 18 = true) (w40_0_19 : W 40 0 19 = true) (w40_0_20 : W 40 0 20 = true) (w40_0_9 : W 40 0 9 = true) (a1 : Int32) (a2 : Int32) (a3 : Int32) (a4 : Int32) (a5 : Int32) {S : fS} (h : FX W S0 S) : fr W S0 (B_X7_clause_149 a1 a2 a3 a4 a5 S) := by
  unfold B_X7_clause_149
  repeat' first
    | (with_reducible exact fr_some (by assumption))
    | (with_reducible refine fr_bb (fun _ => ?_) (fun _ => ?_))
    | (with_reducible refine fr_pu (by assumption) w40_0_18 (fun _ _ => ?_))
    | (with_reducible refine fr_pu (by assumption) w40_0_19 (fun _ _ => ?_))
    | (with_reducible refine fr_pu (by assumption) w40_0_20 (fun _ _ => ?_))
    | (with_reducible refine fr_pu (by assumption) w40_0_9 (fun _ _ => ?_))
    | (with_reducible exact w_B_X7_clause_164 w40_0_19 w40_0_20 w40_0_9 _ _ _ _ (by assumption))
theorem w_B_X7_clause_136 {W : Nat → Nat → Nat → Bool} {S0 : fS} (w40_0_18 : W 40 0 18 = true) (w40_0_19 : W 40 0 19 = true) (w40_0_20 : W 40 0 20 = true) (w40_0_4 : W 40 0 4 = true) (w40_0_6 : W 40 0 6 = true) (w40_0_7 : W 40 0 7 = true) (w40_0_9 : W 40 0 9 = true) (a1 : Int32) (a2 : Int32) (a3 : Int32) (a4 : Int32) (a5 : Int32) {S : fS} (h : FX W S0 S) : fr W S0 (B_X7_clause_136 a1 a2 a3 a4 a5 S) := by
  unfold B_X7_clause_136
  repeat' first
    | (with_reducible exact fr_some (by assumption))
    | (with_reducible refine fr_iv fun _ => ?_)
    | (with_reducible refine fr_bb (fun _ => ?_) (fun _ => ?_))
    | (with_reducible refine fr_bd (w_F_X7_sign w40_0_4 w40_0_6 w40_0_7 _ (by assumption)) (fun _ _ _ => ?_))
    | (with_reducible exact w_B_X7_clause_149 w40_0_18 w40_0_19 w40_0_20 w40_0_9 _ _ _ _ _ (by assumption))
theorem w_B_X7_clause_84 {W : Nat → Nat → Nat → Bool} {S0 : fS} (w40_0_18 : W 40 0 18 = true) (w40_0_19 : W 40 0 19 = true) (w40_0_20 : W 40 0 20 = true) (w40_0_4 : W 40 0 4 = true) (w40_0_5 : W 40 0 5 = true) (w40_0_6 : W 40 0 6 = true) (w40_0_7 : W 40 0 7 = true) (w40_0_9 : W 40 0 9 = true) (a1 : Int32) (a2 : Int32) (a3 : Int32) {S : fS} (h : FX W S0 S) : fr W S0 (B_X7_clause_84 a1 a2 a3 S) := by
  unfold B_X7_clause_84
  repeat' first
    | (with_reducible exact fr_some (by assumption))
    | (with_reducible refine fr_iv fun _ => ?_)
    | (with_reducible refine fr_bb (fun _ => ?_) (fun _ => ?_))
    | (with_reducible refine fr_bd (w_F_X7_skipWord w40_0_4  (by assumption)) (fun _ _ _ => ?_))
    | (with_reducible refine fr_bd (w_F_X7_sum w40_0_4 w40_0_5 w40_0_6 w40_0_7  (by assumption)) (fun _ _ _ => ?_))
    | (with_reducible refine fr_bd (w_F_X7_isWord w40_0_4 _ _ _ _ _ (by assumption)) (fun _ _ _ => ?_))
    | (with_reducible exact w_B_X7_clause_136 w40_0_18 w40_0_19 w40_0_20 w40_0_4 w40_0_6 w40_0_7 w40_0_9 _ _ _ _ _ (by assumption))
    | (with_reducible refine fr_bd (w_F_X7_ors w40_0_4 w40_0_5 w40_0_6 w40_0_7  (by assumption)) (fun _ _ _ => ?_))
theorem w_B_X7_clause_66 {W : Nat → Nat → Nat → Bool} {S0 : fS} (w40_0_18 : W 40 0 18 = true) (w40_0_19 : W 40 0 19 = true) (w40_0_20 : W 40 0 20 = true) (w40_0_4 : W 40 0 4 = true) (w40_0_5 : W 40 0 5 = true) (w40_0_6 : W 40 0 6 = true) (w40_0_7 : W 40 0 7 = true) (w40_0_9 : W 40 0 9 = true) (a1 : Int32) (a2 : Int32) (a3 : Int32) {S : fS} (h : FX W S0 S) : fr W S0 (B_X7_clause_66 a1 a2 a3 S) := by
  unfold B_X7_clause_66
  repeat' first
    | (with_reducible exact fr_some (by assumption))
    | (with_reducible refine fr_iv fun _ => ?_)
    | (with_reducible refine fr_bb (fun _ => ?_) (fun _ => ?_))
    | (with_reducible refine fr_bd (w_F_X7_wrong w40_0_6 w40_0_7 _ _ (by assumption)) (fun _ _ _ => ?_))
    | (with_reducible exact w_B_X7_clause_84 w40_0_18 w40_0_19 w40_0_20 w40_0_4 w40_0_5 w40_0_6 w40_0_7 w40_0_9 _ _ _ (by assumption))
theorem w_F_X7_clause {W : Nat → Nat → Nat → Bool} {S0 : fS} (w40_0_18 : W 40 0 18 = true) (w40_0_19 : W 40 0 19 = true) (w40_0_20 : W 40 0 20 = true) (w40_0_4 : W 40 0 4 = true) (w40_0_5 : W 40 0 5 = true) (w40_0_6 : W 40 0 6 = true) (w40_0_7 : W 40 0 7 = true) (w40_0_9 : W 40 0 9 = true)  {S : fS} (h : FX W S0 S) : fr W S0 (F_X7_clause  S) := by
  unfold F_X7_clause
  repeat' first
    | (with_reducible exact fr_some (by assumption))
    | (with_reducible refine fr_iv fun _ => ?_)
    | (with_reducible refine fr_bb (fun _ => ?_) (fun _ => ?_))
    | (with_reducible refine fr_bd (w_F_X7_isWord w40_0_4 _ _ _ _ _ (by assumption)) (fun _ _ _ => ?_))
    | (with_reducible refine fr_bd (w_F_X7_wrong w40_0_6 w40_0_7 _ _ (by assumption)) (fun _ _ _ => ?_))
    | (with_reducible exact w_B_X7_clause_84 w40_0_18 w40_0_19 w40_0_20 w40_0_4 w40_0_5 w40_0_6 w40_0_7 w40_0_9 _ _ _ (by assumption))
    | (with_reducible exact w_B_X7_clause_66 w40_0_18 w40_0_19 w40_0_20 w40_0_4 w40_0_5 w40_0_6 w40_0_7 w40_0_9 _ _ _ (by assumption))
theorem w_B_X7_walks_44 {W : Nat → Nat → Nat → Bool} {S0 : fS} (w40_0_18 : W 40 0 18 = true) (w40_0_19 : W 40 0 19 = true) (w40_0_20 : W 40 0 20 = true) (w40_0_4 : W 40 0 4 = true) (w40_0_5 : W 40 0 5 = true) (w40_0_6 : W 40 0 6 = true) (w40_0_7 : W 40 0 7 = true) (w40_0_9 : W 40 0 9 = true) (k44 : (Unit) → fS → Option (Int32 × fS)) (hk : ∀ (z : (Unit)) (S : fS), FX W S0 S → fr W S0 (k44 z S)) (z : (Unit)) {S : fS} (h : FX W S0 S) : fr W S0 (B_X7_walks_44 k44 z S) := by
  unfold B_X7_walks_44
  repeat' first
    | (with_reducible exact fr_some (by assumption))
    | (with_reducible refine fr_iv fun _ => ?_)
    | (with_reducible refine fr_bb (fun _ => ?_) (fun _ => ?_))
    | (with_reducible refine fr_bd (w_F_X7_clause w40_0_18 w40_0_19 w40_0_20 w40_0_4 w40_0_5 w40_0_6 w40_0_7 w40_0_9  (by assumption)) (fun _ _ _ => ?_))
    | (with_reducible refine fr_bd (w_F_X7_blanks w40_0_4  (by assumption)) (fun _ _ _ => ?_))
    | (with_reducible exact hk _ _ (by assumption))
theorem w_F_X7_walks {W : Nat → Nat → Nat → Bool} {S0 : fS} (w40_0_18 : W 40 0 18 = true) (w40_0_19 : W 40 0 19 = true) (w40_0_20 : W 40 0 20 = true) (w40_0_4 : W 40 0 4 = true) (w40_0_5 : W 40 0 5 = true) (w40_0_6 : W 40 0 6 = true) (w40_0_7 : W 40 0 7 = true) (w40_0_9 : W 40 0 9 = true)  {S : fS} (h : FX W S0 S) : fr W S0 (F_X7_walks  S) := by
  unfold F_X7_walks
  repeat' first
    | (with_reducible exact fr_some (by assumption))
    | (with_reducible refine fr_pu (by assumption) w40_0_18 (fun _ _ => ?_))
    | (with_reducible refine fr_pu (by assumption) w40_0_19 (fun _ _ => ?_))
    | (with_reducible refine fr_pu (by assumption) w40_0_20 (fun _ _ => ?_))
    | (with_reducible refine fr_pu (by assumption) w40_0_4 (fun _ _ => ?_))
    | (with_reducible refine fr_pu (by assumption) w40_0_5 (fun _ _ => ?_))
    | (with_reducible refine fr_pu (by assumption) w40_0_6 (fun _ _ => ?_))
    | (with_reducible refine fr_pu (by assumption) w40_0_7 (fun _ _ => ?_))
    | (with_reducible refine fr_pu (by assumption) w40_0_9 (fun _ _ => ?_))
    | (with_reducible refine fr_bd (w_F_X7_blanks w40_0_4  (by assumption)) (fun _ _ _ => ?_))
    | (with_reducible exact fr_lp (fun k hk z S h => w_B_X7_walks_44 w40_0_18 w40_0_19 w40_0_20 w40_0_4 w40_0_5 w40_0_6 w40_0_7 w40_0_9 k hk z h) (by assumption))
theorem w_B_X7_walksLaw_38 {W : Nat → Nat → Nat → Bool} {S0 : fS} (w40_0_4 : W 40 0 4 = true) (w40_0_6 : W 40 0 6 = true) (w40_0_7 : W 40 0 7 = true) (a1 : Int32) {S : fS} (h : FX W S0 S) : fr W S0 (B_X7_walksLaw_38 a1 S) := by
  unfold B_X7_walksLaw_38
  repeat' first
    | (with_reducible exact fr_some (by assumption))
    | (with_reducible refine fr_iv fun _ => ?_)
    | (with_reducible refine fr_bb (fun _ => ?_) (fun _ => ?_))
    | (with_reducible refine fr_gd fun _ => ?_)
    | (with_reducible refine fr_bd (w_F_X7_blanks w40_0_4  (by assumption)) (fun _ _ _ => ?_))
    | (with_reducible refine fr_bd (w_F_X7_wrong w40_0_6 w40_0_7 _ _ (by assumption)) (fun _ _ _ => ?_))
theorem w_F_X7_walksLaw {W : Nat → Nat → Nat → Bool} {S0 : fS} (w40_0_4 : W 40 0 4 = true) (w40_0_5 : W 40 0 5 = true) (w40_0_6 : W 40 0 6 = true) (w40_0_7 : W 40 0 7 = true)  {S : fS} (h : FX W S0 S) : fr W S0 (F_X7_walksLaw  S) := by
  unfold F_X7_walksLaw
  repeat' first
    | (with_reducible exact fr_some (by assumption))
    | (with_reducible refine fr_iv fun _ => ?_)
    | (with_reducible refine fr_bb (fun _ => ?_) (fun _ => ?_))
    | (with_reducible refine fr_pu (by assumption) w40_0_4 (fun _ _ => ?_))
    | (with_reducible refine fr_pu (by assumption) w40_0_5 (fun _ _ => ?_))
    | (with_reducible refine fr_pu (by assumption) w40_0_6 (fun _ _ => ?_))
    | (with_reducible refine fr_pu (by assumption) w40_0_7 (fun _ _ => ?_))
    | (with_reducible refine fr_bd (w_F_X7_ors w40_0_4 w40_0_5 w40_0_6 w40_0_7  (by assumption)) (fun _ _ _ => ?_))
    | (with_reducible refine fr_bd (w_F_X7_sign w40_0_4 w40_0_6 w40_0_7 _ (by assumption)) (fun _ _ _ => ?_))
    | (with_reducible exact w_B_X7_walksLaw_38 w40_0_4 w40_0_6 w40_0_7 _ (by assumption))
