/-! what the questions write is scratch -/
section ROM
variable {a i j : Nat}
theorem WX_40 {i j : Nat} (h : WX 40 i j = false) : (j ≠ 0 ∧ j ≠ 2 ∧ j ≠ 4 ∧ j ≠ 5 ∧ j ≠ 6 ∧ j ≠ 7 ∧ j ≠ 8 ∧ j ≠ 9 ∧ j ≠ 16) ∧ j ≠ 18 ∧ j ≠ 19 ∧ j ≠ 20 ∧ j ≠ 40 ∧ j ≠ 41 ∧ j ≠ 42 ∧ j ≠ 43 ∧ j ≠ 44 ∧ j ≠ 45 := by
  refine ⟨⟨?_, ?_, ?_, ?_, ?_, ?_, ?_, ?_, ?_⟩, ?_, ?_, ?_, ?_, ?_, ?_, ?_, ?_, ?_⟩ <;> (intro q; rw [q] at h; exact tf h rfl)
theorem WX_sc : ∀ a i j : Nat, WX a i j = false → WscR 0 a i j = false := by
  intro a i j h
  have n22 : a ≠ 22 := fun q => by rw [q] at h; exact tf h rfl
  have n23 : a ≠ 23 := fun q => by rw [q] at h; exact tf h rfl
  have n24 : a ≠ 24 := fun q => by rw [q] at h; exact tf h rfl
  have n27 : a ≠ 27 := fun q => by rw [q] at h; exact tf h rfl
  have n28 : a ≠ 28 := fun q => by rw [q] at h; exact tf h rfl
  unfold WscR
  rw [beq_out n22, beq_out n23, beq_out n24, beq_out n27, beq_out n28]
  by_cases d : i = 0
  · have n25 : a ≠ 25 := fun q => by rw [q, d] at h; exact tf h rfl
    have n26 : a ≠ 26 := fun q => by rw [q, d] at h; exact tf h rfl
    rw [beq_out n25, beq_out n26]
    rfl
  · rw [beq_out d, Bool.and_false]
    rfl
theorem WX_cn : ∀ a i j : Nat, WX a i j = false → Wcn a i j = false := by
  intro a i j h
  have n45 : a ≠ 45 := fun q => by rw [q] at h; exact tf h rfl
  have n55 : a ≠ 55 := fun q => by rw [q] at h; exact tf h rfl
  have n90 : a ≠ 90 := fun q => by rw [q] at h; exact tf h rfl
  have n91 : a ≠ 91 := fun q => by rw [q] at h; exact tf h rfl
  by_cases d : a = 40
  · rw [d] at h ⊢
    obtain ⟨⟨m0, m2, m4, m5, m6, m7, m8, m9, m16⟩, m18, m19, m20, m40, m41, m42, m43, m44, m45⟩ := WX_40 h
    unfold Wcn Wt7 W8 Wgr
    rw [beq_out m2, beq_out m4, beq_out m5, beq_out m6, beq_out m7, beq_out m8, beq_out m9, beq_out m16, beq_out m18, beq_out m19, beq_out m20, beq_out m40, beq_out m41, beq_out m42, beq_out m44, beq_out m45]
    rfl
  · exact Wcn_out d n55 n45 n90 n91
theorem WX_t7 : ∀ a i j : Nat, WX a i j = false → Wt7 a i j = false := fun a i j h => Wt7_c a i j (WX_cn a i j h)
theorem WX_gr : ∀ a i j : Nat, WX a i j = false → Wgr a i j = false := fun a i j h => Wgr_c a i j (WX_cn a i j h)
theorem WX_45 : ∀ a i j : Nat, WX a i j = false → W45 a i j = false := fun a i j h => W45_t a i j (WX_t7 a i j h)
theorem WX_42 : ∀ a i j : Nat, WX a i j = false → W42 a i j = false := by
  intro a i j h
  unfold W42
  by_cases d : a = 40
  · rw [d] at h
    rw [beq_out (WX_40 h).2.2.2.2.2.2.1, Bool.and_false]
  · rw [beq_out d]
    rfl
theorem WX_cb : ∀ a i j : Nat, WX a i j = false → Wcb a i j = false := fun a i j h => Bool.or_eq_false_iff.2 ⟨WX_t7 a i j h, WX_42 a i j h⟩
theorem WX_m : ∀ a i j : Nat, WX a i j = false → Wmq a i j = false := fun a i j h => Wm_s a i j (WX_sc a i j h)
end ROM
/-! a program works for the next try: both sides -/
noncomputable def tlW (S : fS) (lot : Int32) : G3 := Classical.epsilon (fun g => TLq S lot g)
section TLW
variable {S V T : fS} {lot p p2 : Int32} {x : Option Nat} {g : G3}
theorem tlW_un (h : TLq S lot g) : g = tlW S lot := TPq.un h (Classical.epsilon_spec (p := fun g => TLq S lot g) ⟨g, h⟩)
theorem tlW_ok (h : TOK S) : TLq S lot (tlW S lot) := Classical.epsilon_spec (h lot)
/-- the probe has the names of the next try -/
def NX (S V : fS) : Prop := ge V 25 0 4 = ge S 1 0 7 + 1 ∧ ge V 25 0 5 = ge S 1 0 8 + 1 ∧ ge V 25 0 6 = ge S 1 0 9 + ge S 1 0 3 ∧ ge V 25 0 7 = ge S 1 0 10 ∧ ge V 25 0 8 = ge S 1 0 4
theorem COq.sc (h : COq S (ge S 40 0 15).toInt x) (F : FX (WscR 0) S V) : COq V (ge S 40 0 15).toInt x := by
  rcases h with h | ⟨t, c, a1, a2, a3, a4⟩
  · exact Or.inl h
  · exact Or.inr ⟨t, c, a1, a2, a3, a4.fx F rfl (fun _ => rfl) (fun _ => rfl)⟩
theorem y_told (N : NBq S 0) (hC : COq S (ge S 40 0 15).toInt x) (F : FX (WscR 0) S V) (n : NX S V) : pk (F_X3_run x 0 lot V) (fun _ T => FX (WscR 0) S T ∧ FX Wmq V T ∧ ∃ st : List Int32, MR T st (tlW S lot)) := by
  have sV : SRq S V := F.sr Ws_r
  refine pq_imp (y_runq (hC.sc F) lot) (fun _ T q => ?_)
  obtain ⟨F1, st, g, m, t⟩ := q
  refine ⟨F.tr (F1.sub Wm_s), F1, st, ?_⟩
  have tg : TLq S lot g := by
    refine sV.TPr (t.cg (fun i hi => ?_))
    exact envT_1 (S := S) N n.1 n.2.1 n.2.2.1 n.2.2.2.1 n.2.2.2.2 i hi
  rw [← tlW_un tg]
  exact m
theorem y_next : pk (F_X5_nameNext 0 0 S) (fun _ T => FX (WscR 0) S T ∧ NX S T) := pq_imp y_nameNext (fun _ T q => ⟨q.1.sub Wn_s, q.2⟩)
theorem q_told (RV : RI V) (s : FX Wcn S V) (hO : TOK S) (hn : ∀ i : Nat, i < 5 → ge V 45 0 i = env1 S lot i) (hp : p = ge S 40 0 15) : pk (F_X7_tellsBy p lot V) (fun _ T => FX Wt7 V T ∧ (∀ i : Nat, i ≠ 5 → ge T 45 0 i = ge V 45 0 i) ∧ tg T = clm (tlW S lot)) := by
  have t : TPq V p.toInt (envN V lot) (tlW S lot) := by
    rw [hp]
    refine TPq.fx (TPq.cg (tlW_ok (lot := lot) hO) (fun i hi => ?_)) s (fun _ => rfl) (fun _ _ => rfl)
    unfold envN
    by_cases d : i = 5
    · rw [if_pos d, d]
      rfl
    · rw [if_neg d, hn i (by omega)]
  exact pq_imp (q_tellsq RV t) (fun _ T q => ⟨q.1, q.2.1, q.2.2.2⟩)
theorem env1_lt {i : Nat} (h : i < 5) (u v : Int32) : env1 S u i = env1 S v i := by
  unfold env1
  have : i = 0 ∨ i = 1 ∨ i = 2 ∨ i = 3 ∨ i = 4 := by omega
  rcases this with rfl | rfl | rfl | rfl | rfl <;> rfl
theorem q_next : pk (F_X7_namesOf 1 V) (fun _ T => FX W45 V T ∧ ∀ i : Nat, i < 5 → ge T 45 0 i = env1 V 0 i) := by
  refine pq_imp (q_names1 0) (fun _ T q => ⟨q.1, fun i hi => ?_⟩)
  have e := q.2.1 i (by omega)
  unfold envN at e
  rw [if_neg (by omega)] at e
  exact e
theorem SRq.oK (h : SRq S T) (hP : PGq T) (hI : IFq T) : TOK S := by
  intro lot
  obtain ⟨g, hg⟩ := TOK_of hP hI lot
  refine ⟨g, ?_⟩
  have := h.TPr hg
  unfold TLq
  rw [h 40 0 15 (by decide)] at this
  refine this.cg (fun i _ => ?_)
  rw [h.env1E]
theorem SRq.tlwE (h : SRq S T) : tlW T lot = tlW S lot := by
  unfold tlW
  congr 1
  funext g
  refine propext ⟨fun q => h.sy.TL q, fun q => h.TL q⟩
end TLW
/-! tells, can -/
section TLC
variable {S : fS} {p p2 : Int32}
theorem RI_z {T : fS} (z : ge S 40 0 0 = 0) (s : SRq S T) : ge T 40 0 0 = 0 := by rw [s 40 0 0 (by decide)]; exact z
/-- both sides wrote scratch cells only -/
theorem IV.two {T1 T2 : fS} (h : IV S) (F1 : FX (WscR 0) S T1) (F2 : FX Wcn T1 T2) : RLv T2 := h.2.2.2.scr h.nq ((F1.sub WX_sc).tr (F2.sub WX_cn))
theorem IV.one {T1 : fS} (h : IV S) (F1 : FX (WscR 0) S T1) : RLv T1 := h.2.2.2.scr h.nq (F1.sub WX_sc)
theorem rk_can (h : IV S) (z : ge S 40 0 0 = 0) (h2 : p = 0 ∨ p = 1) : RK0 (F_X6_can p S) (F_X7_can p) := by
  obtain ⟨H, hO, B, N, hP, hI, hs, _⟩ := h.2.2.2.1
  obtain ⟨all, ha⟩ : ∃ all : Bool, p = if all then 1 else 0 := by
    rcases h2 with rfl | rfl
    · exact ⟨false, rfl⟩
    · exact ⟨true, rfl⟩
  unfold RK0 F_X6_can
  refine pq_bd (pq_and (s_F_X6_leastPaying p S h.1 h.2.1 (by rcases h2 with rfl | rfl <;> decide)).pk (y_leastPaying H hO B N hP hI ha)) (fun v T1 q => pq_some ?_)
  obtain ⟨⟨R1, _⟩, F1, C1⟩ := q
  have s1 : SRq S T1 := F1.sr Ws_r
  unfold F_X7_can
  have R1' : RLv T1 := h.one F1
  obtain ⟨H1, hO1, _, _, hP1, hI1, _⟩ := R1'.1
  refine pg7_0 (RI_z z s1) (pq_bd (q_canNow R1 H1 hO1 hP1 hI1 ha) (fun v2 T2 q => pq_some ⟨h.two F1 q.1, ?_⟩))
  have C2 := q.2
  rw [s1.PAE] at C2
  exact C1.un C2
end TLC
