/-! BackMarch: whom one faces, when to look -/
def alF (w : Nat → Nat × Nat × Nat) (g n c : Nat) : Nat → Nat → Bool
  | 0, _ => true
  | d + 1, i => if (w i).1 = g ∧ (w i).2.1 = n ∧ ¬ (w i).2.2 = c then false else alF w g n c d (i + 1)
def posF (L : t_L) (S : t_S) (g m n : Nat) : Nat := (stepsF L (miS S g m) n).2.1 g
def fitF (L : t_L) (S : t_S) (wn : Nat) (w : Nat → Nat × Nat × Nat) (g m : Nat) : Nat → Nat → Bool
  | 0, _ => true
  | d + 1, n => if alF w g n (posF L S g m n) wn 0 = true then fitF L S wn w g m d (n + 1) else false
def faceF (L : t_L) (S : t_S) (wn : Nat) (w : Nat → Nat × Nat × Nat) (g : Nat) : Nat → Nat
  | 0 => 0
  | k + 1 => faceF L S wn w g k + (if fitF L S wn w g k 21 0 = true then 2 ^ k else 0)
theorem face_lt (L : t_L) (S : t_S) (wn : Nat) (w : Nat → Nat × Nat × Nat) (g : Nat) : ∀ k, faceF L S wn w g k < 2 ^ k
  | 0 => Nat.zero_lt_one
  | k + 1 => by
    have h := face_lt L S wn w g k
    rw [faceF, Nat.pow_succ]
    split <;> omega
def ctF (set : Nat) (p : Nat → Nat) (c : Nat) : Nat → Nat
  | 0 => 0
  | k + 1 => ctF set p c k + (if set.testBit k = true ∧ p k = c then 1 else 0)
theorem ct_le (set : Nat) (p : Nat → Nat) (c : Nat) : ∀ k, ctF set p c k ≤ k
  | 0 => Nat.le_refl _
  | k + 1 => by
    have h := ct_le set p c k
    rw [ctF]
    split <;> omega
def gcF (set : Nat) (p : Nat → Nat) : Nat → Nat
  | 0 => 0
  | k + 1 => if set.testBit k = true then (if gcF set p k < ctF set p (p k) 4 then ctF set p (p k) 4 else gcF set p k) else gcF set p k
theorem gc_le (set : Nat) (p : Nat → Nat) : ∀ k, gcF set p k ≤ 4
  | 0 => by unfold gcF; omega
  | k + 1 => by
    have h := gc_le set p k
    have h2 := ct_le set p (p k) 4
    rw [gcF]
    repeat' split
    all_goals omega
def cwF (L : t_L) (S : t_S) (g set n : Nat) : Nat := gcF set (fun m => posF L S g m n) 4
def lkF (cw : Nat → Nat) : Nat → Nat → Nat → Nat
  | 0, _, best => best
  | d + 1, n, best => lkF cw d (n + 1) (if cw n < cw best then n else best)
def lookR (L : t_L) (S : t_S) (wn : Nat) (w : Nat → Nat × Nat × Nat) (g : Nat) : Int32 :=
  if ones4 (faceF L S wn w g L.2.2.2.2.1) < 2 then -9 else nI (lkF (cwF L S g (faceF L S wn w g L.2.2.2.2.1)) 20 1 0)
section FACE
variable {σ : z_G} {L : t_L} {S : t_S} {wn : Nat} {w : Nat → Nat × Nat × Nat}
theorem W_at_sm {P : Nat → Prop} {σ τ : z_G} (h : W_at σ wn w) (hs : z_sm P σ τ) (hp : P 71 ∧ P 72 ∧ P 73 ∧ P 74) : W_at τ wn w := by
  obtain ⟨h1, h2, h3⟩ := h
  refine ⟨h1, ((hs 71 hp.1 3).1).trans h2, fun k hk => ?_⟩
  obtain ⟨a1, a2, a3, a4⟩ := h3 k hk
  exact ⟨((hs 72 hp.2.1 k).1).trans a1, ((hs 73 hp.2.2.1 k).1).trans a2, ((hs 74 hp.2.2.2 k).1).trans a3, a4⟩
theorem l57 (hw : W_at σ wn w) {g n c : Nat} (hg : g < 4) (hn : n ≤ 40) (hc : c < 64) : ∀ d i (l5 : Option Value), d + i = wn →
    z_r [] 0 0 57 3 [some (.ref 71), some (.int (nI g)), some (.int (nI n)), some (.int (nI (tn c))), some (.int (nI i)), l5] [] (z_enc σ) = some (some (.int (z_b (alF w g n c d i = true))), z_enc σ) := by
  obtain ⟨h1, h2, h3⟩ := hw
  intro d
  induction d with
  | zero =>
    intro i l5 hd
    have b1 : (nI i < nI wn) = False := eq_false (nI_nlt (by omega) (by omega))
    rw [e57_3]
    simp only [e57_0, e57_1, e57_5, e57_6, e57_9, e57_12, e57_13, e57_16, e57_18, e57_21, e57_22, e57_25, e57_26, e57_29, e57_31, e57_34, e57_35, e57_38, e57_39, e57_42, e57_43, e57_45, e57_47, e57_50, e57_51, e57_54, e57_56, e57_59, e57_60, e57_63, e57_64, e57_65, e57_68, e57_71, e57_72, g71_3, h2, b1, if_false, z_b_ok1, if_true, alF, z_b]
  | succ d ih =>
    intro i l5 hd
    have b1 : (nI i < nI wn) = True := eq_true (nI_lt (by omega) (by omega))
    have hi : i < 6 := by omega
    obtain ⟨a1, a2, a3, a4, a5, a6⟩ := h3 i (by omega)
    have e1 : (nI (w i).1 = nI g) = ((w i).1 = g) := propext (nI_eq (by omega) (by omega))
    have e2 : (nI (w i).2.1 = nI n) = ((w i).2.1 = n) := propext (nI_eq (by omega) (by omega))
    have e3 := tn_eq a6 hc
    have o1 : ((1 : Int32) = 0) = False := by decide
    have z0 : ((0 : Int32) = 0) = True := by decide
    rw [e57_3]
    simp (disch := omega) only [e57_0, e57_1, e57_5, e57_6, e57_9, e57_12, e57_13, e57_16, e57_18, e57_21, e57_22, e57_25, e57_26, e57_29, e57_31, e57_34, e57_35, e57_38, e57_39, e57_42, e57_43, e57_45, e57_47, e57_50, e57_51, e57_54, e57_56, e57_59, e57_60, e57_63, e57_64, e57_65, e57_68, e57_71, e57_72, g71_3, h2, b1, if_true, g71_0, g71_1, g71_2, s95 an72, s95 an73, s95 an74, z_bd_i, z_bd_l, z_bd_v, List.cons_append, List.nil_append, z_nk_i, z_nk_r, z_nk_n, v0, v1, v3, v19, v61, v71, v76, a1, a2, a3, e1, e2, e3, alF, nI_1, o1, z0, if_false]
    by_cases q1 : (w i).1 = g
    · by_cases q2 : (w i).2.1 = n
      · by_cases q3 : (w i).2.2 = c
        · simp only [eq_true q1, eq_true q2, eq_true q3, if_true, not_true, and_false, if_false]
          exact ih _ _ (by omega)
        · simp only [eq_true q1, eq_true q2, eq_false q3, if_true, not_false_iff, and_self, if_false, z_b_ok0, z_b, Bool.false_eq_true]
      · simp only [eq_true q1, eq_false q2, if_true, false_and, and_false, if_false]
        exact ih _ _ (by omega)
    · simp only [eq_false q1, false_and, if_false]
      exact ih _ _ (by omega)
theorem s57 (hw : W_at σ wn w) {g n c : Nat} (hg : g < 4) (hn : n ≤ 40) (hc : c < 64) : z_call 57 [.ref 71, .int (nI g), .int (nI n), .int (nI (tn c))] (z_enc σ) = some (some (.int (z_b (alF w g n c wn 0 = true))), z_enc σ) := by
  have e := l57 hw hg hn hc wn 0 none (by omega)
  simp only [en57, e57_0, e57_1, e57_5, e57_6, e57_9, e57_12, e57_13, e57_16, e57_18, e57_21, e57_22, e57_25, e57_26, e57_29, e57_31, e57_34, e57_35, e57_38, e57_39, e57_42, e57_43, e57_45, e57_47, e57_50, e57_51, e57_54, e57_56, e57_59, e57_60, e57_63, e57_64, e57_65, e57_68, e57_71, e57_72]
  exact e
theorem l103 (ok : L_ok L) (sk : S_ok S) {g m : Nat} (hg : g < 4) (hm : m < 4) : ∀ d n (σ : z_G), d + n = 21 → L_at σ 10 L → W_at σ wn w → M_at σ 15 (stepsF L (miS S g m) n) →
    ∃ τ, z_r [] 0 0 103 22 [some (.ref 0), some (.int (nI g)), some (.int (nI m)), some (.int (nI n))] [] (z_enc σ) = some (some (.int (z_b (fitF L S wn w g m d n = true))), z_enc τ) ∧ z_sm P15 σ τ := by
  have skm := mi_ok sk (g := g) (m := m) (Or.inl hm)
  intro d
  induction d with
  | zero =>
    intro n σ hd hL hw h15
    have b1 : ((20 : Int32) < nI n) = True := eq_true (nI_lt (a := 20) (b := n) (by omega) (by omega))
    refine ⟨σ, ?_, z_sm.rf⟩
    rw [e103_22]
    simp only [e103_0, e103_1, e103_4, e103_5, e103_8, e103_11, e103_12, e103_15, e103_16, e103_17, e103_20, e103_21, e103_23, e103_25, e103_28, e103_29, e103_32, e103_33, e103_34, e103_35, e103_38, e103_39, e103_42, e103_45, e103_48, e103_49, e103_50, e103_51, e103_54, e103_57, e103_58, e103_61, e103_64, e103_65, b1, if_true, z_b_ok1, fitF, z_b]
  | succ d ih =>
    intro n σ hd hL hw h15
    have b1 : ((20 : Int32) < nI n) = False := eq_false (nI_nlt (a := 20) (b := n) (by omega) (by decide))
    have sk2 := steps_ok ok skm n
    have hr := sk2.2.1 g hg
    rw [fitF]
    rw [e103_22]
    simp only [e103_0, e103_1, e103_4, e103_5, e103_8, e103_11, e103_12, e103_15, e103_16, e103_17, e103_20, e103_21, e103_23, e103_25, e103_28, e103_29, e103_32, e103_33, e103_34, e103_35, e103_38, e103_39, e103_42, e103_45, e103_48, e103_49, e103_50, e103_51, e103_54, e103_57, e103_58, e103_61, e103_64, e103_65, b1, if_false, g0_7, g0_4, vM isM_15, s23 isM_15 h15 hg, z_bd_i, z_bd_l, z_bd_v, List.cons_append, List.nil_append, z_nk_i, z_nk_r, z_nk_n, v0, v1, v3, v19, v61, v71, v76, s57 hw hg (show n ≤ 40 by omega) hr, z_b_0]
    rw [show (stepsF L (miS S g m) n).2.1 g = posF L S g m n from rfl]
    by_cases q : alF w g n (posF L S g m n) wn 0 = true
    · have hL15 : L_at σ (z_rf 15 0) L := by rw [rf_15]; exact hL
      simp only [eq_true q, not_true, if_false, if_true, s36 isM_15 hL15 d15 h15 ok sk2, z_bd_i, z_bd_l, z_bd_v, List.cons_append, List.nil_append, z_nk_i, z_nk_r, z_nk_n, v0, v1, v3, v19, v61, v71, v76, e103_0, e103_1, e103_4, e103_5, e103_8, e103_11, e103_12, e103_15, e103_16, e103_17, e103_20, e103_21, e103_23, e103_25, e103_28, e103_29, e103_32, e103_33, e103_34, e103_35, e103_38, e103_39, e103_42, e103_45, e103_48, e103_49, e103_50, e103_51, e103_54, e103_57, e103_58, e103_61, e103_64, e103_65, nI_1, vM isM_15]
      obtain ⟨τ, e, f⟩ := ih (n + 1) (M_set σ 15 (stepF L (stepsF L (miS S g m) n))) (by omega) (L_at_ne (Or.inr (by decide)) hL) (W_at_sm hw (sm15 _ _) (by unfold P15; decide)) (M_at_set _ _ _)
      exact ⟨τ, e, (sm15 _ _).tr f⟩
    · refine ⟨σ, ?_, z_sm.rf⟩
      simp only [eq_false q, not_false_iff, if_true, if_false, z_b_ok0, z_b, Bool.false_eq_true]
theorem s103 (hL : L_at σ 10 L) (hS : M_at σ 11 S) (hw : W_at σ wn w) (ok : L_ok L) (sk : S_ok S) {g m : Nat} (hg : g < 4) (hm : m < 4) : ∃ τ, z_call 103 [.ref 0, .int (nI g), .int (nI m)] (z_enc σ) = some (some (.int (z_b (fitF L S wn w g m 21 0 = true))), z_enc τ) ∧ z_sm P15 σ τ := by
  obtain ⟨τ, e, f⟩ := l103 ok sk hg hm 21 0 (M_set σ 15 (miS S g m)) rfl (L_at_ne (Or.inr (by decide)) hL) (W_at_sm hw (sm15 _ _) (by unfold P15; decide)) (M_at_set _ _ _)
  refine ⟨τ, ?_, (sm15 _ _).tr f⟩
  simp only [en103, e103_0, e103_1, e103_4, e103_5, e103_8, e103_11, e103_12, e103_15, e103_16, e103_17, e103_20, e103_21, e103_23, e103_25, e103_28, e103_29, e103_32, e103_33, e103_34, e103_35, e103_38, e103_39, e103_42, e103_45, e103_48, e103_49, e103_50, e103_51, e103_54, e103_57, e103_58, e103_61, e103_64, e103_65, g0_3, g0_4, vM isM_15, s21 isM_15 isM_11 ap15 hS, s26 isM_15 (M_at_set σ 15 S) hg, z_bd_i, z_bd_l, z_bd_v, List.cons_append, List.nil_append, z_nk_i, z_nk_r, z_nk_n, v0, v1, v3, v19, v61, v71, v76, M_set_set]
  exact e
theorem l102 (ok : L_ok L) (sk : S_ok S) {g : Nat} (hg : g < 4) : ∀ d m (σ : z_G), d + m = L.2.2.2.2.1 → L_at σ 10 L → M_at σ 11 S → W_at σ wn w →
    ∃ τ, z_r [] 0 0 102 4 [some (.ref 0), some (.int (nI g)), some (.int (nI (faceF L S wn w g m))), some (.int (nI m))] [] (z_enc σ) = some (some (.int (nI (faceF L S wn w g L.2.2.2.2.1))), z_enc τ) ∧ z_sm P15 σ τ := by
  have hM := ok.2.2.2.1
  intro d
  induction d with
  | zero =>
    intro m σ hd hL hS hw
    have b1 : (nI m < nI L.2.2.2.2.1) = False := eq_false (nI_nlt (by omega) (by omega))
    have e : m = L.2.2.2.2.1 := by omega
    refine ⟨σ, ?_, z_sm.rf⟩
    rw [e102_4]
    simp only [e102_0, e102_1, e102_2, e102_3, e102_5, e102_6, e102_9, e102_12, e102_15, e102_16, e102_17, e102_18, e102_21, e102_24, e102_25, e102_26, e102_27, e102_28, e102_29, e102_30, e102_33, e102_36, e102_37, g0_2, gL_4 isL_10, hL.2.2.2.2.1, b1, if_false]
    rw [e]
  | succ d ih =>
    intro m σ hd hL hS hw
    have b1 : (nI m < nI L.2.2.2.2.1) = True := eq_true (nI_lt (by omega) (by omega))
    obtain ⟨τ, e, f⟩ := s103 hL hS hw ok sk hg (show m < 4 by omega)
    obtain ⟨τ2, e2, f2⟩ := ih (m + 1) τ (by omega) (L_at_sm hL f (by unfold P15; decide)) (M_at_sm hS f (by unfold P15; decide)) (W_at_sm hw f (by unfold P15; decide))
    refine ⟨τ2, ?_, f.tr f2⟩
    rw [faceF] at e2
    rw [e102_4]
    simp only [e102_0, e102_1, e102_2, e102_3, e102_5, e102_6, e102_9, e102_12, e102_15, e102_16, e102_17, e102_18, e102_21, e102_24, e102_25, e102_26, e102_27, e102_28, e102_29, e102_30, e102_33, e102_36, e102_37, g0_2, gL_4 isL_10, hL.2.2.2.2.1, b1, if_true, z_bd_i, z_bd_l, z_bd_v, List.cons_append, List.nil_append, z_nk_i, z_nk_r, z_nk_n, v0, v1, v3, v19, v61, v71, v76, e, z_b_0, sh1 m (by omega), z_orI, or_add (face_lt L S wn w g m), nI_1]
    by_cases q : fitF L S wn w g m 21 0 = true
    · simp only [eq_true q, not_true, if_false, if_true] at e2 ⊢
      exact e2
    · simp only [eq_false q, not_false_iff, if_true, if_false] at e2 ⊢
      exact e2
theorem s102 (hL : L_at σ 10 L) (hS : M_at σ 11 S) (hw : W_at σ wn w) (ok : L_ok L) (sk : S_ok S) {g : Nat} (hg : g < 4) : ∃ τ, z_call 102 [.ref 0, .int (nI g)] (z_enc σ) = some (some (.int (nI (faceF L S wn w g L.2.2.2.2.1))), z_enc τ) ∧ z_sm P15 σ τ := by
  obtain ⟨τ, e, f⟩ := l102 ok sk hg L.2.2.2.2.1 0 σ (by omega) hL hS hw
  refine ⟨τ, ?_, f⟩
  rw [faceF] at e
  simp only [en102, e102_0, e102_1, e102_2, e102_3, e102_5, e102_6, e102_9, e102_12, e102_15, e102_16, e102_17, e102_18, e102_21, e102_24, e102_25, e102_26, e102_27, e102_28, e102_29, e102_30, e102_33, e102_36, e102_37]
  exact e
theorem s80 (hL : L_at σ 10 L) (hS : M_at σ 11 S) (hw : W_at σ wn w) (ok : L_ok L) (sk : S_ok S) {g : Nat} (hg : g < L.2.2.2.2.2) : ∃ τ, z_call 80 [.ref 0, .int (nI g)] (z_enc σ) = some (some (.int (nI (faceF L S wn w g L.2.2.2.2.1))), z_enc τ) ∧ z_sm P15 σ τ := by
  have hg4 : g < 4 := by have := ok.2.2.2.2; omega
  have b1 : (¬ nI g < 0 ∧ nI g < nI L.2.2.2.2.2) = True := eq_true (inN_nI hg (by have := ok.2.2.2.2; omega))
  obtain ⟨τ, e, f⟩ := s102 hL hS hw ok sk hg4
  refine ⟨τ, ?_, f⟩
  simp only [en80, e80_0, e80_1, e80_2, e80_5, e80_8, e80_9, e80_10, e80_13, e80_16, e80_17, s88 hL, z_bd_i, z_bd_l, z_bd_v, List.cons_append, List.nil_append, z_nk_i, z_nk_r, z_nk_n, v0, v1, v3, v19, v61, v71, v76, z_b_0, b1, not_true, if_false, e]
theorem s80b (hL : L_at σ 10 L) {g : Int32} (hb : ¬ (¬ g < 0 ∧ g < nI L.2.2.2.2.2)) : z_call 80 [.ref 0, .int g] (z_enc σ) = some (some (.int (-1)), z_enc σ) := by
  simp only [en80, e80_0, e80_1, e80_2, e80_5, e80_8, e80_9, e80_10, e80_13, e80_16, e80_17, s88 hL, z_bd_i, z_bd_l, z_bd_v, List.cons_append, List.nil_append, z_nk_i, z_nk_r, z_nk_n, v0, v1, v3, v19, v61, v71, v76, z_b_0, eq_false hb, not_false_iff, if_true]
end FACE
