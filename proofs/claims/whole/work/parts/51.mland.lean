/-! the reference reads THE TEXT -/
section MLAND
variable {σ : z_G} {n : Nat} {txt : Nat → Nat} {L : t_L} {S : t_S}
theorem r130 (hT : TM_at σ n txt) (hD : D9_at σ L) (hR : R_at σ 80 0 L.2.2.2.2.2 (knS S 0)) (ok : L_ok L) {s k it b : Nat} (hk : k < 300) (hit : it < 1000) (hs : s ≤ n) (ha : σ.1 76 14 = nI s) (hb : σ.1 76 15 = nI b) (hc : σ.1 76 16 = kcM k) :
    match (if mbF L k it = true then itemF n txt L S (k - 3) s else .inl b) with
    | .inl f => ∃ τ, z_call 130 [.ref 76, .int (nI it)] (z_enc σ) = some (some (.int 0), z_enc τ) ∧ τ.1 76 15 = nI f ∧ z_sf Qm σ τ
    | .inr q => ∃ τ, z_call 130 [.ref 76, .int (nI it)] (z_enc σ) = some (some (.int 1), z_enc τ) ∧ τ.1 76 14 = nI q.1 ∧ D9_at τ q.2.1 ∧ R_at τ 80 0 q.2.1.2.2.2.2.2 (knS q.2.2 0) ∧ z_sf Qm σ τ := by
  have hN := ok.2.2.2.2
  have hM := ok.2.2.2.1
  by_cases h113 : k = 113
  · subst h113
    have e0 : kcM 113 = 110 := rfl
    rw [e0] at hc
    by_cases q : it = 0
    · subst q
      rw [if_pos (show mbF L 113 0 = true from rfl)]
      have a := r125 hT hD hR ok hs ha
      rw [show 113 - 3 = 110 from rfl]
      cases e : itemF n txt L S 110 s with
      | inl f =>
        rw [e] at a
        obtain ⟨τ, c1, c2, c3⟩ := a
        refine ⟨τ, ?_, c2, c3⟩
        simp only [en130, e130_0, e130_1, e130_4, e130_56, e130_57, e130_58, e130_61, e130_62, e130_63, e130_66, e130_67, e130_68, e130_71, e130_72, e130_73, e130_76, e130_77, e130_78, g76_16, hc, show ((110 : Int32) = 103) = False from by decide, show ((110 : Int32) = 104) = False from by decide, show ((110 : Int32) = 105) = False from by decide, show ((110 : Int32) = 106) = False from by decide, show ((110 : Int32) = 107) = False from by decide, show ((110 : Int32) = 108) = False from by decide, show ((110 : Int32) = 109) = False from by decide, show ((110 : Int32) = 110) = True from by decide, show ((110 : Int32) = 111) = False from by decide, if_true, if_false, v76, c1, z_bd_i, z_bd_l, z_bd_v, List.cons_append, List.nil_append, z_nk_i, z_nk_r, z_nk_n, v0, v1, v3, v19, v61, v71, v76, z_b_ok0]
      | inr q =>
        rw [e] at a
        obtain ⟨τ, c1, c2, c3, c4, c5⟩ := a
        refine ⟨τ, ?_, c2, c3, c4, c5⟩
        simp only [en130, e130_0, e130_1, e130_4, e130_56, e130_57, e130_58, e130_61, e130_62, e130_63, e130_66, e130_67, e130_68, e130_71, e130_72, e130_73, e130_76, e130_77, e130_78, g76_16, hc, show ((110 : Int32) = 103) = False from by decide, show ((110 : Int32) = 104) = False from by decide, show ((110 : Int32) = 105) = False from by decide, show ((110 : Int32) = 106) = False from by decide, show ((110 : Int32) = 107) = False from by decide, show ((110 : Int32) = 108) = False from by decide, show ((110 : Int32) = 109) = False from by decide, show ((110 : Int32) = 110) = True from by decide, show ((110 : Int32) = 111) = False from by decide, if_true, if_false, v76, c1, z_bd_i, z_bd_l, z_bd_v, List.cons_append, List.nil_append, z_nk_i, z_nk_r, z_nk_n, v0, v1, v3, v19, v61, v71, v76, z_b_ok1]
    · rw [if_neg (show ¬ mbF L 113 it = true by unfold mbF; simp [q])]
      refine ⟨σ, ?_, hb, z_sf.rf⟩
      have z0 : ((0 : Int32) < nI it) = True := eq_true (nI_lt (a := 0) (by omega) (by omega))
      simp only [en130, e130_0, e130_1, e130_4, e130_56, e130_57, e130_58, e130_61, e130_62, e130_63, e130_66, e130_67, e130_68, e130_71, e130_72, e130_73, e130_76, e130_77, e130_78, g76_16, hc, show ((110 : Int32) = 103) = False from by decide, show ((110 : Int32) = 104) = False from by decide, show ((110 : Int32) = 105) = False from by decide, show ((110 : Int32) = 106) = False from by decide, show ((110 : Int32) = 107) = False from by decide, show ((110 : Int32) = 108) = False from by decide, show ((110 : Int32) = 109) = False from by decide, show ((110 : Int32) = 110) = True from by decide, show ((110 : Int32) = 111) = False from by decide, if_true, if_false, v76, en125, e125_0, e125_1, e125_14, e125_15, z0, z_bd_i, z_bd_l, z_bd_v, List.cons_append, List.nil_append, z_nk_i, z_nk_r, z_nk_n, v0, v1, v3, v19, v61, v71, v76, z_b_ok0]
  by_cases h114 : k = 114
  · subst h114
    have e0 : kcM 114 = 111 := rfl
    rw [e0] at hc
    rw [if_pos (show mbF L 114 it = true from rfl)]
    have a := r127 hT hD hR ok hs ha
    rw [show 114 - 3 = 111 from rfl]
    cases e : itemF n txt L S 111 s with
    | inl f =>
      rw [e] at a
      obtain ⟨τ, c1, c2, c3⟩ := a
      refine ⟨τ, ?_, c2, c3⟩
      simp only [en130, e130_0, e130_1, e130_4, e130_56, e130_57, e130_58, e130_61, e130_62, e130_63, e130_66, e130_67, e130_68, e130_71, e130_72, e130_73, e130_76, e130_77, e130_78, g76_16, hc, show ((111 : Int32) = 103) = False from by decide, show ((111 : Int32) = 104) = False from by decide, show ((111 : Int32) = 105) = False from by decide, show ((111 : Int32) = 106) = False from by decide, show ((111 : Int32) = 107) = False from by decide, show ((111 : Int32) = 108) = False from by decide, show ((111 : Int32) = 109) = False from by decide, show ((111 : Int32) = 110) = False from by decide, show ((111 : Int32) = 111) = True from by decide, if_true, if_false, v76, c1, z_bd_i, z_bd_l, z_bd_v, List.cons_append, List.nil_append, z_nk_i, z_nk_r, z_nk_n, v0, v1, v3, v19, v61, v71, v76, z_b_ok0]
    | inr q =>
      rw [e] at a
      obtain ⟨τ, c1, c2, c3, c4, c5⟩ := a
      refine ⟨τ, ?_, c2, c3, c4, c5⟩
      simp only [en130, e130_0, e130_1, e130_4, e130_56, e130_57, e130_58, e130_61, e130_62, e130_63, e130_66, e130_67, e130_68, e130_71, e130_72, e130_73, e130_76, e130_77, e130_78, g76_16, hc, show ((111 : Int32) = 103) = False from by decide, show ((111 : Int32) = 104) = False from by decide, show ((111 : Int32) = 105) = False from by decide, show ((111 : Int32) = 106) = False from by decide, show ((111 : Int32) = 107) = False from by decide, show ((111 : Int32) = 108) = False from by decide, show ((111 : Int32) = 109) = False from by decide, show ((111 : Int32) = 110) = False from by decide, show ((111 : Int32) = 111) = True from by decide, if_true, if_false, v76, c1, z_bd_i, z_bd_l, z_bd_v, List.cons_append, List.nil_append, z_nk_i, z_nk_r, z_nk_n, v0, v1, v3, v19, v61, v71, v76, z_b_ok1]
  by_cases h112 : k = 112
  · subst h112
    have e0 : kcM 112 = 109 := rfl
    rw [e0] at hc
    by_cases q : L.2.2.2.2.1 < 4
    · rw [if_pos (show mbF L 112 it = true by unfold mbF; simp [q])]
      have a := r128 hT hD hR ok q hs ha
      rw [show 112 - 3 = 109 from rfl]
      cases e : itemF n txt L S 109 s with
      | inl f =>
        rw [e] at a
        obtain ⟨τ, c1, c2, c3⟩ := a
        refine ⟨τ, ?_, c2, c3⟩
        simp only [en130, e130_0, e130_1, e130_4, e130_56, e130_57, e130_58, e130_61, e130_62, e130_63, e130_66, e130_67, e130_68, e130_71, e130_72, e130_73, e130_76, e130_77, e130_78, g76_16, hc, show ((109 : Int32) = 103) = False from by decide, show ((109 : Int32) = 104) = False from by decide, show ((109 : Int32) = 105) = False from by decide, show ((109 : Int32) = 106) = False from by decide, show ((109 : Int32) = 107) = False from by decide, show ((109 : Int32) = 108) = False from by decide, show ((109 : Int32) = 109) = True from by decide, show ((109 : Int32) = 110) = False from by decide, show ((109 : Int32) = 111) = False from by decide, if_true, if_false, v76, c1, z_bd_i, z_bd_l, z_bd_v, List.cons_append, List.nil_append, z_nk_i, z_nk_r, z_nk_n, v0, v1, v3, v19, v61, v71, v76, z_b_ok0]
      | inr q =>
        rw [e] at a
        obtain ⟨τ, c1, c2, c3, c4, c5⟩ := a
        refine ⟨τ, ?_, c2, c3, c4, c5⟩
        simp only [en130, e130_0, e130_1, e130_4, e130_56, e130_57, e130_58, e130_61, e130_62, e130_63, e130_66, e130_67, e130_68, e130_71, e130_72, e130_73, e130_76, e130_77, e130_78, g76_16, hc, show ((109 : Int32) = 103) = False from by decide, show ((109 : Int32) = 104) = False from by decide, show ((109 : Int32) = 105) = False from by decide, show ((109 : Int32) = 106) = False from by decide, show ((109 : Int32) = 107) = False from by decide, show ((109 : Int32) = 108) = False from by decide, show ((109 : Int32) = 109) = True from by decide, show ((109 : Int32) = 110) = False from by decide, show ((109 : Int32) = 111) = False from by decide, if_true, if_false, v76, c1, z_bd_i, z_bd_l, z_bd_v, List.cons_append, List.nil_append, z_nk_i, z_nk_r, z_nk_n, v0, v1, v3, v19, v61, v71, v76, z_b_ok1]
    · rw [if_neg (show ¬ mbF L 112 it = true by unfold mbF; simp; omega)]
      refine ⟨σ, ?_, hb, z_sf.rf⟩
      have eM : (nI L.2.2.2.2.1 = 4) = True := eq_true (by rw [show L.2.2.2.2.1 = 4 by omega]; rfl)
      simp only [en130, e130_0, e130_1, e130_4, e130_56, e130_57, e130_58, e130_61, e130_62, e130_63, e130_66, e130_67, e130_68, e130_71, e130_72, e130_73, e130_76, e130_77, e130_78, g76_16, hc, show ((109 : Int32) = 103) = False from by decide, show ((109 : Int32) = 104) = False from by decide, show ((109 : Int32) = 105) = False from by decide, show ((109 : Int32) = 106) = False from by decide, show ((109 : Int32) = 107) = False from by decide, show ((109 : Int32) = 108) = False from by decide, show ((109 : Int32) = 109) = True from by decide, show ((109 : Int32) = 110) = False from by decide, show ((109 : Int32) = 111) = False from by decide, if_true, if_false, v76, en128, e128_0, e128_1, e128_4, e128_5, e128_6, e128_7, e128_17, e128_18, g76_3, i79_2, hD.2.2.1, eM, z_bd_i, z_bd_l, z_bd_v, List.cons_append, List.nil_append, z_nk_i, z_nk_r, z_nk_n, v0, v1, v3, v19, v61, v71, v76, z_b_ok0]
  by_cases h106 : k = 106
  · subst h106
    have e0 : kcM 106 = 103 := rfl
    rw [e0] at hc
    by_cases q : L.2.2.2.2.2 < 4
    · rw [if_pos (show mbF L 106 it = true by unfold mbF; simp [q])]
      have a := r129 hT hD hR ok q hs ha
      rw [show 106 - 3 = 103 from rfl]
      cases e : itemF n txt L S 103 s with
      | inl f =>
        rw [e] at a
        obtain ⟨τ, c1, c2, c3⟩ := a
        refine ⟨τ, ?_, c2, c3⟩
        simp only [en130, e130_0, e130_1, e130_4, e130_56, e130_57, e130_58, e130_61, e130_62, e130_63, e130_66, e130_67, e130_68, e130_71, e130_72, e130_73, e130_76, e130_77, e130_78, g76_16, hc, show ((103 : Int32) = 103) = True from by decide, show ((103 : Int32) = 104) = False from by decide, show ((103 : Int32) = 105) = False from by decide, show ((103 : Int32) = 106) = False from by decide, show ((103 : Int32) = 107) = False from by decide, show ((103 : Int32) = 108) = False from by decide, show ((103 : Int32) = 109) = False from by decide, show ((103 : Int32) = 110) = False from by decide, show ((103 : Int32) = 111) = False from by decide, if_true, if_false, v76, c1, z_bd_i, z_bd_l, z_bd_v, List.cons_append, List.nil_append, z_nk_i, z_nk_r, z_nk_n, v0, v1, v3, v19, v61, v71, v76, z_b_ok0]
      | inr q =>
        rw [e] at a
        obtain ⟨τ, c1, c2, c3, c4, c5⟩ := a
        refine ⟨τ, ?_, c2, c3, c4, c5⟩
        simp only [en130, e130_0, e130_1, e130_4, e130_56, e130_57, e130_58, e130_61, e130_62, e130_63, e130_66, e130_67, e130_68, e130_71, e130_72, e130_73, e130_76, e130_77, e130_78, g76_16, hc, show ((103 : Int32) = 103) = True from by decide, show ((103 : Int32) = 104) = False from by decide, show ((103 : Int32) = 105) = False from by decide, show ((103 : Int32) = 106) = False from by decide, show ((103 : Int32) = 107) = False from by decide, show ((103 : Int32) = 108) = False from by decide, show ((103 : Int32) = 109) = False from by decide, show ((103 : Int32) = 110) = False from by decide, show ((103 : Int32) = 111) = False from by decide, if_true, if_false, v76, c1, z_bd_i, z_bd_l, z_bd_v, List.cons_append, List.nil_append, z_nk_i, z_nk_r, z_nk_n, v0, v1, v3, v19, v61, v71, v76, z_b_ok1]
    · rw [if_neg (show ¬ mbF L 106 it = true by unfold mbF; simp; omega)]
      refine ⟨σ, ?_, hb, z_sf.rf⟩
      have eM : (nI L.2.2.2.2.2 = 4) = True := eq_true (by rw [show L.2.2.2.2.2 = 4 by omega]; rfl)
      simp only [en130, e130_0, e130_1, e130_4, e130_56, e130_57, e130_58, e130_61, e130_62, e130_63, e130_66, e130_67, e130_68, e130_71, e130_72, e130_73, e130_76, e130_77, e130_78, g76_16, hc, show ((103 : Int32) = 103) = True from by decide, show ((103 : Int32) = 104) = False from by decide, show ((103 : Int32) = 105) = False from by decide, show ((103 : Int32) = 106) = False from by decide, show ((103 : Int32) = 107) = False from by decide, show ((103 : Int32) = 108) = False from by decide, show ((103 : Int32) = 109) = False from by decide, show ((103 : Int32) = 110) = False from by decide, show ((103 : Int32) = 111) = False from by decide, if_true, if_false, v76, en129, e129_0, e129_1, e129_4, e129_5, e129_6, e129_7, e129_49, e129_50, g76_3, i79_3, hD.2.2.2.1, eM, z_bd_i, z_bd_l, z_bd_v, List.cons_append, List.nil_append, z_nk_i, z_nk_r, z_nk_n, v0, v1, v3, v19, v61, v71, v76, z_b_ok0]
  · rw [if_neg (show ¬ mbF L k it = true by unfold mbF; rw [if_neg h113, if_neg h114, if_neg h112, if_neg h106]; decide)]
    refine ⟨σ, ?_, hb, z_sf.rf⟩
    have n3 : ∀ {c : Nat}, c < 1000 → ¬ k = c + 3 → (kcM k = nI c) = False := fun {c} hc2 h => eq_false (by
      unfold kcM
      split
      · rw [m_1' (show c < 2147483648 by omega)]
        exact id
      · intro e
        have := (nI_eq (by omega) (by omega)).mp e
        omega)
    have f1 : (kcM k = 103) = False := n3 (c := 103) (by decide) h106
    have f2 : (kcM k = 109) = False := n3 (c := 109) (by decide) h112
    have f3 : (kcM k = 110) = False := n3 (c := 110) (by decide) h113
    have f4 : (kcM k = 111) = False := n3 (c := 111) (by decide) h114
    simp only [en130, e130_0, e130_1, e130_4, e130_56, e130_57, e130_58, e130_61, e130_62, e130_63, e130_66, e130_67, e130_68, e130_71, e130_72, e130_73, e130_76, e130_77, e130_78, g76_16, hc, f1, f2, f3, f4, if_false, ite_self, z_b_ok0, if_true]
-- the row of zeros
def ze (σ : z_G) (a m : Nat) : z_G := (fun p j => if p = a ∧ j < m then 0 else σ.1 p j, σ.2)
theorem ze_0 (a : Nat) : ze σ a 0 = σ := by
  unfold ze
  refine Prod.ext (funext fun p => funext fun j => ?_) rfl
  exact if_neg (by omega)
theorem ze_s (a m : Nat) : z_ui (ze σ a m) a m 0 = ze σ a (m + 1) := by
  unfold ze z_ui
  refine Prod.ext (funext fun p => funext fun j => ?_) rfl
  dsimp only
  by_cases e : p = a ∧ j = m
  · rw [if_pos e, if_pos (by omega)]
  · rw [if_neg e]
    by_cases g : p = a ∧ j < m
    · rw [if_pos g, if_pos (by omega)]
    · rw [if_neg g, if_neg (by omega)]
theorem ze_sf {Q : Nat → Nat → Prop} {a m : Nat} (h : ∀ j, ¬ Q a j) : z_sf Q σ (ze σ a m) := fun p j hp => ⟨by
  unfold ze
  exact if_neg (fun e => h j (by rw [e.1] at hp; exact hp)), rfl⟩
theorem ze_in {a m j : Nat} (h : j < m) : (ze σ a m).1 a j = 0 := by
  unfold ze
  exact if_pos ⟨rfl, h⟩
theorem l118a (K : Option z_O) (hK : ∀ l1, z_r [] 0 0 118 21 [some (.ref 76), l1] [] (z_enc (ze σ 79 68)) = K) : ∀ d k, d + k = 68 → z_r [] 0 0 118 2 [some (.ref 76), some (.int (nI k))] [] (z_enc (ze σ 79 k)) = K := by
  intro d
  induction d with
  | zero =>
    intro k hk
    obtain rfl : k = 68 := by omega
    have b1 : (nI 68 < 68) = False := by decide
    rw [e118_2]
    simp only [e118_0, e118_1, e118_3, e118_5, e118_8, e118_9, e118_12, e118_13, e118_14, e118_15, e118_18, e118_22, e118_23, e118_24, e118_26, e118_29, e118_30, e118_33, e118_34, e118_35, e118_36, e118_39, e118_42, e118_43, e118_46, e118_47, e118_49, e118_50, e118_51, e118_54, e118_55, e118_57, e118_58, b1, if_false]
    exact hK _
  | succ d ih =>
    intro k hk
    have b1 : (nI k < 68) = True := eq_true (nI_lt (a := k) (b := 68) (by omega) (by decide))
    rw [e118_2]
    simp only [e118_0, e118_1, e118_3, e118_5, e118_8, e118_9, e118_12, e118_13, e118_14, e118_15, e118_18, e118_22, e118_23, e118_24, e118_26, e118_29, e118_30, e118_33, e118_34, e118_35, e118_36, e118_39, e118_42, e118_43, e118_46, e118_47, e118_49, e118_50, e118_51, e118_54, e118_55, e118_57, e118_58, b1, if_true, g76_3, g_isn an79 (show k < 68 by omega) (by decide), ze_s, nI_1]
    exact ih (k + 1) (by omega)
theorem l118b (K : Option z_O) (hK : ∀ l1, z_r [] 0 0 118 42 [some (.ref 76), l1] [] (z_enc (ze σ 80 16)) = K) : ∀ d k, d + k = 16 → z_r [] 0 0 118 23 [some (.ref 76), some (.int (nI k))] [] (z_enc (ze σ 80 k)) = K := by
  intro d
  induction d with
  | zero =>
    intro k hk
    obtain rfl : k = 16 := by omega
    have b1 : (nI 16 < 16) = False := by decide
    rw [e118_23]
    simp only [e118_0, e118_1, e118_2, e118_3, e118_5, e118_8, e118_9, e118_12, e118_13, e118_14, e118_15, e118_18, e118_21, e118_22, e118_24, e118_26, e118_29, e118_30, e118_33, e118_34, e118_35, e118_36, e118_39, e118_43, e118_46, e118_47, e118_49, e118_50, e118_51, e118_54, e118_55, e118_57, e118_58, b1, if_false]
    exact hK _
  | succ d ih =>
    intro k hk
    have b1 : (nI k < 16) = True := eq_true (nI_lt (a := k) (b := 16) (by omega) (by decide))
    rw [e118_23]
    simp only [e118_0, e118_1, e118_2, e118_3, e118_5, e118_8, e118_9, e118_12, e118_13, e118_14, e118_15, e118_18, e118_21, e118_22, e118_24, e118_26, e118_29, e118_30, e118_33, e118_34, e118_35, e118_36, e118_39, e118_43, e118_46, e118_47, e118_49, e118_50, e118_51, e118_54, e118_55, e118_57, e118_58, b1, if_true, g76_4, g_isn an80 (show k < 16 by omega) (by decide), ze_s, nI_1]
    exact ih (k + 1) (by omega)
def emF (σ : z_G) : z_G := z_ui (z_ui (ze (ze σ 79 68) 80 16) 79 0 8) 79 1 8
theorem s118 : z_call 118 [.ref 76] (z_enc σ) = some (none, z_enc (emF σ)) := by
  have b := l118b (σ := ze σ 79 68) (some (none, z_enc (emF σ))) (fun l1 => by
    simp only [e118_0, e118_1, e118_3, e118_5, e118_8, e118_9, e118_12, e118_13, e118_14, e118_15, e118_18, e118_21, e118_22, e118_24, e118_26, e118_29, e118_30, e118_33, e118_34, e118_35, e118_36, e118_39, e118_42, e118_43, e118_46, e118_47, e118_49, e118_50, e118_51, e118_54, e118_55, e118_57, e118_58, g76_3, j79_0, j79_1]
    rfl) 16 0 rfl
  have a := l118a (σ := σ) (some (none, z_enc (emF σ))) (fun l1 => by
    have l0 : (0 : Int32) = nI 0 := rfl
    rw [ze_0] at b
    simp only [e118_0, e118_1, e118_3, e118_5, e118_8, e118_9, e118_12, e118_13, e118_14, e118_15, e118_18, e118_21, e118_22, e118_24, e118_26, e118_29, e118_30, e118_33, e118_34, e118_35, e118_36, e118_39, e118_43, e118_46, e118_47, e118_49, e118_50, e118_51, e118_54, e118_55, e118_57, e118_58, l0]
    exact b) 68 0 rfl
  rw [ze_0] at a
  have l0 : (0 : Int32) = nI 0 := rfl
  simp only [en118, e118_0, e118_1, l0]
  exact a
theorem em_D : D9_at (emF σ) L_0 := by
  unfold emF
  refine ⟨?_, ?_, ?_, ?_, fun c hc => ?_⟩
  · rw [z_ui_ne (by omega), z_ui_eq]; rfl
  · rw [z_ui_eq]; rfl
  · rw [z_ui_ne (by omega), z_ui_ne (by omega)]
    exact ((ze_sf (Q := fun p _ => p ≠ 80) (fun j q => q rfl) 79 2 (by decide)).1).trans (ze_in (by decide))
  · rw [z_ui_ne (by omega), z_ui_ne (by omega)]
    exact ((ze_sf (Q := fun p _ => p ≠ 80) (fun j q => q rfl) 79 3 (by decide)).1).trans (ze_in (by decide))
  · rw [z_ui_ne (by omega), z_ui_ne (by omega)]
    have e : kindF L_0 c = 0 := by unfold kindF wallF foldF L_0; simp
    rw [e]
    exact ((ze_sf (Q := fun p _ => p ≠ 80) (fun j q => q rfl) 79 (4 + c) (show (79 : Nat) ≠ 80 by decide)).1).trans (ze_in (by omega))
theorem em_R : R_at (emF σ) 80 0 0 (knS S_0 0) := by
  have h : ∀ j, j < 16 → (emF σ).1 80 j = 0 := fun j hj => by
    unfold emF
    rw [z_ui_ne (by omega), z_ui_ne (by omega)]
    exact ze_in hj
  refine R0_mk (fun k hk => h k (by omega)) (fun k hk => absurd hk (by omega)) (h 8 (by decide)) (h 9 (by decide)) (h 10 (by decide)) (h 11 (by decide)) (fun k hk => h _ (by omega))
theorem em_sf : z_sf Qm σ (emF σ) := by
  unfold emF
  exact (ze_sf (fun j h => h.1 rfl)).tr ((ze_sf (fun j h => h.2.1 rfl)).tr ((sf_ui (fun h => h.1 rfl)).tr (sf_ui (fun h => h.1 rfl))))
-- what was read becomes what is
theorem cp_ui {p o q r m a j : Nat} {x : Int32} (h1 : a ≠ p) (h2 : a ≠ q) : z_ui (cpF σ p o q r m) a j x = cpF (z_ui σ a j x) p o q r m := by
  unfold cpF z_ui
  refine Prod.ext (funext fun b => funext fun i => ?_) rfl
  dsimp only
  by_cases e : b = a ∧ i = j
  · rw [if_pos e, if_neg (by omega), if_pos e]
  · rw [if_neg e]
    by_cases g : b = p ∧ o ≤ i ∧ i < o + m
    · rw [if_pos g, if_pos g, if_neg (by omega)]
    · rw [if_neg g, if_neg g, if_neg e]
theorem l119a (K : Option z_O) (hK : ∀ l1, z_r [] 0 0 119 26 [some (.ref 76), l1] [] (z_enc (cpF σ 78 0 79 0 68)) = K) : ∀ d k, d + k = 68 → z_r [] 0 0 119 2 [some (.ref 76), some (.int (nI k))] [] (z_enc (cpF σ 78 0 79 0 k)) = K := by
  intro d
  induction d with
  | zero =>
    intro k hk
    obtain rfl : k = 68 := by omega
    have b1 : (nI 68 < 68) = False := by decide
    rw [e119_2]
    simp only [e119_0, e119_1, e119_3, e119_5, e119_8, e119_9, e119_12, e119_13, e119_14, e119_17, e119_18, e119_19, e119_20, e119_23, e119_27, e119_29, e119_31, e119_34, e119_35, e119_38, e119_39, e119_40, e119_43, e119_44, e119_45, e119_46, e119_47, e119_50, e119_51, e119_52, e119_55, e119_56, e119_57, e119_58, e119_61, e119_64, e119_65, e119_67, e119_68, e119_71, e119_72, e119_73, e119_76, e119_77, e119_78, e119_81, e119_82, e119_83, e119_86, e119_89, e119_92, e119_93, e119_96, e119_97, e119_98, e119_101, e119_102, e119_103, e119_106, e119_107, e119_108, e119_111, b1, if_false]
    exact hK _
  | succ d ih =>
    intro k hk
    have hk68 : k < 68 := by omega
    have b1 : (nI k < 68) = True := eq_true (nI_lt (a := k) (b := 68) hk68 (by decide))
    rw [e119_2]
    simp only [e119_0, e119_1, e119_3, e119_5, e119_8, e119_9, e119_12, e119_13, e119_14, e119_17, e119_18, e119_19, e119_20, e119_23, e119_27, e119_29, e119_31, e119_34, e119_35, e119_38, e119_39, e119_40, e119_43, e119_44, e119_45, e119_46, e119_47, e119_50, e119_51, e119_52, e119_55, e119_56, e119_57, e119_58, e119_61, e119_64, e119_65, e119_67, e119_68, e119_71, e119_72, e119_73, e119_76, e119_77, e119_78, e119_81, e119_82, e119_83, e119_86, e119_89, e119_92, e119_93, e119_96, e119_97, e119_98, e119_101, e119_102, e119_103, e119_106, e119_107, e119_108, e119_111, b1, if_true, g76_2, g76_3, g_iln an79 hk68 (by decide), g_isn an78 hk68 (by decide), cp_succ (show (79 : Nat) ≠ 78 by decide) (show k = 0 + k by omega) (show k = 0 + k by omega), nI_1]
    exact ih (k + 1) (by omega)
def beF (σ : z_G) (k : Nat) : z_G := cpF (cpF σ 81 0 80 0 k) 82 0 80 0 k
theorem l119b (K : Option z_O) (hK : ∀ l1, z_r [] 0 0 119 64 [some (.ref 76), l1] [] (z_enc (beF σ 16)) = K) : ∀ d k, d + k = 16 → z_r [] 0 0 119 28 [some (.ref 76), some (.int (nI k))] [] (z_enc (beF σ k)) = K := by
  intro d
  induction d with
  | zero =>
    intro k hk
    obtain rfl : k = 16 := by omega
    have b1 : (nI 16 < 16) = False := by decide
    rw [e119_28]
    simp only [e119_0, e119_1, e119_3, e119_5, e119_8, e119_9, e119_12, e119_13, e119_14, e119_17, e119_18, e119_19, e119_20, e119_23, e119_26, e119_27, e119_29, e119_31, e119_34, e119_35, e119_38, e119_39, e119_40, e119_43, e119_44, e119_45, e119_46, e119_47, e119_50, e119_51, e119_52, e119_55, e119_56, e119_57, e119_58, e119_61, e119_65, e119_67, e119_68, e119_71, e119_72, e119_73, e119_76, e119_77, e119_78, e119_81, e119_82, e119_83, e119_86, e119_89, e119_92, e119_93, e119_96, e119_97, e119_98, e119_101, e119_102, e119_103, e119_106, e119_107, e119_108, e119_111, b1, if_false]
    exact hK _
  | succ d ih =>
    intro k hk
    have hk16 : k < 16 := by omega
    have b1 : (nI k < 16) = True := eq_true (nI_lt (a := k) (b := 16) hk16 (by decide))
    have r1 : ∀ υ : z_G, (cpF (cpF υ 81 0 80 0 k) 82 0 80 0 k).1 80 k = (cpF υ 81 0 80 0 k).1 80 k := fun υ => cp_out (by decide)
    have u1 : z_ui (beF σ k) 81 k ((beF σ k).1 80 k) = cpF (cpF σ 81 0 80 0 (k + 1)) 82 0 80 0 k := by
      unfold beF
      rw [r1, cp_ui (by decide) (by decide), cp_succ (show (80 : Nat) ≠ 81 by decide) (show k = 0 + k by omega) (show k = 0 + k by omega)]
    have u2 : z_ui (cpF (cpF σ 81 0 80 0 (k + 1)) 82 0 80 0 k) 82 k ((cpF (cpF σ 81 0 80 0 (k + 1)) 82 0 80 0 k).1 80 k) = beF σ (k + 1) := by
      unfold beF
      rw [cp_succ (show (80 : Nat) ≠ 82 by decide) (show k = 0 + k by omega) (show k = 0 + k by omega)]
    rw [e119_28]
    simp only [e119_0, e119_1, e119_3, e119_5, e119_8, e119_9, e119_12, e119_13, e119_14, e119_17, e119_18, e119_19, e119_20, e119_23, e119_26, e119_27, e119_29, e119_31, e119_34, e119_35, e119_38, e119_39, e119_40, e119_43, e119_44, e119_45, e119_46, e119_47, e119_50, e119_51, e119_52, e119_55, e119_56, e119_57, e119_58, e119_61, e119_65, e119_67, e119_68, e119_71, e119_72, e119_73, e119_76, e119_77, e119_78, e119_81, e119_82, e119_83, e119_86, e119_89, e119_92, e119_93, e119_96, e119_97, e119_98, e119_101, e119_102, e119_103, e119_106, e119_107, e119_108, e119_111, b1, if_true, g76_5, g76_6, g76_4, g_iln an80 hk16 (by decide), g_isn an81 hk16 (by decide), u1, g_isn an82 hk16 (by decide), u2, nI_1]
    exact ih (k + 1) (by omega)
theorem kn_self (S : t_S) : knS S S.2.2.2.2.2 = S := rfl
theorem l119d {N : Nat} (hN : N ≤ 4) (sk : S_ok S) : ∀ d k (σ : z_G), d + k = N → σ.1 78 3 = nI N → R_at σ 82 0 N (knS S (knO S.2.1 k)) → ∃ τ l1, z_r [] 0 0 119 66 [some (.ref 76), some (.int (nI k))] [] (z_enc σ) = z_r [] 0 0 119 92 [some (.ref 76), l1] [] (z_enc τ) ∧ R_at τ 82 0 N (knS S (knO S.2.1 N)) ∧ z_sf (fun p _ => p ≠ 82) σ τ := by
  have i3 : ∀ (σ : z_G) (K : Int32 → Option z_O), z_il1 (z_enc σ) 78 3 K = K (σ.1 78 3) := fun σ K => g_iln (k := 3) an78 (by decide) (by decide)
  intro d
  induction d with
  | zero =>
    intro k σ hk h3 hR
    obtain rfl : k = N := by omega
    have b1 : (nI k < nI k) = False := eq_false (nI_nlt (by omega) (by omega))
    refine ⟨σ, some (.int (nI k)), ?_, hR, z_sf.rf⟩
    rw [e119_66]
    simp only [e119_0, e119_1, e119_3, e119_5, e119_8, e119_9, e119_12, e119_13, e119_14, e119_17, e119_18, e119_19, e119_20, e119_23, e119_26, e119_27, e119_29, e119_31, e119_34, e119_35, e119_38, e119_39, e119_40, e119_43, e119_44, e119_45, e119_46, e119_47, e119_50, e119_51, e119_52, e119_55, e119_56, e119_57, e119_58, e119_61, e119_64, e119_65, e119_67, e119_68, e119_71, e119_72, e119_73, e119_76, e119_77, e119_78, e119_81, e119_82, e119_83, e119_86, e119_89, e119_93, e119_96, e119_97, e119_98, e119_101, e119_102, e119_103, e119_106, e119_107, e119_108, e119_111, g76_2, i3, h3, b1, if_false]
  | succ d ih =>
    intro k σ hk h3 hR
    have hk4 : k < 4 := by omega
    have b1 : (nI k < nI N) = True := eq_true (nI_lt (by omega) (by omega))
    have rc : σ.1 82 k = nI (S.2.1 k) := r0_rc hR hk4
    obtain ⟨τ, e, hR2, hf⟩ := s142 hR hN (sk.2.1 k hk4)
    obtain ⟨υ, l1, e2, hR3, hf2⟩ := ih (k + 1) τ (by omega) (((hf 78 3 (by decide)).1).trans h3) hR2
    refine ⟨υ, l1, ?_, hR3, hf.tr hf2⟩
    rw [← e2, e119_66]
    simp only [e119_0, e119_1, e119_3, e119_5, e119_8, e119_9, e119_12, e119_13, e119_14, e119_17, e119_18, e119_19, e119_20, e119_23, e119_26, e119_27, e119_29, e119_31, e119_34, e119_35, e119_38, e119_39, e119_40, e119_43, e119_44, e119_45, e119_46, e119_47, e119_50, e119_51, e119_52, e119_55, e119_56, e119_57, e119_58, e119_61, e119_64, e119_65, e119_67, e119_68, e119_71, e119_72, e119_73, e119_76, e119_77, e119_78, e119_81, e119_82, e119_83, e119_86, e119_89, e119_93, e119_96, e119_97, e119_98, e119_101, e119_102, e119_103, e119_106, e119_107, e119_108, e119_111, g76_2, i3, h3, b1, if_true, g76_6, g_iln an82 (show k < 16 by omega) (by decide), rc, v76, e, z_bd_i, z_bd_l, z_bd_v, List.cons_append, List.nil_append, z_nk_i, z_nk_r, z_nk_n, v0, v1, v3, v19, v61, v71, v76, nI_1]
def Ql (p k : Nat) : Prop := p ≠ 78 ∧ p ≠ 79 ∧ p ≠ 80 ∧ p ≠ 81 ∧ p ≠ 82 ∧ ¬ (p = 76 ∧ (k = 0 ∨ k = 8 ∨ k = 10 ∨ k = 12 ∨ (14 ≤ k ∧ k ≤ 18)))
theorem s119 (hD : D9_at σ L) (hR : R_at σ 80 0 L.2.2.2.2.2 (knS S 0)) (hG : G_ok L S) : ∃ τ, z_call 119 [.ref 76] (z_enc σ) = some (none, z_enc τ) ∧ D_at τ L ∧ R_at τ 81 0 L.2.2.2.2.2 S ∧ τ.1 76 8 = 0 ∧ τ.1 76 10 = 0 ∧ τ.1 76 12 = 0 ∧ z_sf Ql σ τ := by
  obtain ⟨ok, sk, -, -, kn⟩ := hG
  have hN := ok.2.2.2.2
  have c1 : ∀ j, j < 68 → (cpF σ 78 0 79 0 68).1 78 j = σ.1 79 j := fun j hj => by
    have := cp_in (σ := σ) (p := 78) (o := 0) (q := 79) (r := 0) hj
    rwa [Nat.zero_add] at this
  have hD2 : D_at (cpF σ 78 0 79 0 68) L := by
    obtain ⟨a0, a1, a2, a3, a4⟩ := hD
    exact ⟨(c1 0 (by decide)).trans a0, (c1 1 (by decide)).trans a1, (c1 2 (by decide)).trans a2, (c1 3 (by decide)).trans a3, fun c hc => (c1 (4 + c) (by omega)).trans (a4 c hc)⟩
  have hR2 : R_at (cpF σ 78 0 79 0 68) 80 0 L.2.2.2.2.2 (knS S 0) := R_sf (Q := fun p _ => p = 80) hR (sf_cp (fun j _ _ q => by omega)) (fun _ _ => rfl) hN
  generalize hσ1 : cpF σ 78 0 79 0 68 = σ1 at *
  have f1 : z_sf (fun p _ => p ≠ 78) σ σ1 := by rw [← hσ1]; exact sf_cp (fun j _ _ q => q rfl)
  have hRc : R_at (cpF σ1 81 0 80 0 16) 80 0 L.2.2.2.2.2 (knS S 0) := R_sf (Q := fun p _ => p = 80) hR2 (sf_cp (fun j _ _ q => by omega)) (fun _ _ => rfl) hN
  have hR3 : R_at (beF σ1 16) 82 0 L.2.2.2.2.2 (knS S (knO S.2.1 0)) := R_cp hRc hN
  have f2 : z_sf (fun p _ => p ≠ 81 ∧ p ≠ 82) σ1 (beF σ1 16) := z_sf.tr (sf_cp (fun j _ _ q => q.1 rfl)) (sf_cp (fun j _ _ q => q.2 rfl))
  have hD3 : D_at (beF σ1 16) L := D_sf hD2 f2 (by simp)
  obtain ⟨τ, l1, e1, r1, f3⟩ := l119d hN sk L.2.2.2.2.2 0 (beF σ1 16) (by omega) hD3.2.2.2.1 hR3
  rw [← kn, kn_self] at r1
  have hD4 : D_at τ L := D_sf hD3 f3 (by simp)
  have f4 : z_sf (fun p _ => p ≠ 81) τ (cpF τ 81 0 82 0 16) := sf_cp (fun j _ _ q => q rfl)
  have f5 : z_sf (fun p _ => p ≠ 76) (cpF τ 81 0 82 0 16) (z_ui (z_ui (z_ui (cpF τ 81 0 82 0 16) 76 8 0) 76 10 0) 76 12 0) := (sf_ui (fun q => q rfl)).tr ((sf_ui (fun q => q rfl)).tr (sf_ui (fun q => q rfl)))
  refine ⟨z_ui (z_ui (z_ui (cpF τ 81 0 82 0 16) 76 8 0) 76 10 0) 76 12 0, ?_, ?_, ?_, ?_, ?_, z_ui_eq, ?_⟩
  · have b := l119b (σ := σ1) (some (none, z_enc (z_ui (z_ui (z_ui (cpF τ 81 0 82 0 16) 76 8 0) 76 10 0) 76 12 0))) (fun l1 => by
      have l0 : (0 : Int32) = nI 0 := rfl
      have e64 : ∀ l, z_r [] 0 0 119 64 [some (.ref 76), l] [] (z_enc (beF σ1 16)) = z_r [] 0 0 119 66 [some (.ref 76), some (.int (nI 0))] [] (z_enc (beF σ1 16)) := fun l => by
        rw [e119_64, e119_65]
        rfl
      rw [e64, e1]
      simp only [e119_0, e119_1, e119_3, e119_5, e119_8, e119_9, e119_12, e119_13, e119_14, e119_17, e119_18, e119_19, e119_20, e119_23, e119_26, e119_27, e119_29, e119_31, e119_34, e119_35, e119_38, e119_39, e119_40, e119_43, e119_44, e119_45, e119_46, e119_47, e119_50, e119_51, e119_52, e119_55, e119_56, e119_57, e119_58, e119_61, e119_64, e119_65, e119_67, e119_68, e119_71, e119_72, e119_73, e119_76, e119_77, e119_78, e119_81, e119_82, e119_83, e119_86, e119_89, e119_92, e119_93, e119_96, e119_97, e119_98, e119_101, e119_102, e119_103, e119_106, e119_107, e119_108, e119_111, v76, s141, z_bd_i, z_bd_l, z_bd_v, List.cons_append, List.nil_append, z_nk_i, z_nk_r, z_nk_n, v0, v1, v3, v19, v61, v71, v76, p76_8, p76_10, p76_12]) 16 0 rfl
    have a := l119a (σ := σ) (some (none, z_enc (z_ui (z_ui (z_ui (cpF τ 81 0 82 0 16) 76 8 0) 76 10 0) 76 12 0))) (fun l1 => by
      have e26 : ∀ l, z_r [] 0 0 119 26 [some (.ref 76), l] [] (z_enc σ1) = z_r [] 0 0 119 28 [some (.ref 76), some (.int (nI 0))] [] (z_enc σ1) := fun l => by
        rw [e119_26, e119_27]
        rfl
      have b0 : beF σ1 0 = σ1 := by unfold beF; rw [cp_0, cp_0]
      rw [b0] at b
      rw [hσ1, e26]
      exact b) 68 0 rfl
    rw [cp_0] at a
    have en : z_call 119 [.ref 76] (z_enc σ) = z_r [] 0 0 119 2 [some (.ref 76), some (.int (nI 0))] [] (z_enc σ) := by
      rw [en119, e119_0, e119_1]
      rfl
    rw [en]
    exact a
  · exact D_sf (D_sf hD4 f4 (by simp)) f5 (by simp)
  · exact R_sf (R_cp r1 hN) f5 (fun k _ => by decide) hN
  · rw [z_ui_ne (by omega), z_ui_ne (by omega), z_ui_eq]
  · rw [z_ui_ne (by omega), z_ui_eq]
  · refine (f1.mono (fun p k h => h.1)).tr ((f2.mono (fun p k h => ⟨h.2.2.2.1, h.2.2.2.2.1⟩)).tr ((f3.mono (fun p k h => h.2.2.2.2.1)).tr ((f4.mono (fun p k h => h.2.2.2.1)).tr ?_)))
    exact (sf_ui (fun h => h.2.2.2.2.2 ⟨rfl, by omega⟩)).tr ((sf_ui (fun h => h.2.2.2.2.2 ⟨rfl, by omega⟩)).tr (sf_ui (fun h => h.2.2.2.2.2 ⟨rfl, by omega⟩)))
theorem Ql_m : ∀ p k, Ql p k → Qm p k := fun p k h => by unfold Ql at h; unfold Qm; omega
theorem l131 : ∀ d (σ : z_G) (L : t_L) (S : t_S) it s, d + it = 121 → it ≤ s → s ≤ n → TM_at σ n txt → D9_at σ L → R_at σ 80 0 L.2.2.2.2.2 (knS S 0) → G_ok L S → σ.1 76 14 = nI s →
    match prF n txt d it L S s with
    | .inl f => ∃ τ, z_r [] 0 0 131 11 [some (.ref 76), some (.int (nI it))] [] (z_enc σ) = some (some (.int (-10 - nI f)), z_enc τ) ∧ z_sf Qm σ τ
    | .inr q => ∃ τ, z_r [] 0 0 131 11 [some (.ref 76), some (.int (nI it))] [] (z_enc σ) = some (some (.int (nI q.1)), z_enc τ) ∧ D_at τ q.2.1 ∧ R_at τ 81 0 q.2.1.2.2.2.2.2 q.2.2 ∧ τ.1 76 0 = 0 ∧ τ.1 76 8 = 0 ∧ τ.1 76 10 = 0 ∧ τ.1 76 12 = 0 ∧ z_sf Ql σ τ := by
  intro d
  induction d with
  | zero =>
    intro σ L S it s h1 h2 h3 hT
    have := hT.1
    omega
  | succ d ih =>
    intro σ L S it s h1 h2 h3 hT hD hR hG ha
    have hn := hT.1
    have hN := hG.1.2.2.2.2
    obtain ⟨τ, e, e2, e3, e4, -, hf⟩ := r122 hT h3 ha
    have hk := tk_k h3 (fun k hk => (hT.2.2 k hk).2)
    obtain ⟨t1, t2, t3, t4, -⟩ := tk_ok (txt := txt) h3
    have hT2 : TM_at τ n txt := TM_sf hT hf ⟨by unfold Qn; omega, fun k => by unfold Qn; omega⟩
    have hD2 : D9_at τ L := D9_sf hD hf (fun k => by unfold Qn; omega)
    have hR2 : R_at τ 80 0 L.2.2.2.2.2 (knS S 0) := R_sf hR hf (fun k _ => by unfold Qn; omega) hN
    have hfm : z_sf Qm σ τ := hf.mono Qm_n
    unfold prF
    by_cases q0 : (tkF n txt s).1 = 0
    · rw [if_pos q0]
      have zb : z_b (¬ (tkF n txt s).1 = 0 ∧ ¬ (tkF n txt s).1 = 2) = 0 := z_b_f (fun h => h.1 q0)
      rw [zb] at e
      have e3 : τ.1 76 15 = nI n := by rw [e3, (t3 q0).1]
      have b1 : (nI n < nI n) = False := eq_false (nI_nlt (by omega) (by omega))
      obtain ⟨υ, c1, c2, c3, c4, c5, c6, c7⟩ := s119 hD2 hR2 hG
      have f0 : z_sf (fun p k => ¬ (p = 76 ∧ k = 0)) υ (z_ui υ 76 0 0) := sf_ui (fun h => h ⟨rfl, rfl⟩)
      refine ⟨z_ui υ 76 0 0, ?_, D_sf c2 f0 (by simp), R_sf c3 f0 (fun k _ => by simp) hN, z_ui_eq, ?_, ?_, ?_, (hf.mono (fun p k h => by unfold Ql at h; unfold Qn; omega)).tr (c7.tr (f0.mono (fun p k h => by unfold Ql at h; omega)))⟩
      · rw [e131_11]
        simp only [e131_0, e131_1, e131_4, e131_5, e131_6, e131_9, e131_10, e131_12, e131_15, e131_18, e131_19, e131_20, e131_23, e131_26, e131_28, e131_29, e131_32, e131_33, e131_34, e131_37, e131_40, e131_41, e131_44, e131_45, e131_48, e131_51, e131_53, e131_54, e131_57, e131_58, e131_59, e131_60, e131_63, e131_64, e131_65, e131_68, e131_69, v76, e, z_bd_i, z_bd_l, z_bd_v, List.cons_append, List.nil_append, z_nk_i, z_nk_r, z_nk_n, v0, v1, v3, v19, v61, v71, v76, show ((1 : Int32) = 0) = False from by decide, show ((0 : Int32) = 0) = True from by decide, if_true, if_false, g76_15, e3, g76_0, hT2.2.1, b1, c1, p76_0]
      · rw [z_ui_ne (by omega)]; exact c4
      · rw [z_ui_ne (by omega)]; exact c5
      · rw [z_ui_ne (by omega)]; exact c6
    · rw [if_neg q0]
      have lt := t4 q0
      obtain ⟨u1, u2⟩ := t2 q0
      by_cases q2 : (tkF n txt s).1 = 2
      · have hm : ¬ mbF L (tkF n txt s).1 it = true := by rw [q2]; unfold mbF; simp
        rw [if_neg hm]
        have zb : z_b (¬ (tkF n txt s).1 = 0 ∧ ¬ (tkF n txt s).1 = 2) = 0 := z_b_f (fun h => h.2 q2)
        rw [zb] at e
        have b1 : (nI (tkF n txt s).2.2.1 < nI n) = True := eq_true (nI_lt lt (by omega))
        refine ⟨τ, ?_, hfm⟩
        rw [e131_11]
        simp only [e131_0, e131_1, e131_4, e131_5, e131_6, e131_9, e131_10, e131_12, e131_15, e131_18, e131_19, e131_20, e131_23, e131_26, e131_28, e131_29, e131_32, e131_33, e131_34, e131_37, e131_40, e131_41, e131_44, e131_45, e131_48, e131_51, e131_53, e131_54, e131_57, e131_58, e131_59, e131_60, e131_63, e131_64, e131_65, e131_68, e131_69, v76, e, z_bd_i, z_bd_l, z_bd_v, List.cons_append, List.nil_append, z_nk_i, z_nk_r, z_nk_n, v0, v1, v3, v19, v61, v71, v76, show ((1 : Int32) = 0) = False from by decide, show ((0 : Int32) = 0) = True from by decide, if_true, if_false, g76_15, e3, g76_0, hT2.2.1, b1]
      · have zb : z_b (¬ (tkF n txt s).1 = 0 ∧ ¬ (tkF n txt s).1 = 2) = 1 := z_b_t ⟨q0, q2⟩
        rw [zb] at e
        have a := r130 hT2 hD2 hR2 hG.1 hk (show it < 1000 by omega) u2 e2 e3 e4
        by_cases q1 : mbF L (tkF n txt s).1 it = true
        · rw [if_pos q1] at a ⊢
          obtain ⟨g1, g2, g3, g4, g5⟩ := mb_sg q1
          cases hI : itemF n txt L S ((tkF n txt s).1 - 3) (tkF n txt s).2.2.2 with
          | inl f =>
            rw [hI] at a
            obtain ⟨υ, c1, c2, c3⟩ := a
            refine ⟨υ, ?_, hfm.tr c3⟩
            rw [e131_11]
            simp only [e131_0, e131_1, e131_4, e131_5, e131_6, e131_9, e131_10, e131_12, e131_15, e131_18, e131_19, e131_20, e131_23, e131_26, e131_28, e131_29, e131_32, e131_33, e131_34, e131_37, e131_40, e131_41, e131_44, e131_45, e131_48, e131_51, e131_53, e131_54, e131_57, e131_58, e131_59, e131_60, e131_63, e131_64, e131_65, e131_68, e131_69, v76, e, z_bd_i, z_bd_l, z_bd_v, List.cons_append, List.nil_append, z_nk_i, z_nk_r, z_nk_n, v0, v1, v3, v19, v61, v71, v76, show ((1 : Int32) = 0) = False from by decide, show ((0 : Int32) = 0) = True from by decide, if_true, if_false, c1, g76_15, c2]
          | inr q =>
            rw [hI] at a
            obtain ⟨υ, c1, c2, c3, c4, c5⟩ := a
            obtain ⟨k1, k2, k3⟩ := item_ok hG g1 g2 g3 u2 hI
            have hT3 : TM_at υ n txt := TM_sf hT2 c5 ⟨by unfold Qm; omega, fun k => by unfold Qm; omega⟩
            have r := ih υ q.2.1 q.2.2 (it + 1) q.1 (by omega) (by omega) k3 hT3 c3 c4 k1 c2
            have adv : z_r [] 0 0 131 11 [some (.ref 76), some (.int (nI it))] [] (z_enc σ) = z_r [] 0 0 131 11 [some (.ref 76), some (.int (nI (it + 1)))] [] (z_enc υ) := by
              rw [e131_11]
              simp only [e131_0, e131_1, e131_4, e131_5, e131_6, e131_9, e131_10, e131_12, e131_15, e131_18, e131_19, e131_20, e131_23, e131_26, e131_28, e131_29, e131_32, e131_33, e131_34, e131_37, e131_40, e131_41, e131_44, e131_45, e131_48, e131_51, e131_53, e131_54, e131_57, e131_58, e131_59, e131_60, e131_63, e131_64, e131_65, e131_68, e131_69, v76, e, z_bd_i, z_bd_l, z_bd_v, List.cons_append, List.nil_append, z_nk_i, z_nk_r, z_nk_n, v0, v1, v3, v19, v61, v71, v76, show ((1 : Int32) = 0) = False from by decide, show ((0 : Int32) = 0) = True from by decide, if_true, if_false, c1, nI_1]
            rw [adv]
            dsimp only
            cases hP : prF n txt d (it + 1) q.2.1 q.2.2 q.1 with
            | inl f =>
              rw [hP] at r
              obtain ⟨ω, r1, r2⟩ := r
              exact ⟨ω, r1, (hfm.tr c5).tr r2⟩
            | inr q3 =>
              rw [hP] at r
              obtain ⟨ω, r1, r2, r3, r4, r5, r6, r7, r8⟩ := r
              exact ⟨ω, r1, r2, r3, r4, r5, r6, r7, ((hfm.tr c5).mono Ql_m).tr r8⟩
        · rw [if_neg q1] at a ⊢
          obtain ⟨υ, c1, c2, c3⟩ := a
          refine ⟨υ, ?_, hfm.tr c3⟩
          rw [e131_11]
          simp only [e131_0, e131_1, e131_4, e131_5, e131_6, e131_9, e131_10, e131_12, e131_15, e131_18, e131_19, e131_20, e131_23, e131_26, e131_28, e131_29, e131_32, e131_33, e131_34, e131_37, e131_40, e131_41, e131_44, e131_45, e131_48, e131_51, e131_53, e131_54, e131_57, e131_58, e131_59, e131_60, e131_63, e131_64, e131_65, e131_68, e131_69, v76, e, z_bd_i, z_bd_l, z_bd_v, List.cons_append, List.nil_append, z_nk_i, z_nk_r, z_nk_n, v0, v1, v3, v19, v61, v71, v76, show ((1 : Int32) = 0) = False from by decide, show ((0 : Int32) = 0) = True from by decide, if_true, if_false, c1, g76_15, c2]
theorem s131 (hT : TM_at σ n txt) : match landF n txt with
    | .inl f => ∃ τ, z_call 131 [.ref 76] (z_enc σ) = some (some (.int (-10 - nI f)), z_enc τ) ∧ z_sf Qm σ τ
    | .inr q => ∃ τ, z_call 131 [.ref 76] (z_enc σ) = some (some (.int (nI q.1)), z_enc τ) ∧ D_at τ q.2.1 ∧ R_at τ 81 0 q.2.1.2.2.2.2.2 q.2.2 ∧ τ.1 76 0 = 0 ∧ τ.1 76 8 = 0 ∧ τ.1 76 10 = 0 ∧ τ.1 76 12 = 0 ∧ z_sf Ql σ τ := by
  have f1 : z_sf Qm σ (z_ui (emF σ) 76 14 0) := em_sf.tr (sf_ui (fun h => h.2.2 ⟨rfl, by omega, by omega⟩))
  have f0 : z_sf (fun p _ => p ≠ 76) (emF σ) (z_ui (emF σ) 76 14 0) := sf_ui (fun h => h rfl)
  have hT2 : TM_at (z_ui (emF σ) 76 14 0) n txt := TM_sf hT f1 ⟨by unfold Qm; omega, fun k => by unfold Qm; omega⟩
  have r := l131 (n := n) (txt := txt) 121 (z_ui (emF σ) 76 14 0) L_0 S_0 0 0 (by omega) (by omega) (by omega) hT2 (D9_sf em_D f0 (by simp)) (R_sf em_R f0 (fun k _ => by simp) (by decide)) G_0 z_ui_eq
  have en : z_call 131 [.ref 76] (z_enc σ) = z_r [] 0 0 131 11 [some (.ref 76), some (.int (nI 0))] [] (z_enc (z_ui (emF σ) 76 14 0)) := by
    simp only [en131, e131_0, e131_1, e131_4, e131_5, e131_6, e131_9, e131_10, e131_12, e131_15, e131_18, e131_19, e131_20, e131_23, e131_26, e131_28, e131_29, e131_32, e131_33, e131_34, e131_37, e131_40, e131_41, e131_44, e131_45, e131_48, e131_51, e131_53, e131_54, e131_57, e131_58, e131_59, e131_60, e131_63, e131_64, e131_65, e131_68, e131_69, v76, s118, z_bd_i, z_bd_l, z_bd_v, List.cons_append, List.nil_append, z_nk_i, z_nk_r, z_nk_n, v0, v1, v3, v19, v61, v71, v76, p76_14]
    rfl
  rw [en]
  unfold landF
  cases hP : prF n txt 121 0 L_0 S_0 0 with
  | inl f =>
    rw [hP] at r
    obtain ⟨ω, r1, r2⟩ := r
    exact ⟨ω, r1, f1.tr r2⟩
  | inr q3 =>
    rw [hP] at r
    obtain ⟨ω, r1, r2, r3, r4, r5, r6, r7, r8⟩ := r
    exact ⟨ω, r1, r2, r3, r4, r5, r6, r7, (f1.mono Ql_m).tr r8⟩
end MLAND
