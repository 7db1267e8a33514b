/-! BackMarch: at which step to look -/
theorem an75 : z_an 75 = 84 := by decide +kernel
def K_at (σ : z_G) (L : t_L) (S : t_S) (g set m0 n0 : Nat) : Prop := ∀ m n, (m < m0 ∨ (m = m0 ∧ n < n0)) → m < 4 → n < 21 → set.testBit m = true → σ.1 75 (21 * m + n) = nI (tn (posF L S g m n))
/-- all but the march that is foretold and the tracks -/
def P75 (p : Nat) : Prop := p < 15 ∨ (19 ≤ p ∧ p ≠ 75)
section LOOK
variable {σ : z_G} {L : t_L} {S : t_S} {wn : Nat} {w : Nat → Nat × Nat × Nat}
theorem s104 (m n : Nat) (ph : z_H) : z_call 104 [.int (nI m), .int (nI n)] ph = some (some (.int (nI (21 * m + n))), ph) := by
  simp only [en104, e104_0, e104_1, e104_3, e104_4, e104_5, e104_6]
  rw [show (21 : Int32) = nI 21 from rfl, pk_mul, nI_add, Nat.mul_comm]
theorem l105i (ok : L_ok L) (sk : S_ok S) {g set m : Nat} (hg : g < 4) (hm : m < 4) (hset : set < 16) (hb : set.testBit m = true)
    (K : ∀ (l4 : Option Value) (σ : z_G), L_at σ 10 L → M_at σ 11 S → K_at σ L S g set (m + 1) 0 → ∃ τ, z_r [] 0 0 105 2 [some (.ref 0), some (.int (nI g)), some (.int (nI set)), some (.int (nI (m + 1))), l4] [] (z_enc σ) = some (none, z_enc τ) ∧ z_sm P75 σ τ ∧ K_at τ L S g set 4 0) :
    ∀ d n (σ : z_G), d + n = 21 → L_at σ 10 L → M_at σ 11 S → M_at σ 15 (stepsF L (miS S g m) n) → K_at σ L S g set m n →
    ∃ τ, z_r [] 0 0 105 39 [some (.ref 0), some (.int (nI g)), some (.int (nI set)), some (.int (nI m)), some (.int (nI n))] [] (z_enc σ) = some (none, z_enc τ) ∧ z_sm P75 σ τ ∧ K_at τ L S g set 4 0 := by
  have skm := mi_ok sk (g := g) (m := m) (Or.inl hm)
  intro d
  induction d with
  | zero =>
    intro n σ hd hL hS h15 hK
    have b1 : ((20 : Int32) < nI n) = True := eq_true (nI_lt (a := 20) (b := n) (by omega) (by omega))
    obtain ⟨τ, e, f⟩ := K (some (.int (nI n))) σ hL hS (fun a b h1 h2 h3 h4 => hK a b (by omega) h2 h3 h4)
    refine ⟨τ, ?_, f⟩
    rw [e105_39]
    simp only [e105_0, e105_1, e105_3, e105_4, e105_7, e105_8, e105_9, e105_12, e105_13, e105_16, e105_17, e105_20, e105_21, e105_24, e105_27, e105_28, e105_31, e105_32, e105_33, e105_36, e105_37, e105_41, e105_43, e105_46, e105_47, e105_50, e105_51, e105_53, e105_56, e105_57, e105_60, e105_61, e105_64, e105_67, e105_68, e105_71, e105_74, e105_75, e105_78, e105_81, e105_84, e105_87, b1, if_true, nI_1]
    exact e
  | succ d ih =>
    intro n σ hd hL hS h15 hK
    have b1 : ((20 : Int32) < nI n) = False := eq_false (nI_nlt (a := 20) (b := n) (by omega) (by decide))
    have sk2 := steps_ok ok skm n
    have hat15 : M_at (z_ui σ 75 (21 * m + n) (nI (tn ((stepsF L (miS S g m) n).2.1 g)))) 15 (stepsF L (miS S g m) n) := M_at_ui h15 (by decide)
    have hL15 : L_at (z_ui σ 75 (21 * m + n) (nI (tn ((stepsF L (miS S g m) n).2.1 g)))) (z_rf 15 0) L := by
      rw [rf_15]
      exact L_at_sm (P := fun p => p ≠ 75) hL (sm_ui (fun p h => h)) (by decide)
    obtain ⟨τ, e, f, f2⟩ := ih (n + 1) (M_set (z_ui σ 75 (21 * m + n) (nI (tn ((stepsF L (miS S g m) n).2.1 g)))) 15 (stepF L (stepsF L (miS S g m) n))) (by omega)
      (L_at_ne (Or.inr (by decide)) (L_at_sm (P := fun p => p ≠ 75) hL (sm_ui (fun p h => h)) (by decide))) (M_at_ne ap15 (M_at_ui hS (by decide))) (M_at_set _ _ _)
      (fun a b h1 h2 h3 h4 => by
        rw [M_set_out (by unfold M_in; omega)]
        by_cases q : a = m ∧ b = n
        · obtain ⟨rfl, rfl⟩ := q
          rw [z_ui_eq]
          rfl
        · rw [z_ui_ne (by omega)]
          exact hK a b (by omega) h2 h3 h4)
    refine ⟨τ, ?_, z_sm.tr (z_sm.tr (sm_ui (fun p h => by unfold P75 at h; omega)) (sm_M (fun p h => by unfold P75 at h; omega))) f, f2⟩
    rw [e105_39]
    simp (disch := omega) only [e105_0, e105_1, e105_3, e105_4, e105_7, e105_8, e105_9, e105_12, e105_13, e105_16, e105_17, e105_20, e105_21, e105_24, e105_27, e105_28, e105_31, e105_32, e105_33, e105_36, e105_37, e105_41, e105_43, e105_46, e105_47, e105_50, e105_51, e105_53, e105_56, e105_57, e105_60, e105_61, e105_64, e105_67, e105_68, e105_71, e105_74, e105_75, e105_78, e105_81, e105_84, e105_87, b1, if_false, g0_8, s104, z_bd_i, z_bd_l, z_bd_v, List.cons_append, List.nil_append, z_nk_i, z_nk_r, z_nk_n, v0, v1, v3, v19, v61, v71, v76, g0_4, vM isM_15, s23 isM_15 h15 hg, s96 an75, s36 isM_15 hL15 d15 hat15 ok sk2, nI_1]
    exact e
theorem l105 (ok : L_ok L) (sk : S_ok S) {g set : Nat} (hg : g < 4) (hset : set < 16) : ∀ d m (l4 : Option Value) (σ : z_G), d + m = 4 → L_at σ 10 L → M_at σ 11 S → K_at σ L S g set m 0 →
    ∃ τ, z_r [] 0 0 105 2 [some (.ref 0), some (.int (nI g)), some (.int (nI set)), some (.int (nI m)), l4] [] (z_enc σ) = some (none, z_enc τ) ∧ z_sm P75 σ τ ∧ K_at τ L S g set 4 0 := by
  intro d
  induction d with
  | zero =>
    intro m l4 σ hd hL hS hK
    have b1 : (nI m < 4) = False := eq_false (nI_nlt (a := m) (b := 4) (by omega) (by omega))
    have e : m = 4 := by omega
    subst e
    refine ⟨σ, ?_, z_sm.rf, hK⟩
    rw [e105_2]
    simp only [e105_0, e105_1, e105_3, e105_4, e105_7, e105_8, e105_9, e105_12, e105_13, e105_16, e105_17, e105_20, e105_21, e105_24, e105_27, e105_28, e105_31, e105_32, e105_33, e105_36, e105_37, e105_41, e105_43, e105_46, e105_47, e105_50, e105_51, e105_53, e105_56, e105_57, e105_60, e105_61, e105_64, e105_67, e105_68, e105_71, e105_74, e105_75, e105_78, e105_81, e105_84, e105_87, b1, if_false]
  | succ d ih =>
    intro m l4 σ hd hL hS hK
    have hm : m < 4 := by omega
    have b1 : (nI m < 4) = True := eq_true (nI_lt (a := m) (b := 4) hm (by decide))
    by_cases q : set.testBit m = true
    · obtain ⟨τ, e, f, f2⟩ := l105i ok sk hg hm hset q (fun l4 σ a b c => ih (m + 1) l4 σ (by omega) a b c) 21 0 (M_set σ 15 (miS S g m)) rfl (L_at_ne (Or.inr (by decide)) hL) (M_at_ne ap15 hS) (M_at_set _ _ _) (fun a b h1 h2 h3 h4 => by
        rw [M_set_out (by unfold M_in; omega)]
        exact hK a b h1 h2 h3 h4)
      refine ⟨τ, ?_, z_sm.tr (sm_M (fun p h => by unfold P75 at h; omega)) f, f2⟩
      rw [e105_2]
      simp only [e105_0, e105_1, e105_3, e105_4, e105_7, e105_8, e105_9, e105_12, e105_13, e105_16, e105_17, e105_20, e105_21, e105_24, e105_27, e105_28, e105_31, e105_32, e105_33, e105_36, e105_37, e105_41, e105_43, e105_46, e105_47, e105_50, e105_51, e105_53, e105_56, e105_57, e105_60, e105_61, e105_64, e105_67, e105_68, e105_71, e105_74, e105_75, e105_78, e105_81, e105_84, e105_87, b1, if_true, s91, bit4 _ hset m hm, z_bd_i, z_bd_l, z_bd_v, List.cons_append, List.nil_append, z_nk_i, z_nk_r, z_nk_n, v0, v1, v3, v19, v61, v71, v76, z_b_1, eq_true q, g0_3, g0_4, vM isM_15, s21 isM_15 isM_11 ap15 hS, s26 isM_15 (M_at_set σ 15 S) hg, M_set_set]
      exact e
    · obtain ⟨τ, e, f⟩ := ih (m + 1) l4 σ (by omega) hL hS (fun a b h1 h2 h3 h4 => by
        by_cases e : a = m
        · subst e; exact absurd h4 q
        · exact hK a b (by omega) h2 h3 h4)
      refine ⟨τ, ?_, f⟩
      rw [e105_2]
      simp only [e105_0, e105_1, e105_3, e105_4, e105_7, e105_8, e105_9, e105_12, e105_13, e105_16, e105_17, e105_20, e105_21, e105_24, e105_27, e105_28, e105_31, e105_32, e105_33, e105_36, e105_37, e105_41, e105_43, e105_46, e105_47, e105_50, e105_51, e105_53, e105_56, e105_57, e105_60, e105_61, e105_64, e105_67, e105_68, e105_71, e105_74, e105_75, e105_78, e105_81, e105_84, e105_87, b1, if_true, s91, bit4 _ hset m hm, z_bd_i, z_bd_l, z_bd_v, List.cons_append, List.nil_append, z_nk_i, z_nk_r, z_nk_n, v0, v1, v3, v19, v61, v71, v76, z_b_1, eq_false q, if_false, nI_1]
      exact e
theorem l107 {g set n c : Nat} (ok : L_ok L) (sk : S_ok S) (hg : g < 4) (hset : set < 16) (hn : n < 21) (hc : c < 64) (hK : K_at σ L S g set 4 0) : ∀ d m, d + m = 4 →
    z_r [] 0 0 107 6 [some (.ref 0), some (.int (nI set)), some (.int (nI n)), some (.int (nI (tn c))), some (.int (nI (ctF set (fun m => posF L S g m n) c m))), some (.int (nI m))] [] (z_enc σ) = some (some (.int (nI (ctF set (fun m => posF L S g m n) c 4))), z_enc σ) := by
  intro d
  induction d with
  | zero =>
    intro m hd
    have b1 : (nI m < 4) = False := eq_false (nI_nlt (a := m) (b := 4) (by omega) (by omega))
    have e : m = 4 := by omega
    subst e
    rw [e107_6]
    simp only [e107_0, e107_1, e107_3, e107_4, e107_8, e107_9, e107_12, e107_13, e107_15, e107_18, e107_19, e107_22, e107_23, e107_26, e107_28, e107_29, e107_32, e107_35, e107_36, e107_39, e107_42, e107_45, e107_48, e107_50, b1, if_false]
  | succ d ih =>
    intro m hd
    have hm : m < 4 := by omega
    have b1 : (nI m < 4) = True := eq_true (nI_lt (a := m) (b := 4) hm (by decide))
    have e := ih (m + 1) (by omega)
    rw [ctF] at e
    rw [e107_6]
    by_cases q : set.testBit m = true
    · have hr : posF L S g m n < 64 := (steps_ok ok (mi_ok sk (g := g) (m := m) (Or.inl hm)) n).2.1 g hg
      have hk := hK m n (Or.inl hm) hm hn q
      simp (disch := omega) only [e107_0, e107_1, e107_3, e107_4, e107_8, e107_9, e107_12, e107_13, e107_15, e107_18, e107_19, e107_22, e107_23, e107_26, e107_28, e107_29, e107_32, e107_35, e107_36, e107_39, e107_42, e107_45, e107_48, e107_50, b1, if_true, s91, bit4 _ hset m hm, z_bd_i, z_bd_l, z_bd_v, List.cons_append, List.nil_append, z_nk_i, z_nk_r, z_nk_n, v0, v1, v3, v19, v61, v71, v76, z_b_1, eq_true q, g0_8, s104, s95 an75, hk, tn_eq hr hc, nI_1]
      by_cases q2 : posF L S g m n = c
      · simp only [eq_true q2, eq_true q, and_self, if_true] at e ⊢
        exact e
      · simp only [eq_false q2, and_false, if_false] at e ⊢
        exact e
    · simp only [eq_false q, false_and, if_false] at e
      simp only [e107_0, e107_1, e107_3, e107_4, e107_8, e107_9, e107_12, e107_13, e107_15, e107_18, e107_19, e107_22, e107_23, e107_26, e107_28, e107_29, e107_32, e107_35, e107_36, e107_39, e107_42, e107_45, e107_48, e107_50, b1, if_true, s91, bit4 _ hset m hm, z_bd_i, z_bd_l, z_bd_v, List.cons_append, List.nil_append, z_nk_i, z_nk_r, z_nk_n, v0, v1, v3, v19, v61, v71, v76, z_b_1, eq_false q, if_false, nI_1]
      exact e
theorem s107 {g set n c : Nat} (ok : L_ok L) (sk : S_ok S) (hg : g < 4) (hset : set < 16) (hn : n < 21) (hc : c < 64) (hK : K_at σ L S g set 4 0) : z_call 107 [.ref 0, .int (nI set), .int (nI n), .int (nI (tn c))] (z_enc σ) = some (some (.int (nI (ctF set (fun m => posF L S g m n) c 4))), z_enc σ) := by
  have e := l107 ok sk hg hset hn hc hK 4 0 rfl
  rw [ctF] at e
  simp only [en107, e107_0, e107_1, e107_3, e107_4, e107_8, e107_9, e107_12, e107_13, e107_15, e107_18, e107_19, e107_22, e107_23, e107_26, e107_28, e107_29, e107_32, e107_35, e107_36, e107_39, e107_42, e107_45, e107_48, e107_50]
  exact e
theorem l106 {g set n : Nat} (ok : L_ok L) (sk : S_ok S) (hg : g < 4) (hset : set < 16) (hn : n < 21) (hK : K_at σ L S g set 4 0) : ∀ d m, d + m = 4 →
    z_r [] 0 0 106 5 [some (.ref 0), some (.int (nI set)), some (.int (nI n)), some (.int (nI (gcF set (fun m => posF L S g m n) m))), some (.int (nI m))] [] (z_enc σ) = some (some (.int (nI (cwF L S g set n))), z_enc σ) := by
  intro d
  induction d with
  | zero =>
    intro m hd
    have b1 : (nI m < 4) = False := eq_false (nI_nlt (a := m) (b := 4) (by omega) (by omega))
    have e : m = 4 := by omega
    subst e
    rw [e106_5]
    simp only [e106_0, e106_1, e106_2, e106_3, e106_7, e106_8, e106_11, e106_12, e106_14, e106_17, e106_18, e106_21, e106_22, e106_23, e106_24, e106_25, e106_26, e106_29, e106_31, e106_32, e106_35, e106_38, e106_41, e106_44, e106_45, e106_48, e106_51, e106_52, b1, if_false, cwF]
  | succ d ih =>
    intro m hd
    have hm : m < 4 := by omega
    have b1 : (nI m < 4) = True := eq_true (nI_lt (a := m) (b := 4) hm (by decide))
    have e := ih (m + 1) (by omega)
    rw [gcF] at e
    rw [e106_5]
    by_cases q : set.testBit m = true
    · have hr : posF L S g m n < 64 := (steps_ok ok (mi_ok sk (g := g) (m := m) (Or.inl hm)) n).2.1 g hg
      have hk := hK m n (Or.inl hm) hm hn q
      have h1 := gc_le set (fun m => posF L S g m n) m
      have h2 := ct_le set (fun m => posF L S g m n) (posF L S g m n) 4
      have e3 : (nI (gcF set (fun m => posF L S g m n) m) < nI (ctF set (fun m => posF L S g m n) (posF L S g m n) 4)) = (gcF set (fun m => posF L S g m n) m < ctF set (fun m => posF L S g m n) (posF L S g m n) 4) := propext (nI_ltI (by omega) (by omega))
      simp (disch := omega) only [e106_0, e106_1, e106_2, e106_3, e106_7, e106_8, e106_11, e106_12, e106_14, e106_17, e106_18, e106_21, e106_22, e106_23, e106_24, e106_25, e106_26, e106_29, e106_31, e106_32, e106_35, e106_38, e106_41, e106_44, e106_45, e106_48, e106_51, e106_52, b1, if_true, s91, bit4 _ hset m hm, z_bd_i, z_bd_l, z_bd_v, List.cons_append, List.nil_append, z_nk_i, z_nk_r, z_nk_n, v0, v1, v3, v19, v61, v71, v76, z_b_1, eq_true q, g0_8, s104, s95 an75, hk, s107 ok sk hg hset hn hr hK, nI_1, e3]
      by_cases q2 : gcF set (fun m => posF L S g m n) m < ctF set (fun m => posF L S g m n) (posF L S g m n) 4
      · simp only [eq_true q2, eq_true q, if_true] at e ⊢
        exact e
      · simp only [eq_false q2, eq_true q, if_true, if_false] at e ⊢
        exact e
    · simp only [eq_false q, if_false] at e
      simp only [e106_0, e106_1, e106_2, e106_3, e106_7, e106_8, e106_11, e106_12, e106_14, e106_17, e106_18, e106_21, e106_22, e106_23, e106_24, e106_25, e106_26, e106_29, e106_31, e106_32, e106_35, e106_38, e106_41, e106_44, e106_45, e106_48, e106_51, e106_52, b1, if_true, s91, bit4 _ hset m hm, z_bd_i, z_bd_l, z_bd_v, List.cons_append, List.nil_append, z_nk_i, z_nk_r, z_nk_n, v0, v1, v3, v19, v61, v71, v76, z_b_1, eq_false q, if_false, nI_1]
      exact e
theorem s106 {g set n : Nat} (ok : L_ok L) (sk : S_ok S) (hg : g < 4) (hset : set < 16) (hn : n < 21) (hK : K_at σ L S g set 4 0) : z_call 106 [.ref 0, .int (nI set), .int (nI n)] (z_enc σ) = some (some (.int (nI (cwF L S g set n))), z_enc σ) := by
  have e := l106 ok sk hg hset hn hK 4 0 rfl
  rw [gcF] at e
  simp only [en106, e106_0, e106_1, e106_2, e106_3, e106_7, e106_8, e106_11, e106_12, e106_14, e106_17, e106_18, e106_21, e106_22, e106_23, e106_24, e106_25, e106_26, e106_29, e106_31, e106_32, e106_35, e106_38, e106_41, e106_44, e106_45, e106_48, e106_51, e106_52]
  exact e
theorem cw_le (L : t_L) (S : t_S) (g set n : Nat) : cwF L S g set n ≤ 4 := gc_le _ _ _
theorem l81 {g set : Nat} (ok : L_ok L) (sk : S_ok S) (hg : g < 4) (hset : set < 16) (hK : K_at σ L S g set 4 0) : ∀ d n best, d + n = 21 → best < 21 →
    z_r [] 0 0 81 38 [some (.ref 0), some (.int (nI g)), some (.int (nI set)), some (.int (nI best)), some (.int (nI n))] [] (z_enc σ) = some (some (.int (nI (lkF (cwF L S g set) d n best))), z_enc σ) := by
  intro d
  induction d with
  | zero =>
    intro n best hd hb
    have b1 : ((20 : Int32) < nI n) = True := eq_true (nI_lt (a := 20) (b := n) (by omega) (by omega))
    rw [e81_38]
    simp only [e81_0, e81_1, e81_2, e81_5, e81_8, e81_9, e81_10, e81_11, e81_12, e81_15, e81_16, e81_17, e81_20, e81_21, e81_24, e81_26, e81_27, e81_28, e81_29, e81_30, e81_33, e81_34, e81_35, e81_36, e81_40, e81_42, e81_45, e81_46, e81_47, e81_49, e81_52, e81_53, e81_54, e81_55, e81_58, e81_61, e81_63, e81_64, e81_67, e81_70, e81_71, b1, if_true, lkF]
  | succ d ih =>
    intro n best hd hb
    have b1 : ((20 : Int32) < nI n) = False := eq_false (nI_nlt (a := 20) (b := n) (by omega) (by decide))
    have h1 := cw_le L S g set n
    have h2 := cw_le L S g set best
    have e3 : (nI (cwF L S g set n) < nI (cwF L S g set best)) = (cwF L S g set n < cwF L S g set best) := propext (nI_ltI (by omega) (by omega))
    rw [lkF]
    rw [e81_38]
    simp only [e81_0, e81_1, e81_2, e81_5, e81_8, e81_9, e81_10, e81_11, e81_12, e81_15, e81_16, e81_17, e81_20, e81_21, e81_24, e81_26, e81_27, e81_28, e81_29, e81_30, e81_33, e81_34, e81_35, e81_36, e81_40, e81_42, e81_45, e81_46, e81_47, e81_49, e81_52, e81_53, e81_54, e81_55, e81_58, e81_61, e81_63, e81_64, e81_67, e81_70, e81_71, b1, if_false, z_bd_i, z_bd_l, z_bd_v, List.cons_append, List.nil_append, z_nk_i, z_nk_r, z_nk_n, v0, v1, v3, v19, v61, v71, v76, s106 ok sk hg hset (show n < 21 by omega) hK, s106 ok sk hg hset hb hK, e3, nI_1]
    by_cases q : cwF L S g set n < cwF L S g set best
    · simp only [eq_true q, if_true]
      exact ih (n + 1) n (by omega) (by omega)
    · simp only [eq_false q, if_false]
      exact ih (n + 1) best (by omega) hb
theorem s81 (hL : L_at σ 10 L) (hS : M_at σ 11 S) (hw : W_at σ wn w) (ok : L_ok L) (sk : S_ok S) {g : Nat} (hg : g < L.2.2.2.2.2) : ∃ τ, z_call 81 [.ref 0, .int (nI g)] (z_enc σ) = some (some (.int (lookR L S wn w g)), z_enc τ) ∧ z_sm P75 σ τ := by
  have hg4 : g < 4 := by have := ok.2.2.2.2; omega
  have b1 : (¬ nI g < 0 ∧ nI g < nI L.2.2.2.2.2) = True := eq_true (inN_nI hg (by have := ok.2.2.2.2; omega))
  have hset : faceF L S wn w g L.2.2.2.2.1 < 16 := Nat.lt_of_lt_of_le (face_lt L S wn w g _) (Nat.pow_le_pow_right (by decide) ok.2.2.2.1)
  have h4 := ones_le (faceF L S wn w g L.2.2.2.2.1)
  have e2 : (nI (ones4 (faceF L S wn w g L.2.2.2.2.1)) < 2) = (ones4 (faceF L S wn w g L.2.2.2.2.1) < 2) := propext (nI_ltI (b := 2) (by omega) (by decide))
  obtain ⟨τ, e, f⟩ := s102 hL hS hw ok sk hg4
  have f75 : z_sm P75 σ τ := f.mono (fun p hp => by unfold P75 at hp; unfold P15; omega)
  unfold lookR
  by_cases q : ones4 (faceF L S wn w g L.2.2.2.2.1) < 2
  · refine ⟨τ, ?_, f75⟩
    simp only [en81, e81_0, e81_1, e81_2, e81_5, e81_8, e81_9, e81_10, e81_11, e81_12, e81_15, e81_16, e81_17, e81_20, e81_21, e81_24, e81_26, e81_27, e81_28, e81_29, e81_30, e81_33, e81_34, e81_35, e81_36, e81_40, e81_42, e81_45, e81_46, e81_47, e81_49, e81_52, e81_53, e81_54, e81_55, e81_58, e81_61, e81_63, e81_64, e81_67, e81_70, e81_71, s88 hL, z_bd_i, z_bd_l, z_bd_v, List.cons_append, List.nil_append, z_nk_i, z_nk_r, z_nk_n, v0, v1, v3, v19, v61, v71, v76, z_b_0, b1, not_true, if_false, e, ones_ok _ hset, e2, eq_true q, if_true]
  · obtain ⟨τ2, e3, f3, f4⟩ := l105 ok sk hg4 hset 4 0 none τ rfl (L_at_sm hL f (by unfold P15; decide)) (M_at_sm hS f (by unfold P15; decide)) (fun a b h1 => by omega)
    refine ⟨τ2, ?_, f75.tr f3⟩
    have e4 : z_call 105 [.ref 0, .int (nI g), .int (nI (faceF L S wn w g L.2.2.2.2.1))] (z_enc τ) = some (none, z_enc τ2) := by
      simp only [en105, e105_0, e105_1, e105_3, e105_4, e105_7, e105_8, e105_9, e105_12, e105_13, e105_16, e105_17, e105_20, e105_21, e105_24, e105_27, e105_28, e105_31, e105_32, e105_33, e105_36, e105_37, e105_41, e105_43, e105_46, e105_47, e105_50, e105_51, e105_53, e105_56, e105_57, e105_60, e105_61, e105_64, e105_67, e105_68, e105_71, e105_74, e105_75, e105_78, e105_81, e105_84, e105_87]
      exact e3
    simp only [en81, e81_0, e81_1, e81_2, e81_5, e81_8, e81_9, e81_10, e81_11, e81_12, e81_15, e81_16, e81_17, e81_20, e81_21, e81_24, e81_26, e81_27, e81_28, e81_29, e81_30, e81_33, e81_34, e81_35, e81_36, e81_40, e81_42, e81_45, e81_46, e81_47, e81_49, e81_52, e81_53, e81_54, e81_55, e81_58, e81_61, e81_63, e81_64, e81_67, e81_70, e81_71, s88 hL, z_bd_i, z_bd_l, z_bd_v, List.cons_append, List.nil_append, z_nk_i, z_nk_r, z_nk_n, v0, v1, v3, v19, v61, v71, v76, z_b_0, b1, not_true, if_false, e, ones_ok _ hset, e2, eq_false q, e4]
    exact l81 ok sk hg4 hset f4 20 1 0 rfl (by decide)
theorem s81b (hL : L_at σ 10 L) {g : Int32} (hb : ¬ (¬ g < 0 ∧ g < nI L.2.2.2.2.2)) : z_call 81 [.ref 0, .int g] (z_enc σ) = some (some (.int (-1)), z_enc σ) := by
  simp only [en81, e81_0, e81_1, e81_2, e81_5, e81_8, e81_9, e81_10, e81_11, e81_12, e81_15, e81_16, e81_17, e81_20, e81_21, e81_24, e81_26, e81_27, e81_28, e81_29, e81_30, e81_33, e81_34, e81_35, e81_36, e81_40, e81_42, e81_45, e81_46, e81_47, e81_49, e81_52, e81_53, e81_54, e81_55, e81_58, e81_61, e81_63, e81_64, e81_67, e81_70, e81_71, s88 hL, z_bd_i, z_bd_l, z_bd_v, List.cons_append, List.nil_append, z_nk_i, z_nk_r, z_nk_n, v0, v1, v3, v19, v61, v71, v76, z_b_0, eq_false hb, not_false_iff, if_true]
end LOOK
