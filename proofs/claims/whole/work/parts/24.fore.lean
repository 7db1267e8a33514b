/-! BackMarch: what is foretold -/
theorem ones_le (d : Nat) : ones4 d ≤ 4 := by unfold ones4; omega
theorem fall_le (L : t_L) (S : t_S) : ∀ n, fallF L S n ≤ 4 * n
  | 0 => Nat.le_refl _
  | n + 1 => by
    have h := fall_le L S n
    have h2 := ones_le (stepsF L S (n + 1)).2.2.2.2.1
    rw [fallF]
    omega
def cmF (L : t_L) (S : t_S) (g c : Nat) : Nat → Nat → Int32
  | 0, _ => -9
  | d + 1, n => if (stepsF L S n).2.1 g = c then nI n else cmF L S g c d (n + 1)
def wvOK (L : t_L) (S : t_S) (g m c n k : Nat) : Bool := insF L k && !wallF L k && decide ((stepsF L (mcS S m k) n).2.1 g = c)
def wvF (L : t_L) (S : t_S) (g m c n : Nat) : Nat → Nat → Int32
  | 0, _ => -9
  | d + 1, k => if wvOK L S g m c n k = true then nI (tn k) else wvF L S g m c n d (k + 1)
def dl1 (L : t_L) (S : t_S) (k n s : Nat) (o : Option (Nat × Nat)) : Option (Nat × Nat) :=
  if ones4 s = k then (match o with
    | none => some (s, fallF L (mirS S s) n)
    | some q => if fallF L (mirS S s) n < q.2 then some (s, fallF L (mirS S s) n) else some q) else o
def dlF (L : t_L) (S : t_S) (k n : Nat) : Nat → Nat → Option (Nat × Nat) → Option (Nat × Nat)
  | 0, _, o => o
  | d + 1, s, o => dlF L S k n d (s + 1) (dl1 L S k n s o)
def dlB (o : Option (Nat × Nat)) : Int32 := match o with
  | none => -9
  | some q => nI q.1
def dlW (o : Option (Nat × Nat)) : Nat := match o with
  | none => 0
  | some q => q.2
section FORE
variable {σ : z_G} {L : t_L} {S : t_S}
theorem mc_ok (sk : S_ok S) {m k : Nat} (hk : k < 64) : S_ok (mcS S m k) := ⟨fun j hj => by simp only [mcS]; split; exact hk; exact sk.1 j hj, sk.2⟩
theorem mi_ok (sk : S_ok S) {g m : Nat} (hm : m < 4 ∨ m = 9) : S_ok (miS S g m) := ⟨sk.1, sk.2.1, fun j hj => by simp only [miS]; split; exact hm; exact sk.2.2.1 j hj, sk.2.2.2⟩
theorem mir_ok (sk : S_ok S) {x : Nat} (hx : x < 16) : S_ok (mirS S x) := ⟨sk.1, sk.2.1, sk.2.2.1, hx, sk.2.2.2.2⟩
theorem L15 (hL : L_at σ 10 L) (S : t_S) : L_at (M_set σ 15 S) (z_rf 15 0) L := by rw [rf_15]; exact L_at_ne (Or.inr (by decide)) hL
theorem d15 : z_rf 15 0 < 15 ∨ 15 + 4 ≤ z_rf 15 0 := by rw [rf_15]; decide
theorem ap15 : M_ap 15 11 := by unfold M_ap; decide
theorem s72 (hL : L_at σ 10 L) (hS : M_at σ 11 S) (ok : L_ok L) (sk : S_ok S) {g n : Nat} (hg : g < L.2.2.2.2.2) (hn : n ≤ 40) : z_call 72 [.ref 0, .int (nI g), .int (nI n)] (z_enc σ) = some (some (.int (nI (tn ((stepsF L S n).2.1 g)))), z_enc (M_set σ 15 (stepsF L S n))) := by
  have hg4 : g < 4 := by have := ok.2.2.2.2; omega
  have b1 : (¬ nI g < 0 ∧ nI g < nI L.2.2.2.2.2) = True := eq_true (inN_nI hg (by have := ok.2.2.2.2; omega))
  have b2 : (nI n < 0) = False := eq_false (nI_pos (by omega))
  have b3 : ((40 : Int32) < nI n) = False := eq_false (nI_nlt (a := 40) (b := n) (by omega) (by decide))
  simp only [en72, e72_0, e72_1, e72_2, e72_5, e72_8, e72_9, e72_12, e72_13, e72_15, e72_18, e72_19, e72_20, e72_21, e72_24, e72_25, e72_28, e72_31, e72_32, e72_35, e72_36, e72_39, e72_40, e72_41, e72_44, e72_45, e72_48, s88 hL, z_bd_i, z_bd_l, z_bd_v, List.cons_append, List.nil_append, z_nk_i, z_nk_r, z_nk_n, v0, v1, v3, v19, v61, v71, v76, z_b_0, b1, not_true, if_false, b2, b3, g0_3, g0_4, vM isM_15, s21 isM_15 isM_11 ap15 hS, s35 isM_15 (L15 hL S) d15 (M_at_set σ 15 S) ok sk hn, M_set_set, s23 isM_15 (M_at_set σ 15 _) hg4]
theorem s72b (hL : L_at σ 10 L) {g n : Int32} (hb : ¬ ((¬ g < 0 ∧ g < nI L.2.2.2.2.2) ∧ ¬ n < 0 ∧ ¬ 40 < n)) : z_call 72 [.ref 0, .int g, .int n] (z_enc σ) = some (some (.int (-1)), z_enc σ) := by
  by_cases h1 : ¬ g < 0 ∧ g < nI L.2.2.2.2.2
  · by_cases h2 : n < 0
    · simp only [en72, e72_0, e72_1, e72_2, e72_5, e72_8, e72_9, e72_12, e72_13, e72_15, e72_18, e72_19, e72_20, e72_21, e72_24, e72_25, e72_28, e72_31, e72_32, e72_35, e72_36, e72_39, e72_40, e72_41, e72_44, e72_45, e72_48, s88 hL, z_bd_i, z_bd_l, z_bd_v, List.cons_append, List.nil_append, z_nk_i, z_nk_r, z_nk_n, v0, v1, v3, v19, v61, v71, v76, z_b_0, eq_true h1, not_true, if_false, eq_true h2, if_true]
    · have h3 : 40 < n := Classical.byContradiction fun q => hb ⟨h1, h2, q⟩
      simp only [en72, e72_0, e72_1, e72_2, e72_5, e72_8, e72_9, e72_12, e72_13, e72_15, e72_18, e72_19, e72_20, e72_21, e72_24, e72_25, e72_28, e72_31, e72_32, e72_35, e72_36, e72_39, e72_40, e72_41, e72_44, e72_45, e72_48, s88 hL, z_bd_i, z_bd_l, z_bd_v, List.cons_append, List.nil_append, z_nk_i, z_nk_r, z_nk_n, v0, v1, v3, v19, v61, v71, v76, z_b_0, eq_true h1, not_true, if_false, eq_false h2, eq_true h3, if_true]
  · simp only [en72, e72_0, e72_1, e72_2, e72_5, e72_8, e72_9, e72_12, e72_13, e72_15, e72_18, e72_19, e72_20, e72_21, e72_24, e72_25, e72_28, e72_31, e72_32, e72_35, e72_36, e72_39, e72_40, e72_41, e72_44, e72_45, e72_48, s88 hL, z_bd_i, z_bd_l, z_bd_v, List.cons_append, List.nil_append, z_nk_i, z_nk_r, z_nk_n, v0, v1, v3, v19, v61, v71, v76, z_b_0, eq_false h1, not_false_iff, if_true]
theorem s73 (hL : L_at σ 10 L) (hS : M_at σ 11 S) (ok : L_ok L) (sk : S_ok S) {n : Nat} (hn : n ≤ 40) : z_call 73 [.ref 0, .int (nI n)] (z_enc σ) = some (some (.int (nI (fallF L S n))), z_enc (M_set σ 15 (stepsF L S n))) := by
  have b2 : (nI n < 0) = False := eq_false (nI_pos (by omega))
  have b3 : ((40 : Int32) < nI n) = False := eq_false (nI_nlt (a := 40) (b := n) (by omega) (by decide))
  simp only [en73, e73_0, e73_1, e73_4, e73_5, e73_7, e73_10, e73_11, e73_12, e73_13, e73_16, e73_17, e73_20, e73_23, e73_24, e73_27, e73_28, e73_31, z_bd_i, z_bd_l, z_bd_v, List.cons_append, List.nil_append, z_nk_i, z_nk_r, z_nk_n, v0, v1, v3, v19, v61, v71, v76, if_false, b2, b3, g0_3, g0_4, vM isM_15, s21 isM_15 isM_11 ap15 hS, s35 isM_15 (L15 hL S) d15 (M_at_set σ 15 S) ok sk hn, M_set_set]
theorem s73b {n : Int32} (hb : ¬ (¬ n < 0 ∧ ¬ 40 < n)) : z_call 73 [.ref 0, .int n] (z_enc σ) = some (some (.int (-1)), z_enc σ) := by
  by_cases h2 : n < 0
  · simp only [en73, e73_0, e73_1, e73_4, e73_5, e73_7, e73_10, e73_11, e73_12, e73_13, e73_16, e73_17, e73_20, e73_23, e73_24, e73_27, e73_28, e73_31, eq_true h2, if_true]
  · have h3 : 40 < n := Classical.byContradiction fun q => hb ⟨h2, q⟩
    simp only [en73, e73_0, e73_1, e73_4, e73_5, e73_7, e73_10, e73_11, e73_12, e73_13, e73_16, e73_17, e73_20, e73_23, e73_24, e73_27, e73_28, e73_31, eq_false h2, if_false, eq_true h3, if_true]
theorem l74 (hL : L_at σ 10 L) (ok : L_ok L) (sk : S_ok S) {g c : Nat} (hg : g < 4) (hc : c < 64) : ∀ d n, d + n = 41 →
    ∃ S2, z_r [] 0 0 74 34 [some (.ref 0), some (.int (nI g)), some (.int (nI (tn c))), some (.int (nI n))] [] (z_enc (M_set σ 15 (stepsF L S n))) = some (some (.int (cmF L S g c d n)), z_enc (M_set σ 15 S2)) := by
  intro d
  induction d with
  | zero =>
    intro n hn
    have e : n = 41 := by omega
    subst e
    have b1 : ((40 : Int32) < nI 41) = True := by decide
    refine ⟨stepsF L S 41, ?_⟩
    rw [e74_34]
    simp only [e74_0, e74_1, e74_2, e74_5, e74_8, e74_9, e74_12, e74_13, e74_16, e74_19, e74_20, e74_21, e74_22, e74_25, e74_26, e74_29, e74_32, e74_33, e74_35, e74_37, e74_40, e74_41, e74_44, e74_45, e74_48, e74_49, e74_52, e74_53, e74_54, e74_55, e74_58, e74_61, e74_62, e74_65, e74_68, e74_70, b1, if_true, cmF]
  | succ d ih =>
    intro n hn
    have b1 : ((40 : Int32) < nI n) = False := eq_false (nI_nlt (a := 40) (b := n) (by omega) (by decide))
    have sk2 := steps_ok ok sk n
    have hat := M_at_set σ 15 (stepsF L S n)
    have hr := sk2.2.1 g hg
    have et := tn_eq hr hc
    by_cases q : (stepsF L S n).2.1 g = c
    · refine ⟨stepsF L S n, ?_⟩
      rw [e74_34]
      simp only [e74_0, e74_1, e74_2, e74_5, e74_8, e74_9, e74_12, e74_13, e74_16, e74_19, e74_20, e74_21, e74_22, e74_25, e74_26, e74_29, e74_32, e74_33, e74_35, e74_37, e74_40, e74_41, e74_44, e74_45, e74_48, e74_49, e74_52, e74_53, e74_54, e74_55, e74_58, e74_61, e74_62, e74_65, e74_68, e74_70, b1, if_false, g0_4, vM isM_15, s23 isM_15 hat hg, z_bd_i, z_bd_l, z_bd_v, List.cons_append, List.nil_append, z_nk_i, z_nk_r, z_nk_n, v0, v1, v3, v19, v61, v71, v76, et, eq_true q, if_true, cmF]
    · obtain ⟨S2, e⟩ := ih (n + 1) (by omega)
      refine ⟨S2, ?_⟩
      rw [e74_34]
      simp only [e74_0, e74_1, e74_2, e74_5, e74_8, e74_9, e74_12, e74_13, e74_16, e74_19, e74_20, e74_21, e74_22, e74_25, e74_26, e74_29, e74_32, e74_33, e74_35, e74_37, e74_40, e74_41, e74_44, e74_45, e74_48, e74_49, e74_52, e74_53, e74_54, e74_55, e74_58, e74_61, e74_62, e74_65, e74_68, e74_70, b1, if_false, g0_4, vM isM_15, s23 isM_15 hat hg, z_bd_i, z_bd_l, z_bd_v, List.cons_append, List.nil_append, z_nk_i, z_nk_r, z_nk_n, v0, v1, v3, v19, v61, v71, v76, et, eq_false q, cmF, s36 isM_15 (L15 hL _) d15 hat ok sk2, M_set_set, nI_1]
      exact e
theorem s74 (hL : L_at σ 10 L) (hS : M_at σ 11 S) (ok : L_ok L) (sk : S_ok S) {g c : Nat} (hg : g < L.2.2.2.2.2) (hc : c < 64) (hi : insF L c = true) : ∃ S2, z_call 74 [.ref 0, .int (nI g), .int (nI (tn c))] (z_enc σ) = some (some (.int (cmF L S g c 41 0)), z_enc (M_set σ 15 S2)) := by
  have hg4 : g < 4 := by have := ok.2.2.2.2; omega
  have b1 : (¬ nI g < 0 ∧ nI g < nI L.2.2.2.2.2) = True := eq_true (inN_nI hg (by have := ok.2.2.2.2; omega))
  obtain ⟨S2, e⟩ := l74 hL ok sk hg4 hc 41 0 rfl
  refine ⟨S2, ?_⟩
  simp only [en74, e74_0, e74_1, e74_2, e74_5, e74_8, e74_9, e74_12, e74_13, e74_16, e74_19, e74_20, e74_21, e74_22, e74_25, e74_26, e74_29, e74_32, e74_33, e74_35, e74_37, e74_40, e74_41, e74_44, e74_45, e74_48, e74_49, e74_52, e74_53, e74_54, e74_55, e74_58, e74_61, e74_62, e74_65, e74_68, e74_70, s88 hL, z_bd_i, z_bd_l, z_bd_v, List.cons_append, List.nil_append, z_nk_i, z_nk_r, z_nk_n, v0, v1, v3, v19, v61, v71, v76, z_b_0, b1, not_true, if_false, g0_2, vL isL_10, s12 isL_10 hL, hasV_c hc ok, hi, g0_3, g0_4, vM isM_15, s21 isM_15 isM_11 ap15 hS]
  exact e
theorem s74b (hL : L_at σ 10 L) {g x : Int32} (hb : ¬ ((¬ g < 0 ∧ g < nI L.2.2.2.2.2) ∧ ¬ hasV L x = 0)) : z_call 74 [.ref 0, .int g, .int x] (z_enc σ) = some (some (.int (-1)), z_enc σ) := by
  by_cases h1 : ¬ g < 0 ∧ g < nI L.2.2.2.2.2
  · have h2 : hasV L x = 0 := Classical.byContradiction fun q => hb ⟨h1, q⟩
    simp only [en74, e74_0, e74_1, e74_2, e74_5, e74_8, e74_9, e74_12, e74_13, e74_16, e74_19, e74_20, e74_21, e74_22, e74_25, e74_26, e74_29, e74_32, e74_33, e74_35, e74_37, e74_40, e74_41, e74_44, e74_45, e74_48, e74_49, e74_52, e74_53, e74_54, e74_55, e74_58, e74_61, e74_62, e74_65, e74_68, e74_70, s88 hL, z_bd_i, z_bd_l, z_bd_v, List.cons_append, List.nil_append, z_nk_i, z_nk_r, z_nk_n, v0, v1, v3, v19, v61, v71, v76, z_b_0, eq_true h1, not_true, if_false, g0_2, vL isL_10, s12 isL_10 hL, h2, if_true]
  · simp only [en74, e74_0, e74_1, e74_2, e74_5, e74_8, e74_9, e74_12, e74_13, e74_16, e74_19, e74_20, e74_21, e74_22, e74_25, e74_26, e74_29, e74_32, e74_33, e74_35, e74_37, e74_40, e74_41, e74_44, e74_45, e74_48, e74_49, e74_52, e74_53, e74_54, e74_55, e74_58, e74_61, e74_62, e74_65, e74_68, e74_70, s88 hL, z_bd_i, z_bd_l, z_bd_v, List.cons_append, List.nil_append, z_nk_i, z_nk_r, z_nk_n, v0, v1, v3, v19, v61, v71, v76, z_b_0, eq_false h1, not_false_iff, if_true]
theorem s97 (hL : L_at σ 10 L) (hS : M_at σ 11 S) (ok : L_ok L) (sk : S_ok S) {g m k n : Nat} (hg : g < 4) (hm : m < 4) (hk : k < 64) (hn : n ≤ 40) : z_call 97 [.ref 0, .int (nI g), .int (nI m), .int (nI (tn k)), .int (nI n)] (z_enc σ) = some (some (.int (nI (tn ((stepsF L (mcS S m k) n).2.1 g)))), z_enc (M_set σ 15 (stepsF L (mcS S m k) n))) := by
  simp only [en97, e97_0, e97_1, e97_4, e97_5, e97_8, e97_11, e97_12, e97_15, e97_16, e97_17, e97_20, e97_21, e97_24, e97_26, e97_29, e97_30, e97_31, e97_34, e97_35, e97_38, z_bd_i, z_bd_l, z_bd_v, List.cons_append, List.nil_append, z_nk_i, z_nk_r, z_nk_n, v0, v1, v3, v19, v61, v71, v76, g0_3, g0_4, vM isM_15, s21 isM_15 isM_11 ap15 hS, s25 isM_15 (M_at_set σ 15 S) hm, M_set_set, s35 isM_15 (L15 hL _) d15 (M_at_set σ 15 _) ok (mc_ok sk hk) hn, s23 isM_15 (M_at_set σ 15 _) hg]
theorem s98 (hL : L_at σ 10 L) (hS : M_at σ 11 S) (ok : L_ok L) (sk : S_ok S) {x n : Nat} (hx : x < 16) (hn : n ≤ 40) : z_call 98 [.ref 0, .int (nI x), .int (nI n)] (z_enc σ) = some (some (.int (nI (fallF L (mirS S x) n))), z_enc (M_set σ 15 (stepsF L (mirS S x) n))) := by
  simp only [en98, e98_0, e98_1, e98_4, e98_5, e98_8, e98_11, e98_12, e98_15, e98_16, e98_19, e98_20, e98_23, e98_24, e98_27, z_bd_i, z_bd_l, z_bd_v, List.cons_append, List.nil_append, z_nk_i, z_nk_r, z_nk_n, v0, v1, v3, v19, v61, v71, v76, g0_3, g0_4, vM isM_15, s21 isM_15 isM_11 ap15 hS, pM_4 isM_15, u_mir (M_at_set σ 15 S), M_set_set, s35 isM_15 (L15 hL _) d15 (M_at_set σ 15 _) ok (mir_ok sk hx) hn]
/-- all but the march that is foretold -/
def P15 (p : Nat) : Prop := p < 15 ∨ 19 ≤ p
theorem sm15 (σ : z_G) (S : t_S) : z_sm P15 σ (M_set σ 15 S) := sm_M (fun p hp => by unfold P15 at hp; omega)
theorem l75 (ok : L_ok L) (sk : S_ok S) {g m c n : Nat} (hg : g < 4) (hm : m < 4) (hc : c < 64) (hn : n ≤ 20) : ∀ d x y (l7 : Option Value) (σ : z_G), L_at σ 10 L → M_at σ 11 S → x < 8 → y < 8 → d + (8 * x + y) = 64 →
    ∃ τ, z_r [] 0 0 75 64 [some (.ref 0), some (.int (nI g)), some (.int (nI (tn c))), some (.int (nI n)), some (.int (nI m)), some (.int (nI x)), some (.int (nI y)), l7] [] (z_enc σ) = some (some (.int (wvF L S g m c n d (8 * x + y))), z_enc τ) ∧ z_sm P15 σ τ := by
  intro d
  induction d with
  | zero => intro x y l7 S1 _ _ hx hy h; omega
  | succ d ih =>
    intro x y l7 σ hL hS hx hy h
    have b1 : (nI y < 8) = True := eq_true (nI_lt (b := 8) hy (by decide))
    have hk : 8 * x + y < 64 := by omega
    have etn : 10 * nI x + nI y = nI (tn (8 * x + y)) := by
      rw [show (10 : Int32) = nI 10 from rfl, pk_mul, nI_add]
      congr 1
      unfold tn
      omega
    have hr := (steps_ok ok (mc_ok (m := m) sk hk) n).2.1 g hg
    have et := tn_eq hr hc
    -- where it goes on
    have go : ∀ (l7 : Option Value) (σ : z_G), L_at σ 10 L → M_at σ 11 S → ∃ τ, z_r [] 0 0 75 64 [some (.ref 0), some (.int (nI g)), some (.int (nI (tn c))), some (.int (nI n)), some (.int (nI m)), some (.int (nI x)), some (.int (nI (y + 1))), l7] [] (z_enc σ) = some (some (.int (wvF L S g m c n d (8 * x + y + 1))), z_enc τ) ∧ z_sm P15 σ τ := by
      intro l7 σ hL hS
      by_cases hy7 : y + 1 < 8
      · exact ih x (y + 1) l7 σ hL hS hx hy7 (by omega)
      · have b2 : (nI (y + 1) < 8) = False := eq_false (nI_nlt (a := y + 1) (b := 8) (by omega) (by omega))
        by_cases hx7 : x + 1 < 8
        · have b3 : (nI (x + 1) < 8) = True := eq_true (nI_lt (b := 8) hx7 (by decide))
          obtain ⟨τ, e, f⟩ := ih (x + 1) 0 l7 σ hL hS hx7 (by decide) (by omega)
          refine ⟨τ, ?_, f⟩
          rw [e75_64]
          simp only [e75_0, e75_1, e75_2, e75_5, e75_8, e75_9, e75_12, e75_13, e75_16, e75_19, e75_20, e75_23, e75_24, e75_26, e75_29, e75_30, e75_31, e75_32, e75_35, e75_36, e75_39, e75_41, e75_43, e75_45, e75_48, e75_50, e75_51, e75_52, e75_56, e75_58, e75_61, e75_62, e75_66, e75_68, e75_71, e75_73, e75_75, e75_78, e75_80, e75_81, e75_84, e75_86, e75_89, e75_92, e75_93, e75_94, e75_96, e75_98, e75_99, e75_102, e75_103, e75_106, e75_108, e75_109, e75_112, e75_115, e75_118, e75_121, e75_123, b2, if_false, nI_1]
          rw [e75_54]
          simp only [e75_0, e75_1, e75_2, e75_5, e75_8, e75_9, e75_12, e75_13, e75_16, e75_19, e75_20, e75_23, e75_24, e75_26, e75_29, e75_30, e75_31, e75_32, e75_35, e75_36, e75_39, e75_41, e75_43, e75_45, e75_48, e75_50, e75_51, e75_52, e75_56, e75_58, e75_61, e75_62, e75_66, e75_68, e75_71, e75_73, e75_75, e75_78, e75_80, e75_81, e75_84, e75_86, e75_89, e75_92, e75_93, e75_94, e75_96, e75_98, e75_99, e75_102, e75_103, e75_106, e75_108, e75_109, e75_112, e75_115, e75_118, e75_121, e75_123, b3, if_true, z_nk_i]
          rw [show 8 * x + y + 1 = 8 * (x + 1) + 0 by omega]
          exact e
        · have b3 : (nI (x + 1) < 8) = False := eq_false (nI_nlt (a := x + 1) (b := 8) (by omega) (by omega))
          have hd : d = 0 := by omega
          subst hd
          refine ⟨σ, ?_, z_sm.rf⟩
          rw [e75_64]
          simp only [e75_0, e75_1, e75_2, e75_5, e75_8, e75_9, e75_12, e75_13, e75_16, e75_19, e75_20, e75_23, e75_24, e75_26, e75_29, e75_30, e75_31, e75_32, e75_35, e75_36, e75_39, e75_41, e75_43, e75_45, e75_48, e75_50, e75_51, e75_52, e75_56, e75_58, e75_61, e75_62, e75_66, e75_68, e75_71, e75_73, e75_75, e75_78, e75_80, e75_81, e75_84, e75_86, e75_89, e75_92, e75_93, e75_94, e75_96, e75_98, e75_99, e75_102, e75_103, e75_106, e75_108, e75_109, e75_112, e75_115, e75_118, e75_121, e75_123, b2, if_false, nI_1]
          rw [e75_54]
          simp only [e75_0, e75_1, e75_2, e75_5, e75_8, e75_9, e75_12, e75_13, e75_16, e75_19, e75_20, e75_23, e75_24, e75_26, e75_29, e75_30, e75_31, e75_32, e75_35, e75_36, e75_39, e75_41, e75_43, e75_45, e75_48, e75_50, e75_51, e75_52, e75_56, e75_58, e75_61, e75_62, e75_66, e75_68, e75_71, e75_73, e75_75, e75_78, e75_80, e75_81, e75_84, e75_86, e75_89, e75_92, e75_93, e75_94, e75_96, e75_98, e75_99, e75_102, e75_103, e75_106, e75_108, e75_109, e75_112, e75_115, e75_118, e75_121, e75_123, b3, if_false, wvF]
    rw [wvF, wvOK]
    rw [e75_64]
    simp only [e75_0, e75_1, e75_2, e75_5, e75_8, e75_9, e75_12, e75_13, e75_16, e75_19, e75_20, e75_23, e75_24, e75_26, e75_29, e75_30, e75_31, e75_32, e75_35, e75_36, e75_39, e75_41, e75_43, e75_45, e75_48, e75_50, e75_51, e75_52, e75_56, e75_58, e75_61, e75_62, e75_66, e75_68, e75_71, e75_73, e75_75, e75_78, e75_80, e75_81, e75_84, e75_86, e75_89, e75_92, e75_93, e75_94, e75_96, e75_98, e75_99, e75_102, e75_103, e75_106, e75_108, e75_109, e75_112, e75_115, e75_118, e75_121, e75_123, b1, if_true, s92, z_bd_i, z_bd_l, z_bd_v, List.cons_append, List.nil_append, z_nk_i, z_nk_r, z_nk_n, v0, v1, v3, v19, v61, v71, v76, etn, g0_2, vL isL_10, s15 isL_10 hL ok hk, z_b_0]
    by_cases q1 : insF L (8 * x + y) = true ∧ wallF L (8 * x + y) = false
    · simp only [eq_true q1, q1.1, q1.2, not_true, if_false, s97 hL hS ok sk hg hm hk (show n ≤ 40 by omega), z_bd_i, z_bd_l, z_bd_v, List.cons_append, List.nil_append, z_nk_i, z_nk_r, z_nk_n, v0, v1, v3, v19, v61, v71, v76, M_set_set, et, Bool.not_false, Bool.true_and, decide_eq_true_eq, e75_0, e75_1, e75_2, e75_5, e75_8, e75_9, e75_12, e75_13, e75_16, e75_19, e75_20, e75_23, e75_24, e75_26, e75_29, e75_30, e75_31, e75_32, e75_35, e75_36, e75_39, e75_41, e75_43, e75_45, e75_48, e75_50, e75_51, e75_52, e75_56, e75_58, e75_61, e75_62, e75_66, e75_68, e75_71, e75_73, e75_75, e75_78, e75_80, e75_81, e75_84, e75_86, e75_89, e75_92, e75_93, e75_94, e75_96, e75_98, e75_99, e75_102, e75_103, e75_106, e75_108, e75_109, e75_112, e75_115, e75_118, e75_121, e75_123]
      by_cases q2 : (stepsF L (mcS S m (8 * x + y)) n).2.1 g = c
      · simp only [eq_true q2, if_true]
        exact ⟨_, rfl, sm15 _ _⟩
      · simp only [eq_false q2, if_false, nI_1]
        obtain ⟨τ, e, f⟩ := go (some (.int (nI (tn (8 * x + y))))) _ (L_at_ne (S := stepsF L (mcS S m (8 * x + y)) n) (a := 15) (Or.inr (by decide)) hL) (M_at_ne ap15 hS)
        exact ⟨τ, e, (sm15 _ _).tr f⟩
    · have q3 : (insF L (8 * x + y) && !wallF L (8 * x + y)) = false := by
        cases h1 : insF L (8 * x + y) <;> cases h2 : wallF L (8 * x + y) <;> simp_all
      simp only [eq_false q1, not_false_iff, if_true, q3, Bool.false_and, Bool.false_eq_true, if_false, nI_1]
      exact go _ _ hL hS
def waveR (L : t_L) (S : t_S) (g c n : Nat) : Int32 := if S.2.2.1 g = 9 then -2 else wvF L S g (S.2.2.1 g) c n 64 0
theorem s75 (hL : L_at σ 10 L) (hS : M_at σ 11 S) (ok : L_ok L) (sk : S_ok S) {g c n : Nat} (hg : g < L.2.2.2.2.2) (hc : c < 64) (hi : insF L c = true) (hn : n ≤ 20) : ∃ τ, z_call 75 [.ref 0, .int (nI g), .int (nI (tn c)), .int (nI n)] (z_enc σ) = some (some (.int (waveR L S g c n)), z_enc τ) ∧ z_sm P15 σ τ := by
  have hg4 : g < 4 := by have := ok.2.2.2.2; omega
  have hmi := sk.2.2.1 g hg4
  have b1 : (¬ nI g < 0 ∧ nI g < nI L.2.2.2.2.2) = True := eq_true (inN_nI hg (by have := ok.2.2.2.2; omega))
  have b2 : (nI n < 0) = False := eq_false (nI_pos (by omega))
  have b3 : ((20 : Int32) < nI n) = False := eq_false (nI_nlt (a := 20) (b := n) (by omega) (by decide))
  have e9 : (nI (S.2.2.1 g) = 9) = (S.2.2.1 g = 9) := propext (nI_eq (by omega) (by decide))
  have z08 : ((0 : Int32) < 8) = True := by decide
  unfold waveR
  by_cases q : S.2.2.1 g = 9
  · refine ⟨σ, ?_, z_sm.rf⟩
    rw [if_pos q]
    simp only [en75, e75_0, e75_1, e75_2, e75_5, e75_8, e75_9, e75_12, e75_13, e75_16, e75_19, e75_20, e75_23, e75_24, e75_26, e75_29, e75_30, e75_31, e75_32, e75_35, e75_36, e75_39, e75_41, e75_43, e75_45, e75_48, e75_50, e75_51, e75_52, e75_56, e75_58, e75_61, e75_62, e75_66, e75_68, e75_71, e75_73, e75_75, e75_78, e75_80, e75_81, e75_84, e75_86, e75_89, e75_92, e75_93, e75_94, e75_96, e75_98, e75_99, e75_102, e75_103, e75_106, e75_108, e75_109, e75_112, e75_115, e75_118, e75_121, e75_123, s88 hL, z_bd_i, z_bd_l, z_bd_v, List.cons_append, List.nil_append, z_nk_i, z_nk_r, z_nk_n, v0, v1, v3, v19, v61, v71, v76, z_b_0, b1, not_true, if_false, g0_2, vL isL_10, s12 isL_10 hL, hasV_c hc ok, hi, b2, b3, g0_3, vM isM_11, s24 isM_11 hS hg4, e9, eq_true q, if_true]
  · have hm4 : S.2.2.1 g < 4 := by omega
    obtain ⟨τ, e, f⟩ := l75 ok sk hg4 hm4 hc hn 64 0 0 none σ hL hS (by decide) (by decide) (by decide)
    refine ⟨τ, ?_, f⟩
    rw [if_neg q]
    simp only [en75, e75_0, e75_1, e75_2, e75_5, e75_8, e75_9, e75_12, e75_13, e75_16, e75_19, e75_20, e75_23, e75_24, e75_26, e75_29, e75_30, e75_31, e75_32, e75_35, e75_36, e75_39, e75_41, e75_43, e75_45, e75_48, e75_50, e75_51, e75_52, e75_56, e75_58, e75_61, e75_62, e75_66, e75_68, e75_71, e75_73, e75_75, e75_78, e75_80, e75_81, e75_84, e75_86, e75_89, e75_92, e75_93, e75_94, e75_96, e75_98, e75_99, e75_102, e75_103, e75_106, e75_108, e75_109, e75_112, e75_115, e75_118, e75_121, e75_123, s88 hL, z_bd_i, z_bd_l, z_bd_v, List.cons_append, List.nil_append, z_nk_i, z_nk_r, z_nk_n, v0, v1, v3, v19, v61, v71, v76, z_b_0, b1, not_true, if_false, g0_2, vL isL_10, s12 isL_10 hL, hasV_c hc ok, hi, b2, b3, g0_3, vM isM_11, s24 isM_11 hS hg4, e9, eq_false q]
    rw [e75_54]
    simp only [e75_0, e75_1, e75_2, e75_5, e75_8, e75_9, e75_12, e75_13, e75_16, e75_19, e75_20, e75_23, e75_24, e75_26, e75_29, e75_30, e75_31, e75_32, e75_35, e75_36, e75_39, e75_41, e75_43, e75_45, e75_48, e75_50, e75_51, e75_52, e75_56, e75_58, e75_61, e75_62, e75_66, e75_68, e75_71, e75_73, e75_75, e75_78, e75_80, e75_81, e75_84, e75_86, e75_89, e75_92, e75_93, e75_94, e75_96, e75_98, e75_99, e75_102, e75_103, e75_106, e75_108, e75_109, e75_112, e75_115, e75_118, e75_121, e75_123, z08, if_true, z_nk_i]
    exact e
theorem s75b (hL : L_at σ 10 L) {g x n : Int32} (hb : ¬ ((¬ g < 0 ∧ g < nI L.2.2.2.2.2) ∧ ¬ hasV L x = 0 ∧ ¬ n < 0 ∧ ¬ 20 < n)) : z_call 75 [.ref 0, .int g, .int x, .int n] (z_enc σ) = some (some (.int (-1)), z_enc σ) := by
  by_cases h1 : ¬ g < 0 ∧ g < nI L.2.2.2.2.2
  · by_cases h2 : hasV L x = 0
    · simp only [en75, e75_0, e75_1, e75_2, e75_5, e75_8, e75_9, e75_12, e75_13, e75_16, e75_19, e75_20, e75_23, e75_24, e75_26, e75_29, e75_30, e75_31, e75_32, e75_35, e75_36, e75_39, e75_41, e75_43, e75_45, e75_48, e75_50, e75_51, e75_52, e75_56, e75_58, e75_61, e75_62, e75_66, e75_68, e75_71, e75_73, e75_75, e75_78, e75_80, e75_81, e75_84, e75_86, e75_89, e75_92, e75_93, e75_94, e75_96, e75_98, e75_99, e75_102, e75_103, e75_106, e75_108, e75_109, e75_112, e75_115, e75_118, e75_121, e75_123, s88 hL, z_bd_i, z_bd_l, z_bd_v, List.cons_append, List.nil_append, z_nk_i, z_nk_r, z_nk_n, v0, v1, v3, v19, v61, v71, v76, z_b_0, eq_true h1, not_true, if_false, g0_2, vL isL_10, s12 isL_10 hL, h2, if_true]
    · by_cases h3 : n < 0
      · simp only [en75, e75_0, e75_1, e75_2, e75_5, e75_8, e75_9, e75_12, e75_13, e75_16, e75_19, e75_20, e75_23, e75_24, e75_26, e75_29, e75_30, e75_31, e75_32, e75_35, e75_36, e75_39, e75_41, e75_43, e75_45, e75_48, e75_50, e75_51, e75_52, e75_56, e75_58, e75_61, e75_62, e75_66, e75_68, e75_71, e75_73, e75_75, e75_78, e75_80, e75_81, e75_84, e75_86, e75_89, e75_92, e75_93, e75_94, e75_96, e75_98, e75_99, e75_102, e75_103, e75_106, e75_108, e75_109, e75_112, e75_115, e75_118, e75_121, e75_123, s88 hL, z_bd_i, z_bd_l, z_bd_v, List.cons_append, List.nil_append, z_nk_i, z_nk_r, z_nk_n, v0, v1, v3, v19, v61, v71, v76, z_b_0, eq_true h1, not_true, if_false, g0_2, vL isL_10, s12 isL_10 hL, h2, eq_true h3, if_true]
      · have h4 : 20 < n := Classical.byContradiction fun q => hb ⟨h1, h2, h3, q⟩
        simp only [en75, e75_0, e75_1, e75_2, e75_5, e75_8, e75_9, e75_12, e75_13, e75_16, e75_19, e75_20, e75_23, e75_24, e75_26, e75_29, e75_30, e75_31, e75_32, e75_35, e75_36, e75_39, e75_41, e75_43, e75_45, e75_48, e75_50, e75_51, e75_52, e75_56, e75_58, e75_61, e75_62, e75_66, e75_68, e75_71, e75_73, e75_75, e75_78, e75_80, e75_81, e75_84, e75_86, e75_89, e75_92, e75_93, e75_94, e75_96, e75_98, e75_99, e75_102, e75_103, e75_106, e75_108, e75_109, e75_112, e75_115, e75_118, e75_121, e75_123, s88 hL, z_bd_i, z_bd_l, z_bd_v, List.cons_append, List.nil_append, z_nk_i, z_nk_r, z_nk_n, v0, v1, v3, v19, v61, v71, v76, z_b_0, eq_true h1, not_true, if_false, g0_2, vL isL_10, s12 isL_10 hL, h2, eq_false h3, eq_true h4, if_true]
  · simp only [en75, e75_0, e75_1, e75_2, e75_5, e75_8, e75_9, e75_12, e75_13, e75_16, e75_19, e75_20, e75_23, e75_24, e75_26, e75_29, e75_30, e75_31, e75_32, e75_35, e75_36, e75_39, e75_41, e75_43, e75_45, e75_48, e75_50, e75_51, e75_52, e75_56, e75_58, e75_61, e75_62, e75_66, e75_68, e75_71, e75_73, e75_75, e75_78, e75_80, e75_81, e75_84, e75_86, e75_89, e75_92, e75_93, e75_94, e75_96, e75_98, e75_99, e75_102, e75_103, e75_106, e75_108, e75_109, e75_112, e75_115, e75_118, e75_121, e75_123, s88 hL, z_bd_i, z_bd_l, z_bd_v, List.cons_append, List.nil_append, z_nk_i, z_nk_r, z_nk_n, v0, v1, v3, v19, v61, v71, v76, z_b_0, eq_false h1, not_false_iff, if_true]
theorem l76 (ok : L_ok L) (sk : S_ok S) {k n : Nat} (hk : k ≤ 4) (hn : n ≤ 20) : ∀ d s (o : Option (Nat × Nat)) (l6 : Option Value) (σ : z_G), L_at σ 10 L → M_at σ 11 S → d + s = 2 ^ L.2.2.2.2.2 → (∀ q, o = some q → q.1 < 16 ∧ q.2 ≤ 160) →
    ∃ τ, z_r [] 0 0 76 30 [some (.ref 0), some (.int (nI k)), some (.int (nI n)), some (.int (dlB o)), some (.int (nI (dlW o))), some (.int (nI s)), l6] [] (z_enc σ) = some (some (.int (dlB (dlF L S k n d s o))), z_enc τ) ∧ z_sm P15 σ τ := by
  have hN := ok.2.2.2.2
  have h16 : 2 ^ L.2.2.2.2.2 ≤ 16 := Nat.pow_le_pow_right (by decide) hN
  intro d
  induction d with
  | zero =>
    intro s o l6 σ hL hS hd ho
    have b1 : (nI s < nI (2 ^ L.2.2.2.2.2)) = False := eq_false (nI_nlt (by omega) (by omega))
    refine ⟨σ, ?_, z_sm.rf⟩
    rw [e76_30]
    simp only [e76_0, e76_1, e76_4, e76_5, e76_6, e76_9, e76_10, e76_13, e76_14, e76_16, e76_19, e76_20, e76_21, e76_23, e76_24, e76_25, e76_27, e76_28, e76_32, e76_33, e76_34, e76_37, e76_40, e76_41, e76_44, e76_46, e76_49, e76_50, e76_53, e76_54, e76_56, e76_57, e76_60, e76_62, e76_63, e76_65, e76_68, e76_70, e76_72, e76_75, e76_77, e76_78, e76_80, e76_82, e76_85, e76_88, e76_89, g0_2, gL_5 isL_10, hL.2.2.2.2.2, sh1 _ (show L.2.2.2.2.2 < 31 by omega), b1, if_false, dlF]
  | succ d ih =>
    intro s o l6 σ hL hS hd ho
    have hs : s < 16 := by omega
    have b1 : (nI s < nI (2 ^ L.2.2.2.2.2)) = True := eq_true (nI_lt (by omega) (by omega))
    have e1 : (nI (ones4 s) = nI k) = (ones4 s = k) := propext (nI_eq (by have := ones_le s; omega) (by omega))
    have hf : fallF L (mirS S s) n ≤ 80 := by have := fall_le L (mirS S s) n; omega
    rw [dlF]
    rw [e76_30]
    simp only [e76_0, e76_1, e76_4, e76_5, e76_6, e76_9, e76_10, e76_13, e76_14, e76_16, e76_19, e76_20, e76_21, e76_23, e76_24, e76_25, e76_27, e76_28, e76_32, e76_33, e76_34, e76_37, e76_40, e76_41, e76_44, e76_46, e76_49, e76_50, e76_53, e76_54, e76_56, e76_57, e76_60, e76_62, e76_63, e76_65, e76_68, e76_70, e76_72, e76_75, e76_77, e76_78, e76_80, e76_82, e76_85, e76_88, e76_89, g0_2, gL_5 isL_10, hL.2.2.2.2.2, sh1 _ (show L.2.2.2.2.2 < 31 by omega), b1, if_true, ones_ok s hs, z_bd_i, z_bd_l, z_bd_v, List.cons_append, List.nil_append, z_nk_i, z_nk_r, z_nk_n, v0, v1, v3, v19, v61, v71, v76, e1]
    by_cases q1 : ones4 s = k
    · simp only [eq_true q1, if_true, s98 hL hS ok sk hs (show n ≤ 40 by omega), z_bd_i, z_bd_l, z_bd_v, List.cons_append, List.nil_append, z_nk_i, z_nk_r, z_nk_n, v0, v1, v3, v19, v61, v71, v76, e76_0, e76_1, e76_4, e76_5, e76_6, e76_9, e76_10, e76_13, e76_14, e76_16, e76_19, e76_20, e76_21, e76_23, e76_24, e76_25, e76_27, e76_28, e76_32, e76_33, e76_34, e76_37, e76_40, e76_41, e76_44, e76_46, e76_49, e76_50, e76_53, e76_54, e76_56, e76_57, e76_60, e76_62, e76_63, e76_65, e76_68, e76_70, e76_72, e76_75, e76_77, e76_78, e76_80, e76_82, e76_85, e76_88, e76_89]
      have f1 : L_at (M_set σ 15 (stepsF L (mirS S s) n)) 10 L := L_at_ne (Or.inr (by decide)) hL
      have f2 : M_at (M_set σ 15 (stepsF L (mirS S s) n)) 11 S := M_at_ne ap15 hS
      cases o with
      | none =>
        have b9 : (dlB none = -9) = True := by decide
        simp only [b9, if_true, nI_1, dl1, eq_true q1]
        obtain ⟨τ, e, f⟩ := ih (s + 1) (some (s, fallF L (mirS S s) n)) (some (.int (nI (fallF L (mirS S s) n)))) _ f1 f2 (by omega) (fun q hq => by cases hq; exact ⟨hs, by dsimp only; omega⟩)
        exact ⟨τ, e, (sm15 _ _).tr f⟩
      | some q =>
        obtain ⟨ho1, ho2⟩ := ho q rfl
        have b9 : (dlB (some q) = -9) = False := m_9 (by omega)
        have b10 : (nI (fallF L (mirS S s) n) < nI (dlW (some q))) = (fallF L (mirS S s) n < q.2) := propext (nI_ltI (by omega) (by dsimp only [dlW]; omega))
        simp only [b9, if_false, b10, nI_1, dl1, eq_true q1, if_true]
        by_cases q2 : fallF L (mirS S s) n < q.2
        · simp only [eq_true q2, if_true]
          obtain ⟨τ, e, f⟩ := ih (s + 1) (some (s, fallF L (mirS S s) n)) (some (.int (nI (fallF L (mirS S s) n)))) _ f1 f2 (by omega) (fun q hq => by cases hq; exact ⟨hs, by dsimp only; omega⟩)
          exact ⟨τ, e, (sm15 _ _).tr f⟩
        · simp only [eq_false q2, if_false]
          obtain ⟨τ, e, f⟩ := ih (s + 1) (some q) (some (.int (nI (fallF L (mirS S s) n)))) _ f1 f2 (by omega) ho
          exact ⟨τ, e, (sm15 _ _).tr f⟩
    · simp only [eq_false q1, if_false, nI_1, dl1]
      exact ih (s + 1) o l6 σ hL hS (by omega) ho
def dealR (L : t_L) (S : t_S) (k n : Nat) : Int32 := dlB (dlF L S k n (2 ^ L.2.2.2.2.2) 0 none)
theorem s76 (hL : L_at σ 10 L) (hS : M_at σ 11 S) (ok : L_ok L) (sk : S_ok S) {k n : Nat} (hk : k ≤ 4) (hn : n ≤ 20) : ∃ τ, z_call 76 [.ref 0, .int (nI k), .int (nI n)] (z_enc σ) = some (some (.int (dealR L S k n)), z_enc τ) ∧ z_sm P15 σ τ := by
  have b2 : (nI n < 0) = False := eq_false (nI_pos (by omega))
  have b3 : ((20 : Int32) < nI n) = False := eq_false (nI_nlt (a := 20) (b := n) (by omega) (by decide))
  have b4 : (nI k < 0) = False := eq_false (nI_pos (by omega))
  have b5 : ((4 : Int32) < nI k) = False := eq_false (nI_nlt (a := 4) (b := k) (by omega) (by decide))
  obtain ⟨τ, e, f⟩ := l76 ok sk hk hn (2 ^ L.2.2.2.2.2) 0 none none σ hL hS (by omega) (fun q hq => by cases hq)
  refine ⟨τ, ?_, f⟩
  simp only [en76, e76_0, e76_1, e76_4, e76_5, e76_6, e76_9, e76_10, e76_13, e76_14, e76_16, e76_19, e76_20, e76_21, e76_23, e76_24, e76_25, e76_27, e76_28, e76_32, e76_33, e76_34, e76_37, e76_40, e76_41, e76_44, e76_46, e76_49, e76_50, e76_53, e76_54, e76_56, e76_57, e76_60, e76_62, e76_63, e76_65, e76_68, e76_70, e76_72, e76_75, e76_77, e76_78, e76_80, e76_82, e76_85, e76_88, e76_89, b2, b3, b4, b5, if_false]
  exact e
theorem s76b {k n : Int32} (hb : ¬ (¬ k < 0 ∧ ¬ 4 < k ∧ ¬ n < 0 ∧ ¬ 20 < n)) : z_call 76 [.ref 0, .int k, .int n] (z_enc σ) = some (some (.int (-1)), z_enc σ) := by
  by_cases h1 : k < 0
  · simp only [en76, e76_0, e76_1, e76_4, e76_5, e76_6, e76_9, e76_10, e76_13, e76_14, e76_16, e76_19, e76_20, e76_21, e76_23, e76_24, e76_25, e76_27, e76_28, e76_32, e76_33, e76_34, e76_37, e76_40, e76_41, e76_44, e76_46, e76_49, e76_50, e76_53, e76_54, e76_56, e76_57, e76_60, e76_62, e76_63, e76_65, e76_68, e76_70, e76_72, e76_75, e76_77, e76_78, e76_80, e76_82, e76_85, e76_88, e76_89, eq_true h1, if_true]
  · by_cases h2 : 4 < k
    · simp only [en76, e76_0, e76_1, e76_4, e76_5, e76_6, e76_9, e76_10, e76_13, e76_14, e76_16, e76_19, e76_20, e76_21, e76_23, e76_24, e76_25, e76_27, e76_28, e76_32, e76_33, e76_34, e76_37, e76_40, e76_41, e76_44, e76_46, e76_49, e76_50, e76_53, e76_54, e76_56, e76_57, e76_60, e76_62, e76_63, e76_65, e76_68, e76_70, e76_72, e76_75, e76_77, e76_78, e76_80, e76_82, e76_85, e76_88, e76_89, eq_false h1, if_false, eq_true h2, if_true]
    · by_cases h3 : n < 0
      · simp only [en76, e76_0, e76_1, e76_4, e76_5, e76_6, e76_9, e76_10, e76_13, e76_14, e76_16, e76_19, e76_20, e76_21, e76_23, e76_24, e76_25, e76_27, e76_28, e76_32, e76_33, e76_34, e76_37, e76_40, e76_41, e76_44, e76_46, e76_49, e76_50, e76_53, e76_54, e76_56, e76_57, e76_60, e76_62, e76_63, e76_65, e76_68, e76_70, e76_72, e76_75, e76_77, e76_78, e76_80, e76_82, e76_85, e76_88, e76_89, eq_false h1, if_false, eq_false h2, eq_true h3, if_true]
      · have h4 : 20 < n := Classical.byContradiction fun q => hb ⟨h1, h2, h3, q⟩
        simp only [en76, e76_0, e76_1, e76_4, e76_5, e76_6, e76_9, e76_10, e76_13, e76_14, e76_16, e76_19, e76_20, e76_21, e76_23, e76_24, e76_25, e76_27, e76_28, e76_32, e76_33, e76_34, e76_37, e76_40, e76_41, e76_44, e76_46, e76_49, e76_50, e76_53, e76_54, e76_56, e76_57, e76_60, e76_62, e76_63, e76_65, e76_68, e76_70, e76_72, e76_75, e76_77, e76_78, e76_80, e76_82, e76_85, e76_88, e76_89, eq_false h1, if_false, eq_false h2, eq_false h3, eq_true h4, if_true]
end FORE
