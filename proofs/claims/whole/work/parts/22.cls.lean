/-! BackMarch: its state, and its plain calls -/
def inN (x : Int32) (n : Nat) : Prop := ¬ x < 0 ∧ x < nI n
theorem inN_of {x : Int32} {n : Nat} (h : inN x n) (hn : n < 2147483648) : ∃ k, k < n ∧ x = nI k := by
  obtain ⟨j, hj, rfl⟩ := nI_of h.1
  exact ⟨j, (nI_ltI hj hn).mp h.2, rfl⟩
theorem inN_nI {k n : Nat} (hk : k < n) (hn : n < 2147483648) : inN (nI k) n := ⟨nI_pos (by omega), nI_lt hk hn⟩
def iN (x : Int32) : Nat := x.toNatClampNeg
theorem iN_nI {k : Nat} (h : k < 2147483648) : iN (nI k) = k := nI_clamp h
/-- a told cell as 8x + y -/
def cN (x : Int32) : Nat := 8 * (iN x / 10) + iN x % 10
theorem cN_tn {c : Nat} (h : c < 64) : cN (nI (tn c)) = c := by
  unfold cN
  rw [iN_nI (by have := tn_lt h; omega), tn_div, tn_mod]
  omega
def T_at (σ : z_G) (n : Nat) (txt : Nat → Nat) : Prop := n ≤ 120 ∧ σ.1 1 1 = nI n ∧ ∀ k, k < n → σ.1 2 k = nI (txt k) ∧ txt k < 256
def CI (σ : z_G) (n : Nat) (txt : Nat → Nat) (L : t_L) (S : t_S) (hc : Nat) (hist : Nat → t_S) (kp : Nat) (img : Nat → t_S) (wn : Nat) (w : Nat → Nat × Nat × Nat) (tr : Int64) : Prop :=
  T_at σ n txt ∧ L_at σ 10 L ∧ M_at σ 11 S ∧ (∃ nx, H_at σ nx hc hist) ∧ I_at σ kp img ∧ W_at σ wn w ∧ σ.2 0 9 = tr
def XI (L : t_L) (S : t_S) (hc : Nat) (hist : Nat → t_S) (kp : Nat) (img : Nat → t_S) : Prop := L_ok L ∧ S_ok S ∧ (∀ j, j < hc → S_ok (hist j)) ∧ ∀ i, i < 2 → kp.testBit i = true → S_ok (img i)
def toldF (m : Nat) : Int32 := if m = 9 then -9 else nI m
def motherR (L : t_L) (S : t_S) (m what : Int32) : Int32 := if ¬ m < 0 ∧ m < nI L.2.2.2.2.1 ∧ ¬ what < 0 ∧ ¬ 1 < what then (if what = 0 then nI (tn (S.1 (iN m))) else nI (atF S.2.2.1 (iN m) L.2.2.2.2.2)) else -1
def regR (L : t_L) (S : t_S) (g what : Int32) : Int32 := if ¬ g < 0 ∧ g < nI L.2.2.2.2.2 ∧ ¬ what < 0 ∧ ¬ 3 < what then (if what = 0 then nI (tn (S.2.1 (iN g))) else if what = 1 then toldF (S.2.2.1 (iN g)) else if what = 2 then z_b (S.2.2.2.1.testBit (iN g) = true) else z_b (S.2.2.2.2.1.testBit (iN g) = true)) else -1
def cellR (L : t_L) (S : t_S) (x what : Int32) : Int32 := if hasV L x = 1 ∧ ¬ what < 0 ∧ ¬ 2 < what then (if what = 0 then nI (kindF L (cN x)) else if what = 1 then z_b (S.2.2.2.2.2.testBit (cN x) = true) else nI (atF S.2.1 (cN x) L.2.2.2.2.2)) else -1
section CLS
variable {σ : z_G} {n : Nat} {txt : Nat → Nat} {L : t_L} {S : t_S} {hc : Nat} {hist : Nat → t_S} {kp : Nat} {img : Nat → t_S} {wn : Nat} {w : Nat → Nat × Nat × Nat} {tr : Int64}
theorem s87 (hL : L_at σ 10 L) (m : Int32) : z_call 87 [.ref 0, .int m] (z_enc σ) = some (some (.int (z_b (¬ m < 0 ∧ m < nI L.2.2.2.2.1))), z_enc σ) := by
  simp only [en87, e87_0, e87_1, e87_4, e87_5, e87_6, e87_9, e87_12, e87_15, e87_16, e87_19, e87_20, g0_2, gL_4 isL_10, hL.2.2.2.2.1, z_b_ok0, z_b_ok1, if_true]
  by_cases h1 : m < 0 <;> by_cases h2 : m < nI L.2.2.2.2.1 <;> simp [h1, h2, z_b]
theorem s88 (hL : L_at σ 10 L) (g : Int32) : z_call 88 [.ref 0, .int g] (z_enc σ) = some (some (.int (z_b (¬ g < 0 ∧ g < nI L.2.2.2.2.2))), z_enc σ) := by
  simp only [en88, e88_0, e88_1, e88_4, e88_5, e88_6, e88_9, e88_12, e88_15, e88_16, e88_19, e88_20, g0_2, gL_5 isL_10, hL.2.2.2.2.2, z_b_ok0, z_b_ok1, if_true]
  by_cases h1 : g < 0 <;> by_cases h2 : g < nI L.2.2.2.2.2 <;> simp [h1, h2, z_b]
theorem s89 (x : Int32) (ph : z_H) : z_call 89 [.int x] ph = some (some (.int (z_b (¬ x < 0 ∧ x < 4))), ph) := by
  simp only [en89, e89_0, e89_1, e89_4, e89_5, e89_6, e89_9, e89_10, e89_13, e89_14, z_b_ok0, z_b_ok1, if_true]
  by_cases h1 : x < 0 <;> by_cases h2 : x < 4 <;> simp [h1, h2, z_b]
theorem s90 {m : Nat} (hm : m < 10) (ph : z_H) : z_call 90 [.int (nI m)] ph = some (some (.int (toldF m)), ph) := by
  have h9 : (nI m = 9) = (m = 9) := propext (nI_eq (by omega) (by decide))
  simp only [en90, e90_0, e90_1, e90_3, e90_6, e90_8, e90_11, e90_12, h9, toldF]
  by_cases h : m = 9 <;> simp [h]
theorem s63 (hL : L_at σ 10 L) (hS : M_at σ 11 S) (ok : L_ok L) (sk : S_ok S) (m what : Int32) : z_call 63 [.ref 0, .int m, .int what] (z_enc σ) = some (some (.int (motherR L S m what)), z_enc σ) := by
  have hL2 : L_at σ (z_rf 11 0) L := by rw [rf_11]; exact hL
  simp only [en63, e63_0, e63_1, e63_2, e63_5, e63_8, e63_9, e63_12, e63_13, e63_14, e63_17, e63_18, e63_19, e63_20, e63_23, e63_24, e63_27, e63_28, e63_31, e63_34, e63_35, e63_38, e63_39, e63_42, s87 hL, z_bd_i, z_bd_l, z_bd_v, List.cons_append, List.nil_append, z_nk_i, z_nk_r, z_nk_n, v0, v1, v3, v19, v61, v71, v76, z_b_0]
  unfold motherR
  by_cases h1 : ¬ m < 0 ∧ m < nI L.2.2.2.2.1
  · obtain ⟨k, hk, rfl⟩ := inN_of h1 (by have := ok.2.2.2.1; omega)
    have hk4 : k < 4 := by have := ok.2.2.2.1; omega
    simp only [h1, not_true, if_false, and_self, true_and, not_false_iff, iN_nI (show k < 2147483648 by omega), g0_3, vM isM_11, s22 isM_11 hS hk4, s30 isM_11 hL2 hS ok sk hk4, z_bd_i, z_bd_l, z_bd_v, List.cons_append, List.nil_append, z_nk_i, z_nk_r, z_nk_n, v0, v1, v3, v19, v61, v71, v76, e63_0, e63_1, e63_2, e63_5, e63_8, e63_9, e63_12, e63_13, e63_14, e63_17, e63_18, e63_19, e63_20, e63_23, e63_24, e63_27, e63_28, e63_31, e63_34, e63_35, e63_38, e63_39, e63_42]
    by_cases h2 : what < 0 <;> by_cases h3 : 1 < what <;> by_cases h4 : what = 0 <;> simp [h2, h3, h4]
  · have h5 : ¬ (¬ m < 0 ∧ m < nI L.2.2.2.2.1 ∧ ¬ what < 0 ∧ ¬ 1 < what) := fun q => h1 ⟨q.1, q.2.1⟩
    simp only [h1, h5, not_false_iff, if_true, if_false]
theorem s64 (hL : L_at σ 10 L) (hS : M_at σ 11 S) (ok : L_ok L) (sk : S_ok S) (g what : Int32) : z_call 64 [.ref 0, .int g, .int what] (z_enc σ) = some (some (.int (regR L S g what)), z_enc σ) := by
  simp only [en64, e64_0, e64_1, e64_2, e64_5, e64_8, e64_9, e64_12, e64_13, e64_14, e64_17, e64_18, e64_19, e64_20, e64_48, e64_49, e64_52, e64_53, e64_56, e64_57, e64_58, e64_61, e64_62, e64_65, e64_68, e64_69, e64_70, e64_73, e64_76, e64_77, e64_80, e64_81, e64_82, e64_85, e64_88, e64_89, e64_92, s88 hL, z_bd_i, z_bd_l, z_bd_v, List.cons_append, List.nil_append, z_nk_i, z_nk_r, z_nk_n, v0, v1, v3, v19, v61, v71, v76, z_b_0]
  unfold regR
  by_cases h1 : ¬ g < 0 ∧ g < nI L.2.2.2.2.2
  · obtain ⟨k, hk, rfl⟩ := inN_of h1 (by have := ok.2.2.2.2; omega)
    have hk4 : k < 4 := by have := ok.2.2.2.2; omega
    have hm : S.2.2.1 k < 10 := by have := sk.2.2.1 k hk4; omega
    simp only [h1, not_true, if_false, and_self, true_and, not_false_iff, iN_nI (show k < 2147483648 by omega), g0_3, vM isM_11, s23 isM_11 hS hk4, s24 isM_11 hS hk4, s90 hm, gM_4 isM_11, gM_5 isM_11, hS.2.2.2.1, hS.2.2.2.2.1, s91, bit4 _ sk.2.2.2.1 k hk4, bit4 _ sk.2.2.2.2.1 k hk4, z_bd_i, z_bd_l, z_bd_v, List.cons_append, List.nil_append, z_nk_i, z_nk_r, z_nk_n, v0, v1, v3, v19, v61, v71, v76, e64_0, e64_1, e64_2, e64_5, e64_8, e64_9, e64_12, e64_13, e64_14, e64_17, e64_18, e64_19, e64_20, e64_48, e64_49, e64_52, e64_53, e64_56, e64_57, e64_58, e64_61, e64_62, e64_65, e64_68, e64_69, e64_70, e64_73, e64_76, e64_77, e64_80, e64_81, e64_82, e64_85, e64_88, e64_89, e64_92]
    by_cases h2 : what < 0
    · simp [h2]
    · by_cases h3 : 3 < what
      · simp [h2, h3]
      · by_cases h4 : what = 0
        · simp [h4]
        · by_cases h5 : what = 1
          · simp [h5]
          · by_cases h6 : what = 2
            · simp [h6]
            · simp [h2, h3, h4, h5, h6]
  · have h5 : ¬ (¬ g < 0 ∧ g < nI L.2.2.2.2.2 ∧ ¬ what < 0 ∧ ¬ 3 < what) := fun q => h1 ⟨q.1, q.2.1⟩
    simp only [h1, h5, not_false_iff, if_true, if_false]
theorem s62 (hL : L_at σ 10 L) (hS : M_at σ 11 S) (ok : L_ok L) (sk : S_ok S) (x what : Int32) : z_call 62 [.ref 0, .int x, .int what] (z_enc σ) = some (some (.int (cellR L S x what)), z_enc σ) := by
  have hL2 : L_at σ (z_rf 11 0) L := by rw [rf_11]; exact hL
  have o1 : ((1 : Int32) = 0) = False := by decide
  have o2 : ((0 : Int32) = 1) = False := by decide
  simp only [en62, e62_0, e62_1, e62_4, e62_5, e62_8, e62_11, e62_12, e62_15, e62_16, e62_17, e62_20, e62_21, e62_22, e62_23, e62_26, e62_27, e62_30, e62_31, e62_34, e62_35, e62_36, e62_37, e62_40, e62_41, e62_44, e62_45, e62_48, e62_51, e62_52, e62_55, e62_56, e62_59, g0_2, g0_3, vL isL_10, s12 isL_10 hL, z_bd_i, z_bd_l, z_bd_v, List.cons_append, List.nil_append, z_nk_i, z_nk_r, z_nk_n, v0, v1, v3, v19, v61, v71, v76]
  unfold cellR
  rcases hasV_of (x := x) ok with ⟨h1, c, hc, rfl, hi⟩ | ⟨h1, -⟩
  · simp only [h1, o1, if_false, true_and, cN_tn hc, s16 isL_10 hL ok hc hi, vM isM_11, s28 isM_11 hS sk hc, s29 isM_11 hL2 hS ok sk hc, z_bd_i, z_bd_l, z_bd_v, List.cons_append, List.nil_append, z_nk_i, z_nk_r, z_nk_n, v0, v1, v3, v19, v61, v71, v76, e62_0, e62_1, e62_4, e62_5, e62_8, e62_11, e62_12, e62_15, e62_16, e62_17, e62_20, e62_21, e62_22, e62_23, e62_26, e62_27, e62_30, e62_31, e62_34, e62_35, e62_36, e62_37, e62_40, e62_41, e62_44, e62_45, e62_48, e62_51, e62_52, e62_55, e62_56, e62_59]
    by_cases h2 : what < 0
    · simp [h2]
    · by_cases h3 : 2 < what
      · simp [h2, h3]
      · by_cases h4 : what = 0
        · simp [h4]
        · by_cases h5 : what = 1
          · simp [h5]
          · simp [h2, h3, h4, h5]
  · simp only [h1, if_true, o2, false_and, if_false]
end CLS
