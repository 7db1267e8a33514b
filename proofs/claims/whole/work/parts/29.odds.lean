/-! BackMarch: images, odds -/
section ODDS
variable {σ : z_G} {L : t_L} {S : t_S} {hc : Nat} {hist : Nat → t_S} {kp : Nat} {img : Nat → t_S}
theorem s7b {x : Int32} (hb : ¬ (¬ x < 0 ∧ x < nI 2)) : z_call 7 [.ref 61, .int x, .ref 11] (z_enc σ) = some (some (.int 0), z_enc σ) := by
  by_cases h1 : x < 0
  · simp only [en7, e7_0, e7_1, e7_4, e7_5, e7_6, e7_9, e7_10, e7_13, e7_14, e7_15, e7_16, e7_19, e7_20, e7_21, e7_22, e7_25, e7_26, e7_27, e7_30, e7_31, e7_32, e7_33, e7_34, e7_37, e7_38, eq_true h1, if_true, z_b_ok0]
  · have h2 : ¬ x < nI 2 := fun q => hb ⟨h1, q⟩
    simp only [en7, e7_0, e7_1, e7_4, e7_5, e7_6, e7_9, e7_10, e7_13, e7_14, e7_15, e7_16, e7_19, e7_20, e7_21, e7_22, e7_25, e7_26, e7_27, e7_30, e7_31, e7_32, e7_33, e7_34, e7_37, e7_38, eq_false h1, if_false, g61_0, g_ln62, eq_false h2, z_b_ok0, if_true]
theorem s83 (hI : I_at σ kp img) (hS : M_at σ 11 S) (sk : S_ok S) {i : Nat} (hi : i < 2) : ∃ τ, z_call 83 [.ref 0, .int (nI i)] (z_enc σ) = some (some (.int (nI (popN 64 S.2.2.2.2.2))), z_enc τ) ∧ I_at τ (kp ||| 2 ^ i) (fun j => if j = i then S else img j) ∧ z_sm (fun p => p < 61 ∨ 71 ≤ p) σ τ := by
  obtain ⟨τ, h1, h2, h3⟩ := s7 hI hS hi
  refine ⟨τ, ?_, h2, h3⟩
  have o1 : ((1 : Int32) = 0) = False := by decide
  simp only [en83, e83_0, e83_1, e83_4, e83_5, e83_6, e83_9, e83_12, e83_15, e83_16, e83_19, e83_22, e83_25, e83_26, g0_6, g0_3, z_bd_i, z_bd_l, z_bd_v, List.cons_append, List.nil_append, z_nk_i, z_nk_r, z_nk_n, v0, v1, v3, v19, v61, v71, v76, h1, o1, if_false, vM isM_11, s27 isM_11 (M_at_sm hS h3 (by decide)) sk]
theorem s83b {x : Int32} (hb : ¬ (¬ x < 0 ∧ x < nI 2)) : z_call 83 [.ref 0, .int x] (z_enc σ) = some (some (.int (-1)), z_enc σ) := by
  simp only [en83, e83_0, e83_1, e83_4, e83_5, e83_6, e83_9, e83_12, e83_15, e83_16, e83_19, e83_22, e83_25, e83_26, g0_6, g0_3, z_bd_i, z_bd_l, z_bd_v, List.cons_append, List.nil_append, z_nk_i, z_nk_r, z_nk_n, v0, v1, v3, v19, v61, v71, v76, s7b hb, if_true]
theorem s84 {nx : Nat} (hI : I_at σ kp img) (hH : H_at σ nx hc hist) (hk : ∀ i, i < 2 → kp.testBit i = true → S_ok (img i)) {i : Nat} (hi : i < 2) :
    if kp.testBit i = true then ∃ τ, z_call 84 [.ref 0, .int (nI i)] (z_enc σ) = some (some (.int (nI (popN 64 (img i).2.2.2.2.2))), z_enc τ) ∧ M_at τ 11 (img i) ∧ H_at τ nx 0 hist ∧ z_sm (fun p => p < 11 ∨ (15 ≤ p ∧ p < 19) ∨ 61 ≤ p) σ τ
    else z_call 84 [.ref 0, .int (nI i)] (z_enc σ) = some (some (.int (-2)), z_enc σ) := by
  have b1 : (nI i < 0) = False := eq_false (nI_pos (by omega))
  have b2 : (nI i < 2) = True := eq_true (nI_lt (b := 2) hi (by decide))
  have o1 : ((1 : Int32) = 0) = False := by decide
  by_cases q : kp.testBit i = true
  · rw [if_pos q]
    have e8 := s8 hI hi
    rw [if_pos q] at e8
    have hat : M_at (z_ui (M_set σ 11 (img i)) 19 2 0) 11 (img i) := M_at_ui (M_at_set _ _ _) (by decide)
    refine ⟨z_ui (M_set σ 11 (img i)) 19 2 0, ?_, hat, ?_, (sm_M (by omega)).tr (sm_ui (by omega))⟩
    · simp only [en84, e84_0, e84_1, e84_4, e84_5, e84_6, e84_9, e84_10, e84_11, e84_12, e84_15, e84_16, e84_17, e84_20, e84_23, e84_26, e84_28, e84_29, e84_30, e84_33, e84_36, e84_37, e84_40, e84_43, b1, b2, if_false, if_true, g0_6, g0_3, z_bd_i, z_bd_l, z_bd_v, List.cons_append, List.nil_append, z_nk_i, z_nk_r, z_nk_n, v0, v1, v3, v19, v61, v71, v76, e8, o1, g0_5, s2, vM isM_11, s27 isM_11 hat (hk i hi q)]
    · obtain ⟨h1, h2, h3, h4, h5⟩ := hH
      exact ⟨h1, by decide, by rw [z_ui_ne (by omega), M_set_out (by unfold M_in; omega)]; exact h3, by rw [z_ui_eq]; rfl, fun j hj => absurd hj (by omega)⟩
  · rw [if_neg q]
    have e8 := s8 hI hi
    rw [if_neg q] at e8
    simp only [en84, e84_0, e84_1, e84_4, e84_5, e84_6, e84_9, e84_10, e84_11, e84_12, e84_15, e84_16, e84_17, e84_20, e84_23, e84_26, e84_28, e84_29, e84_30, e84_33, e84_36, e84_37, e84_40, e84_43, b1, b2, if_false, if_true, g0_6, g0_3, z_bd_i, z_bd_l, z_bd_v, List.cons_append, List.nil_append, z_nk_i, z_nk_r, z_nk_n, v0, v1, v3, v19, v61, v71, v76, e8]
theorem s84b {x : Int32} (hb : ¬ (¬ x < 0 ∧ x < 2)) : z_call 84 [.ref 0, .int x] (z_enc σ) = some (some (.int (-1)), z_enc σ) := by
  by_cases h1 : x < 0
  · simp only [en84, e84_0, e84_1, e84_4, e84_5, e84_6, e84_9, e84_10, e84_11, e84_12, e84_15, e84_16, e84_17, e84_20, e84_23, e84_26, e84_28, e84_29, e84_30, e84_33, e84_36, e84_37, e84_40, e84_43, eq_true h1, if_true]
  · have h2 : ¬ x < 2 := fun q => hb ⟨h1, q⟩
    simp only [en84, e84_0, e84_1, e84_4, e84_5, e84_6, e84_9, e84_10, e84_11, e84_12, e84_15, e84_16, e84_17, e84_20, e84_23, e84_26, e84_28, e84_29, e84_30, e84_33, e84_36, e84_37, e84_40, e84_43, eq_false h1, if_false, eq_false h2]
-- odds
theorem l100 (b t : Nat) (ph : z_H) (ht : t < 1000) : ∀ d i, d + i = t → z_r [] 0 0 100 4 [some (.int (nI b)), some (.int (nI t)), some (.int (nI (b ^ i))), some (.int (nI i))] [] ph = some (some (.int (nI (b ^ t))), ph) := by
  intro d
  induction d with
  | zero =>
    intro i hd
    have b1 : (nI i < nI t) = False := eq_false (nI_nlt (by omega) (by omega))
    have e : i = t := by omega
    subst e
    rw [e100_4]
    simp only [e100_0, e100_1, e100_2, e100_3, e100_5, e100_6, e100_9, e100_10, e100_11, e100_12, e100_13, e100_16, e100_19, e100_20, b1, if_false]
  | succ d ih =>
    intro i hd
    have b1 : (nI i < nI t) = True := eq_true (nI_lt (by omega) (by omega))
    rw [e100_4]
    simp only [e100_0, e100_1, e100_2, e100_3, e100_5, e100_6, e100_9, e100_10, e100_11, e100_12, e100_13, e100_16, e100_19, e100_20, b1, if_true, pk_mul, nI_1]
    rw [← Nat.pow_succ]
    exact ih (i + 1) (by omega)
theorem s100 (b t : Nat) (ht : t < 1000) (ph : z_H) : z_call 100 [.int (nI b), .int (nI t)] ph = some (some (.int (nI (b ^ t))), ph) := by
  have e := l100 b t ph ht t 0 (by omega)
  rw [Nat.pow_zero] at e
  simp only [en100, e100_0, e100_1, e100_2, e100_3, e100_5, e100_6, e100_9, e100_10, e100_11, e100_12, e100_13, e100_16, e100_19, e100_20]
  exact e
def wayF (x k M : Nat) : Nat → Nat
  | 0 => 0
  | s + 1 => wayF x k M s + (if ones4 s ≤ k then x ^ ones4 s * (10 - x) ^ (M - ones4 s) else 0)
theorem one_M : ∀ M, M < 5 → ∀ s, s < 2 ^ M → ones4 s ≤ M := by decide +kernel
theorem l99 (hL : L_at σ 10 L) (ok : L_ok L) {x k : Nat} (hx : x ≤ 10) (hk : k ≤ 4) : ∀ d s (l5 : Option Value), d + s = 2 ^ L.2.2.2.2.1 → z_r [] 0 0 99 5 [some (.ref 0), some (.int (nI x)), some (.int (nI k)), some (.int (nI (wayF x k L.2.2.2.2.1 s))), some (.int (nI s)), l5] [] (z_enc σ) = some (some (.int (nI (wayF x k L.2.2.2.2.1 (2 ^ L.2.2.2.2.1)))), z_enc σ) := by
  have hM := ok.2.2.2.1
  have h16 : 2 ^ L.2.2.2.2.1 ≤ 16 := Nat.pow_le_pow_right (by decide) hM
  intro d
  induction d with
  | zero =>
    intro s l5 hd
    have b1 : (nI s < nI (2 ^ L.2.2.2.2.1)) = False := eq_false (nI_nlt (by omega) (by omega))
    have e : s = 2 ^ L.2.2.2.2.1 := by omega
    rw [e99_5]
    simp only [e99_0, e99_1, e99_2, e99_3, e99_7, e99_8, e99_9, e99_12, e99_15, e99_16, e99_19, e99_21, e99_24, e99_26, e99_28, e99_29, e99_32, e99_33, e99_34, e99_36, e99_39, e99_41, e99_42, e99_43, e99_44, e99_47, e99_50, e99_52, e99_53, e99_56, e99_57, e99_58, e99_59, e99_62, e99_65, e99_66, g0_2, gL_4 isL_10, hL.2.2.2.2.1, sh1 _ (show L.2.2.2.2.1 < 31 by omega), b1, if_false]
    rw [e]
  | succ d ih =>
    intro s l5 hd
    have hs : s < 16 := by omega
    have b1 : (nI s < nI (2 ^ L.2.2.2.2.1)) = True := eq_true (nI_lt (by omega) (by omega))
    have h4 := ones_le s
    have hle := one_M _ (show L.2.2.2.2.1 < 5 by omega) s (by omega)
    have e1 : (nI k < nI (ones4 s)) = (k < ones4 s) := propext (nI_ltI (by omega) (by omega))
    have s1 : nI L.2.2.2.2.1 - nI (ones4 s) = nI (L.2.2.2.2.1 - ones4 s) := pk_sub hle
    have s2 : (10 : Int32) - nI x = nI (10 - x) := by rw [show (10 : Int32) = nI 10 from rfl, pk_sub hx]
    have e := fun l5 => ih (s + 1) l5 (by omega)
    rw [wayF] at e
    rw [e99_5]
    simp only [e99_0, e99_1, e99_2, e99_3, e99_7, e99_8, e99_9, e99_12, e99_15, e99_16, e99_19, e99_21, e99_24, e99_26, e99_28, e99_29, e99_32, e99_33, e99_34, e99_36, e99_39, e99_41, e99_42, e99_43, e99_44, e99_47, e99_50, e99_52, e99_53, e99_56, e99_57, e99_58, e99_59, e99_62, e99_65, e99_66, g0_2, gL_4 isL_10, hL.2.2.2.2.1, sh1 _ (show L.2.2.2.2.1 < 31 by omega), b1, if_true, ones_ok s hs, z_bd_i, z_bd_l, z_bd_v, List.cons_append, List.nil_append, z_nk_i, z_nk_r, z_nk_n, v0, v1, v3, v19, v61, v71, v76, e1]
    by_cases q : k < ones4 s
    · rw [if_neg (show ¬ ones4 s ≤ k by omega)] at e
      simp only [eq_true q, if_true, nI_1]
      exact e _
    · rw [if_pos (show ones4 s ≤ k by omega)] at e
      simp only [eq_false q, if_false, s100 x _ (show ones4 s < 1000 by omega), z_bd_i, z_bd_l, z_bd_v, List.cons_append, List.nil_append, z_nk_i, z_nk_r, z_nk_n, v0, v1, v3, v19, v61, v71, v76, g0_2, gL_4 isL_10, hL.2.2.2.2.1, s1, s2, s100 (10 - x) _ (show L.2.2.2.2.1 - ones4 s < 1000 by omega), pk_mul, nI_add, nI_1, e99_0, e99_1, e99_2, e99_3, e99_7, e99_8, e99_9, e99_12, e99_15, e99_16, e99_19, e99_21, e99_24, e99_26, e99_28, e99_29, e99_32, e99_33, e99_34, e99_36, e99_39, e99_41, e99_42, e99_43, e99_44, e99_47, e99_50, e99_52, e99_53, e99_56, e99_57, e99_58, e99_59, e99_62, e99_65, e99_66]
      exact e _
theorem s99 (hL : L_at σ 10 L) (ok : L_ok L) {x k : Nat} (hx : x ≤ 10) (hk : k ≤ 4) : z_call 99 [.ref 0, .int (nI x), .int (nI k)] (z_enc σ) = some (some (.int (nI (wayF x k L.2.2.2.2.1 (2 ^ L.2.2.2.2.1)))), z_enc σ) := by
  have e := l99 hL ok hx hk (2 ^ L.2.2.2.2.1) 0 none (by omega)
  rw [wayF] at e
  simp only [en99, e99_0, e99_1, e99_2, e99_3, e99_7, e99_8, e99_9, e99_12, e99_15, e99_16, e99_19, e99_21, e99_24, e99_26, e99_28, e99_29, e99_32, e99_33, e99_34, e99_36, e99_39, e99_41, e99_42, e99_43, e99_44, e99_47, e99_50, e99_52, e99_53, e99_56, e99_57, e99_58, e99_59, e99_62, e99_65, e99_66]
  exact e
def euF : Nat → Nat → Nat → Nat
  | 0, a, _ => a
  | f + 1, a, b => if b = 0 then a else euF f b (a % b)
theorem irem_nI {a b : Nat} (ha : a < 2147483648) (h0 : 0 < b) (hb : b < 2147483648) : nI a - nI a / nI b * nI b = nI (a % b) := pk_rem ha h0 hb
theorem l101 (ph : z_H) {a0 b0 : Int32} : ∀ d t a b (l5 : Option Value), d + t = 64 → a < 2147483648 → b < 2147483648 → z_r [] 0 0 101 7 [some (.int a0), some (.int b0), some (.int (nI a)), some (.int (nI b)), some (.int (nI t)), l5] [] ph = some (some (.int (if nI (euF d a b) < 1 then 1 else nI (euF d a b))), ph) := by
  intro d
  induction d with
  | zero =>
    intro t a b l5 hd ha hb
    have b1 : (nI t < 64) = False := eq_false (nI_nlt (a := t) (b := 64) (by omega) (by omega))
    rw [e101_7]
    simp only [e101_0, e101_1, e101_2, e101_3, e101_4, e101_5, e101_9, e101_11, e101_14, e101_15, e101_18, e101_19, e101_20, e101_21, e101_23, e101_24, e101_25, e101_27, e101_28, e101_31, e101_34, e101_35, e101_36, e101_39, b1, if_false, euF]
    rfl
  | succ d ih =>
    intro t a b l5 hd ha hb
    have b1 : (nI t < 64) = True := eq_true (nI_lt (a := t) (b := 64) (by omega) (by omega))
    rw [euF]
    rw [e101_7]
    by_cases q : b = 0
    · have e0 : (nI b = 0) = True := eq_true (by rw [q]; rfl)
      simp only [e101_0, e101_1, e101_2, e101_3, e101_4, e101_5, e101_9, e101_11, e101_14, e101_15, e101_18, e101_19, e101_20, e101_21, e101_23, e101_24, e101_25, e101_27, e101_28, e101_31, e101_34, e101_35, e101_36, e101_39, b1, if_true, e0, if_pos q]
    · have e0 : (nI b = 0) = False := eq_false (nz hb q)
      have hm := Nat.mod_lt a (show 0 < b by omega)
      simp only [e101_0, e101_1, e101_2, e101_3, e101_4, e101_5, e101_9, e101_11, e101_14, e101_15, e101_18, e101_19, e101_20, e101_21, e101_23, e101_24, e101_25, e101_27, e101_28, e101_31, e101_34, e101_35, e101_36, e101_39, b1, if_true, e0, if_false, irem_nI ha (show 0 < b by omega) hb, if_neg q, nI_1]
      exact ih (t + 1) b (a % b) _ (by omega) hb (by omega)
theorem s101 {a b : Nat} (ha : a < 2147483648) (hb : b < 2147483648) (ph : z_H) : z_call 101 [.int (nI a), .int (nI b)] ph = some (some (.int (if nI (euF 64 a b) < 1 then 1 else nI (euF 64 a b))), ph) := by
  have e := l101 ph (a0 := nI a) (b0 := nI b) 64 0 a b none rfl ha hb
  simp only [en101, e101_0, e101_1, e101_2, e101_3, e101_4, e101_5, e101_9, e101_11, e101_14, e101_15, e101_18, e101_19, e101_20, e101_21, e101_23, e101_24, e101_25, e101_27, e101_28, e101_31, e101_34, e101_35, e101_36, e101_39]
  exact e
theorem odd_fin : ∀ M, M < 5 → ∀ x, x < 11 → ∀ k, k < 5 → wayF x k M (2 ^ M) ≤ 10000 ∧ euF 64 (wayF x k M (2 ^ M)) (10 ^ M) = Nat.gcd (wayF x k M (2 ^ M)) (10 ^ M) ∧ 1 ≤ Nat.gcd (wayF x k M (2 ^ M)) (10 ^ M) ∧ Nat.gcd (wayF x k M (2 ^ M)) (10 ^ M) ≤ 10000 ∧ 10 ^ M ≤ 10000 := by decide +kernel
def oddR (M x k what : Nat) : Int32 := nI ((if what = 0 then wayF x k M (2 ^ M) else 10 ^ M) / Nat.gcd (wayF x k M (2 ^ M)) (10 ^ M))
theorem s77 (hL : L_at σ 10 L) (ok : L_ok L) {x k what : Nat} (hx : x ≤ 10) (hk : k ≤ 4) (hw : what ≤ 1) : z_call 77 [.ref 0, .int (nI x), .int (nI k), .int (nI what)] (z_enc σ) = some (some (.int (oddR L.2.2.2.2.1 x k what)), z_enc σ) := by
  have hM := ok.2.2.2.1
  obtain ⟨f1, f2, f3, f4, f5⟩ := odd_fin _ (show L.2.2.2.2.1 < 5 by omega) x (by omega) k (by omega)
  have b1 : (nI x < 0) = False := eq_false (nI_pos (by omega))
  have b2 : ((10 : Int32) < nI x) = False := eq_false (nI_nlt (a := 10) (b := x) (by omega) (by decide))
  have b3 : (nI k < 0) = False := eq_false (nI_pos (by omega))
  have b4 : ((4 : Int32) < nI k) = False := eq_false (nI_nlt (a := 4) (b := k) (by omega) (by decide))
  have b5 : (nI what < 0) = False := eq_false (nI_pos (by omega))
  have b6 : ((1 : Int32) < nI what) = False := eq_false (nI_nlt (a := 1) (b := what) (by omega) (by decide))
  have s10 : ∀ ph, z_call 100 [.int 10, .int (nI L.2.2.2.2.1)] ph = some (some (.int (nI (10 ^ L.2.2.2.2.1))), ph) := fun ph => s100 10 _ (by omega) ph
  have e1 := s101 (a := wayF x k L.2.2.2.2.1 (2 ^ L.2.2.2.2.1)) (b := 10 ^ L.2.2.2.2.1) (by omega) (by omega)
  have g1 : ¬ nI (Nat.gcd (wayF x k L.2.2.2.2.1 (2 ^ L.2.2.2.2.1)) (10 ^ L.2.2.2.2.1)) < (1 : Int32) := nI_nlt (a := Nat.gcd (wayF x k L.2.2.2.2.1 (2 ^ L.2.2.2.2.1)) (10 ^ L.2.2.2.2.1)) (b := 1) f3 (by omega)
  simp only [f2, g1, if_false] at e1
  have e2 : (nI (Nat.gcd (wayF x k L.2.2.2.2.1 (2 ^ L.2.2.2.2.1)) (10 ^ L.2.2.2.2.1)) = 0) = False := eq_false (nz (by omega) (by omega))
  unfold oddR
  have hw2 : what = 0 ∨ what = 1 := by omega
  rcases hw2 with rfl | rfl
  · simp only [en77, e77_0, e77_1, e77_4, e77_5, e77_7, e77_10, e77_11, e77_14, e77_15, e77_16, e77_19, e77_20, e77_23, e77_24, e77_25, e77_28, e77_29, e77_30, e77_31, e77_32, e77_33, e77_36, e77_38, e77_40, e77_41, e77_44, e77_47, e77_50, e77_52, e77_54, e77_56, e77_59, e77_61, e77_62, e77_65, e77_67, e77_70, e77_72, e77_74, e77_75, b1, b2, b3, b4, b5, b6, if_false, s99 hL ok hx hk, z_bd_i, z_bd_l, z_bd_v, List.cons_append, List.nil_append, z_nk_i, z_nk_r, z_nk_n, v0, v1, v3, v19, v61, v71, v76, g0_2, gL_4 isL_10, hL.2.2.2.2.1, s10, e1, show (nI 0 = 0) = True from by decide, if_true, e2]
    rw [pk_div (by omega) (by omega) (by omega)]
  · simp only [en77, e77_0, e77_1, e77_4, e77_5, e77_7, e77_10, e77_11, e77_14, e77_15, e77_16, e77_19, e77_20, e77_23, e77_24, e77_25, e77_28, e77_29, e77_30, e77_31, e77_32, e77_33, e77_36, e77_38, e77_40, e77_41, e77_44, e77_47, e77_50, e77_52, e77_54, e77_56, e77_59, e77_61, e77_62, e77_65, e77_67, e77_70, e77_72, e77_74, e77_75, b1, b2, b3, b4, b5, b6, if_false, s99 hL ok hx hk, z_bd_i, z_bd_l, z_bd_v, List.cons_append, List.nil_append, z_nk_i, z_nk_r, z_nk_n, v0, v1, v3, v19, v61, v71, v76, g0_2, gL_4 isL_10, hL.2.2.2.2.1, s10, e1, show (nI 1 = 0) = False from by decide, e2, Nat.one_ne_zero]
    rw [pk_div (by omega) (by omega) (by omega)]
theorem s77b {x k wh : Int32} (hb : ¬ (¬ x < 0 ∧ ¬ 10 < x ∧ ¬ k < 0 ∧ ¬ 4 < k ∧ ¬ wh < 0 ∧ ¬ 1 < wh)) : z_call 77 [.ref 0, .int x, .int k, .int wh] (z_enc σ) = some (some (.int (-1)), z_enc σ) := by
  by_cases h1 : x < 0
  · simp only [en77, e77_0, e77_1, e77_4, e77_5, e77_7, e77_10, e77_11, e77_14, e77_15, e77_16, e77_19, e77_20, e77_23, e77_24, e77_25, e77_28, e77_29, e77_30, e77_31, e77_32, e77_33, e77_36, e77_38, e77_40, e77_41, e77_44, e77_47, e77_50, e77_52, e77_54, e77_56, e77_59, e77_61, e77_62, e77_65, e77_67, e77_70, e77_72, e77_74, e77_75, eq_true h1, if_true]
  · by_cases h2 : 10 < x
    · simp only [en77, e77_0, e77_1, e77_4, e77_5, e77_7, e77_10, e77_11, e77_14, e77_15, e77_16, e77_19, e77_20, e77_23, e77_24, e77_25, e77_28, e77_29, e77_30, e77_31, e77_32, e77_33, e77_36, e77_38, e77_40, e77_41, e77_44, e77_47, e77_50, e77_52, e77_54, e77_56, e77_59, e77_61, e77_62, e77_65, e77_67, e77_70, e77_72, e77_74, e77_75, eq_false h1, if_false, eq_true h2, if_true]
    · by_cases h3 : k < 0
      · simp only [en77, e77_0, e77_1, e77_4, e77_5, e77_7, e77_10, e77_11, e77_14, e77_15, e77_16, e77_19, e77_20, e77_23, e77_24, e77_25, e77_28, e77_29, e77_30, e77_31, e77_32, e77_33, e77_36, e77_38, e77_40, e77_41, e77_44, e77_47, e77_50, e77_52, e77_54, e77_56, e77_59, e77_61, e77_62, e77_65, e77_67, e77_70, e77_72, e77_74, e77_75, eq_false h1, if_false, eq_false h2, eq_true h3, if_true]
      · by_cases h4 : 4 < k
        · simp only [en77, e77_0, e77_1, e77_4, e77_5, e77_7, e77_10, e77_11, e77_14, e77_15, e77_16, e77_19, e77_20, e77_23, e77_24, e77_25, e77_28, e77_29, e77_30, e77_31, e77_32, e77_33, e77_36, e77_38, e77_40, e77_41, e77_44, e77_47, e77_50, e77_52, e77_54, e77_56, e77_59, e77_61, e77_62, e77_65, e77_67, e77_70, e77_72, e77_74, e77_75, eq_false h1, if_false, eq_false h2, eq_false h3, eq_true h4, if_true]
        · by_cases h5 : wh < 0
          · simp only [en77, e77_0, e77_1, e77_4, e77_5, e77_7, e77_10, e77_11, e77_14, e77_15, e77_16, e77_19, e77_20, e77_23, e77_24, e77_25, e77_28, e77_29, e77_30, e77_31, e77_32, e77_33, e77_36, e77_38, e77_40, e77_41, e77_44, e77_47, e77_50, e77_52, e77_54, e77_56, e77_59, e77_61, e77_62, e77_65, e77_67, e77_70, e77_72, e77_74, e77_75, eq_false h1, if_false, eq_false h2, eq_false h3, eq_false h4, eq_true h5, if_true]
          · have h6 : 1 < wh := Classical.byContradiction fun q => hb ⟨h1, h2, h3, h4, h5, q⟩
            simp only [en77, e77_0, e77_1, e77_4, e77_5, e77_7, e77_10, e77_11, e77_14, e77_15, e77_16, e77_19, e77_20, e77_23, e77_24, e77_25, e77_28, e77_29, e77_30, e77_31, e77_32, e77_33, e77_36, e77_38, e77_40, e77_41, e77_44, e77_47, e77_50, e77_52, e77_54, e77_56, e77_59, e77_61, e77_62, e77_65, e77_67, e77_70, e77_72, e77_74, e77_75, eq_false h1, if_false, eq_false h2, eq_false h3, eq_false h4, eq_false h5, eq_true h6, if_true]
end ODDS
