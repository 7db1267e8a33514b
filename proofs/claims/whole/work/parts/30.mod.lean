/-! the reference: its land, its rows of 16 -/
def D_at (σ : z_G) (L : t_L) : Prop := σ.1 78 0 = nI L.1 ∧ σ.1 78 1 = nI L.2.1 ∧ σ.1 78 2 = nI L.2.2.2.2.1 ∧ σ.1 78 3 = nI L.2.2.2.2.2 ∧ ∀ c, c < 64 → σ.1 78 (4 + c) = nI (kindF L c)
def R_at (σ : z_G) (p o N : Nat) (S : t_S) : Prop := (∀ k, k < 4 → σ.1 p (o + k) = nI (S.2.1 k)) ∧ (∀ g, g < N → σ.1 p (o + 4 + g) = toldF (S.2.2.1 g)) ∧ σ.1 p (o + 8) = nI S.2.2.2.1 ∧ σ.1 p (o + 9) = nI S.2.2.2.2.1 ∧ (σ.1 p (o + 10) = nI (S.2.2.2.2.2 % 4294967296) ∧ σ.1 p (o + 11) = nI (S.2.2.2.2.2 / 4294967296)) ∧ ∀ k, k < 4 → σ.1 p (o + 12 + k) = nI (S.1 k)
theorem an77 : z_an 77 = 120 := by decide +kernel
theorem an78 : z_an 78 = 68 := by decide +kernel
theorem an79 : z_an 79 = 68 := by decide +kernel
theorem an80 : z_an 80 = 16 := by decide +kernel
theorem an81 : z_an 81 = 16 := by decide +kernel
theorem an82 : z_an 82 = 16 := by decide +kernel
theorem an83 : z_an 83 = 160 := by decide +kernel
theorem an84 : z_an 84 = 32 := by decide +kernel
theorem an85 : z_an 85 = 18 := by decide +kernel
theorem an86 : z_an 86 = 4 := by decide +kernel
/-- reads and writes of an array at a number that is a Nat -/
theorem g_iln {σ : z_G} {a n k : Nat} {K : Int32 → Option z_O} (h : z_an a = n) (hk : k < n) (hn : n ≤ 65536) : z_il1 (z_enc σ) a (nI k) K = K (σ.1 a k) := by
  rw [g_il h (by omega) (z_in_nI hk hn), nI_clamp (by omega)]
theorem g_isn {σ : z_G} {a n k : Nat} {x : Int32} {K : z_H → Option z_O} (h : z_an a = n) (hk : k < n) (hn : n ≤ 65536) : z_is1 (z_enc σ) a (nI k) x K = K (z_enc (z_ui σ a k x)) := by
  rw [g_is h (by omega) (z_in_nI hk hn), nI_clamp (by omega)]
def z_n (o : Option Nat) : Int32 := match o with
  | some d => nI d
  | none => -9
theorem kind_le (L : t_L) (c : Nat) : kindF L c ≤ 2 := by
  unfold kindF
  by_cases h1 : wallF L c = true <;> by_cases h2 : foldF L c = true <;> simp [h1, h2]
theorem tn_8 {c : Nat} (h : c < 64) : nI c / 8 * 10 + (nI c - nI c / 8 * 8) = nI (tn c) := by
  rw [show (8 : Int32) = nI 8 from rfl, show (10 : Int32) = nI 10 from rfl, pk_div (by omega) (by decide) (by decide), pk_mul, pk_mul, pk_sub (by omega), nI_add]
  congr 1
  unfold tn
  omega
theorem c_8 {c : Nat} (h : c < 64) : nI (tn c) / 10 * 8 + (nI (tn c) - nI (tn c) / 10 * 10) = nI c := by
  have ht := tn_lt h
  rw [show (8 : Int32) = nI 8 from rfl, show (10 : Int32) = nI 10 from rfl, pk_div (by omega) (by decide) (by decide), pk_mul, pk_mul, pk_sub (by omega), nI_add]
  congr 1
  unfold tn
  omega
theorem in_m1 {N : Nat} (hN : N < 1000) (x : Int32) : (¬ x < 0 ∧ ¬ nI N - 1 < x) = (¬ x < 0 ∧ x < nI N) := by
  apply propext
  have h1 : ∀ a b : Int32, a < b ↔ a.toInt < b.toInt := fun a b => Int32.lt_iff_toInt_lt
  have e0 : (0 : Int32).toInt = 0 := rfl
  have eN : (nI N).toInt = N := nI_toInt (by omega)
  have e1 : (nI N - 1).toInt = (N : Int) - 1 := by
    rw [show (1 : Int32) = nI 1 from rfl, pk_sub_toInt (by omega) (by decide)]
    rfl
  rw [h1, h1, h1, e0, eN, e1]
  omega
theorem in_m2 {N j : Nat} (hN : N < 1000) (hj : j < 2 ^ 31) : (nI N - 1 < nI j) = ¬ (nI j < nI N) := by
  have h := in_m1 hN (nI j)
  have h0 : ¬ nI j < 0 := nI_pos hj
  apply propext
  constructor
  · intro a b
    have : ¬ nI j < 0 ∧ ¬ nI N - 1 < nI j := h ▸ ⟨h0, b⟩
    exact this.2 a
  · intro a
    apply Classical.byContradiction
    intro b
    have : ¬ nI j < 0 ∧ nI j < nI N := h ▸ ⟨h0, b⟩
    exact a this.2
section MOD
variable {σ : z_G} {L : t_L} {S : t_S}
theorem s116 {d g : Nat} (hd : d < 16) (hg : g < 4) (ph : z_H) : z_call 116 [.int (nI d), .int (nI g)] ph = some (some (.int (z_b (d.testBit g = true))), ph) := by
  simp only [en116, e116_0, e116_1, e116_2, e116_3, e116_4, e116_5, e116_6, e116_9, e116_10, e116_13, e116_14, bit4 d hd g hg, z_b_1, z_b_ok0, z_b_ok1, if_true]
  by_cases q : d.testBit g = true <;> simp [q, z_b]
theorem s132 {c : Nat} (h : c < 64) (ph : z_H) : z_call 132 [.int (nI c)] ph = some (some (.int (nI (tn c))), ph) := by
  simp only [en132, e132_0, e132_1, e132_3, e132_4, e132_6, e132_7, e132_8, e132_10, e132_11, e132_12, d_8, if_false, tn_8 h]
theorem s134 {c : Nat} (h : c < 64) (ph : z_H) : z_call 134 [.int (nI (tn c))] ph = some (some (.int (nI c)), ph) := by
  simp only [en134, e134_0, e134_1, e134_3, e134_4, e134_6, e134_7, e134_8, e134_10, e134_11, e134_12, d_10, if_false, c_8 h]
theorem s137 (hD : D_at σ L) {c : Nat} (h : c < 64) : z_call 137 [.ref 76, .int (nI c)] (z_enc σ) = some (some (.int (nI (kindF L c))), z_enc σ) := by
  have e : (4 : Int32) + nI c = nI (4 + c) := by rw [show (4 : Int32) = nI 4 from rfl, nI_add]
  simp (disch := omega) only [en137, e137_0, e137_1, e137_4, e137_5, e137_6, e137_7, e137_8, g76_2, e, g_iln an78, hD.2.2.2.2 c h]
theorem s138 (hD : D_at σ L) (ok : L_ok L) (x : Int32) : z_call 138 [.ref 76, .int x] (z_enc σ) = some (some (.int (z_b (¬ x < 0 ∧ x < nI L.2.2.2.2.2))), z_enc σ) := by
  have h3 : σ.1 78 3 = nI L.2.2.2.2.2 := hD.2.2.2.1
  have i3 : ∀ K : Int32 → Option z_O, z_il1 (z_enc σ) 78 3 K = K (σ.1 78 3) := fun K => g_iln (k := 3) an78 (by decide) (by decide)
  have hm := in_m1 (show L.2.2.2.2.2 < 1000 by have := ok.2.2.2.2; omega) x
  simp only [en138, e138_0, e138_1, e138_2, e138_3, e138_6, e138_7, e138_8, e138_9, e138_10, e138_13, g76_2, i3, h3, s115, z_bd_i, z_bd_l, z_bd_v, List.cons_append, List.nil_append, z_nk_i, z_nk_r, z_nk_n, v0, v1, v3, v19, v61, v71, v76, z_b_ok, if_true]
  congr 3
  unfold z_b
  simp only [hm]
theorem s139 (hD : D_at σ L) (ok : L_ok L) (x : Int32) : z_call 139 [.ref 76, .int x] (z_enc σ) = some (some (.int (z_b (¬ x < 0 ∧ x < nI L.2.2.2.2.1))), z_enc σ) := by
  have h3 : σ.1 78 2 = nI L.2.2.2.2.1 := hD.2.2.1
  have i3 : ∀ K : Int32 → Option z_O, z_il1 (z_enc σ) 78 2 K = K (σ.1 78 2) := fun K => g_iln (k := 2) an78 (by decide) (by decide)
  have hm := in_m1 (show L.2.2.2.2.1 < 1000 by have := ok.2.2.2.1; omega) x
  simp only [en139, e139_0, e139_1, e139_2, e139_3, e139_6, e139_7, e139_8, e139_9, e139_10, e139_13, g76_2, i3, h3, s115, z_bd_i, z_bd_l, z_bd_v, List.cons_append, List.nil_append, z_nk_i, z_nk_r, z_nk_n, v0, v1, v3, v19, v61, v71, v76, z_b_ok, if_true]
  congr 3
  unfold z_b
  simp only [hm]
theorem s133 (hD : D_at σ L) (ok : L_ok L) (x : Int32) : z_call 133 [.ref 76, .int x] (z_enc σ) = some (some (.int (hasV L x)), z_enc σ) := by
  obtain ⟨⟨w1, w2⟩, ⟨w3, w4⟩, -⟩ := id ok
  have i0 : ∀ K : Int32 → Option z_O, z_il1 (z_enc σ) 78 0 K = K (σ.1 78 0) := fun K => g_iln (k := 0) an78 (by decide) (by decide)
  have i1 : ∀ K : Int32 → Option z_O, z_il1 (z_enc σ) 78 1 K = K (σ.1 78 1) := fun K => g_iln (k := 1) an78 (by decide) (by decide)
  have h0 := hD.1
  have h1 := hD.2.1
  simp only [en133, e133_0, e133_1, e133_4, e133_5, e133_7, e133_8, e133_9, e133_10, e133_13, e133_14, e133_15, e133_16, e133_17, e133_20, e133_23, e133_24, e133_26, e133_27, e133_28, e133_29, e133_32, e133_33, e133_34, e133_35, e133_36, e133_39, e133_42, e133_43, e133_46, e133_47, d_10, if_false, g76_2, i0, i1, h0, h1, s115, z_bd_i, z_bd_l, z_bd_v, List.cons_append, List.nil_append, z_nk_i, z_nk_r, z_nk_n, v0, v1, v3, v19, v61, v71, v76, z_b_ok0, z_b_ok1, if_true, z_b_0]
  unfold hasV
  by_cases hx : x < 0
  · simp only [eq_true hx, if_true]
  · obtain ⟨j, hj, rfl⟩ := nI_of hx
    have e1 : nI j / 10 = nI (j / 10) := pk_div hj (by decide) (by decide)
    have e2 : nI j - nI (j / 10) * 10 = nI (j % 10) := by
      rw [show (10 : Int32) = nI 10 from rfl, pk_mul, pk_sub (by omega)]
      congr 1
      omega
    have p1 : (nI (j / 10) < 0) = False := eq_false (nI_pos (by omega))
    have p2 : (nI (j % 10) < 0) = False := eq_false (nI_pos (by omega))
    have q1 := in_m2 (show L.1 < 1000 by omega) (show j / 10 < 2 ^ 31 by omega)
    have q2 := in_m2 (show L.2.1 < 1000 by omega) (show j % 10 < 2 ^ 31 by omega)
    simp only [eq_false hx, if_false, e1, e2, q1, q2, p1, p2, not_false_iff, true_and]
    by_cases g1 : nI (j / 10) < nI L.1
    · by_cases g2 : nI (j % 10) < nI L.2.1
      · simp only [eq_true g1, eq_true g2, not_true, not_false_iff, if_true, if_false, and_true, true_and, and_false, false_and, and_self, Classical.not_not]
      · simp only [eq_true g1, eq_false g2, not_true, not_false_iff, if_true, if_false, and_true, true_and, and_false, false_and, and_self, Classical.not_not]
    · simp only [eq_false g1, not_true, not_false_iff, if_true, if_false, and_true, true_and, and_false, false_and, and_self, Classical.not_not]
theorem s135 (hD : D_at σ L) (ok : L_ok L) (x y : Int32) : z_call 135 [.ref 76, .int x, .int y] (z_enc σ) = some (some (.int (if (¬ x < 0 ∧ x < nI L.1) ∧ (¬ y < 0 ∧ y < nI L.2.1) then 8 * x + y else -9)), z_enc σ) := by
  obtain ⟨⟨w1, w2⟩, ⟨w3, w4⟩, -⟩ := id ok
  have i0 : ∀ K : Int32 → Option z_O, z_il1 (z_enc σ) 78 0 K = K (σ.1 78 0) := fun K => g_iln (k := 0) an78 (by decide) (by decide)
  have i1 : ∀ K : Int32 → Option z_O, z_il1 (z_enc σ) 78 1 K = K (σ.1 78 1) := fun K => g_iln (k := 1) an78 (by decide) (by decide)
  have h0 := hD.1
  have h1 := hD.2.1
  have q1 := in_m1 (show L.1 < 1000 by omega) x
  have q2 := in_m1 (show L.2.1 < 1000 by omega) y
  simp only [en135, e135_0, e135_1, e135_2, e135_3, e135_6, e135_7, e135_8, e135_9, e135_10, e135_13, e135_16, e135_17, e135_18, e135_19, e135_22, e135_23, e135_24, e135_25, e135_26, e135_29, e135_32, e135_34, e135_35, e135_36, e135_37, e135_38, e135_41, e135_43, g76_2, i0, i1, h0, h1, s115, z_bd_i, z_bd_l, z_bd_v, List.cons_append, List.nil_append, z_nk_i, z_nk_r, z_nk_n, v0, v1, v3, v19, v61, v71, v76, z_b_0, q1, q2]
  by_cases g1 : ¬ x < 0 ∧ x < nI L.1
  · by_cases g2 : ¬ y < 0 ∧ y < nI L.2.1
    · simp only [eq_true g1, eq_true g2, not_true, if_false, and_self, if_true]
    · simp only [eq_true g1, eq_false g2, not_true, not_false_iff, if_false, and_false, if_true]
  · simp only [eq_false g1, not_false_iff, false_and, if_false, if_true]
theorem s136 (hD : D_at σ L) (ok : L_ok L) {c s : Nat} (hc : c < 64) (hs : s < 4) : z_call 136 [.ref 76, .int (nI c), .int (nI s)] (z_enc σ) = some (some (.int (z_n (besF L c s))), z_enc σ) := by
  obtain ⟨⟨w1, w2⟩, ⟨w3, w4⟩, -⟩ := id ok
  have e1 : nI c / 8 = nI (c / 8) := pk_div (by omega) (by decide) (by decide)
  have e2 : nI c - nI (c / 8) * 8 = nI (c % 8) := by
    rw [show (8 : Int32) = nI 8 from rfl, pk_mul, pk_sub (by omega)]
    congr 1
    omega
  have hs4 : s = 0 ∨ s = 1 ∨ s = 2 ∨ s = 3 := by omega
  have hx8 : c / 8 < 8 := by omega
  have hy8 : c % 8 < 8 := by omega
  have p1 : (nI (c / 8) < 0) = False := eq_false (nI_pos (by omega))
  have p2 : (nI (c % 8) < 0) = False := eq_false (nI_pos (by omega))
  have p3 : (nI (c / 8 + 1) < 0) = False := eq_false (nI_pos (by omega))
  have p4 : (nI (c % 8 + 1) < 0) = False := eq_false (nI_pos (by omega))
  have r1 : (nI (c / 8) < nI L.1) = (c / 8 < L.1) := propext (nI_ltI (by omega) (by omega))
  have r2 : (nI (c % 8) < nI L.2.1) = (c % 8 < L.2.1) := propext (nI_ltI (by omega) (by omega))
  have r3 : (nI (c / 8 + 1) < nI L.1) = (c / 8 + 1 < L.1) := propext (nI_ltI (by omega) (by omega))
  have r4 : (nI (c % 8 + 1) < nI L.2.1) = (c % 8 + 1 < L.2.1) := propext (nI_ltI (by omega) (by omega))
  rcases hs4 with rfl | rfl | rfl | rfl
  · simp only [en136, e136_0, e136_1, e136_3, e136_4, e136_5, e136_6, e136_8, e136_9, e136_11, e136_12, e136_15, e136_16, e136_17, e136_18, e136_19, e136_21, e136_24, e136_27, e136_28, e136_29, e136_32, e136_33, e136_34, e136_35, e136_36, e136_38, e136_41, e136_44, e136_45, e136_46, e136_49, e136_50, e136_51, e136_53, e136_54, e136_55, e136_58, e136_61, e136_62, e136_63, e136_65, e136_66, e136_67, e136_70, d_8, if_false, e1, e2, show (nI 0 = 0) = True from by decide, if_true, v76, s135 hD ok, z_bd_i, z_bd_l, z_bd_v, List.cons_append, List.nil_append, z_nk_i, z_nk_r, z_nk_n, v0, v1, v3, v19, v61, v71, v76, p2, r2, not_false_iff, true_and]
    unfold besF
    by_cases g : c / 8 = 0
    · rw [if_neg (fun q => by rw [g] at q; exact absurd q.1.1 (by decide)), if_neg (by omega)]
      rfl
    · have m1 : nI (c / 8) - 1 = nI (c / 8 - 1) := by rw [show (1 : Int32) = nI 1 from rfl, pk_sub (by omega)]
      have m2 : (nI (c / 8 - 1) < 0) = False := eq_false (nI_pos (by omega))
      have m3 : (nI (c / 8 - 1) < nI L.1) = (c / 8 - 1 < L.1) := propext (nI_ltI (by omega) (by omega))
      simp only [m1, m2, m3, not_false_iff, true_and, show 1 ≤ c / 8 from by omega]
      by_cases g1 : c / 8 - 1 < L.1 ∧ c % 8 < L.2.1
      · rw [if_pos g1, if_pos g1, show (8 : Int32) = nI 8 from rfl, pk_mul, nI_add]
        rw [show 8 * (c / 8 - 1) + c % 8 = c - 8 by omega]
        rfl
      · rw [if_neg g1, if_neg g1]
        rfl
  · simp only [en136, e136_0, e136_1, e136_3, e136_4, e136_5, e136_6, e136_8, e136_9, e136_11, e136_12, e136_15, e136_16, e136_17, e136_18, e136_19, e136_21, e136_24, e136_27, e136_28, e136_29, e136_32, e136_33, e136_34, e136_35, e136_36, e136_38, e136_41, e136_44, e136_45, e136_46, e136_49, e136_50, e136_51, e136_53, e136_54, e136_55, e136_58, e136_61, e136_62, e136_63, e136_65, e136_66, e136_67, e136_70, d_8, if_false, e1, e2, show (nI 1 = 0) = False from by decide, show (nI 1 = 1) = True from by decide, if_true, v76, s135 hD ok, z_bd_i, z_bd_l, z_bd_v, List.cons_append, List.nil_append, z_nk_i, z_nk_r, z_nk_n, v0, v1, v3, v19, v61, v71, v76, nI_1, p2, p3, r2, r3, not_false_iff, true_and]
    unfold besF
    by_cases g1 : c / 8 + 1 < L.1 ∧ c % 8 < L.2.1
    · rw [if_pos g1, if_pos g1, show (8 : Int32) = nI 8 from rfl, pk_mul, nI_add]
      rw [show 8 * (c / 8 + 1) + c % 8 = c + 8 by omega]
      rfl
    · rw [if_neg g1, if_neg g1]
      rfl
  · simp only [en136, e136_0, e136_1, e136_3, e136_4, e136_5, e136_6, e136_8, e136_9, e136_11, e136_12, e136_15, e136_16, e136_17, e136_18, e136_19, e136_21, e136_24, e136_27, e136_28, e136_29, e136_32, e136_33, e136_34, e136_35, e136_36, e136_38, e136_41, e136_44, e136_45, e136_46, e136_49, e136_50, e136_51, e136_53, e136_54, e136_55, e136_58, e136_61, e136_62, e136_63, e136_65, e136_66, e136_67, e136_70, d_8, if_false, e1, e2, show (nI 2 = 0) = False from by decide, show (nI 2 = 1) = False from by decide, show (nI 2 = 2) = True from by decide, if_true, v76, s135 hD ok, z_bd_i, z_bd_l, z_bd_v, List.cons_append, List.nil_append, z_nk_i, z_nk_r, z_nk_n, v0, v1, v3, v19, v61, v71, v76, p1, r1, not_false_iff, true_and]
    rw [show besF L c 2 = if c / 8 < L.1 ∧ 1 ≤ c % 8 ∧ c % 8 - 1 < L.2.1 then some (c - 1) else none from rfl]
    by_cases g : c % 8 = 0
    · rw [if_neg (fun q => by rw [g] at q; exact absurd q.2.1 (by decide)), if_neg (by omega)]
      rfl
    · have m1 : nI (c % 8) - 1 = nI (c % 8 - 1) := by rw [show (1 : Int32) = nI 1 from rfl, pk_sub (by omega)]
      have m2 : (nI (c % 8 - 1) < 0) = False := eq_false (nI_pos (by omega))
      have m3 : (nI (c % 8 - 1) < nI L.2.1) = (c % 8 - 1 < L.2.1) := propext (nI_ltI (by omega) (by omega))
      simp only [m1, m2, m3, not_false_iff, true_and, show 1 ≤ c % 8 from by omega]
      by_cases g1 : c / 8 < L.1 ∧ c % 8 - 1 < L.2.1
      · rw [if_pos g1, if_pos g1, show (8 : Int32) = nI 8 from rfl, pk_mul, nI_add]
        rw [show 8 * (c / 8) + (c % 8 - 1) = c - 1 by omega]
        rfl
      · rw [if_neg g1, if_neg g1]
        rfl
  · simp only [en136, e136_0, e136_1, e136_3, e136_4, e136_5, e136_6, e136_8, e136_9, e136_11, e136_12, e136_15, e136_16, e136_17, e136_18, e136_19, e136_21, e136_24, e136_27, e136_28, e136_29, e136_32, e136_33, e136_34, e136_35, e136_36, e136_38, e136_41, e136_44, e136_45, e136_46, e136_49, e136_50, e136_51, e136_53, e136_54, e136_55, e136_58, e136_61, e136_62, e136_63, e136_65, e136_66, e136_67, e136_70, d_8, if_false, e1, e2, show (nI 3 = 0) = False from by decide, show (nI 3 = 1) = False from by decide, show (nI 3 = 2) = False from by decide, v76, s135 hD ok, z_bd_i, z_bd_l, z_bd_v, List.cons_append, List.nil_append, z_nk_i, z_nk_r, z_nk_n, v0, v1, v3, v19, v61, v71, v76, nI_1, p1, p4, r1, r4, not_false_iff, true_and]
    unfold besF
    by_cases g1 : c / 8 < L.1 ∧ c % 8 + 1 < L.2.1
    · rw [if_pos g1, if_pos g1, show (8 : Int32) = nI 8 from rfl, pk_mul, nI_add]
      rw [show 8 * (c / 8) + (c % 8 + 1) = c + 1 by omega]
      rfl
    · rw [if_neg g1, if_neg g1]
      rfl
end MOD
