/-! how many bits are set: the JDK's Long.bitCount, and the reference's loop -/
def popN : Nat → Nat → Nat
  | 0, _ => 0
  | k + 1, n => n % 2 + popN k (n / 2)
def mk8 (b : Nat) : Nat → Nat
  | 0 => 0
  | k + 1 => b + 256 * mk8 b k
theorem and8 {l ml h mh : Nat} (hl : l < 256) (hm : ml < 256) : (l + 256 * h) &&& (ml + 256 * mh) = (l &&& ml) + 256 * (h &&& mh) := by
  apply Nat.eq_of_testBit_eq
  intro i
  have ha : (l &&& ml) < 2 ^ 8 := Nat.lt_of_le_of_lt Nat.and_le_left hl
  rw [Nat.testBit_and, Nat.add_comm l, Nat.add_comm ml, Nat.add_comm (l &&& ml), show (256 : Nat) = 2 ^ 8 from rfl, Nat.testBit_two_pow_mul_add h hl, Nat.testBit_two_pow_mul_add mh hm, Nat.testBit_two_pow_mul_add (h &&& mh) ha, Nat.testBit_and, Nat.testBit_and]
  split <;> rfl
def f1 (k n : Nat) : Nat := n - (n / 2 &&& mk8 85 k)
def f2 (k n : Nat) : Nat := (n &&& mk8 51 k) + (n / 4 &&& mk8 51 k)
def f3 (k n : Nat) : Nat := (n + n / 16) &&& mk8 15 k
def X1 (l : Nat) : Nat := l - (l / 2 &&& 85)
def Y1 (l : Nat) : Nat := (l &&& 51) + (l / 4 &&& 51)
theorem f1_s {k l h : Nat} (hl : l < 256) : f1 (k + 1) (l + 256 * h) = X1 l + 256 * f1 k h := by
  have e1 : (l + 256 * h) / 2 = (l / 2 + 128 * (h % 2)) + 256 * (h / 2) := by omega
  have fin : ∀ l, l < 256 → ∀ b, b < 2 → (l / 2 + 128 * b) &&& 85 = l / 2 &&& 85 := by decide +kernel
  have g1 : (h / 2 &&& mk8 85 k) ≤ h / 2 := Nat.and_le_left
  have g2 : (l / 2 &&& 85) ≤ l / 2 := Nat.and_le_left
  unfold f1 X1
  rw [mk8, e1, and8 (by omega) (by decide), fin l hl _ (by omega)]
  omega
theorem f2_s {k l h : Nat} (hl : l < 256) : f2 (k + 1) (l + 256 * h) = Y1 l + 256 * f2 k h := by
  have e1 : (l + 256 * h) / 4 = (l / 4 + 64 * (h % 4)) + 256 * (h / 4) := by omega
  have fin : ∀ l, l < 256 → ∀ b, b < 4 → (l / 4 + 64 * b) &&& 51 = l / 4 &&& 51 := by decide +kernel
  unfold f2 Y1
  rw [mk8, e1, and8 hl (by decide), and8 (by omega) (by decide), fin l hl _ (by omega)]
  omega
theorem X1_lt : ∀ l, l < 256 → X1 l < 256 ∧ Y1 (X1 l) < 256 ∧ Y1 (X1 l) % 16 ≤ 4 ∧ Y1 (X1 l) / 16 ≤ 4 := by decide +kernel
theorem low4 : ∀ k h, f2 k (f1 k h) % 16 ≤ 4
  | 0, h => by unfold f2; simp [mk8]
  | k + 1, h => by
    have hl : h % 256 < 256 := by omega
    have e : h = h % 256 + 256 * (h / 256) := by omega
    rw [e, f1_s hl, f2_s (X1_lt _ hl).1]
    have := (X1_lt _ hl).2.2.1
    omega
def F8 (k n : Nat) : Nat := f3 k (f2 k (f1 k n))
theorem F8_s {k l h : Nat} (hl : l < 256) : F8 (k + 1) (l + 256 * h) = popN 8 l + 256 * F8 k h := by
  have hx := X1_lt l hl
  have h4 := low4 k h
  unfold F8
  rw [f1_s hl, f2_s hx.1]
  generalize f2 k (f1 k h) = y at *
  have fin : ∀ l, l < 256 → ∀ b, b < 5 → (Y1 (X1 l) + Y1 (X1 l) / 16 + 16 * b) &&& 15 = popN 8 l := by decide +kernel
  have e1 : (Y1 (X1 l) + 256 * y) + (Y1 (X1 l) + 256 * y) / 16 = (Y1 (X1 l) + Y1 (X1 l) / 16 + 16 * (y % 16)) + 256 * (y + y / 16) := by omega
  unfold f3
  rw [mk8, e1, and8 (by omega) (by decide), fin l hl _ (by omega)]
theorem pop8 (k n : Nat) : popN (k + 8) n = popN 8 (n % 256) + popN k (n / 256) := by
  have e : n / 2 / 2 / 2 / 2 / 2 / 2 / 2 / 2 = n / 256 := by omega
  simp only [popN, e]
  omega
theorem pop_le : ∀ k n, popN k n ≤ k
  | 0, _ => Nat.le_refl _
  | k + 1, n => by
    have := pop_le k (n / 2)
    rw [popN]
    omega
theorem F8_z (n : Nat) : F8 0 n = 0 := by unfold F8 f3; simp [mk8]
theorem F8_d (k n : Nat) : F8 (k + 1) n = popN 8 (n % 256) + 256 * F8 k (n / 256) := by
  have e : n = n % 256 + 256 * (n / 256) := by omega
  conv => lhs; rw [e]
  exact F8_s (by omega)
theorem lvl8 {x y B : Nat} (hx : x < 256) (hy : y < B) : x + 256 * y < 256 * B := by omega
theorem tot8 {x0 x1 x2 x3 x4 x5 x6 x7 : Nat} (h0 : x0 < 256) (h1 : x1 < 256) (h2 : x2 < 256) (h3 : x3 < 256) (h4 : x4 < 256) (h5 : x5 < 256) (h6 : x6 < 256) (h7 : x7 < 256) : x0 + 256 * (x1 + 256 * (x2 + 256 * (x3 + 256 * (x4 + 256 * (x5 + 256 * (x6 + 256 * x7)))))) < 2 ^ 64 :=
  Nat.lt_of_lt_of_eq (lvl8 h0 (lvl8 h1 (lvl8 h2 (lvl8 h3 (lvl8 h4 (lvl8 h5 (lvl8 h6 h7))))))) (by decide)
theorem mod_tail {c s y : Nat} (h : c = s + 256 * y) (hs : s < 128) : c % 128 = s := by omega
theorem bd_c {p0 p1 p2 p3 p4 p5 p6 p7 : Nat} (l0 : p0 ≤ 8) (l1 : p1 ≤ 8) (l2 : p2 ≤ 8) (l3 : p3 ≤ 8) (l4 : p4 ≤ 8) (l5 : p5 ≤ 8) (l6 : p6 ≤ 8) (l7 : p7 ≤ 8) : p0 + p1 + p2 + p3 + p4 + p5 + p6 + p7 < 256 ∧ p1 + p2 + p3 + p4 + p5 + p6 + p7 < 256 ∧ p2 + p3 + p4 + p5 + p6 + p7 < 256 ∧ p3 + p4 + p5 + p6 + p7 < 256 ∧ p4 + p5 + p6 + p7 < 256 ∧ p5 + p6 + p7 < 256 ∧ p6 + p7 < 256 ∧ p7 < 256 := by
  refine ⟨?_, ?_, ?_, ?_, ?_, ?_, ?_, ?_⟩ <;> omega
theorem bd_a {p0 p1 p2 p3 p4 p5 p6 p7 : Nat} (l0 : p0 ≤ 8) (l1 : p1 ≤ 8) (l2 : p2 ≤ 8) (l3 : p3 ≤ 8) (l4 : p4 ≤ 8) (l5 : p5 ≤ 8) (l6 : p6 ≤ 8) (l7 : p7 ≤ 8) : p0 + p1 < 256 ∧ p1 + p2 < 256 ∧ p2 + p3 < 256 ∧ p3 + p4 < 256 ∧ p4 + p5 < 256 ∧ p5 + p6 < 256 ∧ p6 + p7 < 256 ∧ p7 < 256 := by
  refine ⟨?_, ?_, ?_, ?_, ?_, ?_, ?_, ?_⟩ <;> omega
theorem bd_b {p0 p1 p2 p3 p4 p5 p6 p7 : Nat} (l0 : p0 ≤ 8) (l1 : p1 ≤ 8) (l2 : p2 ≤ 8) (l3 : p3 ≤ 8) (l4 : p4 ≤ 8) (l5 : p5 ≤ 8) (l6 : p6 ≤ 8) (l7 : p7 ≤ 8) : p0 + p1 + p2 + p3 < 256 ∧ p1 + p2 + p3 + p4 < 256 ∧ p2 + p3 + p4 + p5 < 256 ∧ p3 + p4 + p5 + p6 < 256 ∧ p4 + p5 + p6 + p7 < 256 ∧ p5 + p6 + p7 < 256 ∧ p6 + p7 < 256 ∧ p7 < 256 := by
  refine ⟨?_, ?_, ?_, ?_, ?_, ?_, ?_, ?_⟩ <;> omega
theorem bd_x {p0 p1 p2 p3 p4 p5 p6 p7 : Nat} (l0 : p0 ≤ 8) (l1 : p1 ≤ 8) (l2 : p2 ≤ 8) (l3 : p3 ≤ 8) (l4 : p4 ≤ 8) (l5 : p5 ≤ 8) (l6 : p6 ≤ 8) (l7 : p7 ≤ 8) : p0 < 256 ∧ p1 < 256 ∧ p2 < 256 ∧ p3 < 256 ∧ p4 < 256 ∧ p5 < 256 ∧ p6 < 256 ∧ p7 < 256 := by
  refine ⟨?_, ?_, ?_, ?_, ?_, ?_, ?_, ?_⟩ <;> omega
theorem sm_8 {p0 p1 p2 p3 p4 p5 p6 p7 : Nat} (l0 : p0 ≤ 8) (l1 : p1 ≤ 8) (l2 : p2 ≤ 8) (l3 : p3 ≤ 8) (l4 : p4 ≤ 8) (l5 : p5 ≤ 8) (l6 : p6 ≤ 8) (l7 : p7 ≤ 8) : p0 + p1 + p2 + p3 + p4 + p5 + p6 + p7 < 128 := by omega
theorem sm_c (p0 p1 p2 p3 p4 p5 p6 p7 : Nat) : p0 + p1 + p2 + p3 + 256 * (p1 + p2 + p3 + p4 + 256 * (p2 + p3 + p4 + p5 + 256 * (p3 + p4 + p5 + p6 + 256 * (p4 + p5 + p6 + p7 + 256 * (p5 + p6 + p7 + 256 * (p6 + p7 + 256 * p7)))))) + (p4 + p5 + p6 + p7 + 256 * (p5 + p6 + p7 + 256 * (p6 + p7 + 256 * p7))) = (p0 + p1 + p2 + p3 + p4 + p5 + p6 + p7) + 256 * ((p1 + p2 + p3 + p4 + p5 + p6 + p7) + 256 * ((p2 + p3 + p4 + p5 + p6 + p7) + 256 * ((p3 + p4 + p5 + p6 + p7) + 256 * ((p4 + p5 + p6 + p7) + 256 * ((p5 + p6 + p7) + 256 * ((p6 + p7) + 256 * p7)))))) := by omega
theorem pop_fin {p0 p1 p2 p3 p4 p5 p6 p7 a b c : Nat} (l0 : p0 ≤ 8) (l1 : p1 ≤ 8) (l2 : p2 ≤ 8) (l3 : p3 ≤ 8) (l4 : p4 ≤ 8) (l5 : p5 ≤ 8) (l6 : p6 ≤ 8) (l7 : p7 ≤ 8) (ha : a = p0 + p1 + 256 * (p1 + p2 + 256 * (p2 + p3 + 256 * (p3 + p4 + 256 * (p4 + p5 + 256 * (p5 + p6 + 256 * (p6 + p7 + 256 * p7))))))) (hb : b = p0 + p1 + p2 + p3 + 256 * (p1 + p2 + p3 + p4 + 256 * (p2 + p3 + p4 + p5 + 256 * (p3 + p4 + p5 + p6 + 256 * (p4 + p5 + p6 + p7 + 256 * (p5 + p6 + p7 + 256 * (p6 + p7 + 256 * p7))))))) (hc : c = b + (p4 + p5 + p6 + p7 + 256 * (p5 + p6 + p7 + 256 * (p6 + p7 + 256 * p7)))) : c % 128 = p0 + p1 + p2 + p3 + p4 + p5 + p6 + p7 ∧ c < 2 ^ 64 ∧ a < 2 ^ 64 ∧ b < 2 ^ 64 ∧ p0 + 256 * (p1 + 256 * (p2 + 256 * (p3 + 256 * (p4 + 256 * (p5 + 256 * (p6 + 256 * (p7))))))) < 2 ^ 64 := by
  have hc2 : c = (p0 + p1 + p2 + p3 + p4 + p5 + p6 + p7) + 256 * ((p1 + p2 + p3 + p4 + p5 + p6 + p7) + 256 * ((p2 + p3 + p4 + p5 + p6 + p7) + 256 * ((p3 + p4 + p5 + p6 + p7) + 256 * ((p4 + p5 + p6 + p7) + 256 * ((p5 + p6 + p7) + 256 * ((p6 + p7) + 256 * p7)))))) := by rw [hc, hb]; exact sm_c p0 p1 p2 p3 p4 p5 p6 p7
  obtain ⟨c0, c1, c2, c3, c4, c5, c6, c7⟩ := bd_c l0 l1 l2 l3 l4 l5 l6 l7
  obtain ⟨a0, a1, a2, a3, a4, a5, a6, a7⟩ := bd_a l0 l1 l2 l3 l4 l5 l6 l7
  obtain ⟨b0, b1, b2, b3, b4, b5, b6, b7⟩ := bd_b l0 l1 l2 l3 l4 l5 l6 l7
  obtain ⟨x0, x1, x2, x3, x4, x5, x6, x7⟩ := bd_x l0 l1 l2 l3 l4 l5 l6 l7
  refine ⟨mod_tail hc2 (sm_8 l0 l1 l2 l3 l4 l5 l6 l7), ?_, ?_, ?_, tot8 x0 x1 x2 x3 x4 x5 x6 x7⟩
  · rw [hc2]
    exact tot8 c0 c1 c2 c3 c4 c5 c6 c7
  · rw [ha]
    exact tot8 a0 a1 a2 a3 a4 a5 a6 a7
  · rw [hb]
    exact tot8 b0 b1 b2 b3 b4 b5 b6 b7
theorem pop_tail {n : Nat} (a b c : Nat) (ha : a = F8 8 n + F8 8 n / 256) (hb : b = a + a / 65536) (hc : c = b + b / 4294967296) (hn : n < 2 ^ 64) : c % 128 = popN 64 n ∧ c < 2 ^ 64 ∧ a < 2 ^ 64 ∧ b < 2 ^ 64 ∧ F8 8 n < 2 ^ 64 := by
  have p : popN 64 n = popN 8 (n % 256) + popN 8 (n / 256 % 256) + popN 8 (n / 256 / 256 % 256) + popN 8 (n / 256 / 256 / 256 % 256) + popN 8 (n / 256 / 256 / 256 / 256 % 256) + popN 8 (n / 256 / 256 / 256 / 256 / 256 % 256) + popN 8 (n / 256 / 256 / 256 / 256 / 256 / 256 % 256) + popN 8 (n / 256 / 256 / 256 / 256 / 256 / 256 / 256 % 256) := by
    have e7 : n / 256 / 256 / 256 / 256 / 256 / 256 / 256 % 256 = n / 256 / 256 / 256 / 256 / 256 / 256 / 256 := Nat.mod_eq_of_lt (by omega)
    rw [e7, pop8 56, pop8 48, pop8 40, pop8 32, pop8 24, pop8 16, pop8 8]
    omega
  have q : F8 8 n = popN 8 (n % 256) + 256 * (popN 8 (n / 256 % 256) + 256 * (popN 8 (n / 256 / 256 % 256) + 256 * (popN 8 (n / 256 / 256 / 256 % 256) + 256 * (popN 8 (n / 256 / 256 / 256 / 256 % 256) + 256 * (popN 8 (n / 256 / 256 / 256 / 256 / 256 % 256) + 256 * (popN 8 (n / 256 / 256 / 256 / 256 / 256 / 256 % 256) + 256 * (popN 8 (n / 256 / 256 / 256 / 256 / 256 / 256 / 256 % 256)))))))) := by
    rw [F8_d, F8_d, F8_d, F8_d, F8_d, F8_d, F8_d, F8_d, F8_z]
    omega
  have l0 := pop_le 8 (n % 256)
  have l1 := pop_le 8 (n / 256 % 256)
  have l2 := pop_le 8 (n / 256 / 256 % 256)
  have l3 := pop_le 8 (n / 256 / 256 / 256 % 256)
  have l4 := pop_le 8 (n / 256 / 256 / 256 / 256 % 256)
  have l5 := pop_le 8 (n / 256 / 256 / 256 / 256 / 256 % 256)
  have l6 := pop_le 8 (n / 256 / 256 / 256 / 256 / 256 / 256 % 256)
  have l7 := pop_le 8 (n / 256 / 256 / 256 / 256 / 256 / 256 / 256 % 256)
  rw [p]
  rw [q] at ha ⊢
  clear p q hn
  generalize popN 8 (n % 256) = p0 at *
  generalize popN 8 (n / 256 % 256) = p1 at *
  generalize popN 8 (n / 256 / 256 % 256) = p2 at *
  generalize popN 8 (n / 256 / 256 / 256 % 256) = p3 at *
  generalize popN 8 (n / 256 / 256 / 256 / 256 % 256) = p4 at *
  generalize popN 8 (n / 256 / 256 / 256 / 256 / 256 % 256) = p5 at *
  generalize popN 8 (n / 256 / 256 / 256 / 256 / 256 / 256 % 256) = p6 at *
  generalize popN 8 (n / 256 / 256 / 256 / 256 / 256 / 256 / 256 % 256) = p7 at *
  have ha2 : a = p0 + p1 + 256 * (p1 + p2 + 256 * (p2 + p3 + 256 * (p3 + p4 + 256 * (p4 + p5 + 256 * (p5 + p6 + 256 * (p6 + p7 + 256 * p7)))))) := by omega
  have hb2 : b = p0 + p1 + p2 + p3 + 256 * (p1 + p2 + p3 + p4 + 256 * (p2 + p3 + p4 + p5 + 256 * (p3 + p4 + p5 + p6 + 256 * (p4 + p5 + p6 + p7 + 256 * (p5 + p6 + p7 + 256 * (p6 + p7 + 256 * p7)))))) := by omega
  clear ha hb
  have hd : b / 4294967296 = p4 + p5 + p6 + p7 + 256 * (p5 + p6 + p7 + 256 * (p6 + p7 + 256 * p7)) := by omega
  rw [hd] at hc
  clear hd
  exact pop_fin l0 l1 l2 l3 l4 l5 l6 l7 ha2 hb2 hc
theorem shr_l {n k : Nat} {j : Int32} (hn : n < 2 ^ 64) (hk : k < 64) (hj : j = nI k) : ((lN n).toUInt64 >>> (j.toInt64.toUInt64 &&& Int64.toUInt64 63)).toInt64 = lN (n / 2 ^ k) := by
  subst hj
  exact wb_shr hn hk
theorem r183 {x A B C D F G : Int64} {r : Int32} (hA : x - ((x.toUInt64 >>> ((1 : Int32).toInt64.toUInt64 &&& Int64.toUInt64 63)).toInt64 &&& 6148914691236517205) = A) (hB : (A &&& 3689348814741910323) + ((A.toUInt64 >>> ((2 : Int32).toInt64.toUInt64 &&& Int64.toUInt64 63)).toInt64 &&& 3689348814741910323) = B) (hC : (B + (B.toUInt64 >>> ((4 : Int32).toInt64.toUInt64 &&& Int64.toUInt64 63)).toInt64) &&& 1085102592571150095 = C) (hD : C + (C.toUInt64 >>> ((8 : Int32).toInt64.toUInt64 &&& Int64.toUInt64 63)).toInt64 = D) (hF : D + (D.toUInt64 >>> ((16 : Int32).toInt64.toUInt64 &&& Int64.toUInt64 63)).toInt64 = F) (hG : F + (F.toUInt64 >>> ((32 : Int32).toInt64.toUInt64 &&& Int64.toUInt64 63)).toInt64 = G) (hr : G.toInt32 &&& 127 = r) (ph : z_H) : z_call 183 [.long x] ph = some (some (.int r), ph) := by
  simp only [en183, e183_0, e183_1, e183_2, e183_3, e183_4, e183_7, e183_8, e183_9, e183_10, e183_11, e183_14, e183_15, e183_16, e183_17, e183_18, e183_21, e183_22, e183_23, e183_24, e183_25, e183_26, e183_27, e183_28, e183_29, e183_32, e183_33, e183_34, e183_35, e183_36, e183_38, e183_39, e183_40, e183_41, e183_42, e183_43, e183_45, e183_46, e183_47, e183_48, e183_49, e183_50, e183_52, e183_53, e183_54, e183_55, e183_56, e183_57, e183_59, e183_60, hA, hB, hC, hD, hF, hG, hr]
theorem s183 {n : Nat} (hn : n < 2 ^ 64) (ph : z_H) : z_call 183 [.long (lN n)] ph = some (some (.int (nI (popN 64 n))), ph) := by
  have m1 : (6148914691236517205 : Int64) = lN (mk8 85 8) := by decide +kernel
  have m2 : (3689348814741910323 : Int64) = lN (mk8 51 8) := by decide +kernel
  have m4 : (1085102592571150095 : Int64) = lN (mk8 15 8) := by decide +kernel
  have b1 : mk8 85 8 < 2 ^ 64 := by decide +kernel
  have b2 : mk8 51 8 < 2 ^ 64 := by decide +kernel
  have b4 : mk8 15 8 < 2 ^ 64 := by decide +kernel
  have b3 : mk8 51 8 = 3689348814741910323 := by decide +kernel
  have h64 : (2 : Nat) ^ 64 = 18446744073709551616 := by decide
  obtain ⟨t1, t2, t3, t4, t5⟩ := pop_tail (n := n) _ _ _ rfl rfl rfl hn
  have g1 : (n / 2 &&& mk8 85 8) ≤ n := Nat.le_trans Nat.and_le_left (Nat.div_le_self n 2)
  have z1 : f1 8 n < 2 ^ 64 := Nat.lt_of_le_of_lt (Nat.sub_le _ _) hn
  have y1 : (f1 8 n &&& mk8 51 8) ≤ mk8 51 8 := Nat.and_le_right
  have y2 : (f1 8 n / 4 &&& mk8 51 8) ≤ mk8 51 8 := Nat.and_le_right
  have y3 : f2 8 (f1 8 n) ≤ 7378697629483820646 := by
    show (f1 8 n &&& mk8 51 8) + (f1 8 n / 4 &&& mk8 51 8) ≤ 7378697629483820646
    rw [b3] at y1 y2 ⊢
    clear t1 t2 t3 t4 t5 g1 z1 hn
    omega
  have z2 : f2 8 (f1 8 n) < 2 ^ 64 := by rw [h64]; omega
  have z3 : f2 8 (f1 8 n) + f2 8 (f1 8 n) / 16 < 2 ^ 64 := by rw [h64]; omega
  have q1 : n / 2 < 2 ^ 64 := Nat.lt_of_le_of_lt (Nat.div_le_self n 2) hn
  have q2 : f1 8 n / 4 < 2 ^ 64 := Nat.lt_of_le_of_lt (Nat.div_le_self _ 4) z1
  clear y1 y2 y3
  have hA : lN n - (((lN n).toUInt64 >>> ((1 : Int32).toInt64.toUInt64 &&& Int64.toUInt64 63)).toInt64 &&& 6148914691236517205) = lN (f1 8 n) := by
    rw [shr_l (k := 1) (j := 1) hn (by decide) rfl, m1, show n / 2 ^ 1 = n / 2 from rfl, wb_and q1 b1, lN_sub g1]
    rfl
  have hB : (lN (f1 8 n) &&& 3689348814741910323) + (((lN (f1 8 n)).toUInt64 >>> ((2 : Int32).toInt64.toUInt64 &&& Int64.toUInt64 63)).toInt64 &&& 3689348814741910323) = lN (f2 8 (f1 8 n)) := by
    rw [shr_l (k := 2) (j := 2) z1 (by decide) rfl, m2, show f1 8 n / 2 ^ 2 = f1 8 n / 4 from rfl, wb_and z1 b2, wb_and q2 b2, lN_add]
    rfl
  have hC : (lN (f2 8 (f1 8 n)) + ((lN (f2 8 (f1 8 n))).toUInt64 >>> ((4 : Int32).toInt64.toUInt64 &&& Int64.toUInt64 63)).toInt64) &&& 1085102592571150095 = lN (F8 8 n) := by
    rw [shr_l (k := 4) (j := 4) z2 (by decide) rfl, m4, show f2 8 (f1 8 n) / 2 ^ 4 = f2 8 (f1 8 n) / 16 from rfl, lN_add, wb_and z3 b4]
    rfl
  have hD : lN (F8 8 n) + ((lN (F8 8 n)).toUInt64 >>> ((8 : Int32).toInt64.toUInt64 &&& Int64.toUInt64 63)).toInt64 = lN (F8 8 n + F8 8 n / 256) := by
    rw [shr_l (k := 8) (j := 8) t5 (by decide) rfl, show (2 : Nat) ^ 8 = 256 from rfl, lN_add]
  generalize F8 8 n + F8 8 n / 256 = a at *
  have hF : lN a + ((lN a).toUInt64 >>> ((16 : Int32).toInt64.toUInt64 &&& Int64.toUInt64 63)).toInt64 = lN (a + a / 65536) := by
    rw [shr_l (k := 16) (j := 16) t3 (by decide) rfl, show (2 : Nat) ^ 16 = 65536 from rfl, lN_add]
  generalize a + a / 65536 = b at *
  have hG : lN b + ((lN b).toUInt64 >>> ((32 : Int32).toInt64.toUInt64 &&& Int64.toUInt64 63)).toInt64 = lN (b + b / 4294967296) := by
    rw [shr_l (k := 32) (j := 32) t4 (by decide) rfl, show (2 : Nat) ^ 32 = 4294967296 from rfl, lN_add]
  generalize b + b / 4294967296 = c at *
  have hr : (lN c).toInt32 &&& 127 = nI (popN 64 n) := by
    have e := Nat.and_two_pow_sub_one_eq_mod c 7
    rw [show (2 : Nat) ^ 7 = 128 from rfl, t1] at e
    rw [lN_i, show (127 : Int32) = nI 127 from rfl, nx_and, show (127 : Nat) = 128 - 1 from rfl, e]
  exact r183 hA hB hC hD hF hG hr ph
theorem kern : ∀ k w, w < 2 ^ k → 0 < w → popN k (w &&& (w - 1)) + 1 = popN k w
  | 0, w, h, h0 => by omega
  | k + 1, w, h, h0 => by
    have hp : 2 ^ (k + 1) = 2 * 2 ^ k := by rw [Nat.pow_succ, Nat.mul_comm]
    have and2 : ∀ a b c d, a < 2 → c < 2 → (2 * b + a) &&& (2 * d + c) = 2 * (b &&& d) + (a &&& c) := by
      intro a b c d ha hc
      apply Nat.eq_of_testBit_eq
      intro i
      have hac : (a &&& c) < 2 ^ 1 := Nat.lt_of_le_of_lt Nat.and_le_left ha
      rw [Nat.testBit_and, show (2 : Nat) * b = 2 ^ 1 * b from rfl, show (2 : Nat) * d = 2 ^ 1 * d from rfl, show (2 : Nat) * (b &&& d) = 2 ^ 1 * (b &&& d) from rfl, Nat.testBit_two_pow_mul_add b ha, Nat.testBit_two_pow_mul_add d hc, Nat.testBit_two_pow_mul_add (b &&& d) hac, Nat.testBit_and, Nat.testBit_and]
      split <;> rfl
    by_cases hw : w % 2 = 0
    · have hv : 0 < w / 2 := by omega
      have ih := kern k (w / 2) (by omega) hv
      have e : w &&& (w - 1) = 2 * (w / 2 &&& (w / 2 - 1)) + (0 &&& 1) := by
        rw [← and2 0 (w / 2) 1 (w / 2 - 1) (by decide) (by decide)]
        congr 1 <;> omega
      rw [e, popN, popN]
      rw [show (0 &&& 1 : Nat) = 0 from rfl, show (2 * (w / 2 &&& (w / 2 - 1)) + 0) / 2 = (w / 2 &&& (w / 2 - 1)) by omega]
      omega
    · have e : w &&& (w - 1) = 2 * (w / 2) := by
        have h1 : w &&& (w - 1) = (2 * (w / 2) + 1) &&& (2 * (w / 2) + 0) := by congr 1 <;> omega
        rw [h1, and2 1 (w / 2) 0 (w / 2) (by decide) (by decide), Nat.and_self]
        rfl
      rw [e, popN, popN, show 2 * (w / 2) / 2 = w / 2 by omega]
      omega
