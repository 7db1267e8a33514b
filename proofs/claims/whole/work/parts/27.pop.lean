/-! how many bits are set: the JDK's Long.bitCount, and the reference's loop -/
def popN : Nat → Nat → Nat
  | 0, _ => 0
  | k + 1, n => n % 2 + popN k (n / 2)
def mk8 (b : Nat) : Nat → Nat
  | 0 => 0
  | k + 1 => b + 256 * mk8 b k
theorem and8 {l ml h mh : Nat} (hl : l < 256) (hm : ml < 256) : (l + 256 * h) &&& (ml + 256 * mh) = (l &&& ml) + 256 * (h &&& mh) := by
  apply Nat.eq_of_testBit_eq
  intro i
  have ha : (l &&& ml) < 2 ^ 8 := Nat.lt_of_le_of_lt Nat.and_le_left hl
  rw [Nat.testBit_and, Nat.add_comm l, Nat.add_comm ml, Nat.add_comm (l &&& ml), show (256 : Nat) = 2 ^ 8 from rfl, Nat.testBit_two_pow_mul_add h hl, Nat.testBit_two_pow_mul_add mh hm, Nat.testBit_two_pow_mul_add (h &&& mh) ha, Nat.testBit_and, Nat.testBit_and]
  split <;> rfl
def f1 (k n : Nat) : Nat := n - (n / 2 &&& mk8 85 k)
def f2 (k n : Nat) : Nat := (n &&& mk8 51 k) + (n / 4 &&& mk8 51 k)
def f3 (k n : Nat) : Nat := (n + n / 16) &&& mk8 15 k
def X1 (l : Nat) : Nat := l - (l / 2 &&& 85)
def Y1 (l : Nat) : Nat := (l &&& 51) + (l / 4 &&& 51)
theorem f1_s {k l h : Nat} (hl : l < 256) : f1 (k + 1) (l + 256 * h) = X1 l + 256 * f1 k h := by
  have e1 : (l + 256 * h) / 2 = (l / 2 + 128 * (h % 2)) + 256 * (h / 2) := by omega
  have fin : ∀ l, l < 256 → ∀ b, b < 2 → (l / 2 + 128 * b) &&& 85 = l / 2 &&& 85 := by decide +kernel
  have g1 : (h / 2 &&& mk8 85 k) ≤ h / 2 := Nat.and_le_left
  have g2 : (l / 2 &&& 85) ≤ l / 2 := Nat.and_le_left
  unfold f1 X1
  rw [mk8, e1, and8 (by omega) (by decide), fin l hl _ (by omega)]
  omega
theorem f2_s {k l h : Nat} (hl : l < 256) : f2 (k + 1) (l + 256 * h) = Y1 l + 256 * f2 k h := by
  have e1 : (l + 256 * h) / 4 = (l / 4 + 64 * (h % 4)) + 256 * (h / 4) := by omega
  have fin : ∀ l, l < 256 → ∀ b, b < 4 → (l / 4 + 64 * b) &&& 51 = l / 4 &&& 51 := by decide +kernel
  unfold f2 Y1
  rw [mk8, e1, and8 hl (by decide), and8 (by omega) (by decide), fin l hl _ (by omega)]
  omega
theorem X1_lt : ∀ l, l < 256 → X1 l < 256 ∧ Y1 (X1 l) < 256 ∧ Y1 (X1 l) % 16 ≤ 4 ∧ Y1 (X1 l) / 16 ≤ 4 := by decide +kernel
theorem low4 : ∀ k h, f2 k (f1 k h) % 16 ≤ 4
  | 0, h => by unfold f2; simp [mk8]
  | k + 1, h => by
    have hl : h % 256 < 256 := by omega
    have e : h = h % 256 + 256 * (h / 256) := by omega
    rw [e, f1_s hl, f2_s (X1_lt _ hl).1]
    have := (X1_lt _ hl).2.2.1
    omega
def F8 (k n : Nat) : Nat := f3 k (f2 k (f1 k n))
theorem F8_s {k l h : Nat} (hl : l < 256) : F8 (k + 1) (l + 256 * h) = popN 8 l + 256 * F8 k h := by
  have hx := X1_lt l hl
  have h4 := low4 k h
  unfold F8
  rw [f1_s hl, f2_s hx.1]
  generalize f2 k (f1 k h) = y at *
  have fin : ∀ l, l < 256 → ∀ b, b < 5 → (Y1 (X1 l) + Y1 (X1 l) / 16 + 16 * b) &&& 15 = popN 8 l := by decide +kernel
  have e1 : (Y1 (X1 l) + 256 * y) + (Y1 (X1 l) + 256 * y) / 16 = (Y1 (X1 l) + Y1 (X1 l) / 16 + 16 * (y % 16)) + 256 * (y + y / 16) := by omega
  unfold f3
  rw [mk8, e1, and8 (by omega) (by decide), fin l hl _ (by omega)]
theorem pop8 (k n : Nat) : popN (k + 8) n = popN 8 (n % 256) + popN k (n / 256) := by
  have e : n / 2 / 2 / 2 / 2 / 2 / 2 / 2 / 2 = n / 256 := by omega
  simp only [popN, e]
  omega
theorem pop_le : ∀ k n, popN k n ≤ k
  | 0, _ => Nat.le_refl _
  | k + 1, n => by
    have := pop_le k (n / 2)
    rw [popN]
    omega
theorem F8_z (n : Nat) : F8 0 n = 0 := by unfold F8 f3; simp [mk8]
theorem F8_d (k n : Nat) : F8 (k + 1) n = popN 8 (n % 256) + 256 * F8 k (n / 256) := by
  have e : n = n % 256 + 256 * (n / 256) := by omega
  conv => lhs; rw [e]
  exact F8_s (by omega)
theorem pop_tail {n : Nat} (a b c : Nat) (ha : a = F8 8 n + F8 8 n / 256) (hb : b = a + a / 65536) (hc : c = b + b / 4294967296) (hn : n < 2 ^ 64) : c % 128 = popN 64 n ∧ c < 2 ^ 64 ∧ a < 2 ^ 64 ∧ b < 2 ^ 64 ∧ F8 8 n < 2 ^ 64 := by
  have p : popN 64 n = popN 8 (n % 256) + popN 8 (n / 256 % 256) + popN 8 (n / 256 / 256 % 256) + popN 8 (n / 256 / 256 / 256 % 256) + popN 8 (n / 256 / 256 / 256 / 256 % 256) + popN 8 (n / 256 / 256 / 256 / 256 / 256 % 256) + popN 8 (n / 256 / 256 / 256 / 256 / 256 / 256 % 256) + popN 8 (n / 256 / 256 / 256 / 256 / 256 / 256 / 256 % 256) := by
    have e7 : n / 256 / 256 / 256 / 256 / 256 / 256 / 256 % 256 = n / 256 / 256 / 256 / 256 / 256 / 256 / 256 := Nat.mod_eq_of_lt (by omega)
    rw [e7, pop8 56, pop8 48, pop8 40, pop8 32, pop8 24, pop8 16, pop8 8]
    omega
  have q : F8 8 n = popN 8 (n % 256) + 256 * (popN 8 (n / 256 % 256) + 256 * (popN 8 (n / 256 / 256 % 256) + 256 * (popN 8 (n / 256 / 256 / 256 % 256) + 256 * (popN 8 (n / 256 / 256 / 256 / 256 % 256) + 256 * (popN 8 (n / 256 / 256 / 256 / 256 / 256 % 256) + 256 * (popN 8 (n / 256 / 256 / 256 / 256 / 256 / 256 % 256) + 256 * (popN 8 (n / 256 / 256 / 256 / 256 / 256 / 256 / 256 % 256)))))))) := by
    rw [F8_d, F8_d, F8_d, F8_d, F8_d, F8_d, F8_d, F8_d, F8_z]
    omega
  have l0 := pop_le 8 (n % 256)
  have l1 := pop_le 8 (n / 256 % 256)
  have l2 := pop_le 8 (n / 256 / 256 % 256)
  have l3 := pop_le 8 (n / 256 / 256 / 256 % 256)
  have l4 := pop_le 8 (n / 256 / 256 / 256 / 256 % 256)
  have l5 := pop_le 8 (n / 256 / 256 / 256 / 256 / 256 % 256)
  have l6 := pop_le 8 (n / 256 / 256 / 256 / 256 / 256 / 256 % 256)
  have l7 := pop_le 8 (n / 256 / 256 / 256 / 256 / 256 / 256 / 256 % 256)
  rw [p]
  rw [q] at ha ⊢
  clear p q hn
  generalize popN 8 (n % 256) = p0 at *
  generalize popN 8 (n / 256 % 256) = p1 at *
  generalize popN 8 (n / 256 / 256 % 256) = p2 at *
  generalize popN 8 (n / 256 / 256 / 256 % 256) = p3 at *
  generalize popN 8 (n / 256 / 256 / 256 / 256 % 256) = p4 at *
  generalize popN 8 (n / 256 / 256 / 256 / 256 / 256 % 256) = p5 at *
  generalize popN 8 (n / 256 / 256 / 256 / 256 / 256 / 256 % 256) = p6 at *
  generalize popN 8 (n / 256 / 256 / 256 / 256 / 256 / 256 / 256 % 256) = p7 at *
  have ha2 : a = p0 + p1 + 256 * (p1 + p2 + 256 * (p2 + p3 + 256 * (p3 + p4 + 256 * (p4 + p5 + 256 * (p5 + p6 + 256 * (p6 + p7 + 256 * p7)))))) := by omega
  have hb2 : b = p0 + p1 + p2 + p3 + 256 * (p1 + p2 + p3 + p4 + 256 * (p2 + p3 + p4 + p5 + 256 * (p3 + p4 + p5 + p6 + 256 * (p4 + p5 + p6 + p7 + 256 * (p5 + p6 + p7 + 256 * (p6 + p7 + 256 * p7)))))) := by omega
  clear ha hb
  have hd : b / 4294967296 = p4 + p5 + p6 + p7 + 256 * (p5 + p6 + p7 + 256 * (p6 + p7 + 256 * p7)) := by omega
  rw [hd] at hc
  clear hd
  sorry
theorem s183 {n : Nat} (hn : n < 2 ^ 64) (ph : z_H) : z_call 183 [.long (lN n)] ph = some (some (.int (nI (popN 64 n))), ph) := by
  have m1 : (6148914691236517205 : Int64) = lN (mk8 85 8) := by decide +kernel
  have m2 : (3689348814741910323 : Int64) = lN (mk8 51 8) := by decide +kernel
  have m4 : (1085102592571150095 : Int64) = lN (mk8 15 8) := by decide +kernel
  have b1 : mk8 85 8 < 2 ^ 64 := by decide +kernel
  have b2 : mk8 51 8 < 2 ^ 64 := by decide +kernel
  have b4 : mk8 15 8 < 2 ^ 64 := by decide +kernel
  have l16 : (16 : Int32) = nI 16 := rfl
  have l32 : (32 : Int32) = nI 32 := rfl
  have l127 : (127 : Int32) = nI 127 := rfl
  have z1 : f1 8 n < 2 ^ 64 := by unfold f1; omega
  have z2 : f2 8 (f1 8 n) < 2 ^ 64 := by
    unfold f2
    have h1 : (f1 8 n &&& mk8 51 8) ≤ mk8 51 8 := Nat.and_le_right
    have h2 : (f1 8 n / 4 &&& mk8 51 8) ≤ mk8 51 8 := Nat.and_le_right
    have h3 : mk8 51 8 = 3689348814741910323 := by decide +kernel
    omega
  have z2b : f2 8 (f1 8 n) + f2 8 (f1 8 n) / 16 < 2 ^ 64 := by
    have h1 : (f1 8 n &&& mk8 51 8) ≤ mk8 51 8 := Nat.and_le_right
    have h2 : (f1 8 n / 4 &&& mk8 51 8) ≤ mk8 51 8 := Nat.and_le_right
    have h3 : mk8 51 8 = 3689348814741910323 := by decide +kernel
    have h4 : f2 8 (f1 8 n) ≤ 7378697629483820646 := by unfold f2; omega
    omega
  obtain ⟨t1, t2, t3, t4, t5⟩ := pop_tail (n := n) _ _ _ rfl rfl rfl hn
  have g1 : (n / 2 &&& mk8 85 8) ≤ n := Nat.le_trans Nat.and_le_left (by omega)
  have a1 : n / 2 < 2 ^ 64 := by omega
  have a2 : f1 8 n / 4 < 2 ^ 64 := by omega
  have e1 : n - (n / 2 &&& mk8 85 8) = f1 8 n := rfl
  have e2 : (f1 8 n &&& mk8 51 8) + (f1 8 n / 4 &&& mk8 51 8) = f2 8 (f1 8 n) := rfl
  have e3 : (f2 8 (f1 8 n) + f2 8 (f1 8 n) / 16) &&& mk8 15 8 = F8 8 n := rfl
  have w1 := wb_shr hn (show 1 < 64 by decide)
  have w2 := wb_shr z1 (show 2 < 64 by decide)
  have w3 := wb_shr z2 (show 4 < 64 by decide)
  have w4 := wb_shr t5 (show 8 < 64 by decide)
  have w5 := wb_shr t3 (show 16 < 64 by decide)
  have w6 := wb_shr t4 (show 32 < 64 by decide)
  simp only [Nat.reducePow] at w1 w2 w3 w4 w5 w6
  have v1 := wb_and a1 b1
  have v2 := wb_and z1 b2
  have v3 := wb_and a2 b2
  have v4 := wb_and z2b b4
  have v5 := lN_sub g1
  sorry
theorem kern : ∀ k w, w < 2 ^ k → 0 < w → popN k (w &&& (w - 1)) + 1 = popN k w
  | 0, w, h, h0 => by omega
  | k + 1, w, h, h0 => by
    have hp : 2 ^ (k + 1) = 2 * 2 ^ k := by rw [Nat.pow_succ, Nat.mul_comm]
    have and2 : ∀ a b c d, a < 2 → c < 2 → (2 * b + a) &&& (2 * d + c) = 2 * (b &&& d) + (a &&& c) := by
      intro a b c d ha hc
      apply Nat.eq_of_testBit_eq
      intro i
      have hac : (a &&& c) < 2 ^ 1 := Nat.lt_of_le_of_lt Nat.and_le_left ha
      rw [Nat.testBit_and, show (2 : Nat) * b = 2 ^ 1 * b from rfl, show (2 : Nat) * d = 2 ^ 1 * d from rfl, show (2 : Nat) * (b &&& d) = 2 ^ 1 * (b &&& d) from rfl, Nat.testBit_two_pow_mul_add b ha, Nat.testBit_two_pow_mul_add d hc, Nat.testBit_two_pow_mul_add (b &&& d) hac, Nat.testBit_and, Nat.testBit_and]
      split <;> rfl
    by_cases hw : w % 2 = 0
    · have hv : 0 < w / 2 := by omega
      have ih := kern k (w / 2) (by omega) hv
      have e : w &&& (w - 1) = 2 * (w / 2 &&& (w / 2 - 1)) + (0 &&& 1) := by
        rw [← and2 0 (w / 2) 1 (w / 2 - 1) (by decide) (by decide)]
        congr 1 <;> omega
      rw [e, popN, popN]
      rw [show (0 &&& 1 : Nat) = 0 from rfl, show (2 * (w / 2 &&& (w / 2 - 1)) + 0) / 2 = (w / 2 &&& (w / 2 - 1)) by omega]
      omega
    · have e : w &&& (w - 1) = 2 * (w / 2) := by
        have h1 : w &&& (w - 1) = (2 * (w / 2) + 1) &&& (2 * (w / 2) + 0) := by congr 1 <;> omega
        rw [h1, and2 1 (w / 2) 0 (w / 2) (by decide) (by decide), Nat.and_self]
        rfl
      rw [e, popN, popN, show 2 * (w / 2) / 2 = w / 2 by omega]
      omega
