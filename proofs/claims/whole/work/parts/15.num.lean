/-! numbers -/
theorem l_0 : (0 : Int32) = nI 0 := rfl
theorem l_1 : (1 : Int32) = nI 1 := rfl
theorem l_2 : (2 : Int32) = nI 2 := rfl
theorem l_3 : (3 : Int32) = nI 3 := rfl
theorem l_4 : (4 : Int32) = nI 4 := rfl
theorem l_5 : (5 : Int32) = nI 5 := rfl
theorem l_6 : (6 : Int32) = nI 6 := rfl
theorem l_7 : (7 : Int32) = nI 7 := rfl
theorem l_8 : (8 : Int32) = nI 8 := rfl
theorem l_9 : (9 : Int32) = nI 9 := rfl
theorem l_10 : (10 : Int32) = nI 10 := rfl
theorem l_11 : (11 : Int32) = nI 11 := rfl
theorem l_12 : (12 : Int32) = nI 12 := rfl
theorem l_16 : (16 : Int32) = nI 16 := rfl
theorem l_20 : (20 : Int32) = nI 20 := rfl
theorem l_31 : (31 : Int32) = nI 31 := rfl
theorem l_32 : (32 : Int32) = nI 32 := rfl
theorem l_40 : (40 : Int32) = nI 40 := rfl
theorem l_48 : (48 : Int32) = nI 48 := rfl
theorem l_57 : (57 : Int32) = nI 57 := rfl
theorem l_59 : (59 : Int32) = nI 59 := rfl
theorem l_60 : (60 : Int32) = nI 60 := rfl
theorem l_64 : (64 : Int32) = nI 64 := rfl
theorem l_68 : (68 : Int32) = nI 68 := rfl
theorem l_97 : (97 : Int32) = nI 97 := rfl
theorem l_99 : (99 : Int32) = nI 99 := rfl
theorem l_100 : (100 : Int32) = nI 100 := rfl
theorem l_103 : (103 : Int32) = nI 103 := rfl
theorem l_109 : (109 : Int32) = nI 109 := rfl
theorem l_110 : (110 : Int32) = nI 110 := rfl
theorem l_111 : (111 : Int32) = nI 111 := rfl
theorem l_120 : (120 : Int32) = nI 120 := rfl
theorem l_144 : (144 : Int32) = nI 144 := rfl
theorem l_255 : (255 : Int32) = nI 255 := rfl
theorem m_1 {a : Nat} (h : a < 2147483648) : (nI a = -1) = False := eq_false (fun e => by
  have h1 := congrArg Int32.toInt e
  rw [nI_toInt h] at h1
  have h2 : (-1 : Int32).toInt = -1 := rfl
  omega)
theorem m_1' {a : Nat} (h : a < 2147483648) : (-1 = nI a) = False := eq_false (fun e => by
  have h1 := m_1 h
  rw [← e] at h1
  exact (of_eq_true (eq_self (-1 : Int32))) |> fun q => by rw [h1] at q; exact q)
theorem m_9 {a : Nat} (h : a < 2147483648) : (nI a = -9) = False := eq_false (fun e => by
  have h1 := congrArg Int32.toInt e
  rw [nI_toInt h] at h1
  have h2 : (-9 : Int32).toInt = -9 := rfl
  omega)
theorem c_nn {a : Nat} (h : a < 2147483648) : (nI a < nI 0) = False := eq_false (nI_pos h)
theorem z_1 {x : Int32} : (x &&& 1 = x) = (x = 0 ∨ x = 1) := by
  apply propext
  constructor
  · intro h
    obtain ⟨j, hj, e⟩ := pk_andE x (m := 1) 1 rfl
    rw [h] at e
    subst e
    have : j = 0 ∨ j = 1 := by omega
    rcases this with rfl | rfl
    · exact Or.inl rfl
    · exact Or.inr rfl
  · rintro (rfl | rfl) <;> rfl
/-- a truth value -/
def z_b (p : Prop) [Decidable p] : Int32 := if p then 1 else 0
theorem z_b_ok (p : Prop) [Decidable p] : (z_b p &&& 1 = z_b p) = True := eq_true (by unfold z_b; split <;> rfl)
theorem z_b_ok0 : ((0 : Int32) &&& 1 = 0) = True := by decide
theorem z_b_ok1 : ((1 : Int32) &&& 1 = 1) = True := by decide
theorem z_b_0 (p : Prop) [Decidable p] : (z_b p = 0) = ¬ p := by unfold z_b; split <;> simp [*]
theorem z_b_1 (p : Prop) [Decidable p] : (z_b p = 1) = p := by unfold z_b; split <;> simp [*]
theorem d_10 : ((10 : Int32) = 0) = False := by decide
theorem d_8 : ((8 : Int32) = 0) = False := by decide
theorem d_32 : ((32 : Int32) = 0) = False := by decide
-- small methods
theorem s91 (x k : Int32) (ph : z_H) : z_call 91 [.int x, .int k] ph = some (some (.int (x >>> (k &&& 31) &&& 1)), ph) := by simp only [en91, e91_0, e91_1, e91_2, e91_3, e91_4, e91_5]
theorem s92 (x y : Int32) (ph : z_H) : z_call 92 [.int x, .int y] ph = some (some (.int (10 * x + y)), ph) := by simp only [en92, e92_0, e92_2, e92_3, e92_4, e92_5, e92_6]
theorem s93 (c : Int32) (ph : z_H) : z_call 93 [.int c] ph = some (some (.int (c / 10)), ph) := by simp only [en93, e93_0, e93_1, e93_3, e93_4, d_10, if_false]
theorem s94 (c : Int32) (ph : z_H) : z_call 94 [.int c] ph = some (some (.int (c - c / 10 * 10)), ph) := by simp only [en94, e94_0, e94_1, e94_3, e94_4, d_10, if_false]
theorem s95 {a n k : Nat} (h : z_an a = n) (hk : k < n) (hn : n ≤ 65536) (σ : z_G) : z_call 95 [.ref a, .int (nI k)] (z_enc σ) = some (some (.int (σ.1 a k)), z_enc σ) := by
  have h2 : nI k < Int32.ofNat n := nI_lt hk (by omega)
  simp only [en95, e95_0, e95_1, e95_4, e95_5, e95_6, e95_7, e95_10, e95_11, e95_12, e95_13, e95_16, e95_17, nI_pos (show k < 2 ^ 31 by omega), g_ln h (by omega), h2, g_il h (by omega) (z_in_nI hk hn), nI_clamp (show k < 2 ^ 31 by omega), if_true, if_false]
theorem s96 {a n k : Nat} (h : z_an a = n) (hk : k < n) (hn : n ≤ 65536) (x : Int32) (σ : z_G) : z_call 96 [.ref a, .int (nI k), .int x] (z_enc σ) = some (none, z_enc (z_ui σ a k x)) := by
  have h2 : nI k < Int32.ofNat n := nI_lt hk (by omega)
  simp only [en96, e96_0, e96_1, e96_4, e96_5, e96_6, e96_7, e96_10, e96_11, e96_12, e96_13, e96_14, nI_pos (show k < 2 ^ 31 by omega), g_ln h (by omega), h2, g_is h (by omega) (z_in_nI hk hn), nI_clamp (show k < 2 ^ 31 by omega), if_true, if_false]
theorem s13 (c : Int32) (ph : z_H) : z_call 13 [.int c] ph = some (some (.long ((1 : Int64) <<< ((8 * (c / 10) + (c - c / 10 * 10)).toInt64 &&& 63))), ph) := by simp only [en13, e13_0, e13_1, e13_3, e13_4, e13_6, e13_7, e13_8, e13_9, e13_11, e13_12, e13_13, e13_14, d_10, if_false]
theorem s115 (v lo hi : Int32) (ph : z_H) : z_call 115 [.int v, .int lo, .int hi] ph = some (some (.int (z_b (¬ v < lo ∧ ¬ hi < v))), ph) := by
  simp only [en115, e115_0, e115_1, e115_2, e115_5, e115_6, e115_7, e115_10, e115_11, e115_14, e115_15]
  by_cases h1 : v < lo <;> by_cases h2 : hi < v <;> simp only [h1, h2, if_true, if_false, z_b_ok0, z_b_ok1, z_b, not_true, not_false_iff, and_self, and_true, true_and, and_false, false_and]

