/-! a land: WIDE, HIGH, folds and walls (bits by cell 8x + y), mothers, regiments; the class's Land -/
def tn (c : Nat) : Nat := 10 * (c / 8) + c % 8
abbrev t_L : Type := Nat × Nat × Nat × Nat × Nat × Nat
def L_ok (L : t_L) : Prop := (1 ≤ L.1 ∧ L.1 ≤ 8) ∧ (1 ≤ L.2.1 ∧ L.2.1 ≤ 8) ∧ (L.2.2.1 < 2 ^ 64 ∧ L.2.2.2.1 < 2 ^ 64) ∧ L.2.2.2.2.1 ≤ 4 ∧ L.2.2.2.2.2 ≤ 4
def L_at (σ : z_G) (a : Nat) (L : t_L) : Prop := σ.1 a 0 = nI L.1 ∧ σ.1 a 1 = nI L.2.1 ∧ σ.2 a 2 = lN L.2.2.1 ∧ σ.2 a 3 = lN L.2.2.2.1 ∧ σ.1 a 4 = nI L.2.2.2.2.1 ∧ σ.1 a 5 = nI L.2.2.2.2.2
def insF (L : t_L) (c : Nat) : Bool := decide (c / 8 < L.1) && decide (c % 8 < L.2.1)
def foldF (L : t_L) (c : Nat) : Bool := L.2.2.1.testBit c
def wallF (L : t_L) (c : Nat) : Bool := L.2.2.2.1.testBit c
def kindF (L : t_L) (c : Nat) : Nat := if wallF L c = true then 2 else if foldF L c = true then 1 else 0
def z_o (o : Option Nat) : Int32 := match o with
  | some d => nI (tn d)
  | none => -1
def besF (L : t_L) (c s : Nat) : Option Nat := match s with
  | 0 => if 1 ≤ c / 8 ∧ c / 8 - 1 < L.1 ∧ c % 8 < L.2.1 then some (c - 8) else none
  | 1 => if c / 8 + 1 < L.1 ∧ c % 8 < L.2.1 then some (c + 8) else none
  | 2 => if c / 8 < L.1 ∧ 1 ≤ c % 8 ∧ c % 8 - 1 < L.2.1 then some (c - 1) else none
  | _ => if c / 8 < L.1 ∧ c % 8 + 1 < L.2.1 then some (c + 1) else none
theorem tn_lt {c : Nat} (h : c < 64) : tn c < 78 := by unfold tn; omega
theorem tn_inj {c d : Nat} (h : tn c = tn d) : c = d := by unfold tn at h; omega
theorem tn_div (c : Nat) : tn c / 10 = c / 8 := by unfold tn; omega
theorem tn_mod (c : Nat) : tn c % 10 = c % 8 := by unfold tn; omega
theorem t_div {c : Nat} (h : c < 64) : nI (tn c) / nI 10 = nI (c / 8) := by
  have := tn_lt h
  rw [pk_div (by omega) (by decide) (by decide), tn_div]
theorem t_mod {c : Nat} (h : c < 64) : nI (tn c) - nI (c / 8) * nI 10 = nI (c % 8) := by
  rw [pk_mul, pk_sub (by unfold tn; omega)]
  congr 1
  unfold tn
  omega
theorem s13m {c : Nat} (h : c < 64) (ph : z_H) : z_call 13 [.int (nI (tn c))] ph = some (some (.long (lN (2 ^ c))), ph) := by
  rw [s13]
  have h1 : ∀ c, c < 64 → (1 : Int64) <<< ((8 * (nI (tn c) / 10) + (nI (tn c) - nI (tn c) / 10 * 10)).toInt64 &&& 63) = lN (2 ^ c) := by decide +kernel
  rw [h1 c h]
theorem one0 : ((1 : Int32) = nI 0) = False := by decide
theorem lg0 (x : Int64) : (lg_cmp x 0 = 0) = (x = 0) := by
  apply propext
  unfold lg_cmp
  constructor
  · intro h
    split at h
    · cases h
    · split at h
      · assumption
      · cases h
  · intro h
    subst h
    rfl
theorem lN_z {n : Nat} (h : n < 2 ^ 64) : (lN n = 0) = (n = 0) := by
  apply propext
  constructor
  · intro e
    have h1 := congrArg (fun x : Int64 => x.toBitVec.toNat) e
    rw [wb_tn h] at h1
    exact h1
  · intro e
    rw [e]
    rfl
theorem lbit {n c : Nat} (h : n < 2 ^ 64) (hc : c < 64) : (lN n &&& lN (2 ^ c) = 0) = (n.testBit c = false) := by
  have h2 : 2 ^ c < 2 ^ 64 := Nat.pow_lt_pow_right (by decide) hc
  rw [wb_and h h2, lN_z (Nat.lt_of_le_of_lt Nat.and_le_left h)]
  exact propext (fb_bit_nat n c)
def hasV (L : t_L) (x : Int32) : Int32 := if x < 0 then 0 else if x / 10 < nI L.1 then (if x - x / 10 * 10 < nI L.2.1 then 1 else 0) else 0
theorem hasV_ok (L : t_L) (x : Int32) : (hasV L x &&& 1 = hasV L x) = True := eq_true (by
  unfold hasV
  by_cases h1 : x < 0 <;> by_cases h2 : x / 10 < nI L.1 <;> by_cases h3 : x - x / 10 * 10 < nI L.2.1 <;> simp only [h1, h2, h3, if_true, if_false] <;> rfl)
section LAND
variable {σ : z_G} {a : Nat} {L : t_L}
theorem s12 (hl : z_isL a) (hL : L_at σ a L) (x : Int32) : z_call 12 [.ref a, .int x] (z_enc σ) = some (some (.int (hasV L x)), z_enc σ) := by
  simp only [en12, e12_0, e12_1, e12_4, e12_5, e12_7, e12_8, e12_9, e12_12, e12_15, e12_16, e12_18, e12_19, e12_20, e12_23, e12_26, e12_27, e12_30, e12_31, gL_0 hl, gL_1 hl, hL.1, hL.2.1, d_10, if_false, z_b_ok0, z_b_ok1, if_true, hasV]
  repeat' split
  all_goals rfl
theorem hasV_c {c : Nat} (hc : c < 64) (ok : L_ok L) : hasV L (nI (tn c)) = z_b (insF L c = true) := by
  have ht := tn_lt hc
  obtain ⟨⟨-, h1⟩, ⟨-, h2⟩, -⟩ := ok
  have e1 : nI (tn c) / 10 = nI (c / 8) := t_div hc
  have e2 : nI (tn c) - nI (c / 8) * 10 = nI (c % 8) := t_mod hc
  unfold hasV insF z_b
  simp (disch := omega) only [e1, e2, nI_ltI, l_0, Nat.not_lt_zero, if_false, Bool.and_eq_true, decide_eq_true_eq]
  by_cases g1 : c / 8 < L.1 <;> by_cases g2 : c % 8 < L.2.1 <;> simp [g1, g2]
theorem hasV_of {x : Int32} (ok : L_ok L) : (hasV L x = 1 ∧ ∃ c, c < 64 ∧ x = nI (tn c) ∧ insF L c = true) ∨ (hasV L x = 0 ∧ ∀ c, c < 64 → insF L c = true → x ≠ nI (tn c)) := by
  obtain ⟨⟨-, h1⟩, ⟨-, h2⟩, -⟩ := id ok
  have key : hasV L x = 1 → ∃ c, c < 64 ∧ x = nI (tn c) ∧ insF L c = true := by
    intro h
    unfold hasV at h
    split at h
    · cases h
    · rename_i h0
      obtain ⟨j, hj, rfl⟩ := nI_of h0
      have e1 : nI j / 10 = nI (j / 10) := pk_div hj (by decide) (by decide)
      have e2 : nI j - nI (j / 10) * 10 = nI (j % 10) := by
        rw [show (10 : Int32) = nI 10 from rfl, pk_mul, pk_sub (by omega)]
        congr 1
        omega
      rw [e1, e2] at h
      split at h
      · rename_i g1
        split at h
        · rename_i g2
          have g1 := (nI_ltI (by omega) (by omega)).mp g1
          have g2 := (nI_ltI (by omega) (by omega)).mp g2
          refine ⟨8 * (j / 10) + j % 10, by omega, ?_, ?_⟩
          · congr 1
            unfold tn
            omega
          · unfold insF
            rw [show (8 * (j / 10) + j % 10) / 8 = j / 10 by omega, show (8 * (j / 10) + j % 10) % 8 = j % 10 by omega]
            simp [g1, g2]
        · cases h
      · cases h
  by_cases h : hasV L x = 1
  · exact Or.inl ⟨h, key h⟩
  · refine Or.inr ⟨?_, fun c hc hi e => ?_⟩
    · unfold hasV at h ⊢
      repeat' split
      all_goals first
        | rfl
        | (exfalso; apply h; simp [*])
    · subst e
      rw [hasV_c hc ok, hi] at h
      exact h rfl
theorem s14 (hl : z_isL a) (hL : L_at σ a L) (ok : L_ok L) {c : Nat} (hc : c < 64) : z_call 14 [.ref a, .int (nI (tn c))] (z_enc σ) = some (some (.int (z_b (insF L c = true ∧ foldF L c = true))), z_enc σ) := by
  have hb := lbit ok.2.2.1.1 hc
  simp only [en14, e14_0, e14_1, e14_2, e14_5, e14_8, e14_9, e14_12, e14_13, e14_16, e14_17, e14_18, e14_19, e14_22, e14_23, e14_26, e14_27, vL hl, s12 hl hL, hasV_c hc ok, z_bd_i, z_bd_l, z_bd_v, List.cons_append, List.nil_append, z_nk_i, z_nk_r, z_nk_n, gL_2 hl, s13m hc, hL.2.2.1, lg0, hb, z_b_0, z_b_ok0, z_b_ok1, if_true]
  by_cases g1 : insF L c = true <;> by_cases g2 : L.2.2.1.testBit c = false <;> simp [g1, g2, z_b, foldF]
theorem s15 (hl : z_isL a) (hL : L_at σ a L) (ok : L_ok L) {c : Nat} (hc : c < 64) : z_call 15 [.ref a, .int (nI (tn c))] (z_enc σ) = some (some (.int (z_b (insF L c = true ∧ wallF L c = false))), z_enc σ) := by
  have hb := lbit ok.2.2.1.2 hc
  simp only [en15, e15_0, e15_1, e15_2, e15_5, e15_8, e15_9, e15_12, e15_13, e15_16, e15_17, e15_18, e15_19, e15_22, e15_23, e15_26, e15_27, vL hl, s12 hl hL, hasV_c hc ok, z_bd_i, z_bd_l, z_bd_v, List.cons_append, List.nil_append, z_nk_i, z_nk_r, z_nk_n, gL_3 hl, s13m hc, hL.2.2.2.1, lg0, hb, z_b_0, z_b_ok0, z_b_ok1, if_true]
  by_cases g1 : insF L c = true <;> by_cases g2 : L.2.2.2.1.testBit c = false <;> simp [g1, g2, z_b, wallF]
theorem s16 (hl : z_isL a) (hL : L_at σ a L) (ok : L_ok L) {c : Nat} (hc : c < 64) (hi : insF L c = true) : z_call 16 [.ref a, .int (nI (tn c))] (z_enc σ) = some (some (.int (nI (kindF L c))), z_enc σ) := by
  simp only [en16, e16_0, e16_1, e16_2, e16_5, e16_8, e16_9, e16_10, e16_11, e16_12, e16_15, e16_18, e16_19, e16_22, e16_23, vL hl, s14 hl hL ok hc, s15 hl hL ok hc, z_bd_i, z_bd_l, z_bd_v, List.cons_append, List.nil_append, z_nk_i, z_nk_r, z_nk_n, z_b_0, hi, true_and]
  unfold kindF
  by_cases g1 : wallF L c = true <;> by_cases g2 : foldF L c = true <;> simp [g1, g2] <;> rfl
theorem s18 (hl : z_isL a) (hL : L_at σ a L) (ok : L_ok L) {c s : Nat} (hc : c < 64) (hs : s < 4) : z_call 18 [.ref a, .int (nI (tn c)), .int (nI s)] (z_enc σ) = some (some (.int (z_o (besF L c s))), z_enc σ) := by
  obtain ⟨⟨-, h1⟩, ⟨-, h2⟩, -⟩ := id ok
  have e1 : nI (tn c) / 10 = nI (c / 8) := t_div hc
  have e2 : nI (tn c) - nI (c / 8) * 10 = nI (c % 8) := t_mod hc
  have hs4 : s = 0 ∨ s = 1 ∨ s = 2 ∨ s = 3 := by omega
  have q1 : ((nI 1 : Int32) = 0) = False := by decide
  have q2 : ((nI 2 : Int32) = 0) = False := by decide
  have q3 : ((nI 3 : Int32) = 0) = False := by decide
  have q4 : ((nI 2 : Int32) = 1) = False := by decide
  have q5 : ((nI 3 : Int32) = 1) = False := by decide
  have q6 : ((nI 3 : Int32) = 2) = False := by decide
  have q7 : ((nI 0 : Int32) = 0) = True := by decide
  have q8 : ((nI 1 : Int32) = 1) = True := by decide
  have q9 : ((nI 2 : Int32) = 2) = True := by decide
  rcases hs4 with rfl | rfl | rfl | rfl <;> simp only [en18, e18_0, e18_1, e18_4, e18_5, e18_6, e18_9, e18_11, e18_12, e18_40, e18_43, e18_46, e18_49, e18_52, e18_55, e18_58, e18_61, e18_62, e18_65, e18_66, e18_67, e18_70, e18_73, e18_75, e18_78, e18_80, e18_81, e18_84, e18_87, e18_88, e18_91, e18_92, e18_94, e18_96, e18_99, e18_100, e18_102, e18_105, e18_108, e18_109, s93, s94, s92, z_bd_i, z_bd_l, z_bd_v, List.cons_append, List.nil_append, z_nk_i, z_nk_r, z_nk_n, gL_0 hl, gL_1 hl, hL.1, hL.2.1, e1, e2, q1, q2, q3, q4, q5, q6, q7, q8, q9, if_true, if_false]
  all_goals have hx8 : c / 8 < 8 := by omega
  all_goals have hy8 : c % 8 < 8 := by omega
  · unfold besF
    by_cases g : c / 8 = 0
    · simp only [g, show (nI 0 + -1 < 0) = True from by decide, if_true, show ¬ (1 ≤ 0 ∧ 0 - 1 < L.1 ∧ c % 8 < L.2.1) from fun q => absurd q.1 (by decide), if_false]
      rfl
    · have g0 : 0 < c / 8 := by omega
      simp (disch := omega) only [sb_m1 g0, one0, nI_1, l_0, l_10, nI_ltI, Nat.not_lt_zero, if_false, pk_mul, nI_add]
      by_cases g1 : c / 8 - 1 < L.1 <;> by_cases g2 : c % 8 < L.2.1 <;> simp only [g1, g2, if_true, if_false, and_self, and_true, and_false, show 1 ≤ c / 8 from g0]
      · have e : 10 * (c / 8 - 1) + c % 8 = tn (c - 8) := by unfold tn; omega
        rw [e]
        rfl
      all_goals rfl
  · unfold besF
    simp (disch := omega) only [one0, nI_1, l_0, l_10, nI_ltI, Nat.not_lt_zero, if_false, pk_mul, nI_add]
    by_cases g1 : c / 8 + 1 < L.1 <;> by_cases g2 : c % 8 < L.2.1 <;> simp only [g1, g2, if_true, if_false, and_self, and_true, and_false]
    · have e : 10 * (c / 8 + 1) + c % 8 = tn (c + 8) := by unfold tn; omega
      rw [e]
      rfl
    all_goals rfl
  · unfold besF
    by_cases g : c % 8 = 0
    · simp (disch := omega) only [g, show (nI 0 + -1 < 0) = True from by decide, l_0, nI_ltI, Nat.not_lt_zero, if_false, if_true, show ¬ (c / 8 < L.1 ∧ 1 ≤ 0 ∧ 0 - 1 < L.2.1) from fun q => absurd q.2.1 (by decide)]
      by_cases g1 : c / 8 < L.1 <;> simp only [g1, if_true, if_false] <;> rfl
    · have g0 : 0 < c % 8 := by omega
      simp (disch := omega) only [sb_m1 g0, one0, nI_1, l_0, l_10, nI_ltI, Nat.not_lt_zero, if_false, pk_mul, nI_add]
      by_cases g1 : c / 8 < L.1 <;> by_cases g2 : c % 8 - 1 < L.2.1 <;> simp only [g1, g2, if_true, if_false, and_self, and_true, and_false, true_and, false_and, show 1 ≤ c % 8 from g0]
      · have e : 10 * (c / 8) + (c % 8 - 1) = tn (c - 1) := by unfold tn; omega
        rw [e]
        rfl
      all_goals rfl
  · unfold besF
    simp (disch := omega) only [one0, nI_1, l_0, l_10, nI_ltI, Nat.not_lt_zero, if_false, pk_mul, nI_add]
    by_cases g1 : c / 8 < L.1 <;> by_cases g2 : c % 8 + 1 < L.2.1 <;> simp only [g1, g2, if_true, if_false, and_self, and_true, and_false, true_and, false_and]
    · have e : 10 * (c / 8) + (c % 8 + 1) = tn (c + 1) := by unfold tn; omega
      rw [e]
      rfl
    all_goals rfl
theorem bes_lt {c s d : Nat} (hc : c < 64) (ok : L_ok L) (h : besF L c s = some d) : d < 64 ∧ insF L d = true := by
  obtain ⟨⟨-, h1⟩, ⟨-, h2⟩, -⟩ := ok
  unfold besF at h
  unfold insF
  simp only [Bool.and_eq_true, decide_eq_true_eq]
  split at h <;> split at h <;> first
    | (cases h; done)
    | (cases h; omega)
/-- the land reset -/
def L_0 : t_L := (8, 8, 0, 0, 0, 0)
def L_set (σ : z_G) (a : Nat) (L : t_L) : z_G := (fun p k => if p = a then (if k = 0 then nI L.1 else if k = 1 then nI L.2.1 else if k = 4 then nI L.2.2.2.2.1 else if k = 5 then nI L.2.2.2.2.2 else σ.1 p k) else σ.1 p k, fun p k => if p = a then (if k = 2 then lN L.2.2.1 else if k = 3 then lN L.2.2.2.1 else σ.2 p k) else σ.2 p k)
theorem L_at_set (σ : z_G) (a : Nat) (L : t_L) : L_at (L_set σ a L) a L := by
  unfold L_at L_set
  simp
theorem L_set_ext {σ τ : z_G} {a : Nat} {L : t_L} (h : L_at τ a L) (h1 : ∀ p k, (p ≠ a ∨ (k ≠ 0 ∧ k ≠ 1 ∧ k ≠ 4 ∧ k ≠ 5)) → τ.1 p k = σ.1 p k) (h2 : ∀ p k, (p ≠ a ∨ (k ≠ 2 ∧ k ≠ 3)) → τ.2 p k = σ.2 p k) : τ = L_set σ a L := by
  obtain ⟨a0, a1, a2, a3, a4, a5⟩ := h
  refine Prod.ext (funext fun p => funext fun k => ?_) (funext fun p => funext fun k => ?_)
  · unfold L_set
    dsimp only
    split
    · rename_i hp
      subst hp
      repeat' split
      all_goals first
        | (rename_i hk; subst hk; assumption)
        | skip
      exact h1 p k (Or.inr ⟨by assumption, by assumption, by assumption, by assumption⟩)
    · rename_i hp
      exact h1 p k (Or.inl hp)
  · unfold L_set
    dsimp only
    split
    · rename_i hp
      subst hp
      repeat' split
      all_goals first
        | (rename_i hk; subst hk; assumption)
        | skip
      exact h2 p k (Or.inr ⟨by assumption, by assumption⟩)
    · rename_i hp
      exact h2 p k (Or.inl hp)
theorem s10 (hl : z_isL a) : z_call 10 [.ref a] (z_enc σ) = some (none, z_enc (L_set σ a L_0)) := by
  simp only [en10, e10_0, e10_1, e10_3, e10_6, e10_7, e10_9, e10_12, e10_13, e10_14, e10_17, e10_18, e10_19, e10_22, e10_23, e10_24, e10_27, e10_28, e10_29, e10_32, pL_0 hl, pL_1 hl, pL_2 hl, pL_3 hl, pL_4 hl, pL_5 hl]
  congr 3
  apply L_set_ext
  · unfold L_at
    simp [z_ui, z_ul, L_0]
    decide
  · intro p k h
    simp only [z_ui, z_ul]
    rcases h with h | ⟨g0, g1, g4, g5⟩
    · simp [h]
    · simp [g0, g1, g4, g5]
  · intro p k h
    simp only [z_ui, z_ul]
    rcases h with h | ⟨g2, g3⟩
    · simp [h]
    · simp [g2, g3]
theorem s11 {b : Nat} {L2 : t_L} (hl : z_isL a) (hb : z_isL b) (hL : L_at σ b L) (hab : a ≠ b) : z_call 11 [.ref a, .ref b] (z_enc σ) = some (none, z_enc (L_set σ a L)) := by
  obtain ⟨a0, a1, a2, a3, a4, a5⟩ := hL
  have hba : b ≠ a := Ne.symm hab
  simp only [en11, e11_0, e11_1, e11_2, e11_5, e11_8, e11_9, e11_10, e11_13, e11_16, e11_17, e11_18, e11_21, e11_24, e11_25, e11_26, e11_29, e11_32, e11_33, e11_34, e11_37, e11_40, e11_41, e11_42, e11_45, e11_48, pL_0 hl, pL_1 hl, pL_2 hl, pL_3 hl, pL_4 hl, pL_5 hl, gL_0 hb, gL_1 hb, gL_2 hb, gL_3 hb, gL_4 hb, gL_5 hb]
  congr 3
  apply L_set_ext
  · unfold L_at
    simp [z_ui, z_ul, hba, a0, a1, a2, a3, a4, a5]
  · intro p k h
    simp only [z_ui, z_ul]
    rcases h with h | ⟨g0, g1, g4, g5⟩
    · simp [h]
    · simp [g0, g1, g4, g5]
  · intro p k h
    simp only [z_ui, z_ul]
    rcases h with h | ⟨g2, g3⟩
    · simp [h]
    · simp [g2, g3]
end LAND
