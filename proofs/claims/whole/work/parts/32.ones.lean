/-! the reference: how many bits, rows aside -/
theorem pop_add : ∀ a b n, popN (a + b) n = popN a (n % 2 ^ a) + popN b (n / 2 ^ a)
  | 0, b, n => by simp [popN]
  | a + 1, b, n => by
    have h := pop_add a b (n / 2)
    have e1 : n / 2 / 2 ^ a = n / 2 ^ (a + 1) := by rw [Nat.div_div_eq_div_mul, Nat.pow_succ, Nat.mul_comm]
    have e2 : n % 2 ^ (a + 1) % 2 = n % 2 := Nat.mod_mod_of_dvd _ (by rw [Nat.pow_succ]; exact Nat.dvd_mul_left _ _)
    have e3 : n % 2 ^ (a + 1) / 2 = n / 2 % 2 ^ a := by
      rw [Nat.pow_succ, Nat.mul_comm (2 ^ a) 2]
      exact Nat.mod_mul_right_div_self n 2 (2 ^ a)
    rw [show a + 1 + b = (a + b) + 1 by omega, popN, popN, h, e1, e2, e3]
    omega
theorem pop_4 : ∀ d, d < 16 → popN 32 d = ones4 d := by decide +kernel
theorem nI_z {w : Nat} (h : w < 2 ^ 32) : (nI w = 0) = (w = 0) := by
  apply propext
  constructor
  · intro e
    have h1 : (nI w).toBitVec.toNat = (0 : Int32).toBitVec.toNat := by rw [e]
    have h2 : (nI w).toBitVec.toNat = w := by
      show (BitVec.ofNat 32 w).toNat = w
      rw [BitVec.toNat_ofNat, Nat.mod_eq_of_lt h]
    rw [h2] at h1
    exact h1
  · intro e
    rw [e]
    rfl
theorem nI_dec {w : Nat} (h0 : 0 < w) : nI w - 1 = nI (w - 1) := by
  apply Int32.toBitVec_inj.mp
  rw [Int32.toBitVec_sub]
  show BitVec.ofNat 32 w - BitVec.ofNat 32 1 = BitVec.ofNat 32 (w - 1)
  apply BitVec.eq_of_toNat_eq
  rw [BitVec.toNat_sub, BitVec.toNat_ofNat, BitVec.toNat_ofNat, BitVec.toNat_ofNat]
  omega
theorem z_andI (a b : Nat) : nI a &&& nI b = nI (a &&& b) := by
  apply Int32.toBitVec_inj.mp
  simp [nI, Int32.toBitVec_and]
theorem pop_pos : ∀ k w, w < 2 ^ k → 0 < w → 0 < popN k w
  | k, w, h, h0 => by have := kern k w h h0; omega
theorem l117 (x : Int32) (ph : z_H) : ∀ d m w, popN 32 w = d → w < 2 ^ 32 → z_r [] 0 0 117 4 [some (.int x), some (.int (nI m)), some (.int (nI w))] [] ph = some (some (.int (nI (m + d))), ph) := by
  intro d
  induction d with
  | zero =>
    intro m w hd hw
    have e : w = 0 := Classical.byContradiction fun q => by have := pop_pos 32 w hw (by omega); omega
    have e2 : (nI w = 0) = True := by rw [nI_z hw]; exact eq_true e
    rw [e117_4]
    simp only [e117_0, e117_1, e117_2, e117_3, e117_5, e117_8, e117_11, e117_12, e117_13, e117_14, e117_15, e117_16, e117_17, e117_20, e117_21, e2, if_true, Nat.add_zero]
  | succ d ih =>
    intro m w hd hw
    have w0 : 0 < w := Classical.byContradiction fun q => by
      have e : w = 0 := by omega
      rw [e] at hd
      have : popN 32 0 = 0 := by decide
      omega
    have e2 : (nI w = 0) = False := by rw [nI_z hw]; exact eq_false (by omega)
    have hk := kern 32 w hw w0
    have hl : (w &&& (w - 1)) ≤ w := Nat.and_le_left
    have e := ih (m + 1) (w &&& (w - 1)) (by omega) (by omega)
    rw [show m + 1 + d = m + (d + 1) by omega] at e
    rw [e117_4]
    simp only [e117_0, e117_1, e117_2, e117_3, e117_5, e117_8, e117_11, e117_12, e117_13, e117_14, e117_15, e117_16, e117_17, e117_20, e117_21, e2, if_false, nI_dec w0, z_andI, nI_1]
    exact e
theorem s117 {w : Nat} (hw : w < 2 ^ 32) (ph : z_H) : z_call 117 [.int (nI w)] ph = some (some (.int (nI (popN 32 w))), ph) := by
  have e := l117 (nI w) ph _ 0 w rfl hw
  rw [Nat.zero_add] at e
  simp only [en117, e117_0, e117_1, e117_2, e117_3, e117_5, e117_8, e117_11, e117_12, e117_13, e117_14, e117_15, e117_16, e117_17, e117_20, e117_21]
  exact e
theorem s117b {w : Nat} (hw : w < 16) (ph : z_H) : z_call 117 [.int (nI w)] ph = some (some (.int (nI (ones4 w))), ph) := by
  rw [s117 (by omega), pop_4 w hw]
/-- known cells of a row -/
theorem pop_kn {n : Nat} : popN 64 n = popN 32 (n % 4294967296) + popN 32 (n / 4294967296) := pop_add 32 32 n
section ASIDE
variable {σ : z_G} {L : t_L} {S : t_S} {N : Nat}
theorem l140 : ∀ d k, d + k = 16 → z_r [] 0 0 140 2 [some (.ref 76), some (.int (nI k))] [] (z_enc (cpF σ 82 0 81 0 k)) = some (none, z_enc (cpF σ 82 0 81 0 16)) := by
  intro d
  induction d with
  | zero =>
    intro k hk
    obtain rfl : k = 16 := by omega
    have b1 : (nI 16 < 16) = False := by decide
    rw [e140_2]
    simp only [e140_0, e140_1, e140_3, e140_5, e140_8, e140_9, e140_12, e140_13, e140_14, e140_17, e140_18, e140_19, e140_20, e140_23, e140_26, b1, if_false]
  | succ d ih =>
    intro k hk
    have hk16 : k < 16 := by omega
    have b1 : (nI k < 16) = True := eq_true (nI_lt (a := k) (b := 16) hk16 (by decide))
    rw [e140_2]
    simp only [e140_0, e140_1, e140_3, e140_5, e140_8, e140_9, e140_12, e140_13, e140_14, e140_17, e140_18, e140_19, e140_20, e140_23, e140_26, b1, if_true, g76_5, g76_6, g_iln an81 hk16 (by decide), g_isn an82 hk16 (by decide), cp_succ (show (81 : Nat) ≠ 82 by decide) (show k = 0 + k by omega) (show k = 0 + k by omega), nI_1]
    exact ih (k + 1) (by omega)
theorem s140 : z_call 140 [.ref 76] (z_enc σ) = some (none, z_enc (cpF σ 82 0 81 0 16)) := by
  have e := l140 (σ := σ) 16 0 rfl
  rw [cp_0] at e
  simp only [en140, e140_0, e140_1, e140_3, e140_5, e140_8, e140_9, e140_12, e140_13, e140_14, e140_17, e140_18, e140_19, e140_20, e140_23, e140_26]
  exact e
theorem l141 : ∀ d k, d + k = 16 → z_r [] 0 0 141 2 [some (.ref 76), some (.int (nI k))] [] (z_enc (cpF σ 81 0 82 0 k)) = some (none, z_enc (cpF σ 81 0 82 0 16)) := by
  intro d
  induction d with
  | zero =>
    intro k hk
    obtain rfl : k = 16 := by omega
    have b1 : (nI 16 < 16) = False := by decide
    rw [e141_2]
    simp only [e141_0, e141_1, e141_3, e141_5, e141_8, e141_9, e141_12, e141_13, e141_14, e141_17, e141_18, e141_19, e141_20, e141_23, e141_26, b1, if_false]
  | succ d ih =>
    intro k hk
    have hk16 : k < 16 := by omega
    have b1 : (nI k < 16) = True := eq_true (nI_lt (a := k) (b := 16) hk16 (by decide))
    rw [e141_2]
    simp only [e141_0, e141_1, e141_3, e141_5, e141_8, e141_9, e141_12, e141_13, e141_14, e141_17, e141_18, e141_19, e141_20, e141_23, e141_26, b1, if_true, g76_5, g76_6, g_iln an82 hk16 (by decide), g_isn an81 hk16 (by decide), cp_succ (show (82 : Nat) ≠ 81 by decide) (show k = 0 + k by omega) (show k = 0 + k by omega), nI_1]
    exact ih (k + 1) (by omega)
theorem s141 : z_call 141 [.ref 76] (z_enc σ) = some (none, z_enc (cpF σ 81 0 82 0 16)) := by
  have e := l141 (σ := σ) 16 0 rfl
  rw [cp_0] at e
  simp only [en141, e141_0, e141_1, e141_3, e141_5, e141_8, e141_9, e141_12, e141_13, e141_14, e141_17, e141_18, e141_19, e141_20, e141_23, e141_26]
  exact e
theorem sh32 : ∀ k, k < 32 → (1 : Int32) <<< (nI k &&& 31) = nI (2 ^ k) := by decide +kernel
/-- a step aside writes the row aside, and how many fell -/
def Q82 (p k : Nat) : Prop := p ≠ 82 ∧ ¬ (p = 76 ∧ k = 19)
theorem s142 (h : R_at σ 82 0 N S) (hN : N ≤ 4) {c : Nat} (hc : c < 64) : ∃ τ, z_call 142 [.ref 76, .int (nI c)] (z_enc σ) = some (none, z_enc τ) ∧ R_at τ 82 0 N (knS S (S.2.2.2.2.2 ||| 2 ^ c)) ∧ z_sf (fun p _ => p ≠ 82) σ τ := by
  refine ⟨_, ?_, r_kn h hN hc, sf_ui (fun q => q rfl)⟩
  have e1 : (10 : Int32) + nI c / 32 = nI (10 + c / 32) := by
    rw [show (32 : Int32) = nI 32 from rfl, show (10 : Int32) = nI 10 from rfl, pk_div (by omega) (by decide) (by decide), nI_add]
  have e2 : nI c - nI c / 32 * 32 = nI (c % 32) := by
    rw [show (32 : Int32) = nI 32 from rfl]
    exact pk_rem (by omega) (by decide) (by decide)
  have hi : 10 + c / 32 < 16 := by omega
  simp only [en142, e142_0, e142_1, e142_4, e142_6, e142_7, e142_9, e142_10, e142_11, e142_12, e142_13, e142_14, e142_15, e142_17, e142_18, e142_19, e142_20, e142_21, d_32, if_false, e1, e2, g76_6, g_iln an82 hi (by decide), g_isn an82 hi (by decide), sh32 _ (show c % 32 < 32 by omega)]
theorem s145 (h : R_at σ 82 0 N S) (hN : N ≤ 4) {g c : Nat} (hg : g < 4) (hc : c < 64) : ∃ τ, z_call 145 [.ref 76, .int (nI g), .int (nI c)] (z_enc σ) = some (none, z_enc τ) ∧ R_at τ 82 0 N (knS (rcS S g c) (S.2.2.2.2.2 ||| 2 ^ c)) ∧ z_sf (fun p _ => p ≠ 82) σ τ := by
  obtain ⟨τ, e, f1, f2⟩ := s142 (r_rc (c := c) h hN hg) hN hc
  refine ⟨τ, ?_, f1, z_sf.tr (sf_ui (fun q => q rfl)) f2⟩
  simp only [en145, e145_0, e145_1, e145_4, e145_5, e145_6, e145_7, e145_8, e145_9, e145_12, g76_6, g_isn an82 (show g < 16 by omega) (by decide), v76, e, z_bd_i, z_bd_l, z_bd_v, List.cons_append, List.nil_append, z_nk_i, z_nk_r, z_nk_n, v0, v1, v3, v19, v61, v71, v76]
def sizeF (x : Int32) : Int32 := if x < 0 then -x else x
theorem s146 (x : Int32) (ph : z_H) : z_call 146 [.int x] ph = some (some (.int (sizeF x)), ph) := by
  unfold sizeF
  simp only [en146, e146_0, e146_1, e146_4, e146_5, e146_6, e146_9, e146_10]
  by_cases h : x < 0 <;> simp only [h, if_true, if_false]
theorem s150 (h : R_at σ 81 0 N S) (sk : S_ok S) : z_call 150 [.ref 76] (z_enc σ) = some (some (.int (nI (popN 64 S.2.2.2.2.2))), z_enc σ) := by
  have i0 : ∀ K : Int32 → Option z_O, z_il1 (z_enc σ) 81 10 K = K (σ.1 81 10) := fun K => g_iln (k := 10) an81 (by decide) (by decide)
  have i1 : ∀ K : Int32 → Option z_O, z_il1 (z_enc σ) 81 11 K = K (σ.1 81 11) := fun K => g_iln (k := 11) an81 (by decide) (by decide)
  have h1 : S.2.2.2.2.2 % 4294967296 < 2 ^ 32 := by omega
  have h2 : S.2.2.2.2.2 / 4294967296 < 2 ^ 32 := by have := sk.2.2.2.2.2; omega
  have j : (10 : Int32) + 1 = 11 := by decide
  simp only [en150, e150_0, e150_1, e150_4, e150_6, e150_7, e150_10, e150_11, e150_14, e150_16, e150_17, e150_20, e150_21, g76_5, i0, i1, r0_k0 h, r0_k1 h, s117 h1, s117 h2, z_bd_i, z_bd_l, z_bd_v, List.cons_append, List.nil_append, z_nk_i, z_nk_r, z_nk_n, v0, v1, v3, v19, v61, v71, v76, nI_add, pop_kn, j]
end ASIDE
