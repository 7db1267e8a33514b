/-! the class's March: its methods -/
theorem z_orI (a b : Nat) : nI a ||| nI b = nI (a ||| b) := by
  apply Int32.toBitVec_inj.mp
  simp [nI, Int32.toBitVec_or]
theorem sh1 : ∀ k, k < 31 → (1 : Int32) <<< (nI k &&& 31) = nI (2 ^ k) := by decide +kernel
theorem or_add {a k : Nat} (h : a < 2 ^ k) : a ||| 2 ^ k = a + 2 ^ k := by
  have h1 := Nat.two_pow_add_eq_or_of_lt h 1
  rw [Nat.mul_one, Nat.add_comm, Nat.or_comm] at h1
  exact h1.symm
theorem atF_lt (rc : Nat → Nat) (c : Nat) : ∀ k, atF rc c k < 2 ^ k
  | 0 => Nat.zero_lt_one
  | k + 1 => by
    have h := atF_lt rc c k
    rw [atF, Nat.pow_succ]
    split <;> omega
theorem atF_le {rc : Nat → Nat} {c k : Nat} (h : k ≤ 4) : atF rc c k < 16 := Nat.lt_of_lt_of_le (atF_lt rc c k) (Nat.pow_le_pow_right (by decide) h)
theorem tn_eq {c d : Nat} (hc : c < 64) (hd : d < 64) : (nI (tn c) = nI (tn d)) = (c = d) := by
  have h1 := tn_lt hc
  have h2 := tn_lt hd
  rw [nI_eq (by omega) (by omega)]
  exact propext ⟨tn_inj, fun e => by rw [e]⟩
theorem bit4 : ∀ d, d < 16 → ∀ g, g < 4 → nI d >>> (nI g &&& 31) &&& 1 = z_b (d.testBit g = true) := by decide +kernel
theorem clr4 : ∀ d, d < 16 → ∀ g, g < 4 → nI d &&& (nI (2 ^ g) ^^^ -1) = nI (clrF d g) := by decide +kernel
theorem clr_lt : ∀ d, d < 16 → ∀ g, g < 4 → clrF d g < 16 := by decide +kernel
theorem set_lt : ∀ d, d < 16 → ∀ g, g < 4 → d ||| 2 ^ g < 16 := by decide +kernel
theorem ones_ok : ∀ d, d < 16 → ∀ ph : z_H, z_call 182 [.int (nI d)] ph = some (some (.int (nI (ones4 d))), ph) := by
  intro d hd ph
  simp only [en182, e182_0, e182_1, e182_2, e182_3, e182_4, e182_7, e182_8, e182_9, e182_10, e182_11, e182_14, e182_15, e182_16, e182_17, e182_18, e182_21, e182_22, e182_23, e182_24, e182_25, e182_26, e182_27, e182_28, e182_29, e182_32, e182_33, e182_34, e182_35, e182_36, e182_38, e182_39, e182_40, e182_41, e182_42, e182_43, e182_45, e182_46, e182_47, e182_48, e182_49, e182_51, e182_52]
  congr 3
  revert d
  decide +kernel
theorem lor_ok {n c : Nat} (hn : n < 2 ^ 64) (hc : c < 64) : lN n ||| lN (2 ^ c) = lN (n ||| 2 ^ c) := wb_or hn (Nat.pow_lt_pow_right (by decide) hc)
section MARCH
variable {σ : z_G} {a : Nat} {L : t_L} {S : t_S}
theorem isM_L (hM : z_isM a) : z_isL (z_rf a 0) := hM.2.2.2.2.2
theorem s22 (hM : z_isM a) (h : M_at σ a S) {m : Nat} (hm : m < 4) : z_call 22 [.ref a, .int (nI m)] (z_enc σ) = some (some (.int (nI (tn (S.1 m)))), z_enc σ) := by
  simp only [en22, e22_0, e22_1, e22_4, e22_5, e22_8, gM_1 hM, s95 hM.2.2.1 hm (by decide), z_bd_i, z_bd_l, z_bd_v, List.cons_append, List.nil_append, z_nk_i, z_nk_r, z_nk_n, h.1 m hm]
theorem s23 (hM : z_isM a) (h : M_at σ a S) {g : Nat} (hg : g < 4) : z_call 23 [.ref a, .int (nI g)] (z_enc σ) = some (some (.int (nI (tn (S.2.1 g)))), z_enc σ) := by
  simp only [en23, e23_0, e23_1, e23_4, e23_5, e23_8, gM_2 hM, s95 hM.2.2.2.1 hg (by decide), z_bd_i, z_bd_l, z_bd_v, List.cons_append, List.nil_append, z_nk_i, z_nk_r, z_nk_n, h.2.1 g hg]
theorem s24 (hM : z_isM a) (h : M_at σ a S) {g : Nat} (hg : g < 4) : z_call 24 [.ref a, .int (nI g)] (z_enc σ) = some (some (.int (nI (S.2.2.1 g))), z_enc σ) := by
  simp only [en24, e24_0, e24_1, e24_4, e24_5, e24_8, gM_3 hM, s95 hM.2.2.2.2.1 hg (by decide), z_bd_i, z_bd_l, z_bd_v, List.cons_append, List.nil_append, z_nk_i, z_nk_r, z_nk_n, h.2.2.1 g hg]
theorem s25 (hM : z_isM a) (h : M_at σ a S) {m c : Nat} (hm : m < 4) : z_call 25 [.ref a, .int (nI m), .int (nI (tn c))] (z_enc σ) = some (none, z_enc (M_set σ a (mcS S m c))) := by
  simp only [en25, e25_0, e25_1, e25_4, e25_5, e25_6, e25_9, gM_1 hM, s96 hM.2.2.1 hm (by decide), z_bd_i, z_bd_l, z_bd_v, List.cons_append, List.nil_append, z_nk_i, z_nk_r, z_nk_n, u_mc h hm]
theorem s26 (hM : z_isM a) (h : M_at σ a S) {g m : Nat} (hg : g < 4) : z_call 26 [.ref a, .int (nI g), .int (nI m)] (z_enc σ) = some (none, z_enc (M_set σ a (miS S g m))) := by
  simp only [en26, e26_0, e26_1, e26_4, e26_5, e26_6, e26_9, gM_3 hM, s96 hM.2.2.2.2.1 hg (by decide), z_bd_i, z_bd_l, z_bd_v, List.cons_append, List.nil_append, z_nk_i, z_nk_r, z_nk_n, u_mi h hg]
theorem s28 (hM : z_isM a) (h : M_at σ a S) (ok : S_ok S) {c : Nat} (hc : c < 64) : z_call 28 [.ref a, .int (nI (tn c))] (z_enc σ) = some (some (.int (z_b (S.2.2.2.2.2.testBit c = true))), z_enc σ) := by
  simp only [en28, e28_0, e28_1, e28_4, e28_5, e28_8, e28_9, e28_10, e28_11, e28_14, e28_15, e28_18, e28_19, gM_6 hM, s13m hc, z_bd_i, z_bd_l, z_bd_v, List.cons_append, List.nil_append, z_nk_i, z_nk_r, z_nk_n, h.2.2.2.2.2, lg0, lbit ok.2.2.2.2.2 hc]
  by_cases g1 : S.2.2.2.2.2.testBit c = true <;> simp [g1, z_b]
theorem l29 (hM : z_isM a) (hL : L_at σ (z_rf a 0) L) (h : M_at σ a S) (ok : L_ok L) (sk : S_ok S) {c : Nat} (hc : c < 64) : ∀ d k, k + d = L.2.2.2.2.2 →
    z_r [] 0 0 29 4 [some (.ref a), some (.int (nI (tn c))), some (.int (nI (atF S.2.1 c k))), some (.int (nI k))] [] (z_enc σ) = some (some (.int (nI (atF S.2.1 c L.2.2.2.2.2))), z_enc σ) := by
  have h4 := ok.2.2.2.2
  have hl := isM_L hM
  have hN := hL.2.2.2.2.2
  intro d
  induction d with
  | zero =>
    intro k hk
    have e : k = L.2.2.2.2.2 := by omega
    rw [e29_4]
    simp (disch := omega) only [e29_0, e29_1, e29_2, e29_3, e29_5, e29_6, e29_9, e29_12, e29_15, e29_16, e29_17, e29_20, e29_21, e29_24, e29_25, e29_28, e29_29, e29_30, e29_31, e29_34, e29_35, e29_36, e29_37, e29_38, e29_39, e29_40, e29_43, e29_46, e29_47, gM_0 hM, gL_5 hl, hN, nI_ltI, e, Nat.lt_irrefl, if_false]
  | succ d ih =>
    intro k hk
    have hk4 : k < 4 := by omega
    have hkN : k < L.2.2.2.2.2 := by omega
    have h3 : nI k < Int32.ofNat 4 := nI_lt hk4 (by decide)
    have hr := sk.2.1 k hk4
    rw [e29_4]
    simp (disch := omega) only [e29_0, e29_1, e29_2, e29_3, e29_5, e29_6, e29_9, e29_12, e29_15, e29_16, e29_17, e29_20, e29_21, e29_24, e29_25, e29_28, e29_29, e29_30, e29_31, e29_34, e29_35, e29_36, e29_37, e29_38, e29_39, e29_40, e29_43, e29_46, e29_47, gM_0 hM, gL_5 hl, hN, nI_ltI, hkN, if_true, gM_2 hM, g_ln hM.2.2.2.1, h3, g_il hM.2.2.2.1 (by decide) (z_in_nI hk4 (by decide)), nI_clamp (show k < 2 ^ 31 by omega), h.2.1 k hk4, tn_eq hr hc, sh1 k (by omega), z_orI, or_add (atF_lt S.2.1 c k), nI_1]
    have e := ih (k + 1) (by omega)
    rw [atF] at e
    by_cases g : S.2.1 k = c
    · rw [if_pos g] at e ⊢
      exact e
    · rw [if_neg g] at e ⊢
      exact e
theorem s29 (hM : z_isM a) (hL : L_at σ (z_rf a 0) L) (h : M_at σ a S) (ok : L_ok L) (sk : S_ok S) {c : Nat} (hc : c < 64) : z_call 29 [.ref a, .int (nI (tn c))] (z_enc σ) = some (some (.int (nI (atF S.2.1 c L.2.2.2.2.2))), z_enc σ) := by
  have e := l29 hM hL h ok sk hc L.2.2.2.2.2 0 (by omega)
  simp only [en29, e29_0, e29_1, e29_2, e29_3]
  exact e
def miF (mi : Nat → Nat) (m : Nat) : Nat → Nat := atF mi m
theorem l30 (hM : z_isM a) (hL : L_at σ (z_rf a 0) L) (h : M_at σ a S) (ok : L_ok L) (sk : S_ok S) {m : Nat} (hm : m < 4) : ∀ d k, k + d = L.2.2.2.2.2 →
    z_r [] 0 0 30 4 [some (.ref a), some (.int (nI m)), some (.int (nI (atF S.2.2.1 m k))), some (.int (nI k))] [] (z_enc σ) = some (some (.int (nI (atF S.2.2.1 m L.2.2.2.2.2))), z_enc σ) := by
  have h4 := ok.2.2.2.2
  have hl := isM_L hM
  have hN := hL.2.2.2.2.2
  intro d
  induction d with
  | zero =>
    intro k hk
    have e : k = L.2.2.2.2.2 := by omega
    rw [e30_4]
    simp (disch := omega) only [e30_0, e30_1, e30_2, e30_3, e30_5, e30_6, e30_9, e30_12, e30_15, e30_16, e30_17, e30_20, e30_21, e30_24, e30_25, e30_26, e30_27, e30_28, e30_29, e30_30, e30_33, e30_36, e30_37, gM_0 hM, gL_5 hl, hN, nI_ltI, e, Nat.lt_irrefl, if_false]
  | succ d ih =>
    intro k hk
    have hk4 : k < 4 := by omega
    have hkN : k < L.2.2.2.2.2 := by omega
    have hr : S.2.2.1 k < 10 := by have := sk.2.2.1 k hk4; omega
    rw [e30_4]
    simp (disch := omega) only [e30_0, e30_1, e30_2, e30_3, e30_5, e30_6, e30_9, e30_12, e30_15, e30_16, e30_17, e30_20, e30_21, e30_24, e30_25, e30_26, e30_27, e30_28, e30_29, e30_30, e30_33, e30_36, e30_37, gM_0 hM, gL_5 hl, hN, nI_ltI, hkN, if_true, vM hM, s24 hM h hk4, z_bd_i, z_bd_l, z_bd_v, List.cons_append, List.nil_append, z_nk_i, z_nk_r, z_nk_n, nI_eq, sh1 k (by omega), z_orI, or_add (atF_lt S.2.2.1 m k), nI_1]
    have e := ih (k + 1) (by omega)
    rw [atF] at e
    by_cases g : S.2.2.1 k = m
    · rw [if_pos g] at e ⊢
      exact e
    · rw [if_neg g] at e ⊢
      exact e
theorem s30 (hM : z_isM a) (hL : L_at σ (z_rf a 0) L) (h : M_at σ a S) (ok : L_ok L) (sk : S_ok S) {m : Nat} (hm : m < 4) : z_call 30 [.ref a, .int (nI m)] (z_enc σ) = some (some (.int (nI (atF S.2.2.1 m L.2.2.2.2.2))), z_enc σ) := by
  have e := l30 hM hL h ok sk hm L.2.2.2.2.2 0 (by omega)
  simp only [en30, e30_0, e30_1, e30_2, e30_3]
  exact e
theorem s32 (hM : z_isM a) (hL : L_at σ (z_rf a 0) L) (h : M_at σ a S) (ok : L_ok L) (sk : S_ok S) {o : Option Nat} (ho : ∀ c, o = some c → c < 64) (ft : Bool) : z_call 32 [.ref a, .int (z_o o), .int (z_b (ft = true))] (z_enc σ) = some (some (.int (z_b (mayO L S o ft = true))), z_enc σ) := by
  have hl := isM_L hM
  have hN := atF_le (rc := S.2.1) (c := o.getD 0) ok.2.2.2.2
  cases o with
  | none =>
    have e : hasV L (-1) = 0 := by unfold hasV; rw [if_pos (by decide)]
    simp only [en32, e32_0, e32_1, e32_4, e32_5, e32_8, e32_11, e32_12, e32_13, e32_14, e32_17, e32_18, e32_19, e32_22, e32_25, e32_26, e32_27, e32_28, e32_29, e32_32, e32_33, e32_36, e32_37, e32_40, e32_43, e32_44, e32_45, e32_46, e32_47, e32_50, e32_51, e32_54, e32_55, e32_57, e32_59, e32_62, e32_63, e32_64, e32_67, e32_70, e32_71, e32_74, e32_75, gM_0 hM, vL hl, s12 hl hL, z_o, e, z_bd_i, z_bd_l, z_bd_v, List.cons_append, List.nil_append, z_nk_i, z_nk_r, z_nk_n, if_true, z_b_ok0, mayO, z_b, Bool.false_eq_true, if_false]
  | some c =>
    have hc := ho c rfl
    have hz : (nI (atF S.2.1 c L.2.2.2.2.2) = 0) = (atF S.2.1 c L.2.2.2.2.2 = 0) := by
      have := atF_le (rc := S.2.1) (c := c) ok.2.2.2.2
      exact propext (nI_eq (by omega) (by decide))
    have o1 : ((1 : Int32) = 0) = False := by decide
    simp only [en32, e32_0, e32_1, e32_4, e32_5, e32_8, e32_11, e32_12, e32_13, e32_14, e32_17, e32_18, e32_19, e32_22, e32_25, e32_26, e32_27, e32_28, e32_29, e32_32, e32_33, e32_36, e32_37, e32_40, e32_43, e32_44, e32_45, e32_46, e32_47, e32_50, e32_51, e32_54, e32_55, e32_57, e32_59, e32_62, e32_63, e32_64, e32_67, e32_70, e32_71, e32_74, e32_75, gM_0 hM, vL hl, s12 hl hL, z_o, hasV_c hc ok, z_bd_i, z_bd_l, z_bd_v, List.cons_append, List.nil_append, z_nk_i, z_nk_r, z_nk_n, z_b_0, z_b_ok0, z_b_ok1, s13m hc, gL_2 hl, gL_3 hl, hL.2.2.1, hL.2.2.2.1, lg0, lbit ok.2.2.1.1 hc, lbit ok.2.2.1.2 hc, if_true, vM hM, s29 hM hL h ok sk hc, hz, o1, if_false]
    have key : mayO L S (some c) ft = (insF L c && !L.2.2.2.1.testBit c && (ft || !L.2.2.1.testBit c) && decide (atF S.2.1 c L.2.2.2.2.2 = 0)) := rfl
    cases g1 : insF L c <;> cases g2 : L.2.2.2.1.testBit c <;> cases ft <;> cases g4 : L.2.2.1.testBit c <;> by_cases g5 : atF S.2.1 c L.2.2.2.2.2 = 0 <;> simp [key, g1, g2, g4, g5, z_b]
theorem s33 (hM : z_isM a) (h : M_at σ a S) (sk : S_ok S) {g c : Nat} (hg : g < 4) (hc : c < 64) : z_call 33 [.ref a, .int (nI g), .int (nI (tn c))] (z_enc σ) = some (none, z_enc (M_set σ a (knS (rcS S g c) (S.2.2.2.2.2 ||| 2 ^ c)))) := by
  have e := (M_at_set σ a (rcS S g c)).2.2.2.2.2
  simp only [en33, e33_0, e33_1, e33_4, e33_5, e33_6, e33_9, e33_10, e33_11, e33_14, e33_15, e33_18, e33_19, e33_22, gM_2 hM, s96 hM.2.2.2.1 hg (by decide), z_bd_i, z_bd_l, z_bd_v, List.cons_append, List.nil_append, z_nk_i, z_nk_r, z_nk_n, u_rc h hg, gM_6 hM, s13m hc, pM_6 hM, e]
  rw [show lN (rcS S g c).2.2.2.2.2 ||| lN (2 ^ c) = lN (S.2.2.2.2.2 ||| 2 ^ c) from lor_ok sk.2.2.2.2.2 hc, u_kn (M_at_set σ a (rcS S g c)), M_set_set]
theorem kn_ok {n c : Nat} (hn : n < 2 ^ 64) (hc : c < 64) : n ||| 2 ^ c < 2 ^ 64 := Nat.or_lt_two_pow hn (Nat.pow_lt_pow_right (by decide) hc)
theorem ent_ok (sk : S_ok S) {g c : Nat} (hg : g < 4) (hc : c < 64) : S_ok (entF L S g c) := by
  obtain ⟨a0, a1, a2, a3, a4, a5⟩ := sk
  have h1 : S_ok (knS (rcS S g c) (S.2.2.2.2.2 ||| 2 ^ c)) := ⟨a0, fun k hk => by simp only [knS, rcS]; split; exact hc; exact a1 k hk, a2, a3, a4, kn_ok a5 hc⟩
  unfold entF
  split
  · exact ⟨h1.1, h1.2.1, h1.2.2.1, h1.2.2.2.1, set_lt _ a4 g hg, h1.2.2.2.2.2⟩
  · exact h1
theorem s34 (hM : z_isM a) (hL : L_at σ (z_rf a 0) L) (hd : z_rf a 0 < a ∨ a + 4 ≤ z_rf a 0) (h : M_at σ a S) (ok : L_ok L) (sk : S_ok S) {g c : Nat} (hg : g < 4) (hc : c < 64) : z_call 34 [.ref a, .int (nI g), .int (nI (tn c))] (z_enc σ) = some (none, z_enc (M_set σ a (entF L S g c))) := by
  have hl := isM_L hM
  have hL2 : L_at (M_set σ a (knS (rcS S g c) (S.2.2.2.2.2 ||| 2 ^ c))) (z_rf a 0) L := L_at_ne (by omega) hL
  have hat := M_at_set σ a (knS (rcS S g c) (S.2.2.2.2.2 ||| 2 ^ c))
  have e1 : ∀ x, nI (knS (rcS S g c) x).2.2.2.1 = nI S.2.2.2.1 := fun x => rfl
  have e2 : ∀ x, nI (knS (rcS S g c) x).2.2.2.2.1 = nI S.2.2.2.2.1 := fun x => rfl
  simp only [en34, e34_0, e34_1, e34_2, e34_3, e34_6, e34_7, e34_10, e34_11, e34_14, e34_17, e34_18, e34_21, e34_22, e34_25, e34_28, e34_29, e34_30, e34_33, e34_34, e34_35, e34_36, e34_37, e34_40, vM hM, s33 hM h sk hg hc, z_bd_i, z_bd_l, z_bd_v, List.cons_append, List.nil_append, z_nk_i, z_nk_r, z_nk_n, gM_0 hM, vL hl, s14 hl hL2 ok hc, z_b_0, gM_4 hM, gM_5 hM, hat.2.2.2.1, hat.2.2.2.2.1, e1, e2, s91, bit4 _ sk.2.2.2.1 g hg, pM_5 hM, sh1 g (by omega), z_orI, u_dn hat, M_set_set, entF]
  by_cases g1 : insF L c = true ∧ foldF L c = true <;> by_cases g2 : S.2.2.2.1.testBit g = true <;> simp [g1, g2]
theorem sd_ok : ∀ c, c < 64 → ∀ d, d < 64 → (if nI (c / 8) - nI (d / 8) = 0 ∧ nI (c % 8) - nI (d % 8) = 0 then (-1 : Int32) else if (if 0 ≤ nI (c / 8) - nI (d / 8) then nI (c / 8) - nI (d / 8) else 0 - (nI (c / 8) - nI (d / 8))) < (if 0 ≤ nI (c % 8) - nI (d % 8) then nI (c % 8) - nI (d % 8) else 0 - (nI (c % 8) - nI (d % 8))) then (if nI (c % 8) - nI (d % 8) < 0 then 2 else 3) else (if nI (c / 8) - nI (d / 8) < 0 then 0 else 1)) = z_s (sdF c d) := by decide +kernel
theorem s38 (hM : z_isM a) (h : M_at σ a S) (sk : S_ok S) {g : Nat} (hg : g < 4) : z_call 38 [.ref a, .int (nI g)] (z_enc σ) = some (some (.int (z_s (sideF S g))), z_enc σ) := by
  have hm := sk.2.2.1 g hg
  have hc := sk.2.1 g hg
  have h9 : (nI (S.2.2.1 g) = 9) = (S.2.2.1 g = 9) := propext (nI_eq (by omega) (by decide))
  by_cases g9 : S.2.2.1 g = 9
  · simp only [en38, e38_0, e38_1, e38_4, e38_5, e38_8, e38_9, e38_10, e38_12, e38_15, e38_16, e38_17, e38_18, e38_21, e38_22, e38_25, e38_26, e38_27, e38_30, e38_31, e38_34, e38_36, e38_37, e38_40, e38_42, e38_45, e38_46, e38_48, e38_49, e38_52, e38_54, e38_57, e38_58, e38_60, e38_62, e38_65, e38_67, e38_70, e38_71, e38_72, e38_74, e38_77, e38_79, e38_82, e38_85, e38_87, e38_90, e38_91, e38_94, e38_95, e38_96, e38_98, e38_101, e38_102, e38_105, e38_106, gM_3 hM, s95 hM.2.2.2.2.1 hg (by decide), z_bd_i, z_bd_l, z_bd_v, List.cons_append, List.nil_append, z_nk_i, z_nk_r, z_nk_n, h.2.2.1 g hg, h9, g9, if_true, sideF]
    rfl
  · have hm4 : S.2.2.1 g < 4 := by omega
    have hd := sk.1 _ hm4
    have e1 : nI (tn (S.2.1 g)) / 10 = nI (S.2.1 g / 8) := t_div hc
    have e2 : nI (tn (S.2.1 g)) - nI (S.2.1 g / 8) * 10 = nI (S.2.1 g % 8) := t_mod hc
    have e3 : nI (tn (S.1 (S.2.2.1 g))) / 10 = nI (S.1 (S.2.2.1 g) / 8) := t_div hd
    have e4 : nI (tn (S.1 (S.2.2.1 g))) - nI (S.1 (S.2.2.1 g) / 8) * 10 = nI (S.1 (S.2.2.1 g) % 8) := t_mod hd
    simp only [en38, e38_0, e38_1, e38_4, e38_5, e38_8, e38_9, e38_10, e38_12, e38_15, e38_16, e38_17, e38_18, e38_21, e38_22, e38_25, e38_26, e38_27, e38_30, e38_31, e38_34, e38_36, e38_37, e38_40, e38_42, e38_45, e38_46, e38_48, e38_49, e38_52, e38_54, e38_57, e38_58, e38_60, e38_62, e38_65, e38_67, e38_70, e38_71, e38_72, e38_74, e38_77, e38_79, e38_82, e38_85, e38_87, e38_90, e38_91, e38_94, e38_95, e38_96, e38_98, e38_101, e38_102, e38_105, e38_106, gM_1 hM, gM_2 hM, gM_3 hM, s95 hM.2.2.2.2.1 hg (by decide), s95 hM.2.2.2.1 hg (by decide), s95 hM.2.2.1 hm4 (by decide), z_bd_i, z_bd_l, z_bd_v, List.cons_append, List.nil_append, z_nk_i, z_nk_r, z_nk_n, h.2.2.1 g hg, h.2.1 g hg, h.1 _ hm4, h9, g9, if_false, s93, s94, e1, e2, e3, e4, sideF, ← sd_ok _ hc _ hd]
    generalize nI (S.2.1 g / 8) - nI (S.1 (S.2.2.1 g) / 8) = x
    generalize nI (S.2.1 g % 8) - nI (S.1 (S.2.2.1 g) % 8) = y
    by_cases g1 : x = 0 <;> by_cases g2 : y = 0 <;> simp only [g1, g2, if_true, if_false, and_self, and_true, and_false, true_and, false_and]
    all_goals (repeat' split) <;> first | rfl | (exfalso; simp_all)
end MARCH
