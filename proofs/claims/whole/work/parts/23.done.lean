/-! BackMarch: what is done -/
def CF (σ : z_G) (L : t_L) (S : t_S) (hc : Nat) (hist : Nat → t_S) : Prop := L_at σ 10 L ∧ M_at σ 11 S ∧ ∃ nx, H_at σ nx hc hist
/-- where what is done writes: the march that is now, the history -/
def P_do (p : Nat) : Prop := p < 11 ∨ (15 ≤ p ∧ p < 19) ∨ 61 ≤ p
def pushN (hc : Nat) : Nat := if hc = 10 then 10 else hc + 1
theorem H_at_sm {P : Nat → Prop} {σ τ : z_G} {nx hc : Nat} {hist : Nat → t_S} (h : H_at σ nx hc hist) (hs : z_sm P σ τ) (hp : ∀ p, 19 ≤ p → p < 61 → P p) : H_at τ nx hc hist := by
  obtain ⟨h1, h2, h3, h4, h5⟩ := h
  refine ⟨h1, h2, ((hs 19 (hp _ (by omega) (by omega)) 1).1).trans h3, ((hs 19 (hp _ (by omega) (by omega)) 2).1).trans h4, fun j hj => M_at_sm (h5 j hj) hs ⟨hp _ (by omega) (by omega), hp _ (by omega) (by omega), hp _ (by omega) (by omega), hp _ (by omega) (by omega)⟩⟩
def walkR (L : t_L) (S : t_S) (m s : Nat) : Option Nat := match besF L (S.1 m) s with
  | none => none
  | some d => if wallF L d = true then none else some d
section DONE
variable {σ : z_G} {L : t_L} {S : t_S} {hc : Nat} {hist : Nat → t_S}
/-- what happens behind push: the march changes -/
theorem do_fin {τ : z_G} {nx2 hc2 : Nat} {hist2 : Nat → t_S} {S2 : t_S} (hL : L_at σ 10 L) (hS : M_at σ 11 S) (h1 : H_at τ nx2 hc2 hist2) (h2 : z_sm (fun p => p < 19 ∨ 61 ≤ p) σ τ) : CF (M_set τ 11 S2) L S2 hc2 hist2 ∧ z_sm P_do σ (M_set τ 11 S2) := by
  refine ⟨⟨?_, M_at_set _ _ _, nx2, H_at_sm (P := fun p => 19 ≤ p ∧ p < 61) h1 (sm_M (by omega)) (fun p h1 h2 => ⟨h1, h2⟩)⟩, (h2.mono (fun p hp => by unfold P_do at hp; omega)).tr (sm_M (fun p hp => by unfold P_do at hp; omega))⟩
  exact L_at_ne (Or.inr (by decide)) (L_at_sm hL h2 (by omega))
theorem s66 (h : CF σ L S hc hist) (ok : L_ok L) (sk : S_ok S) : ∃ τ, z_call 66 [.ref 0] (z_enc σ) = some (some (.int (nI (goneF L S))), z_enc τ) ∧ CF τ L (stepF L S) (pushN hc) (pushH S hist) ∧ z_sm P_do σ τ := by
  obtain ⟨hL, hS, nx, hH⟩ := h
  obtain ⟨τ, nx2, h1, h2, h3⟩ := s3 hH hS
  have hS2 : M_at τ 11 S := M_at_sm hS h3 (by omega)
  have hL2 : L_at τ 10 L := L_at_sm hL h3 (by omega)
  have hL3 : L_at τ (z_rf 11 0) L := by rw [rf_11]; exact hL2
  obtain ⟨f1, f2⟩ := do_fin (S2 := stepF L S) hL hS h2 h3
  refine ⟨_, ?_, f1, f2⟩
  simp only [en66, e66_0, e66_1, e66_4, e66_5, e66_8, e66_11, e66_12, e66_15, e66_18, g0_5, g0_3, z_bd_i, z_bd_l, z_bd_v, List.cons_append, List.nil_append, z_nk_i, z_nk_r, z_nk_n, v0, v1, v3, v19, v61, v71, v76, h1, vM isM_11, s36 isM_11 hL3 (by rw [rf_11]; decide) hS2 ok sk]
theorem s67 (h : CF σ L S hc hist) (ok : L_ok L) (sk : S_ok S) {m s : Nat} (hm : m < L.2.2.2.2.1) (hs : s < 4) :
    match walkR L S m s with
    | none => z_call 67 [.ref 0, .int (nI m), .int (nI s)] (z_enc σ) = some (some (.int (-2)), z_enc σ)
    | some d => ∃ τ, z_call 67 [.ref 0, .int (nI m), .int (nI s)] (z_enc σ) = some (some (.int (nI (tn d))), z_enc τ) ∧ CF τ L (mcS S m d) (pushN hc) (pushH S hist) ∧ z_sm P_do σ τ := by
  obtain ⟨hL, hS, nx, hH⟩ := h
  have hm4 : m < 4 := by have := ok.2.2.2.1; omega
  have b1 : (¬ nI m < 0 ∧ nI m < nI L.2.2.2.2.1) = True := eq_true (inN_nI hm (by have := ok.2.2.2.1; omega))
  have b2 : (¬ nI s < 0 ∧ nI s < 4) = True := eq_true (inN_nI hs (by decide))
  have o2 : hasV L (-1) = 0 := by unfold hasV; rw [if_pos (by decide)]
  have hc6 := sk.1 m hm4
  have om1 : z_call 15 [.ref 10, .int (-1)] (z_enc σ) = some (some (.int 0), z_enc σ) := by
    simp only [en15, e15_0, e15_1, e15_2, e15_5, e15_8, e15_9, e15_12, e15_13, e15_16, e15_17, e15_18, e15_19, e15_22, e15_23, e15_26, e15_27, vL isL_10, s12 isL_10 hL, o2, z_bd_i, z_bd_l, z_bd_v, List.cons_append, List.nil_append, z_nk_i, z_nk_r, z_nk_n, v0, v1, v3, v19, v61, v71, v76, if_true, z_b_ok0]
  unfold walkR
  cases hb : besF L (S.1 m) s with
  | none =>
    simp only [en67, e67_0, e67_1, e67_2, e67_5, e67_8, e67_9, e67_12, e67_15, e67_16, e67_17, e67_18, e67_21, e67_22, e67_25, e67_26, e67_29, e67_30, e67_33, e67_34, e67_35, e67_38, e67_39, e67_42, e67_45, e67_47, e67_48, e67_49, e67_52, e67_53, e67_56, e67_59, e67_60, e67_63, e67_64, e67_65, e67_68, e67_69, s87 hL, z_bd_i, z_bd_l, z_bd_v, List.cons_append, List.nil_append, z_nk_i, z_nk_r, z_nk_n, v0, v1, v3, v19, v61, v71, v76, z_b_0, b1, not_true, if_false, s89, b2, g0_2, g0_3, vM isM_11, s22 isM_11 hS hm4, vL isL_10, s18 isL_10 hL ok hc6 hs, hb, z_o, om1, if_true]
  | some d =>
    obtain ⟨hd, hi⟩ := bes_lt hc6 ok hb
    by_cases hw : wallF L d = true
    · simp only [en67, e67_0, e67_1, e67_2, e67_5, e67_8, e67_9, e67_12, e67_15, e67_16, e67_17, e67_18, e67_21, e67_22, e67_25, e67_26, e67_29, e67_30, e67_33, e67_34, e67_35, e67_38, e67_39, e67_42, e67_45, e67_47, e67_48, e67_49, e67_52, e67_53, e67_56, e67_59, e67_60, e67_63, e67_64, e67_65, e67_68, e67_69, s87 hL, z_bd_i, z_bd_l, z_bd_v, List.cons_append, List.nil_append, z_nk_i, z_nk_r, z_nk_n, v0, v1, v3, v19, v61, v71, v76, z_b_0, b1, not_true, if_false, s89, b2, g0_2, g0_3, vM isM_11, s22 isM_11 hS hm4, vL isL_10, s18 isL_10 hL ok hc6 hs, hb, z_o, s15 isL_10 hL ok hd, hi, hw, Bool.true_eq_false, and_false, not_false_iff, if_true]
    · have hw2 : wallF L d = false := by simpa using hw
      obtain ⟨τ, nx2, h1, h2, h3⟩ := s3 hH hS
      have hS2 : M_at τ 11 S := M_at_sm hS h3 (by omega)
      obtain ⟨f1, f2⟩ := do_fin (S2 := mcS S m d) hL hS h2 h3
      simp only [hw, if_false]
      refine ⟨_, ?_, f1, f2⟩
      simp only [en67, e67_0, e67_1, e67_2, e67_5, e67_8, e67_9, e67_12, e67_15, e67_16, e67_17, e67_18, e67_21, e67_22, e67_25, e67_26, e67_29, e67_30, e67_33, e67_34, e67_35, e67_38, e67_39, e67_42, e67_45, e67_47, e67_48, e67_49, e67_52, e67_53, e67_56, e67_59, e67_60, e67_63, e67_64, e67_65, e67_68, e67_69, s87 hL, z_bd_i, z_bd_l, z_bd_v, List.cons_append, List.nil_append, z_nk_i, z_nk_r, z_nk_n, v0, v1, v3, v19, v61, v71, v76, z_b_0, b1, not_true, if_false, s89, b2, g0_2, g0_3, vM isM_11, s22 isM_11 hS hm4, vL isL_10, s18 isL_10 hL ok hc6 hs, hb, z_o, s15 isL_10 hL ok hd, hi, hw2, and_self, g0_5, h1, s25 isM_11 hS2 hm4]
theorem s67b (hL : L_at σ 10 L) {m s : Int32} (hb : ¬ ((¬ m < 0 ∧ m < nI L.2.2.2.2.1) ∧ (¬ s < 0 ∧ s < 4))) : z_call 67 [.ref 0, .int m, .int s] (z_enc σ) = some (some (.int (-1)), z_enc σ) := by
  by_cases h1 : ¬ m < 0 ∧ m < nI L.2.2.2.2.1
  · have h2 : ¬ (¬ s < 0 ∧ s < 4) := fun q => hb ⟨h1, q⟩
    simp only [en67, e67_0, e67_1, e67_2, e67_5, e67_8, e67_9, e67_12, e67_15, e67_16, e67_17, e67_18, e67_21, e67_22, e67_25, e67_26, e67_29, e67_30, e67_33, e67_34, e67_35, e67_38, e67_39, e67_42, e67_45, e67_47, e67_48, e67_49, e67_52, e67_53, e67_56, e67_59, e67_60, e67_63, e67_64, e67_65, e67_68, e67_69, s87 hL, z_bd_i, z_bd_l, z_bd_v, List.cons_append, List.nil_append, z_nk_i, z_nk_r, z_nk_n, v0, v1, v3, v19, v61, v71, v76, z_b_0, eq_true h1, not_true, if_false, s89, eq_false h2, not_false_iff, if_true]
  · simp only [en67, e67_0, e67_1, e67_2, e67_5, e67_8, e67_9, e67_12, e67_15, e67_16, e67_17, e67_18, e67_21, e67_22, e67_25, e67_26, e67_29, e67_30, e67_33, e67_34, e67_35, e67_38, e67_39, e67_42, e67_45, e67_47, e67_48, e67_49, e67_52, e67_53, e67_56, e67_59, e67_60, e67_63, e67_64, e67_65, e67_68, e67_69, s87 hL, z_bd_i, z_bd_l, z_bd_v, List.cons_append, List.nil_append, z_nk_i, z_nk_r, z_nk_n, v0, v1, v3, v19, v61, v71, v76, z_b_0, eq_false h1, not_false_iff, if_true]
theorem s68 (h : CF σ L S hc hist) (ok : L_ok L) (sk : S_ok S) {g m : Nat} (hg : g < L.2.2.2.2.2) (hm : m = 9 ∨ m < L.2.2.2.2.1) :
    if S.2.2.1 g = m then z_call 68 [.ref 0, .int (nI g), .int (nI m)] (z_enc σ) = some (some (.int (-2)), z_enc σ)
    else ∃ τ, z_call 68 [.ref 0, .int (nI g), .int (nI m)] (z_enc σ) = some (some (.int (toldF (S.2.2.1 g))), z_enc τ) ∧ CF τ L (miS S g m) (pushN hc) (pushH S hist) ∧ z_sm P_do σ τ := by
  obtain ⟨hL, hS, nx, hH⟩ := h
  have hM4 := ok.2.2.2.1
  have hg4 : g < 4 := by have := ok.2.2.2.2; omega
  have hmi : S.2.2.1 g < 10 := by have := sk.2.2.1 g hg4; omega
  have b1 : (¬ nI g < 0 ∧ nI g < nI L.2.2.2.2.2) = True := eq_true (inN_nI hg (by have := ok.2.2.2.2; omega))
  have e9 : (nI m = 9) = (m = 9) := propext (nI_eq (by omega) (by decide))
  have em : (nI (S.2.2.1 g) = nI m) = (S.2.2.1 g = m) := propext (nI_eq (by omega) (by omega))
  have b2 : m ≠ 9 → (¬ nI m < 0 ∧ nI m < nI L.2.2.2.2.1) = True := fun q => eq_true (inN_nI (hm.resolve_left q) (by omega))
  obtain ⟨τ, nx2, h1, h2, h3⟩ := s3 hH hS
  have hS2 : M_at τ 11 S := M_at_sm hS h3 (by omega)
  obtain ⟨f1, f2⟩ := do_fin (S2 := miS S g m) hL hS h2 h3
  by_cases q : S.2.2.1 g = m
  · rw [if_pos q]
    by_cases q9 : m = 9
    · simp only [en68, e68_0, e68_1, e68_2, e68_5, e68_8, e68_9, e68_11, e68_14, e68_15, e68_16, e68_19, e68_22, e68_23, e68_24, e68_25, e68_28, e68_29, e68_32, e68_33, e68_34, e68_35, e68_38, e68_40, e68_41, e68_42, e68_45, e68_46, e68_49, e68_52, e68_53, e68_56, e68_57, e68_58, e68_61, e68_62, e68_65, s88 hL, z_bd_i, z_bd_l, z_bd_v, List.cons_append, List.nil_append, z_nk_i, z_nk_r, z_nk_n, v0, v1, v3, v19, v61, v71, v76, z_b_0, b1, not_true, if_false, e9, eq_true q9, if_true, g0_3, vM isM_11, s24 isM_11 hS hg4, em, eq_true q]
    · simp only [en68, e68_0, e68_1, e68_2, e68_5, e68_8, e68_9, e68_11, e68_14, e68_15, e68_16, e68_19, e68_22, e68_23, e68_24, e68_25, e68_28, e68_29, e68_32, e68_33, e68_34, e68_35, e68_38, e68_40, e68_41, e68_42, e68_45, e68_46, e68_49, e68_52, e68_53, e68_56, e68_57, e68_58, e68_61, e68_62, e68_65, s88 hL, z_bd_i, z_bd_l, z_bd_v, List.cons_append, List.nil_append, z_nk_i, z_nk_r, z_nk_n, v0, v1, v3, v19, v61, v71, v76, z_b_0, b1, not_true, if_false, e9, q9, s87 hL, b2 q9, g0_3, vM isM_11, s24 isM_11 hS hg4, em, eq_true q, if_true]
  · rw [if_neg q]
    refine ⟨_, ?_, f1, f2⟩
    by_cases q9 : m = 9
    · simp only [en68, e68_0, e68_1, e68_2, e68_5, e68_8, e68_9, e68_11, e68_14, e68_15, e68_16, e68_19, e68_22, e68_23, e68_24, e68_25, e68_28, e68_29, e68_32, e68_33, e68_34, e68_35, e68_38, e68_40, e68_41, e68_42, e68_45, e68_46, e68_49, e68_52, e68_53, e68_56, e68_57, e68_58, e68_61, e68_62, e68_65, s88 hL, z_bd_i, z_bd_l, z_bd_v, List.cons_append, List.nil_append, z_nk_i, z_nk_r, z_nk_n, v0, v1, v3, v19, v61, v71, v76, z_b_0, b1, not_true, if_false, e9, eq_true q9, if_true, g0_3, vM isM_11, s24 isM_11 hS hg4, em, eq_false q, g0_5, h1, s26 isM_11 hS2 hg4, s90 hmi]
    · simp only [en68, e68_0, e68_1, e68_2, e68_5, e68_8, e68_9, e68_11, e68_14, e68_15, e68_16, e68_19, e68_22, e68_23, e68_24, e68_25, e68_28, e68_29, e68_32, e68_33, e68_34, e68_35, e68_38, e68_40, e68_41, e68_42, e68_45, e68_46, e68_49, e68_52, e68_53, e68_56, e68_57, e68_58, e68_61, e68_62, e68_65, s88 hL, z_bd_i, z_bd_l, z_bd_v, List.cons_append, List.nil_append, z_nk_i, z_nk_r, z_nk_n, v0, v1, v3, v19, v61, v71, v76, z_b_0, b1, not_true, if_false, e9, q9, s87 hL, b2 q9, g0_3, vM isM_11, s24 isM_11 hS hg4, em, eq_false q, g0_5, h1, s26 isM_11 hS2 hg4, s90 hmi]
theorem s68b (hL : L_at σ 10 L) {g m : Int32} (hb : ¬ ((¬ g < 0 ∧ g < nI L.2.2.2.2.2) ∧ (m = 9 ∨ (¬ m < 0 ∧ m < nI L.2.2.2.2.1)))) : z_call 68 [.ref 0, .int g, .int m] (z_enc σ) = some (some (.int (-1)), z_enc σ) := by
  by_cases h1 : ¬ g < 0 ∧ g < nI L.2.2.2.2.2
  · have h2 : ¬ m = 9 := fun q => hb ⟨h1, Or.inl q⟩
    have h3 : ¬ (¬ m < 0 ∧ m < nI L.2.2.2.2.1) := fun q => hb ⟨h1, Or.inr q⟩
    simp only [en68, e68_0, e68_1, e68_2, e68_5, e68_8, e68_9, e68_11, e68_14, e68_15, e68_16, e68_19, e68_22, e68_23, e68_24, e68_25, e68_28, e68_29, e68_32, e68_33, e68_34, e68_35, e68_38, e68_40, e68_41, e68_42, e68_45, e68_46, e68_49, e68_52, e68_53, e68_56, e68_57, e68_58, e68_61, e68_62, e68_65, s88 hL, s87 hL, z_bd_i, z_bd_l, z_bd_v, List.cons_append, List.nil_append, z_nk_i, z_nk_r, z_nk_n, v0, v1, v3, v19, v61, v71, v76, z_b_0, eq_true h1, not_true, if_false, eq_false h2, eq_false h3, not_false_iff, if_true]
  · simp only [en68, e68_0, e68_1, e68_2, e68_5, e68_8, e68_9, e68_11, e68_14, e68_15, e68_16, e68_19, e68_22, e68_23, e68_24, e68_25, e68_28, e68_29, e68_32, e68_33, e68_34, e68_35, e68_38, e68_40, e68_41, e68_42, e68_45, e68_46, e68_49, e68_52, e68_53, e68_56, e68_57, e68_58, e68_61, e68_62, e68_65, s88 hL, z_bd_i, z_bd_l, z_bd_v, List.cons_append, List.nil_append, z_nk_i, z_nk_r, z_nk_n, v0, v1, v3, v19, v61, v71, v76, z_b_0, eq_false h1, not_false_iff, if_true]
theorem xor_ok : ∀ d, d < 16 → ∀ g, g < 4 → nI d ^^^ nI (2 ^ g) = nI (d ^^^ 2 ^ g) ∧ d ^^^ 2 ^ g < 16 := by decide +kernel
theorem zb_eq (p : Prop) [Decidable p] {x : Nat} (hx : x < 2) : (z_b p = nI x) = ((if p then 1 else 0) = x) := by
  have : x = 0 ∨ x = 1 := by omega
  apply propext
  unfold z_b
  rcases this with rfl | rfl <;> by_cases h : p <;> simp only [h, if_true, if_false] <;> decide
theorem s69 (h : CF σ L S hc hist) (ok : L_ok L) (sk : S_ok S) {g x : Nat} (hg : g < L.2.2.2.2.2) (hx : x < 2) :
    if (if S.2.2.2.1.testBit g = true then 1 else 0) = x then z_call 69 [.ref 0, .int (nI g), .int (nI x)] (z_enc σ) = some (some (.int (-2)), z_enc σ)
    else ∃ τ, z_call 69 [.ref 0, .int (nI g), .int (nI x)] (z_enc σ) = some (some (.int (nI (ones4 (S.2.2.2.1 ^^^ 2 ^ g)))), z_enc τ) ∧ CF τ L (mirS S (S.2.2.2.1 ^^^ 2 ^ g)) (pushN hc) (pushH S hist) ∧ z_sm P_do σ τ := by
  obtain ⟨hL, hS, nx, hH⟩ := h
  have hg4 : g < 4 := by have := ok.2.2.2.2; omega
  have b1 : (¬ nI g < 0 ∧ nI g < nI L.2.2.2.2.2) = True := eq_true (inN_nI hg (by have := ok.2.2.2.2; omega))
  have b2 : (nI x < 0) = False := eq_false (nI_pos (by omega))
  have b3 : ((1 : Int32) < nI x) = False := eq_false (nI_nlt (a := 1) (b := x) (by omega) (by decide))
  obtain ⟨x1, x2⟩ := xor_ok _ sk.2.2.2.1 g hg4
  obtain ⟨τ, nx2, h1, h2, h3⟩ := s3 hH hS
  have hS2 : M_at τ 11 S := M_at_sm hS h3 (by omega)
  obtain ⟨f1, f2⟩ := do_fin (S2 := mirS S (S.2.2.2.1 ^^^ 2 ^ g)) hL hS h2 h3
  have e4 := (M_at_set τ 11 (mirS S (S.2.2.2.1 ^^^ 2 ^ g))).2.2.2.1
  have e5 : (mirS S (S.2.2.2.1 ^^^ 2 ^ g)).2.2.2.1 = S.2.2.2.1 ^^^ 2 ^ g := rfl
  rw [e5] at e4
  by_cases q : (if S.2.2.2.1.testBit g = true then 1 else 0) = x
  · rw [if_pos q]
    simp only [en69, e69_0, e69_1, e69_2, e69_5, e69_8, e69_9, e69_12, e69_13, e69_14, e69_17, e69_18, e69_19, e69_20, e69_23, e69_26, e69_27, e69_30, e69_31, e69_34, e69_36, e69_37, e69_38, e69_41, e69_42, e69_45, e69_48, e69_49, e69_52, e69_53, e69_56, e69_57, e69_58, e69_59, e69_60, e69_63, e69_64, e69_67, e69_70, e69_73, s88 hL, z_bd_i, z_bd_l, z_bd_v, List.cons_append, List.nil_append, z_nk_i, z_nk_r, z_nk_n, v0, v1, v3, v19, v61, v71, v76, z_b_0, b1, not_true, if_false, b2, b3, g0_3, gM_4 isM_11, hS.2.2.2.1, s91, bit4 _ sk.2.2.2.1 g hg4, zb_eq _ hx, eq_true q, if_true]
  · rw [if_neg q]
    refine ⟨_, ?_, f1, f2⟩
    simp only [en69, e69_0, e69_1, e69_2, e69_5, e69_8, e69_9, e69_12, e69_13, e69_14, e69_17, e69_18, e69_19, e69_20, e69_23, e69_26, e69_27, e69_30, e69_31, e69_34, e69_36, e69_37, e69_38, e69_41, e69_42, e69_45, e69_48, e69_49, e69_52, e69_53, e69_56, e69_57, e69_58, e69_59, e69_60, e69_63, e69_64, e69_67, e69_70, e69_73, s88 hL, z_bd_i, z_bd_l, z_bd_v, List.cons_append, List.nil_append, z_nk_i, z_nk_r, z_nk_n, v0, v1, v3, v19, v61, v71, v76, z_b_0, b1, not_true, if_false, b2, b3, g0_3, gM_4 isM_11, hS.2.2.2.1, s91, bit4 _ sk.2.2.2.1 g hg4, zb_eq _ hx, eq_false q, g0_5, h1, hS2.2.2.2.1, sh1 g (by omega), x1, pM_4 isM_11, u_mir hS2, e4, ones_ok _ x2]
theorem s69b (hL : L_at σ 10 L) {g x : Int32} (hb : ¬ ((¬ g < 0 ∧ g < nI L.2.2.2.2.2) ∧ ¬ x < 0 ∧ ¬ 1 < x)) : z_call 69 [.ref 0, .int g, .int x] (z_enc σ) = some (some (.int (-1)), z_enc σ) := by
  by_cases h1 : ¬ g < 0 ∧ g < nI L.2.2.2.2.2
  · by_cases h2 : x < 0
    · simp only [en69, e69_0, e69_1, e69_2, e69_5, e69_8, e69_9, e69_12, e69_13, e69_14, e69_17, e69_18, e69_19, e69_20, e69_23, e69_26, e69_27, e69_30, e69_31, e69_34, e69_36, e69_37, e69_38, e69_41, e69_42, e69_45, e69_48, e69_49, e69_52, e69_53, e69_56, e69_57, e69_58, e69_59, e69_60, e69_63, e69_64, e69_67, e69_70, e69_73, s88 hL, z_bd_i, z_bd_l, z_bd_v, List.cons_append, List.nil_append, z_nk_i, z_nk_r, z_nk_n, v0, v1, v3, v19, v61, v71, v76, z_b_0, eq_true h1, not_true, if_false, eq_true h2, if_true]
    · have h3 : 1 < x := by
        apply Classical.byContradiction
        intro q
        exact hb ⟨h1, h2, q⟩
      simp only [en69, e69_0, e69_1, e69_2, e69_5, e69_8, e69_9, e69_12, e69_13, e69_14, e69_17, e69_18, e69_19, e69_20, e69_23, e69_26, e69_27, e69_30, e69_31, e69_34, e69_36, e69_37, e69_38, e69_41, e69_42, e69_45, e69_48, e69_49, e69_52, e69_53, e69_56, e69_57, e69_58, e69_59, e69_60, e69_63, e69_64, e69_67, e69_70, e69_73, s88 hL, z_bd_i, z_bd_l, z_bd_v, List.cons_append, List.nil_append, z_nk_i, z_nk_r, z_nk_n, v0, v1, v3, v19, v61, v71, v76, z_b_0, eq_true h1, not_true, if_false, eq_false h2, eq_true h3, if_true]
  · simp only [en69, e69_0, e69_1, e69_2, e69_5, e69_8, e69_9, e69_12, e69_13, e69_14, e69_17, e69_18, e69_19, e69_20, e69_23, e69_26, e69_27, e69_30, e69_31, e69_34, e69_36, e69_37, e69_38, e69_41, e69_42, e69_45, e69_48, e69_49, e69_52, e69_53, e69_56, e69_57, e69_58, e69_59, e69_60, e69_63, e69_64, e69_67, e69_70, e69_73, s88 hL, z_bd_i, z_bd_l, z_bd_v, List.cons_append, List.nil_append, z_nk_i, z_nk_r, z_nk_n, v0, v1, v3, v19, v61, v71, v76, z_b_0, eq_false h1, not_false_iff, if_true]
def leadR (L : t_L) (S : t_S) (g s : Nat) : Option Nat := if S.2.2.1 g = 9 ∧ S.2.2.2.2.1.testBit g = false ∧ mayO L S (besF L (S.2.1 g) s) true = true then besF L (S.2.1 g) s else none
theorem s70 (h : CF σ L S hc hist) (ok : L_ok L) (sk : S_ok S) {g s : Nat} (hg : g < L.2.2.2.2.2) (hs : s < 4) :
    match leadR L S g s with
    | none => z_call 70 [.ref 0, .int (nI g), .int (nI s)] (z_enc σ) = some (some (.int (-2)), z_enc σ)
    | some d => ∃ τ, z_call 70 [.ref 0, .int (nI g), .int (nI s)] (z_enc σ) = some (some (.int (nI (tn d))), z_enc τ) ∧ CF τ L (entF L S g d) (pushN hc) (pushH S hist) ∧ z_sm P_do σ τ := by
  obtain ⟨hL, hS, nx, hH⟩ := h
  have hg4 : g < 4 := by have := ok.2.2.2.2; omega
  have hmi : S.2.2.1 g < 10 := by have := sk.2.2.1 g hg4; omega
  have b1 : (¬ nI g < 0 ∧ nI g < nI L.2.2.2.2.2) = True := eq_true (inN_nI hg (by have := ok.2.2.2.2; omega))
  have b2 : (¬ nI s < 0 ∧ nI s < 4) = True := eq_true (inN_nI hs (by decide))
  have hL1 : L_at σ (z_rf 11 0) L := by rw [rf_11]; exact hL
  have hr := sk.2.1 g hg4
  have ho : ∀ c, besF L (S.2.1 g) s = some c → c < 64 := fun c e => (bes_lt hr ok e).1
  have e9 : (nI (S.2.2.1 g) = 9) = (S.2.2.1 g = 9) := propext (nI_eq (by omega) (by decide))
  have o1 : ((1 : Int32) = 0) = False := by decide
  unfold leadR
  by_cases g1 : S.2.2.1 g = 9
  · by_cases g2 : S.2.2.2.2.1.testBit g = true
    · simp only [g2, Bool.true_eq_false, false_and, and_false, if_false]
      simp only [en70, e70_0, e70_1, e70_2, e70_5, e70_8, e70_9, e70_12, e70_15, e70_16, e70_17, e70_18, e70_21, e70_22, e70_25, e70_26, e70_29, e70_30, e70_33, e70_34, e70_35, e70_38, e70_39, e70_42, e70_44, e70_47, e70_48, e70_51, e70_54, e70_55, e70_58, e70_61, e70_62, e70_65, e70_66, e70_68, e70_70, e70_73, e70_74, e70_77, e70_78, e70_79, e70_82, e70_85, e70_87, e70_88, e70_89, e70_92, e70_93, e70_96, e70_99, e70_100, e70_103, e70_104, e70_105, e70_108, e70_109, s88 hL, z_bd_i, z_bd_l, z_bd_v, List.cons_append, List.nil_append, z_nk_i, z_nk_r, z_nk_n, v0, v1, v3, v19, v61, v71, v76, z_b_0, b1, not_true, if_false, s89, b2, g0_2, g0_3, vM isM_11, vL isL_10, s23 isM_11 hS hg4, s24 isM_11 hS hg4, s18 isL_10 hL ok hr hs, e9, eq_true g1, if_true, gM_5 isM_11, hS.2.2.2.2.1, s91, bit4 _ sk.2.2.2.2.1 g hg4, g2]
    · have g2f : S.2.2.2.2.1.testBit g = false := by simpa using g2
      by_cases g3 : mayO L S (besF L (S.2.1 g) s) true = true
      · cases hb : besF L (S.2.1 g) s with
        | none => rw [hb] at g3; cases g3
        | some d =>
          have hd := ho d hb
          rw [hb] at g3
          simp only [g1, g2f, g3, and_self, if_true]
          obtain ⟨τ, nx2, h1, h2, h3⟩ := s3 hH hS
          have hS2 : M_at τ 11 S := M_at_sm hS h3 (by omega)
          have hL2 : L_at τ (z_rf 11 0) L := by rw [rf_11]; exact L_at_sm hL h3 (by omega)
          obtain ⟨f1, f2⟩ := do_fin (S2 := entF L S g d) hL hS h2 h3
          have m32 := s32t isM_11 hL1 hS ok sk (o := some d) (fun c e => by cases e; exact hd)
          simp only [z_o] at m32
          refine ⟨_, ?_, f1, f2⟩
          simp only [en70, e70_0, e70_1, e70_2, e70_5, e70_8, e70_9, e70_12, e70_15, e70_16, e70_17, e70_18, e70_21, e70_22, e70_25, e70_26, e70_29, e70_30, e70_33, e70_34, e70_35, e70_38, e70_39, e70_42, e70_44, e70_47, e70_48, e70_51, e70_54, e70_55, e70_58, e70_61, e70_62, e70_65, e70_66, e70_68, e70_70, e70_73, e70_74, e70_77, e70_78, e70_79, e70_82, e70_85, e70_87, e70_88, e70_89, e70_92, e70_93, e70_96, e70_99, e70_100, e70_103, e70_104, e70_105, e70_108, e70_109, s88 hL, z_bd_i, z_bd_l, z_bd_v, List.cons_append, List.nil_append, z_nk_i, z_nk_r, z_nk_n, v0, v1, v3, v19, v61, v71, v76, z_b_0, b1, not_true, if_false, s89, b2, g0_2, g0_3, vM isM_11, vL isL_10, s23 isM_11 hS hg4, s24 isM_11 hS hg4, s18 isL_10 hL ok hr hs, hb, z_o, e9, eq_true g1, if_true, gM_5 isM_11, hS.2.2.2.2.1, s91, bit4 _ sk.2.2.2.2.1 g hg4, g2f, Bool.false_eq_true, not_false_iff, o1, m32, g3, g0_5, h1, s34 isM_11 hL2 (by rw [rf_11]; decide) hS2 ok sk hg4 hd]
      · have g3f : mayO L S (besF L (S.2.1 g) s) true = false := by simpa using g3
        simp only [g3f, Bool.false_eq_true, and_false, if_false]
        simp only [en70, e70_0, e70_1, e70_2, e70_5, e70_8, e70_9, e70_12, e70_15, e70_16, e70_17, e70_18, e70_21, e70_22, e70_25, e70_26, e70_29, e70_30, e70_33, e70_34, e70_35, e70_38, e70_39, e70_42, e70_44, e70_47, e70_48, e70_51, e70_54, e70_55, e70_58, e70_61, e70_62, e70_65, e70_66, e70_68, e70_70, e70_73, e70_74, e70_77, e70_78, e70_79, e70_82, e70_85, e70_87, e70_88, e70_89, e70_92, e70_93, e70_96, e70_99, e70_100, e70_103, e70_104, e70_105, e70_108, e70_109, s88 hL, z_bd_i, z_bd_l, z_bd_v, List.cons_append, List.nil_append, z_nk_i, z_nk_r, z_nk_n, v0, v1, v3, v19, v61, v71, v76, z_b_0, b1, not_true, if_false, s89, b2, g0_2, g0_3, vM isM_11, vL isL_10, s23 isM_11 hS hg4, s24 isM_11 hS hg4, s18 isL_10 hL ok hr hs, e9, eq_true g1, if_true, gM_5 isM_11, hS.2.2.2.2.1, s91, bit4 _ sk.2.2.2.2.1 g hg4, g2f, Bool.false_eq_true, not_false_iff, o1, s32t isM_11 hL1 hS ok sk ho, g3f]
  · simp only [g1, false_and, if_false]
    simp only [en70, e70_0, e70_1, e70_2, e70_5, e70_8, e70_9, e70_12, e70_15, e70_16, e70_17, e70_18, e70_21, e70_22, e70_25, e70_26, e70_29, e70_30, e70_33, e70_34, e70_35, e70_38, e70_39, e70_42, e70_44, e70_47, e70_48, e70_51, e70_54, e70_55, e70_58, e70_61, e70_62, e70_65, e70_66, e70_68, e70_70, e70_73, e70_74, e70_77, e70_78, e70_79, e70_82, e70_85, e70_87, e70_88, e70_89, e70_92, e70_93, e70_96, e70_99, e70_100, e70_103, e70_104, e70_105, e70_108, e70_109, s88 hL, z_bd_i, z_bd_l, z_bd_v, List.cons_append, List.nil_append, z_nk_i, z_nk_r, z_nk_n, v0, v1, v3, v19, v61, v71, v76, z_b_0, b1, not_true, if_false, s89, b2, g0_2, g0_3, vM isM_11, vL isL_10, s23 isM_11 hS hg4, s24 isM_11 hS hg4, s18 isL_10 hL ok hr hs, e9, eq_false g1, if_true]
theorem s70b (hL : L_at σ 10 L) {m s : Int32} (hb : ¬ ((¬ m < 0 ∧ m < nI L.2.2.2.2.2) ∧ (¬ s < 0 ∧ s < 4))) : z_call 70 [.ref 0, .int m, .int s] (z_enc σ) = some (some (.int (-1)), z_enc σ) := by
  by_cases h1 : ¬ m < 0 ∧ m < nI L.2.2.2.2.2
  · have h2 : ¬ (¬ s < 0 ∧ s < 4) := fun q => hb ⟨h1, q⟩
    simp only [en70, e70_0, e70_1, e70_2, e70_5, e70_8, e70_9, e70_12, e70_15, e70_16, e70_17, e70_18, e70_21, e70_22, e70_25, e70_26, e70_29, e70_30, e70_33, e70_34, e70_35, e70_38, e70_39, e70_42, e70_44, e70_47, e70_48, e70_51, e70_54, e70_55, e70_58, e70_61, e70_62, e70_65, e70_66, e70_68, e70_70, e70_73, e70_74, e70_77, e70_78, e70_79, e70_82, e70_85, e70_87, e70_88, e70_89, e70_92, e70_93, e70_96, e70_99, e70_100, e70_103, e70_104, e70_105, e70_108, e70_109, s88 hL, z_bd_i, z_bd_l, z_bd_v, List.cons_append, List.nil_append, z_nk_i, z_nk_r, z_nk_n, v0, v1, v3, v19, v61, v71, v76, z_b_0, eq_true h1, not_true, if_false, s89, eq_false h2, not_false_iff, if_true]
  · simp only [en70, e70_0, e70_1, e70_2, e70_5, e70_8, e70_9, e70_12, e70_15, e70_16, e70_17, e70_18, e70_21, e70_22, e70_25, e70_26, e70_29, e70_30, e70_33, e70_34, e70_35, e70_38, e70_39, e70_42, e70_44, e70_47, e70_48, e70_51, e70_54, e70_55, e70_58, e70_61, e70_62, e70_65, e70_66, e70_68, e70_70, e70_73, e70_74, e70_77, e70_78, e70_79, e70_82, e70_85, e70_87, e70_88, e70_89, e70_92, e70_93, e70_96, e70_99, e70_100, e70_103, e70_104, e70_105, e70_108, e70_109, s88 hL, z_bd_i, z_bd_l, z_bd_v, List.cons_append, List.nil_append, z_nk_i, z_nk_r, z_nk_n, v0, v1, v3, v19, v61, v71, v76, z_b_0, eq_false h1, not_false_iff, if_true]
theorem s71 (h : CF σ L S hc hist) : if hc = 0 then z_call 71 [.ref 0] (z_enc σ) = some (some (.int (-2)), z_enc σ) else ∃ τ, z_call 71 [.ref 0] (z_enc σ) = some (some (.int (nI (hc - 1))), z_enc τ) ∧ CF τ L (hist 0) (hc - 1) (fun j => hist (j + 1)) ∧ z_sm P_do σ τ := by
  obtain ⟨hL, hS, nx, hH⟩ := h
  obtain ⟨τ, nx2, h1, h2, h3, h4, h5⟩ := s4 hH
  by_cases q : hc = 0
  · rw [if_pos q]
    have e := h5 q
    subst e
    simp only [en71, e71_0, e71_1, e71_4, e71_5, e71_8, e71_11, e71_14, e71_15, e71_18, e71_21, e71_24, e71_26, g0_5, g0_3, z_bd_i, z_bd_l, z_bd_v, List.cons_append, List.nil_append, z_nk_i, z_nk_r, z_nk_n, v0, v1, v3, v19, v61, v71, v76, h1, z_b_0, q, not_true, not_false_iff, if_true]
  · rw [if_neg q]
    refine ⟨τ, ?_, ⟨L_at_sm hL h4 (by omega), h3 (by omega), nx2, h2⟩, h4.mono (fun p hp => by unfold P_do at hp; omega)⟩
    simp only [en71, e71_0, e71_1, e71_4, e71_5, e71_8, e71_11, e71_14, e71_15, e71_18, e71_21, e71_24, e71_26, g0_5, g0_3, z_bd_i, z_bd_l, z_bd_v, List.cons_append, List.nil_append, z_nk_i, z_nk_r, z_nk_n, v0, v1, v3, v19, v61, v71, v76, h1, z_b_0, eq_false q, not_true, not_false_iff, if_false, g19_2, h2.2.2.2.1]
end DONE
