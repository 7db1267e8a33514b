/-! BackMarch: watches, kinds, images, counts -/
section REST
variable {σ : z_G} {n : Nat} {L : t_L} {S : t_S} {hc : Nat} {hist : Nat → t_S} {kp : Nat} {img : Nat → t_S} {wn : Nat} {w : Nat → Nat × Nat × Nat}
theorem s27 {a : Nat} (hM : z_isM a) (h : M_at σ a S) (sk : S_ok S) : z_call 27 [.ref a] (z_enc σ) = some (some (.int (nI (popN 64 S.2.2.2.2.2))), z_enc σ) := by
  simp only [en27, e27_0, e27_1, e27_4, e27_7, gM_6 hM, h.2.2.2.2.2, s183 sk.2.2.2.2.2, z_bd_i, z_bd_l, z_bd_v, List.cons_append, List.nil_append, z_nk_i, z_nk_r, z_nk_n, v0, v1, v3, v19, v61, v71, v76]
def nowR (S : t_S) (hc : Nat) (x : Int32) : Int32 := if x = 0 then nI (popN 64 S.2.2.2.2.2) else if x = 1 then nI S.2.2.2.1 else if x = 2 then nI S.2.2.2.2.1 else if x = 3 then nI hc else -1
theorem s65 (hS : M_at σ 11 S) (hH : σ.1 19 2 = nI hc) (sk : S_ok S) (x : Int32) : z_call 65 [.ref 0, .int x] (z_enc σ) = some (some (.int (nowR S hc x)), z_enc σ) := by
  unfold nowR
  simp only [en65, e65_0, e65_1, e65_32, e65_33, e65_36, e65_39, e65_40, e65_41, e65_44, e65_47, e65_48, e65_49, e65_52, e65_55, e65_56, e65_57, e65_60, e65_63, e65_64, e65_65, g0_3, g0_5, g19_2, hH, gM_4 isM_11, gM_5 isM_11, hS.2.2.2.1, hS.2.2.2.2.1, vM isM_11, s27 isM_11 hS sk, z_bd_i, z_bd_l, z_bd_v, List.cons_append, List.nil_append, z_nk_i, z_nk_r, z_nk_n, v0, v1, v3, v19, v61, v71, v76]
  by_cases h0 : x = 0
  · simp [h0]
  · by_cases h1 : x = 1
    · simp [h1]
    · by_cases h2 : x = 2
      · simp [h2]
      · by_cases h3 : x = 3
        · simp [h3]
        · simp [h0, h1, h2, h3]
def countR (L : t_L) (wn n : Nat) (x : Int32) : Int32 := if x = 0 then nI L.1 else if x = 1 then nI L.2.1 else if x = 2 then nI L.2.2.2.2.1 else if x = 3 then nI L.2.2.2.2.2 else if x = 4 then nI wn else if x = 5 then nI n else -1
theorem s85 (hL : L_at σ 10 L) (hw : W_at σ wn w) (hn : σ.1 1 1 = nI n) (x : Int32) : z_call 85 [.ref 0, .int x] (z_enc σ) = some (some (.int (countR L wn n x)), z_enc σ) := by
  unfold countR
  simp only [en85, e85_0, e85_1, e85_40, e85_41, e85_44, e85_47, e85_48, e85_49, e85_52, e85_55, e85_56, e85_57, e85_60, e85_63, e85_64, e85_65, e85_68, e85_71, e85_72, e85_73, e85_76, e85_79, e85_80, e85_81, e85_84, e85_87, e85_88, e85_89, g0_2, g0_7, g0_0, gL_0 isL_10, gL_1 isL_10, gL_4 isL_10, gL_5 isL_10, hL.1, hL.2.1, hL.2.2.2.2.1, hL.2.2.2.2.2, g71_3, hw.2.1, g1_1, hn]
  by_cases h0 : x = 0
  · simp [h0]
  · by_cases h1 : x = 1
    · simp [h1]
    · by_cases h2 : x = 2
      · simp [h2]
      · by_cases h3 : x = 3
        · simp [h3]
        · by_cases h4 : x = 4
          · simp [h4]
          · by_cases h5 : x = 5
            · simp [h5]
            · simp [h0, h1, h2, h3, h4, h5]
theorem s86 : z_call 86 [.ref 0] (z_enc σ) = some (some (.long (σ.2 0 9)), z_enc σ) := by
  simp only [en86, e86_0, e86_1, e86_4, g0_9]
theorem s79 (hw : W_at σ wn w) : z_call 79 [.ref 0] (z_enc σ) = some (some (.int (nI wn)), z_enc (z_ui σ 71 3 0)) := by
  simp only [en79, e79_0, e79_1, e79_4, e79_7, e79_8, e79_9, e79_12, e79_15, e79_16, g0_7, g71_3, hw.2.1, s55, z_bd_i, z_bd_l, z_bd_v, List.cons_append, List.nil_append, z_nk_i, z_nk_r, z_nk_n, v0, v1, v3, v19, v61, v71, v76]
theorem s78 (hL : L_at σ 10 L) (hw : W_at σ wn w) (ok : L_ok L) {g c n : Nat} (hg : g < L.2.2.2.2.2) (hn : n ≤ 20) (hc : c < 64) (hi : insF L c = true) : ∃ τ, z_call 78 [.ref 0, .int (nI g), .int (nI n), .int (nI (tn c))] (z_enc σ) = some (some (.int (if wn < 6 then nI (wn + 1) else -3)), z_enc τ) ∧ W_at τ (if wn < 6 then wn + 1 else wn) (fun k => if k = wn then (g, n, c) else w k) ∧ z_sm (fun p => p < 71 ∨ 75 ≤ p) σ τ := by
  have hg4 : g < 4 := by have := ok.2.2.2.2; omega
  have b1 : (¬ nI g < 0 ∧ nI g < nI L.2.2.2.2.2) = True := eq_true (inN_nI hg (by have := ok.2.2.2.2; omega))
  have b2 : (nI n < 0) = False := eq_false (nI_pos (by omega))
  have b3 : ((20 : Int32) < nI n) = False := eq_false (nI_nlt (a := 20) (b := n) (by omega) (by decide))
  obtain ⟨τ, h1, h2, h3⟩ := s56 hw hg4 hn hc
  refine ⟨τ, ?_, h2, h3⟩
  simp only [en78, e78_0, e78_1, e78_2, e78_5, e78_8, e78_9, e78_12, e78_13, e78_15, e78_18, e78_19, e78_22, e78_23, e78_26, e78_29, e78_30, e78_31, e78_32, e78_35, e78_36, e78_37, e78_38, e78_41, e78_44, e78_45, e78_48, e78_51, e78_54, e78_56, s88 hL, z_bd_i, z_bd_l, z_bd_v, List.cons_append, List.nil_append, z_nk_i, z_nk_r, z_nk_n, v0, v1, v3, v19, v61, v71, v76, z_b_0, b1, not_true, if_false, b2, b3, g0_2, vL isL_10, s12 isL_10 hL, hasV_c hc ok, hi, g0_7, h1]
  by_cases q : wn < 6
  · have h4 := h2.2.1
    rw [if_pos q] at h4
    simp only [eq_true q, not_true, if_false, if_true, g71_3, h4, e78_0, e78_1, e78_2, e78_5, e78_8, e78_9, e78_12, e78_13, e78_15, e78_18, e78_19, e78_22, e78_23, e78_26, e78_29, e78_30, e78_31, e78_32, e78_35, e78_36, e78_37, e78_38, e78_41, e78_44, e78_45, e78_48, e78_51, e78_54, e78_56, g0_7]
  · simp only [eq_false q, not_false_iff, if_true, if_false]
theorem s78b (hL : L_at σ 10 L) {g x n : Int32} (hb : ¬ ((¬ g < 0 ∧ g < nI L.2.2.2.2.2) ∧ ¬ n < 0 ∧ ¬ 20 < n ∧ ¬ hasV L x = 0)) : z_call 78 [.ref 0, .int g, .int n, .int x] (z_enc σ) = some (some (.int (-1)), z_enc σ) := by
  by_cases h1 : ¬ g < 0 ∧ g < nI L.2.2.2.2.2
  · by_cases h3 : n < 0
    · simp only [en78, e78_0, e78_1, e78_2, e78_5, e78_8, e78_9, e78_12, e78_13, e78_15, e78_18, e78_19, e78_22, e78_23, e78_26, e78_29, e78_30, e78_31, e78_32, e78_35, e78_36, e78_37, e78_38, e78_41, e78_44, e78_45, e78_48, e78_51, e78_54, e78_56, s88 hL, z_bd_i, z_bd_l, z_bd_v, List.cons_append, List.nil_append, z_nk_i, z_nk_r, z_nk_n, v0, v1, v3, v19, v61, v71, v76, z_b_0, eq_true h1, not_true, if_false, eq_true h3, if_true]
    · by_cases h4 : 20 < n
      · simp only [en78, e78_0, e78_1, e78_2, e78_5, e78_8, e78_9, e78_12, e78_13, e78_15, e78_18, e78_19, e78_22, e78_23, e78_26, e78_29, e78_30, e78_31, e78_32, e78_35, e78_36, e78_37, e78_38, e78_41, e78_44, e78_45, e78_48, e78_51, e78_54, e78_56, s88 hL, z_bd_i, z_bd_l, z_bd_v, List.cons_append, List.nil_append, z_nk_i, z_nk_r, z_nk_n, v0, v1, v3, v19, v61, v71, v76, z_b_0, eq_true h1, not_true, if_false, eq_false h3, eq_true h4, if_true]
      · have h2 : hasV L x = 0 := Classical.byContradiction fun q => hb ⟨h1, h3, h4, q⟩
        simp only [en78, e78_0, e78_1, e78_2, e78_5, e78_8, e78_9, e78_12, e78_13, e78_15, e78_18, e78_19, e78_22, e78_23, e78_26, e78_29, e78_30, e78_31, e78_32, e78_35, e78_36, e78_37, e78_38, e78_41, e78_44, e78_45, e78_48, e78_51, e78_54, e78_56, s88 hL, z_bd_i, z_bd_l, z_bd_v, List.cons_append, List.nil_append, z_nk_i, z_nk_r, z_nk_n, v0, v1, v3, v19, v61, v71, v76, z_b_0, eq_true h1, not_true, if_false, eq_false h3, eq_false h4, g0_2, vL isL_10, s12 isL_10 hL, h2, if_true]
  · simp only [en78, e78_0, e78_1, e78_2, e78_5, e78_8, e78_9, e78_12, e78_13, e78_15, e78_18, e78_19, e78_22, e78_23, e78_26, e78_29, e78_30, e78_31, e78_32, e78_35, e78_36, e78_37, e78_38, e78_41, e78_44, e78_45, e78_48, e78_51, e78_54, e78_56, s88 hL, z_bd_i, z_bd_l, z_bd_v, List.cons_append, List.nil_append, z_nk_i, z_nk_r, z_nk_n, v0, v1, v3, v19, v61, v71, v76, z_b_0, eq_false h1, not_false_iff, if_true]
-- kinds
def xyF (c : Nat) : Nat := c / 8 + c % 8
theorem s108 (hS : M_at σ 11 S) (sk : S_ok S) {g : Nat} (hg : g < 4) : z_call 108 [.ref 0, .int (nI g)] (z_enc σ) = some (some (.int (nI (xyF (S.2.1 g)))), z_enc (z_ul σ 0 9 (σ.2 0 9 + 1))) := by
  have hr := sk.2.1 g hg
  have e1 : nI (tn (S.2.1 g)) / 10 = nI (S.2.1 g / 8) := t_div hr
  have e2 : nI (tn (S.2.1 g)) - nI (S.2.1 g / 8) * 10 = nI (S.2.1 g % 8) := t_mod hr
  have hS2 : ∀ x, M_at (z_ul σ 0 9 x) 11 S := fun x => M_at_sm (P := fun p => p ≠ 0) hS (sm_ul (fun p h => h)) (by decide)
  simp only [en108, e108_0, e108_1, e108_2, e108_5, e108_6, e108_7, e108_10, e108_11, e108_14, e108_15, e108_18, e108_19, e108_20, e108_23, e108_24, e108_27, e108_28, g0_9, p0_9, g0_3, vM isM_11, s23 isM_11 (hS2 _) hg, z_bd_i, z_bd_l, z_bd_v, List.cons_append, List.nil_append, z_nk_i, z_nk_r, z_nk_n, v0, v1, v3, v19, v61, v71, v76, s93, s94, e1, e2, nI_add, xyF]
theorem M_ul (hS : M_at σ 11 S) (x : Int64) : M_at (z_ul σ 0 9 x) 11 S := M_at_sm (P := fun p => p ≠ 0) hS (sm_ul (fun p h => h)) (by decide)
theorem ul_ul (x y : Int64) : z_ul (z_ul σ 0 9 x) 0 9 y = z_ul σ 0 9 y := by
  refine Prod.ext rfl (funext fun p => funext fun k => ?_)
  simp only [z_ul]
  split <;> rfl
theorem ul_9 (x : Int64) : (z_ul σ 0 9 x).2 0 9 = x := by simp [z_ul]
theorem s109 (hS : M_at σ 11 S) (sk : S_ok S) {g : Nat} (hg : g < 4) : z_call 109 [.ref 0, .int (nI g)] (z_enc σ) = some (some (.int (nI (xyF (S.2.1 g) + distF S g))), z_enc (z_ul σ 0 9 (σ.2 0 9 + 10 + 1))) := by
  simp only [en109, e109_0, e109_1, e109_2, e109_5, e109_8, e109_9, e109_12, e109_13, e109_14, e109_17, e109_18, e109_21, e109_22, e109_25, e109_26, g0_9, p0_9, z_bd_i, z_bd_l, z_bd_v, List.cons_append, List.nil_append, z_nk_i, z_nk_r, z_nk_n, v0, v1, v3, v19, v61, v71, v76, s108 (M_ul hS _) sk hg, ul_9, ul_ul, g0_3, vM isM_11, s31 isM_11 (M_ul hS _) sk hg, nI_add]
theorem s110 (hS : M_at σ 11 S) (sk : S_ok S) {g : Nat} (hg : g < 4) : z_call 110 [.ref 0, .int (nI g)] (z_enc σ) = some (some (.int (nI (xyF (S.2.1 g)) - nI (ones4 S.2.2.2.1))), z_enc (z_ul σ 0 9 (σ.2 0 9 + 100 + 1))) := by
  simp only [en110, e110_0, e110_1, e110_2, e110_5, e110_8, e110_9, e110_12, e110_13, e110_14, e110_17, e110_18, e110_21, e110_24, e110_27, e110_28, g0_9, p0_9, z_bd_i, z_bd_l, z_bd_v, List.cons_append, List.nil_append, z_nk_i, z_nk_r, z_nk_n, v0, v1, v3, v19, v61, v71, v76, s108 (M_ul hS _) sk hg, ul_9, ul_ul, g0_3, gM_4 isM_11, (M_ul hS _).2.2.2.1, ones_ok _ sk.2.2.2.1]
theorem s111 (hS : M_at σ 11 S) (sk : S_ok S) {g : Nat} (hg : g < 4) : z_call 111 [.ref 0, .int (nI g)] (z_enc σ) = some (some (.int (2 * nI (xyF (S.2.1 g) + distF S g))), z_enc (z_ul σ 0 9 (σ.2 0 9 + 1000 + 10 + 1))) := by
  simp only [en111, e111_0, e111_1, e111_2, e111_5, e111_8, e111_9, e111_12, e111_13, e111_14, e111_15, e111_18, e111_19, g0_9, p0_9, z_bd_i, z_bd_l, z_bd_v, List.cons_append, List.nil_append, z_nk_i, z_nk_r, z_nk_n, v0, v1, v3, v19, v61, v71, v76, s109 (M_ul hS _) sk hg, ul_9, ul_ul]
theorem s112 (hS : M_at σ 11 S) (sk : S_ok S) {g : Nat} (hg : g < 4) : z_call 112 [.ref 0, .int (nI g)] (z_enc σ) = some (some (.int (nI (xyF (S.2.1 g)) - nI (ones4 S.2.2.2.1) + nI g)), z_enc (z_ul σ 0 9 (σ.2 0 9 + 10000 + 100 + 1))) := by
  simp only [en112, e112_0, e112_1, e112_2, e112_5, e112_8, e112_9, e112_12, e112_13, e112_14, e112_17, e112_18, e112_19, g0_9, p0_9, z_bd_i, z_bd_l, z_bd_v, List.cons_append, List.nil_append, z_nk_i, z_nk_r, z_nk_n, v0, v1, v3, v19, v61, v71, v76, s110 (M_ul hS _) sk hg, ul_9, ul_ul]
theorem s113 (hS : M_at σ 11 S) (sk : S_ok S) {g : Nat} (hg : g < 4) : z_call 113 [.ref 0, .int (nI g)] (z_enc σ) = some (some (.int (nI (xyF (S.2.1 g)) + nI (popN 64 S.2.2.2.2.2))), z_enc (z_ul σ 0 9 (σ.2 0 9 + 100000 + 1))) := by
  simp only [en113, e113_0, e113_1, e113_2, e113_5, e113_8, e113_9, e113_12, e113_13, e113_14, e113_17, e113_18, e113_21, e113_24, e113_25, g0_9, p0_9, z_bd_i, z_bd_l, z_bd_v, List.cons_append, List.nil_append, z_nk_i, z_nk_r, z_nk_n, v0, v1, v3, v19, v61, v71, v76, s108 (M_ul hS _) sk hg, ul_9, ul_ul, g0_3, vM isM_11, s27 isM_11 (M_ul hS _) sk]
/-- RATE by kind 0 .. 5, and what the trace grows by -/
def rateF (S : t_S) (g k : Nat) : Int32 := match k with
  | 0 => nI (xyF (S.2.1 g))
  | 1 => nI (xyF (S.2.1 g) + distF S g)
  | 2 => nI (xyF (S.2.1 g)) - nI (ones4 S.2.2.2.1)
  | 3 => 2 * nI (xyF (S.2.1 g) + distF S g)
  | 4 => nI (xyF (S.2.1 g)) - nI (ones4 S.2.2.2.1) + nI g
  | _ => nI (xyF (S.2.1 g)) + nI (popN 64 S.2.2.2.2.2)
def grow (k : Nat) (x : Int64) : Int64 := match k with
  | 0 => x + 1
  | 1 => x + 10 + 1
  | 2 => x + 100 + 1
  | 3 => x + 1000 + 10 + 1
  | 4 => x + 10000 + 100 + 1
  | _ => x + 100000 + 1
theorem s82 (hL : L_at σ 10 L) (hS : M_at σ 11 S) (ok : L_ok L) (sk : S_ok S) {g k : Nat} (hg : g < L.2.2.2.2.2) (hk : k < 6) : z_call 82 [.ref 0, .int (nI k), .int (nI g)] (z_enc σ) = some (some (.int (rateF S g k)), z_enc (z_ul σ 0 9 (grow k (σ.2 0 9)))) := by
  have hg4 : g < 4 := by have := ok.2.2.2.2; omega
  have b1 : (¬ nI g < 0 ∧ nI g < nI L.2.2.2.2.2) = True := eq_true (inN_nI hg (by have := ok.2.2.2.2; omega))
  have ek : ∀ a b, a < 6 → b < 6 → (nI a = nI b) = (a = b) := fun a b h1 h2 => propext (nI_eq (by omega) (by omega))
  have hk6 : k = 0 ∨ k = 1 ∨ k = 2 ∨ k = 3 ∨ k = 4 ∨ k = 5 := by omega
  rcases hk6 with rfl | rfl | rfl | rfl | rfl | rfl
  · simp only [en82, e82_0, e82_1, e82_2, e82_5, e82_8, e82_10, e82_11, e82_12, e82_52, e82_53, e82_54, e82_57, e82_58, e82_59, e82_60, e82_63, e82_64, e82_65, e82_66, e82_69, e82_70, e82_71, e82_72, e82_75, e82_76, e82_77, e82_78, e82_81, e82_82, e82_83, e82_84, e82_87, e82_88, e82_90, s88 hL, z_bd_i, z_bd_l, z_bd_v, List.cons_append, List.nil_append, z_nk_i, z_nk_r, z_nk_n, v0, v1, v3, v19, v61, v71, v76, z_b_0, b1, not_true, if_false, show (nI 0 = 0) = True from by decide, if_true, s108 hS sk hg4]
    rfl
  · simp only [en82, e82_0, e82_1, e82_2, e82_5, e82_8, e82_10, e82_11, e82_12, e82_52, e82_53, e82_54, e82_57, e82_58, e82_59, e82_60, e82_63, e82_64, e82_65, e82_66, e82_69, e82_70, e82_71, e82_72, e82_75, e82_76, e82_77, e82_78, e82_81, e82_82, e82_83, e82_84, e82_87, e82_88, e82_90, s88 hL, z_bd_i, z_bd_l, z_bd_v, List.cons_append, List.nil_append, z_nk_i, z_nk_r, z_nk_n, v0, v1, v3, v19, v61, v71, v76, z_b_0, b1, not_true, if_false, show (nI 1 = 0) = False from by decide, show (nI 1 = 1) = True from by decide, if_true, s109 hS sk hg4]
    rfl
  · simp only [en82, e82_0, e82_1, e82_2, e82_5, e82_8, e82_10, e82_11, e82_12, e82_52, e82_53, e82_54, e82_57, e82_58, e82_59, e82_60, e82_63, e82_64, e82_65, e82_66, e82_69, e82_70, e82_71, e82_72, e82_75, e82_76, e82_77, e82_78, e82_81, e82_82, e82_83, e82_84, e82_87, e82_88, e82_90, s88 hL, z_bd_i, z_bd_l, z_bd_v, List.cons_append, List.nil_append, z_nk_i, z_nk_r, z_nk_n, v0, v1, v3, v19, v61, v71, v76, z_b_0, b1, not_true, if_false, show (nI 2 = 0) = False from by decide, show (nI 2 = 1) = False from by decide, show (nI 2 = 2) = True from by decide, if_true, s110 hS sk hg4]
    rfl
  · simp only [en82, e82_0, e82_1, e82_2, e82_5, e82_8, e82_10, e82_11, e82_12, e82_52, e82_53, e82_54, e82_57, e82_58, e82_59, e82_60, e82_63, e82_64, e82_65, e82_66, e82_69, e82_70, e82_71, e82_72, e82_75, e82_76, e82_77, e82_78, e82_81, e82_82, e82_83, e82_84, e82_87, e82_88, e82_90, s88 hL, z_bd_i, z_bd_l, z_bd_v, List.cons_append, List.nil_append, z_nk_i, z_nk_r, z_nk_n, v0, v1, v3, v19, v61, v71, v76, z_b_0, b1, not_true, if_false, show (nI 3 = 0) = False from by decide, show (nI 3 = 1) = False from by decide, show (nI 3 = 2) = False from by decide, show (nI 3 = 3) = True from by decide, if_true, s111 hS sk hg4]
    rfl
  · simp only [en82, e82_0, e82_1, e82_2, e82_5, e82_8, e82_10, e82_11, e82_12, e82_52, e82_53, e82_54, e82_57, e82_58, e82_59, e82_60, e82_63, e82_64, e82_65, e82_66, e82_69, e82_70, e82_71, e82_72, e82_75, e82_76, e82_77, e82_78, e82_81, e82_82, e82_83, e82_84, e82_87, e82_88, e82_90, s88 hL, z_bd_i, z_bd_l, z_bd_v, List.cons_append, List.nil_append, z_nk_i, z_nk_r, z_nk_n, v0, v1, v3, v19, v61, v71, v76, z_b_0, b1, not_true, if_false, show (nI 4 = 0) = False from by decide, show (nI 4 = 1) = False from by decide, show (nI 4 = 2) = False from by decide, show (nI 4 = 3) = False from by decide, show (nI 4 = 4) = True from by decide, if_true, s112 hS sk hg4]
    rfl
  · simp only [en82, e82_0, e82_1, e82_2, e82_5, e82_8, e82_10, e82_11, e82_12, e82_52, e82_53, e82_54, e82_57, e82_58, e82_59, e82_60, e82_63, e82_64, e82_65, e82_66, e82_69, e82_70, e82_71, e82_72, e82_75, e82_76, e82_77, e82_78, e82_81, e82_82, e82_83, e82_84, e82_87, e82_88, e82_90, s88 hL, z_bd_i, z_bd_l, z_bd_v, List.cons_append, List.nil_append, z_nk_i, z_nk_r, z_nk_n, v0, v1, v3, v19, v61, v71, v76, z_b_0, b1, not_true, if_false, show (nI 5 = 0) = False from by decide, show (nI 5 = 1) = False from by decide, show (nI 5 = 2) = False from by decide, show (nI 5 = 3) = False from by decide, show (nI 5 = 4) = False from by decide, show (nI 5 = 5) = True from by decide, if_true, s113 hS sk hg4]
    rfl
theorem s82b (hL : L_at σ 10 L) {g k : Int32} (hb : ¬ ((¬ g < 0 ∧ g < nI L.2.2.2.2.2) ∧ (k = 0 ∨ k = 1 ∨ k = 2 ∨ k = 3 ∨ k = 4 ∨ k = 5))) : z_call 82 [.ref 0, .int k, .int g] (z_enc σ) = some (some (.int (-1000000)), z_enc σ) := by
  by_cases h1 : ¬ g < 0 ∧ g < nI L.2.2.2.2.2
  · have hk : ¬ (k = 0 ∨ k = 1 ∨ k = 2 ∨ k = 3 ∨ k = 4 ∨ k = 5) := fun q => hb ⟨h1, q⟩
    simp only [not_or] at hk
    obtain ⟨k0, k1, k2, k3, k4, k5⟩ := hk
    simp only [en82, e82_0, e82_1, e82_2, e82_5, e82_8, e82_10, e82_11, e82_12, e82_52, e82_53, e82_54, e82_57, e82_58, e82_59, e82_60, e82_63, e82_64, e82_65, e82_66, e82_69, e82_70, e82_71, e82_72, e82_75, e82_76, e82_77, e82_78, e82_81, e82_82, e82_83, e82_84, e82_87, e82_88, e82_90, s88 hL, z_bd_i, z_bd_l, z_bd_v, List.cons_append, List.nil_append, z_nk_i, z_nk_r, z_nk_n, v0, v1, v3, v19, v61, v71, v76, z_b_0, eq_true h1, not_true, if_false, eq_false k0, eq_false k1, eq_false k2, eq_false k3, eq_false k4, eq_false k5]
  · simp only [en82, e82_0, e82_1, e82_2, e82_5, e82_8, e82_10, e82_11, e82_12, e82_52, e82_53, e82_54, e82_57, e82_58, e82_59, e82_60, e82_63, e82_64, e82_65, e82_66, e82_69, e82_70, e82_71, e82_72, e82_75, e82_76, e82_77, e82_78, e82_81, e82_82, e82_83, e82_84, e82_87, e82_88, e82_90, s88 hL, z_bd_i, z_bd_l, z_bd_v, List.cons_append, List.nil_append, z_nk_i, z_nk_r, z_nk_n, v0, v1, v3, v19, v61, v71, v76, z_b_0, eq_false h1, not_false_iff, if_true]
end REST
