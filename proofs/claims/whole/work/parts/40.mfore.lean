/-! the reference: what is foretold -/
section MFORE
variable {σ : z_G} {L : t_L} {S : t_S}
theorem asd (hD : D_at σ L) (hR : R_at σ 81 0 L.2.2.2.2.2 S) (ok : L_ok L) : D_at (cpF σ 82 0 81 0 16) L ∧ R_at (cpF σ 82 0 81 0 16) 81 0 L.2.2.2.2.2 S ∧ R_at (cpF σ 82 0 81 0 16) 82 0 L.2.2.2.2.2 S ∧ z_sf (fun p _ => p ≠ 82) σ (cpF σ 82 0 81 0 16) := by
  have sfa : z_sf (fun p _ => p ≠ 82) σ (cpF σ 82 0 81 0 16) := sf_cp (fun j _ _ q => q rfl)
  exact ⟨D_sf hD sfa (by simp), R_sf hR sfa (by simp) ok.2.2.2.2, R_cp hR ok.2.2.2.2, sfa⟩
theorem sf_82 {σ τ : z_G} (h : z_sf (fun p _ => p ≠ 82) σ τ) : z_sf Q82 σ τ := h.mono (fun p k q => q.1)
theorem s162 (hD : D_at σ L) (hR : R_at σ 81 0 L.2.2.2.2.2 S) (ok : L_ok L) (sk : S_ok S) (dk : DN L S) {g n : Nat} (hg : g < L.2.2.2.2.2) (hn : n ≤ 40) : ∃ τ, z_call 162 [.ref 76, .int (nI g), .int (nI n)] (z_enc σ) = some (some (.int (nI (tn ((stepsF L S n).2.1 g)))), z_enc τ) ∧ z_sf Q82 σ τ := by
  have hg4 : g < 4 := by have := ok.2.2.2.2; omega
  have b1 : (¬ nI g < 0 ∧ nI g < nI L.2.2.2.2.2) = True := eq_true (inN_nI hg (by have := ok.2.2.2.2; omega))
  have b2 : (¬ nI n < 0 ∧ ¬ (40 : Int32) < nI n) = True := eq_true ⟨nI_pos (by omega), nI_nlt (a := 40) (b := n) (by omega) (by decide)⟩
  obtain ⟨a1, a2, a3, a4⟩ := asd hD hR ok
  obtain ⟨τ, e1, r1, -, q1⟩ := s149 a1 a3 ok sk dk hn
  refine ⟨τ, ?_, (sf_82 a4).tr q1⟩
  simp only [en162, e162_0, e162_1, e162_2, e162_5, e162_8, e162_9, e162_10, e162_12, e162_15, e162_18, e162_19, e162_20, e162_21, e162_24, e162_25, e162_26, e162_29, e162_30, e162_33, e162_34, e162_35, e162_38, v76, s138 hD ok, z_bd_i, z_bd_l, z_bd_v, List.cons_append, List.nil_append, z_nk_i, z_nk_r, z_nk_n, v0, v1, v3, v19, v61, v71, v76, z_b_0, b1, b2, not_true, if_false, s115, s140, e1, g76_6, g_iln an82 (show g < 16 by omega) (by decide), r0_rc r1 hg4, s132 ((steps_ok ok sk n).2.1 g hg4)]
theorem s162b (hD : D_at σ L) (ok : L_ok L) {g n : Int32} (hb : ¬ ((¬ g < 0 ∧ g < nI L.2.2.2.2.2) ∧ ¬ n < 0 ∧ ¬ 40 < n)) : z_call 162 [.ref 76, .int g, .int n] (z_enc σ) = some (some (.int (-1)), z_enc σ) := by
  by_cases h1 : ¬ g < 0 ∧ g < nI L.2.2.2.2.2
  · have h2 : ¬ (¬ n < 0 ∧ ¬ 40 < n) := fun q => hb ⟨h1, q⟩
    simp only [en162, e162_0, e162_1, e162_2, e162_5, e162_8, e162_9, e162_10, e162_12, e162_15, e162_18, e162_19, e162_20, e162_21, e162_24, e162_25, e162_26, e162_29, e162_30, e162_33, e162_34, e162_35, e162_38, v76, s138 hD ok, z_bd_i, z_bd_l, z_bd_v, List.cons_append, List.nil_append, z_nk_i, z_nk_r, z_nk_n, v0, v1, v3, v19, v61, v71, v76, z_b_0, eq_true h1, not_true, if_false, s115, eq_false h2, not_false_iff, if_true]
  · simp only [en162, e162_0, e162_1, e162_2, e162_5, e162_8, e162_9, e162_10, e162_12, e162_15, e162_18, e162_19, e162_20, e162_21, e162_24, e162_25, e162_26, e162_29, e162_30, e162_33, e162_34, e162_35, e162_38, v76, s138 hD ok, z_bd_i, z_bd_l, z_bd_v, List.cons_append, List.nil_append, z_nk_i, z_nk_r, z_nk_n, v0, v1, v3, v19, v61, v71, v76, z_b_0, eq_false h1, not_false_iff, if_true]
theorem s163 (hD : D_at σ L) (hR : R_at σ 81 0 L.2.2.2.2.2 S) (ok : L_ok L) (sk : S_ok S) (dk : DN L S) {n : Nat} (hn : n ≤ 40) : ∃ τ, z_call 163 [.ref 76, .int (nI n)] (z_enc σ) = some (some (.int (nI (fallF L S n))), z_enc τ) ∧ z_sf Q82 σ τ := by
  have b2 : (¬ nI n < 0 ∧ ¬ (40 : Int32) < nI n) = True := eq_true ⟨nI_pos (by omega), nI_nlt (a := 40) (b := n) (by omega) (by decide)⟩
  obtain ⟨a1, a2, a3, a4⟩ := asd hD hR ok
  have sf2 : z_sf (fun p _ => p ≠ 76) (cpF σ 82 0 81 0 16) (z_ui (cpF σ 82 0 81 0 16) 76 19 0) := sf_ui (fun q => q rfl)
  obtain ⟨τ, e1, r1, f1, q1⟩ := s149 (D_sf a1 sf2 (by simp)) (R_sf a3 sf2 (by simp) ok.2.2.2.2) ok sk dk hn
  rw [z_ui_eq, Int32.zero_add] at f1
  refine ⟨τ, ?_, (sf_82 a4).tr (z_sf.tr (sf_ui (fun q => q.2 ⟨rfl, rfl⟩)) q1)⟩
  simp only [en163, e163_0, e163_1, e163_2, e163_4, e163_7, e163_10, e163_11, e163_12, e163_13, e163_16, e163_17, e163_18, e163_21, e163_22, e163_23, e163_26, e163_27, e163_30, v76, z_bd_i, z_bd_l, z_bd_v, List.cons_append, List.nil_append, z_nk_i, z_nk_r, z_nk_n, v0, v1, v3, v19, v61, v71, v76, z_b_0, b2, not_true, if_false, s115, s140, p76_19, e1, g76_19, f1]
theorem s163b {n : Int32} (hb : ¬ (¬ n < 0 ∧ ¬ 40 < n)) : z_call 163 [.ref 76, .int n] (z_enc σ) = some (some (.int (-1)), z_enc σ) := by
  simp only [en163, e163_0, e163_1, e163_2, e163_4, e163_7, e163_10, e163_11, e163_12, e163_13, e163_16, e163_17, e163_18, e163_21, e163_22, e163_23, e163_26, e163_27, e163_30, v76, z_bd_i, z_bd_l, z_bd_v, List.cons_append, List.nil_append, z_nk_i, z_nk_r, z_nk_n, v0, v1, v3, v19, v61, v71, v76, z_b_0, s115, eq_false hb, not_false_iff, if_true]
theorem l164 (ok : L_ok L) (sk : S_ok S) {g c : Nat} (hg : g < 4) (hc : c < 64) : ∀ d n (σ : z_G), d + n = 41 → D_at σ L → R_at σ 82 0 L.2.2.2.2.2 (stepsF L S n) →
    ∃ τ, z_r [] 0 0 164 24 [some (.ref 76), some (.int (nI g)), some (.int (nI (tn c))), some (.int (nI n))] [] (z_enc σ) = some (some (.int (cmF L S g c d n)), z_enc τ) ∧ z_sf Q82 σ τ := by
  intro d
  induction d with
  | zero =>
    intro n σ hd hD hR
    obtain rfl : n = 41 := by omega
    have b1 : (nI 41 < 41) = False := by decide
    refine ⟨σ, ?_, z_sf.rf⟩
    rw [e164_24]
    simp only [e164_0, e164_1, e164_2, e164_5, e164_8, e164_9, e164_10, e164_13, e164_16, e164_17, e164_18, e164_19, e164_22, e164_23, e164_25, e164_27, e164_30, e164_31, e164_34, e164_35, e164_36, e164_37, e164_40, e164_43, e164_44, e164_45, e164_46, e164_49, e164_50, e164_53, e164_56, e164_58, b1, if_false, cmF]
  | succ d ih =>
    intro n σ hd hD hR
    have b1 : (nI n < 41) = True := eq_true (nI_lt (a := n) (b := 41) (by omega) (by decide))
    have sk2 := steps_ok ok sk n
    have hr := sk2.2.1 g hg
    have e2 : (nI ((stepsF L S n).2.1 g) = nI c) = ((stepsF L S n).2.1 g = c) := propext (nI_eq (by omega) (by omega))
    rw [cmF]
    by_cases q : (stepsF L S n).2.1 g = c
    · refine ⟨σ, ?_, z_sf.rf⟩
      rw [e164_24]
      simp only [e164_0, e164_1, e164_2, e164_5, e164_8, e164_9, e164_10, e164_13, e164_16, e164_17, e164_18, e164_19, e164_22, e164_23, e164_25, e164_27, e164_30, e164_31, e164_34, e164_35, e164_36, e164_37, e164_40, e164_43, e164_44, e164_45, e164_46, e164_49, e164_50, e164_53, e164_56, e164_58, b1, if_true, g76_6, g_iln an82 (show g < 16 by omega) (by decide), r0_rc hR hg, s134 hc, z_bd_i, z_bd_l, z_bd_v, List.cons_append, List.nil_append, z_nk_i, z_nk_r, z_nk_n, v0, v1, v3, v19, v61, v71, v76, e2, eq_true q]
    · obtain ⟨τ, e1, r1, -, q1⟩ := s148 hD hR ok sk2
      obtain ⟨τ2, e3, q3⟩ := ih (n + 1) τ (by omega) (D_sf hD q1 (fun k => by unfold Q82; omega)) r1
      refine ⟨τ2, ?_, q1.tr q3⟩
      rw [e164_24]
      simp only [e164_0, e164_1, e164_2, e164_5, e164_8, e164_9, e164_10, e164_13, e164_16, e164_17, e164_18, e164_19, e164_22, e164_23, e164_25, e164_27, e164_30, e164_31, e164_34, e164_35, e164_36, e164_37, e164_40, e164_43, e164_44, e164_45, e164_46, e164_49, e164_50, e164_53, e164_56, e164_58, b1, if_true, g76_6, g_iln an82 (show g < 16 by omega) (by decide), r0_rc hR hg, s134 hc, z_bd_i, z_bd_l, z_bd_v, List.cons_append, List.nil_append, z_nk_i, z_nk_r, z_nk_n, v0, v1, v3, v19, v61, v71, v76, e2, eq_false q, if_false, v76, e1, nI_1]
      exact e3
theorem s164 (hD : D_at σ L) (hR : R_at σ 81 0 L.2.2.2.2.2 S) (ok : L_ok L) (sk : S_ok S) {g c : Nat} (hg : g < L.2.2.2.2.2) (hc : c < 64) (hi : insF L c = true) : ∃ τ, z_call 164 [.ref 76, .int (nI g), .int (nI (tn c))] (z_enc σ) = some (some (.int (cmF L S g c 41 0)), z_enc τ) ∧ z_sf Q82 σ τ := by
  have hg4 : g < 4 := by have := ok.2.2.2.2; omega
  have b1 : (¬ nI g < 0 ∧ nI g < nI L.2.2.2.2.2) = True := eq_true (inN_nI hg (by have := ok.2.2.2.2; omega))
  obtain ⟨a1, a2, a3, a4⟩ := asd hD hR ok
  obtain ⟨τ, e1, q1⟩ := l164 ok sk hg4 hc 41 0 _ rfl a1 a3
  refine ⟨τ, ?_, (sf_82 a4).tr q1⟩
  simp only [en164, e164_0, e164_1, e164_2, e164_5, e164_8, e164_9, e164_10, e164_13, e164_16, e164_17, e164_18, e164_19, e164_22, e164_23, e164_25, e164_27, e164_30, e164_31, e164_34, e164_35, e164_36, e164_37, e164_40, e164_43, e164_44, e164_45, e164_46, e164_49, e164_50, e164_53, e164_56, e164_58, v76, s138 hD ok, s133 hD ok, hasV_c hc ok, eq_true hi, z_bd_i, z_bd_l, z_bd_v, List.cons_append, List.nil_append, z_nk_i, z_nk_r, z_nk_n, v0, v1, v3, v19, v61, v71, v76, z_b_0, b1, not_true, if_false, s140]
  exact e1
theorem s164b (hD : D_at σ L) (ok : L_ok L) {g x : Int32} (hb : ¬ ((¬ g < 0 ∧ g < nI L.2.2.2.2.2) ∧ ¬ hasV L x = 0)) : z_call 164 [.ref 76, .int g, .int x] (z_enc σ) = some (some (.int (-1)), z_enc σ) := by
  by_cases h1 : ¬ g < 0 ∧ g < nI L.2.2.2.2.2
  · have h2 : hasV L x = 0 := Classical.byContradiction fun q => hb ⟨h1, q⟩
    simp only [en164, e164_0, e164_1, e164_2, e164_5, e164_8, e164_9, e164_10, e164_13, e164_16, e164_17, e164_18, e164_19, e164_22, e164_23, e164_25, e164_27, e164_30, e164_31, e164_34, e164_35, e164_36, e164_37, e164_40, e164_43, e164_44, e164_45, e164_46, e164_49, e164_50, e164_53, e164_56, e164_58, v76, s138 hD ok, s133 hD ok, h2, z_bd_i, z_bd_l, z_bd_v, List.cons_append, List.nil_append, z_nk_i, z_nk_r, z_nk_n, v0, v1, v3, v19, v61, v71, v76, z_b_0, eq_true h1, not_true, if_false, if_true]
  · simp only [en164, e164_0, e164_1, e164_2, e164_5, e164_8, e164_9, e164_10, e164_13, e164_16, e164_17, e164_18, e164_19, e164_22, e164_23, e164_25, e164_27, e164_30, e164_31, e164_34, e164_35, e164_36, e164_37, e164_40, e164_43, e164_44, e164_45, e164_46, e164_49, e164_50, e164_53, e164_56, e164_58, v76, s138 hD ok, z_bd_i, z_bd_l, z_bd_v, List.cons_append, List.nil_append, z_nk_i, z_nk_r, z_nk_n, v0, v1, v3, v19, v61, v71, v76, z_b_0, eq_false h1, not_false_iff, if_true]
theorem l165 (ok : L_ok L) (sk : S_ok S) (dk : DN L S) {g m c n : Nat} (hg : g < 4) (hm : m < 4) (hc : c < 64) (hn : n ≤ 20) : ∀ d k (σ : z_G), d + k = 64 → D_at σ L → R_at σ 81 0 L.2.2.2.2.2 S →
    ∃ τ, z_r [] 0 0 165 51 [some (.ref 76), some (.int (nI g)), some (.int (nI (tn c))), some (.int (nI n)), some (.int (nI m)), some (.int (nI k))] [] (z_enc σ) = some (some (.int (wvF L S g m c n d k)), z_enc τ) ∧ z_sf Q82 σ τ := by
  intro d
  induction d with
  | zero =>
    intro k σ hd hD hR
    obtain rfl : k = 64 := by omega
    have b1 : (nI 64 < 64) = False := by decide
    refine ⟨σ, ?_, z_sf.rf⟩
    rw [e165_51]
    simp only [e165_0, e165_1, e165_2, e165_5, e165_8, e165_9, e165_10, e165_13, e165_16, e165_17, e165_18, e165_20, e165_23, e165_26, e165_27, e165_28, e165_29, e165_32, e165_33, e165_34, e165_35, e165_36, e165_38, e165_40, e165_42, e165_45, e165_47, e165_48, e165_49, e165_53, e165_55, e165_58, e165_59, e165_61, e165_64, e165_67, e165_70, e165_71, e165_73, e165_76, e165_77, e165_80, e165_81, e165_84, e165_85, e165_88, e165_90, e165_92, e165_93, e165_95, e165_96, e165_97, e165_98, e165_101, e165_102, e165_105, e165_106, e165_107, e165_108, e165_111, e165_114, e165_116, e165_119, e165_120, e165_123, e165_126, e165_128, b1, if_false, wvF]
  | succ d ih =>
    intro k σ hd hD hR
    have hk : k < 64 := by omega
    have hN := ok.2.2.2.2
    have b1 : (nI k < 64) = True := eq_true (nI_lt (a := k) (b := 64) hk (by decide))
    rw [wvF]
    by_cases q1 : insF L k = true
    · by_cases q2 : wallF L k = true
      · have hv : wvOK L S g m c n k = false := by unfold wvOK; rw [q1, q2]; rfl
        obtain ⟨τ, e1, f1⟩ := ih (k + 1) σ (by omega) hD hR
        refine ⟨τ, ?_, f1⟩
        rw [hv, e165_51]
        simp only [e165_0, e165_1, e165_2, e165_5, e165_8, e165_9, e165_10, e165_13, e165_16, e165_17, e165_18, e165_20, e165_23, e165_26, e165_27, e165_28, e165_29, e165_32, e165_33, e165_34, e165_35, e165_36, e165_38, e165_40, e165_42, e165_45, e165_47, e165_48, e165_49, e165_53, e165_55, e165_58, e165_59, e165_61, e165_64, e165_67, e165_70, e165_71, e165_73, e165_76, e165_77, e165_80, e165_81, e165_84, e165_85, e165_88, e165_90, e165_92, e165_93, e165_95, e165_96, e165_97, e165_98, e165_101, e165_102, e165_105, e165_106, e165_107, e165_108, e165_111, e165_114, e165_116, e165_119, e165_120, e165_123, e165_126, e165_128, b1, if_true, s132 hk, z_bd_i, z_bd_l, z_bd_v, List.cons_append, List.nil_append, z_nk_i, z_nk_r, z_nk_n, v0, v1, v3, v19, v61, v71, v76, v76, s133 hD ok, hasV_c hk ok, z_b_0, eq_true q1, not_true, if_false, s137 hD hk, k2, eq_true q2, nI_1, Bool.false_eq_true]
        exact e1
      · have q2f : wallF L k = false := by simpa using q2
        obtain ⟨a1, a2, a3, a4⟩ := asd hD hR ok
        have sf2 : z_sf (fun p _ => p ≠ 82) (cpF σ 82 0 81 0 16) (z_ui (cpF σ 82 0 81 0 16) 82 (12 + m) (nI k)) := sf_ui (fun q => q rfl)
        have sk2 : S_ok (mcS S m k) := mc_ok sk hk
        obtain ⟨τ, e1, r1, -, f1⟩ := s149 (D_sf a1 sf2 (by simp)) (r_mc (c := k) a3 hN hm) ok sk2 dk (show n ≤ 40 by omega)
        have ft : z_sf Q82 σ τ := (sf_82 a4).tr ((sf_82 sf2).tr f1)
        have hr := (steps_ok ok sk2 n).2.1 g hg
        have e2 : (nI ((stepsF L (mcS S m k) n).2.1 g) = nI c) = ((stepsF L (mcS S m k) n).2.1 g = c) := propext (nI_eq (by omega) (by omega))
        by_cases q3 : (stepsF L (mcS S m k) n).2.1 g = c
        · have hv : wvOK L S g m c n k = true := by unfold wvOK; rw [q1, q2f, q3]; simp
          refine ⟨τ, ?_, ft⟩
          rw [hv, e165_51]
          simp only [e165_0, e165_1, e165_2, e165_5, e165_8, e165_9, e165_10, e165_13, e165_16, e165_17, e165_18, e165_20, e165_23, e165_26, e165_27, e165_28, e165_29, e165_32, e165_33, e165_34, e165_35, e165_36, e165_38, e165_40, e165_42, e165_45, e165_47, e165_48, e165_49, e165_53, e165_55, e165_58, e165_59, e165_61, e165_64, e165_67, e165_70, e165_71, e165_73, e165_76, e165_77, e165_80, e165_81, e165_84, e165_85, e165_88, e165_90, e165_92, e165_93, e165_95, e165_96, e165_97, e165_98, e165_101, e165_102, e165_105, e165_106, e165_107, e165_108, e165_111, e165_114, e165_116, e165_119, e165_120, e165_123, e165_126, e165_128, b1, if_true, s132 hk, z_bd_i, z_bd_l, z_bd_v, List.cons_append, List.nil_append, z_nk_i, z_nk_r, z_nk_n, v0, v1, v3, v19, v61, v71, v76, v76, s133 hD ok, hasV_c hk ok, z_b_0, eq_true q1, not_true, if_false, s137 hD hk, k2, eq_false q2, s140, g76_6, z12, g_isn an82 (show 12 + m < 16 by omega) (by decide), e1, g_iln an82 (show g < 16 by omega) (by decide), r0_rc r1 hg, s134 hc, e2, eq_true q3]
        · have hv : wvOK L S g m c n k = false := by unfold wvOK; simp [q3]
          obtain ⟨τ2, e3, f3⟩ := ih (k + 1) τ (by omega) (D_sf hD ft (fun k => by unfold Q82; omega)) (R_sf hR ft (fun k _ => by unfold Q82; omega) hN)
          refine ⟨τ2, ?_, ft.tr f3⟩
          rw [hv, e165_51]
          simp only [e165_0, e165_1, e165_2, e165_5, e165_8, e165_9, e165_10, e165_13, e165_16, e165_17, e165_18, e165_20, e165_23, e165_26, e165_27, e165_28, e165_29, e165_32, e165_33, e165_34, e165_35, e165_36, e165_38, e165_40, e165_42, e165_45, e165_47, e165_48, e165_49, e165_53, e165_55, e165_58, e165_59, e165_61, e165_64, e165_67, e165_70, e165_71, e165_73, e165_76, e165_77, e165_80, e165_81, e165_84, e165_85, e165_88, e165_90, e165_92, e165_93, e165_95, e165_96, e165_97, e165_98, e165_101, e165_102, e165_105, e165_106, e165_107, e165_108, e165_111, e165_114, e165_116, e165_119, e165_120, e165_123, e165_126, e165_128, b1, if_true, s132 hk, z_bd_i, z_bd_l, z_bd_v, List.cons_append, List.nil_append, z_nk_i, z_nk_r, z_nk_n, v0, v1, v3, v19, v61, v71, v76, v76, s133 hD ok, hasV_c hk ok, z_b_0, eq_true q1, not_true, if_false, s137 hD hk, k2, eq_false q2, s140, g76_6, z12, g_isn an82 (show 12 + m < 16 by omega) (by decide), e1, g_iln an82 (show g < 16 by omega) (by decide), r0_rc r1 hg, s134 hc, e2, eq_false q3, nI_1, Bool.false_eq_true]
          exact e3
    · have q1f : insF L k = false := by simpa using q1
      have hv : wvOK L S g m c n k = false := by unfold wvOK; rw [q1f]; rfl
      obtain ⟨τ, e1, f1⟩ := ih (k + 1) σ (by omega) hD hR
      refine ⟨τ, ?_, f1⟩
      rw [hv, e165_51]
      simp only [e165_0, e165_1, e165_2, e165_5, e165_8, e165_9, e165_10, e165_13, e165_16, e165_17, e165_18, e165_20, e165_23, e165_26, e165_27, e165_28, e165_29, e165_32, e165_33, e165_34, e165_35, e165_36, e165_38, e165_40, e165_42, e165_45, e165_47, e165_48, e165_49, e165_53, e165_55, e165_58, e165_59, e165_61, e165_64, e165_67, e165_70, e165_71, e165_73, e165_76, e165_77, e165_80, e165_81, e165_84, e165_85, e165_88, e165_90, e165_92, e165_93, e165_95, e165_96, e165_97, e165_98, e165_101, e165_102, e165_105, e165_106, e165_107, e165_108, e165_111, e165_114, e165_116, e165_119, e165_120, e165_123, e165_126, e165_128, b1, if_true, s132 hk, z_bd_i, z_bd_l, z_bd_v, List.cons_append, List.nil_append, z_nk_i, z_nk_r, z_nk_n, v0, v1, v3, v19, v61, v71, v76, v76, s133 hD ok, hasV_c hk ok, z_b_0, eq_false q1, not_false_iff, if_true, nI_1, Bool.false_eq_true, if_false]
      exact e1
theorem s165 (hD : D_at σ L) (hR : R_at σ 81 0 L.2.2.2.2.2 S) (ok : L_ok L) (sk : S_ok S) (dk : DN L S) {g c n : Nat} (hg : g < L.2.2.2.2.2) (hc : c < 64) (hi : insF L c = true) (hn : n ≤ 20) : ∃ τ, z_call 165 [.ref 76, .int (nI g), .int (nI (tn c)), .int (nI n)] (z_enc σ) = some (some (.int (waveR L S g c n)), z_enc τ) ∧ z_sf Q82 σ τ := by
  have hg4 : g < 4 := by have := ok.2.2.2.2; omega
  have b1 : (¬ nI g < 0 ∧ nI g < nI L.2.2.2.2.2) = True := eq_true (inN_nI hg (by have := ok.2.2.2.2; omega))
  have b2 : (¬ nI n < 0 ∧ ¬ (20 : Int32) < nI n) = True := eq_true ⟨nI_pos (by omega), nI_nlt (a := 20) (b := n) (by omega) (by decide)⟩
  have hmi : S.2.2.1 g < 10 := by have := sk.2.2.1 g hg4; omega
  unfold waveR
  by_cases q9 : S.2.2.1 g = 9
  · rw [if_pos q9]
    refine ⟨σ, ?_, z_sf.rf⟩
    simp only [en165, e165_0, e165_1, e165_2, e165_5, e165_8, e165_9, e165_10, e165_13, e165_16, e165_17, e165_18, e165_20, e165_23, e165_26, e165_27, e165_28, e165_29, e165_32, e165_33, e165_34, e165_35, e165_36, e165_38, e165_40, e165_42, e165_45, e165_47, e165_48, e165_49, e165_53, e165_55, e165_58, e165_59, e165_61, e165_64, e165_67, e165_70, e165_71, e165_73, e165_76, e165_77, e165_80, e165_81, e165_84, e165_85, e165_88, e165_90, e165_92, e165_93, e165_95, e165_96, e165_97, e165_98, e165_101, e165_102, e165_105, e165_106, e165_107, e165_108, e165_111, e165_114, e165_116, e165_119, e165_120, e165_123, e165_126, e165_128, v76, s138 hD ok, s133 hD ok, hasV_c hc ok, eq_true hi, z_bd_i, z_bd_l, z_bd_v, List.cons_append, List.nil_append, z_nk_i, z_nk_r, z_nk_n, v0, v1, v3, v19, v61, v71, v76, z_b_0, b1, b2, s115, not_true, if_false, g76_5, z4, g_iln an81 (show 4 + g < 16 by omega) (by decide), r0_mi hR hg, told9 hmi, eq_true q9, if_true]
  · rw [if_neg q9]
    have hm4 : S.2.2.1 g < 4 := by have := sk.2.2.1 g hg4; omega
    have et : toldF (S.2.2.1 g) = nI (S.2.2.1 g) := if_neg q9
    obtain ⟨τ, e1, f1⟩ := l165 ok sk dk hg4 hm4 hc hn 64 0 σ rfl hD hR
    refine ⟨τ, ?_, f1⟩
    simp only [en165, e165_0, e165_1, e165_2, e165_5, e165_8, e165_9, e165_10, e165_13, e165_16, e165_17, e165_18, e165_20, e165_23, e165_26, e165_27, e165_28, e165_29, e165_32, e165_33, e165_34, e165_35, e165_36, e165_38, e165_40, e165_42, e165_45, e165_47, e165_48, e165_49, e165_53, e165_55, e165_58, e165_59, e165_61, e165_64, e165_67, e165_70, e165_71, e165_73, e165_76, e165_77, e165_80, e165_81, e165_84, e165_85, e165_88, e165_90, e165_92, e165_93, e165_95, e165_96, e165_97, e165_98, e165_101, e165_102, e165_105, e165_106, e165_107, e165_108, e165_111, e165_114, e165_116, e165_119, e165_120, e165_123, e165_126, e165_128, v76, s138 hD ok, s133 hD ok, hasV_c hc ok, eq_true hi, z_bd_i, z_bd_l, z_bd_v, List.cons_append, List.nil_append, z_nk_i, z_nk_r, z_nk_n, v0, v1, v3, v19, v61, v71, v76, z_b_0, b1, b2, s115, not_true, if_false, g76_5, z4, g_iln an81 (show 4 + g < 16 by omega) (by decide), r0_mi hR hg, et, m_9 (show S.2.2.1 g < 2147483648 by omega), not_false_iff, if_true]
    exact e1
theorem s165b (hD : D_at σ L) (ok : L_ok L) {g x n : Int32} (hb : ¬ ((¬ g < 0 ∧ g < nI L.2.2.2.2.2) ∧ ¬ hasV L x = 0 ∧ ¬ n < 0 ∧ ¬ 20 < n)) : z_call 165 [.ref 76, .int g, .int x, .int n] (z_enc σ) = some (some (.int (-1)), z_enc σ) := by
  by_cases h1 : ¬ g < 0 ∧ g < nI L.2.2.2.2.2
  · by_cases h2 : hasV L x = 0
    · simp only [en165, e165_0, e165_1, e165_2, e165_5, e165_8, e165_9, e165_10, e165_13, e165_16, e165_17, e165_18, e165_20, e165_23, e165_26, e165_27, e165_28, e165_29, e165_32, e165_33, e165_34, e165_35, e165_36, e165_38, e165_40, e165_42, e165_45, e165_47, e165_48, e165_49, e165_53, e165_55, e165_58, e165_59, e165_61, e165_64, e165_67, e165_70, e165_71, e165_73, e165_76, e165_77, e165_80, e165_81, e165_84, e165_85, e165_88, e165_90, e165_92, e165_93, e165_95, e165_96, e165_97, e165_98, e165_101, e165_102, e165_105, e165_106, e165_107, e165_108, e165_111, e165_114, e165_116, e165_119, e165_120, e165_123, e165_126, e165_128, v76, s138 hD ok, s133 hD ok, h2, z_bd_i, z_bd_l, z_bd_v, List.cons_append, List.nil_append, z_nk_i, z_nk_r, z_nk_n, v0, v1, v3, v19, v61, v71, v76, z_b_0, eq_true h1, not_true, if_false, if_true]
    · have h3 : ¬ (¬ n < 0 ∧ ¬ 20 < n) := fun q => hb ⟨h1, h2, q⟩
      simp only [en165, e165_0, e165_1, e165_2, e165_5, e165_8, e165_9, e165_10, e165_13, e165_16, e165_17, e165_18, e165_20, e165_23, e165_26, e165_27, e165_28, e165_29, e165_32, e165_33, e165_34, e165_35, e165_36, e165_38, e165_40, e165_42, e165_45, e165_47, e165_48, e165_49, e165_53, e165_55, e165_58, e165_59, e165_61, e165_64, e165_67, e165_70, e165_71, e165_73, e165_76, e165_77, e165_80, e165_81, e165_84, e165_85, e165_88, e165_90, e165_92, e165_93, e165_95, e165_96, e165_97, e165_98, e165_101, e165_102, e165_105, e165_106, e165_107, e165_108, e165_111, e165_114, e165_116, e165_119, e165_120, e165_123, e165_126, e165_128, v76, s138 hD ok, s133 hD ok, eq_false h2, z_bd_i, z_bd_l, z_bd_v, List.cons_append, List.nil_append, z_nk_i, z_nk_r, z_nk_n, v0, v1, v3, v19, v61, v71, v76, z_b_0, eq_true h1, not_true, if_false, s115, eq_false h3, not_false_iff, if_true]
  · simp only [en165, e165_0, e165_1, e165_2, e165_5, e165_8, e165_9, e165_10, e165_13, e165_16, e165_17, e165_18, e165_20, e165_23, e165_26, e165_27, e165_28, e165_29, e165_32, e165_33, e165_34, e165_35, e165_36, e165_38, e165_40, e165_42, e165_45, e165_47, e165_48, e165_49, e165_53, e165_55, e165_58, e165_59, e165_61, e165_64, e165_67, e165_70, e165_71, e165_73, e165_76, e165_77, e165_80, e165_81, e165_84, e165_85, e165_88, e165_90, e165_92, e165_93, e165_95, e165_96, e165_97, e165_98, e165_101, e165_102, e165_105, e165_106, e165_107, e165_108, e165_111, e165_114, e165_116, e165_119, e165_120, e165_123, e165_126, e165_128, v76, s138 hD ok, z_bd_i, z_bd_l, z_bd_v, List.cons_append, List.nil_append, z_nk_i, z_nk_r, z_nk_n, v0, v1, v3, v19, v61, v71, v76, z_b_0, eq_false h1, not_false_iff, if_true]
end MFORE
