/-! the reference: step, walks, seesOff, deals, leads, undo -/
def MF (σ : z_G) (L : t_L) (S : t_S) (hc : Nat) (hist : Nat → t_S) : Prop := D_at σ L ∧ R_at σ 81 0 L.2.2.2.2.2 S ∧ B_at σ L.2.2.2.2.2 hc hist
section MDONE
variable {σ : z_G} {L : t_L} {S : t_S} {hc : Nat} {hist : Nat → t_S}
theorem MF_sf {Q : Nat → Nat → Prop} {τ : z_G} (h : MF σ L S hc hist) (hs : z_sf Q σ τ) (hQ : (∀ k, Q 78 k) ∧ (∀ k, Q 81 k) ∧ Q 76 8 ∧ ∀ k, Q 83 k) (hN : L.2.2.2.2.2 ≤ 4) : MF τ L S hc hist :=
  ⟨D_sf h.1 hs hQ.1, R_sf h.2.1 hs (fun k _ => hQ.2.1 _) hN, B_sf h.2.2 hs hQ.2.2 hN⟩
theorem t155 (h : MF σ L S hc hist) (ok : L_ok L) : ∃ τ, z_call 155 [.ref 76] (z_enc σ) = some (none, z_enc τ) ∧ MF τ L S (pushN hc) (pushH S hist) ∧ z_sf Q83 σ τ := by
  obtain ⟨τ, e, f, g⟩ := s155 h.2.2 h.2.1 ok.2.2.2.2
  exact ⟨τ, e, ⟨D_sf h.1 g (fun k => by unfold Q83; omega), R_sf h.2.1 g (fun k _ => by unfold Q83; omega) ok.2.2.2.2, f⟩, g⟩
theorem Qdo_83 : ∀ p k, Qdo p k → Q83 p k := fun p k h => by unfold Qdo at h; unfold Q83; omega
theorem Qdo_82 : ∀ p k, Qdo p k → Q82 p k := fun p k h => by unfold Qdo at h; unfold Q82; omega
theorem s156 (h : MF σ L S hc hist) (ok : L_ok L) (sk : S_ok S) : ∃ τ, z_call 156 [.ref 76] (z_enc σ) = some (some (.int (nI (goneF L S))), z_enc τ) ∧ MF τ L (stepF L S) (pushN hc) (pushH S hist) ∧ z_sf Qdo σ τ := by
  have hN := ok.2.2.2.2
  obtain ⟨τ1, e1, f1, g1⟩ := t155 h ok
  have sf2 : z_sf (fun p _ => p ≠ 82) τ1 (cpF τ1 82 0 81 0 16) := sf_cp (fun j _ _ q => q rfl)
  have hR2 : R_at (cpF τ1 82 0 81 0 16) 82 0 L.2.2.2.2.2 S := R_cp f1.2.1 hN
  have f2 : MF (cpF τ1 82 0 81 0 16) L S (pushN hc) (pushH S hist) := MF_sf f1 sf2 (by simp) hN
  obtain ⟨τ3, e3, r3, -, g3⟩ := s148 f2.1 hR2 ok sk
  have f3 : MF τ3 L S (pushN hc) (pushH S hist) := MF_sf f2 g3 (by unfold Q82; simp) hN
  have sf4 : z_sf (fun p _ => p ≠ 81) τ3 (cpF τ3 81 0 82 0 16) := sf_cp (fun j _ _ q => q rfl)
  refine ⟨cpF τ3 81 0 82 0 16, ?_, ⟨D_sf f3.1 sf4 (by simp), R_cp r3 hN, B_sf f3.2.2 sf4 (by simp) hN⟩, (g1.mono Qdo_83).tr ((sf2.mono (fun p k q => q.2.1)).tr ((g3.mono Qdo_82).tr (sf4.mono (fun p k q => q.1))))⟩
  simp only [en156, e156_0, e156_1, e156_4, e156_5, e156_8, e156_9, e156_12, e156_13, e156_14, e156_17, e156_18, v76, e1, z_bd_i, z_bd_l, z_bd_v, List.cons_append, List.nil_append, z_nk_i, z_nk_r, z_nk_n, v0, v1, v3, v19, v61, v71, v76, s140, e3, s141]
theorem s157 (h : MF σ L S hc hist) (ok : L_ok L) (sk : S_ok S) {m s : Nat} (hm : m < L.2.2.2.2.1) (hs : s < 4) :
    match walkR L S m s with
    | none => z_call 157 [.ref 76, .int (nI m), .int (nI s)] (z_enc σ) = some (some (.int (-2)), z_enc σ)
    | some d => ∃ τ, z_call 157 [.ref 76, .int (nI m), .int (nI s)] (z_enc σ) = some (some (.int (nI (tn d))), z_enc τ) ∧ MF τ L (mcS S m d) (pushN hc) (pushH S hist) ∧ z_sf Qdo σ τ := by
  have hN := ok.2.2.2.2
  have hm4 : m < 4 := by have := ok.2.2.2.1; omega
  have b1 : (¬ nI m < 0 ∧ nI m < nI L.2.2.2.2.1) = True := eq_true (inN_nI hm (by have := ok.2.2.2.1; omega))
  have b2 : (¬ nI s < 0 ∧ ¬ (3 : Int32) < nI s) = True := eq_true ⟨nI_pos (by omega), nI_nlt (a := 3) (b := s) (by omega) (by decide)⟩
  have hc6 := sk.1 m hm4
  unfold walkR
  cases hb : besF L (S.1 m) s with
  | none =>
    simp only [en157, e157_0, e157_1, e157_2, e157_5, e157_8, e157_9, e157_10, e157_11, e157_14, e157_17, e157_18, e157_19, e157_20, e157_21, e157_24, e157_26, e157_27, e157_28, e157_29, e157_30, e157_33, e157_34, e157_35, e157_37, e157_40, e157_41, e157_42, e157_45, e157_46, e157_49, e157_51, e157_52, e157_53, e157_56, e157_57, e157_60, e157_62, e157_63, e157_64, e157_65, e157_66, e157_67, e157_70, v76, s139 h.1 ok, z_bd_i, z_bd_l, z_bd_v, List.cons_append, List.nil_append, z_nk_i, z_nk_r, z_nk_n, v0, v1, v3, v19, v61, v71, v76, z_b_0, b1, b2, not_true, if_false, s115, g76_5, z12, g_iln an81 (show 12 + m < 16 by omega) (by decide), r0_mc h.2.1 hm4, s136 h.1 ok hc6 hs, hb, z_n, if_true]
  | some d =>
    obtain ⟨hd, hi⟩ := bes_lt hc6 ok hb
    have t9 : (nI d = -9) = False := m_9 (by omega)
    by_cases hw : wallF L d = true
    · simp only [en157, e157_0, e157_1, e157_2, e157_5, e157_8, e157_9, e157_10, e157_11, e157_14, e157_17, e157_18, e157_19, e157_20, e157_21, e157_24, e157_26, e157_27, e157_28, e157_29, e157_30, e157_33, e157_34, e157_35, e157_37, e157_40, e157_41, e157_42, e157_45, e157_46, e157_49, e157_51, e157_52, e157_53, e157_56, e157_57, e157_60, e157_62, e157_63, e157_64, e157_65, e157_66, e157_67, e157_70, v76, s139 h.1 ok, z_bd_i, z_bd_l, z_bd_v, List.cons_append, List.nil_append, z_nk_i, z_nk_r, z_nk_n, v0, v1, v3, v19, v61, v71, v76, z_b_0, b1, b2, not_true, if_false, s115, g76_5, z12, g_iln an81 (show 12 + m < 16 by omega) (by decide), r0_mc h.2.1 hm4, s136 h.1 ok hc6 hs, hb, z_n, t9, s137 h.1 hd, k2, hw, if_true]
    · obtain ⟨τ, e1, f1, g1⟩ := t155 h ok
      have sf2 : z_sf (fun p _ => p ≠ 81) τ (z_ui τ 81 (12 + m) (nI d)) := sf_ui (fun q => q rfl)
      simp only [hw, if_false]
      refine ⟨z_ui τ 81 (12 + m) (nI d), ?_, ⟨D_sf f1.1 sf2 (by simp), r_mc f1.2.1 hN hm4, B_sf f1.2.2 sf2 (by simp) hN⟩, (g1.mono Qdo_83).tr (sf2.mono (fun p k q => q.1))⟩
      simp only [en157, e157_0, e157_1, e157_2, e157_5, e157_8, e157_9, e157_10, e157_11, e157_14, e157_17, e157_18, e157_19, e157_20, e157_21, e157_24, e157_26, e157_27, e157_28, e157_29, e157_30, e157_33, e157_34, e157_35, e157_37, e157_40, e157_41, e157_42, e157_45, e157_46, e157_49, e157_51, e157_52, e157_53, e157_56, e157_57, e157_60, e157_62, e157_63, e157_64, e157_65, e157_66, e157_67, e157_70, v76, s139 h.1 ok, z_bd_i, z_bd_l, z_bd_v, List.cons_append, List.nil_append, z_nk_i, z_nk_r, z_nk_n, v0, v1, v3, v19, v61, v71, v76, z_b_0, b1, b2, not_true, if_false, s115, g76_5, z12, g_iln an81 (show 12 + m < 16 by omega) (by decide), r0_mc h.2.1 hm4, s136 h.1 ok hc6 hs, hb, z_n, t9, s137 h.1 hd, k2, eq_false hw, e1, g_isn an81 (show 12 + m < 16 by omega) (by decide), s132 hd]
theorem s157b (hD : D_at σ L) (ok : L_ok L) {m s : Int32} (hb : ¬ ((¬ m < 0 ∧ m < nI L.2.2.2.2.1) ∧ (¬ s < 0 ∧ s < 4))) : z_call 157 [.ref 76, .int m, .int s] (z_enc σ) = some (some (.int (-1)), z_enc σ) := by
  rw [← i34] at hb
  by_cases h1 : ¬ m < 0 ∧ m < nI L.2.2.2.2.1
  · have h2 : ¬ (¬ s < 0 ∧ ¬ 3 < s) := fun q => hb ⟨h1, q⟩
    simp only [en157, e157_0, e157_1, e157_2, e157_5, e157_8, e157_9, e157_10, e157_11, e157_14, e157_17, e157_18, e157_19, e157_20, e157_21, e157_24, e157_26, e157_27, e157_28, e157_29, e157_30, e157_33, e157_34, e157_35, e157_37, e157_40, e157_41, e157_42, e157_45, e157_46, e157_49, e157_51, e157_52, e157_53, e157_56, e157_57, e157_60, e157_62, e157_63, e157_64, e157_65, e157_66, e157_67, e157_70, v76, s139 hD ok, z_bd_i, z_bd_l, z_bd_v, List.cons_append, List.nil_append, z_nk_i, z_nk_r, z_nk_n, v0, v1, v3, v19, v61, v71, v76, z_b_0, eq_true h1, not_true, if_false, s115, eq_false h2, not_false_iff, if_true]
  · simp only [en157, e157_0, e157_1, e157_2, e157_5, e157_8, e157_9, e157_10, e157_11, e157_14, e157_17, e157_18, e157_19, e157_20, e157_21, e157_24, e157_26, e157_27, e157_28, e157_29, e157_30, e157_33, e157_34, e157_35, e157_37, e157_40, e157_41, e157_42, e157_45, e157_46, e157_49, e157_51, e157_52, e157_53, e157_56, e157_57, e157_60, e157_62, e157_63, e157_64, e157_65, e157_66, e157_67, e157_70, v76, s139 hD ok, z_bd_i, z_bd_l, z_bd_v, List.cons_append, List.nil_append, z_nk_i, z_nk_r, z_nk_n, v0, v1, v3, v19, v61, v71, v76, z_b_0, eq_false h1, not_false_iff, if_true]
theorem s158 (h : MF σ L S hc hist) (ok : L_ok L) (sk : S_ok S) {g m : Nat} (hg : g < L.2.2.2.2.2) (hm : m = 9 ∨ m < L.2.2.2.2.1) :
    if S.2.2.1 g = m then z_call 158 [.ref 76, .int (nI g), .int (nI m)] (z_enc σ) = some (some (.int (-2)), z_enc σ)
    else ∃ τ, z_call 158 [.ref 76, .int (nI g), .int (nI m)] (z_enc σ) = some (some (.int (toldF (S.2.2.1 g))), z_enc τ) ∧ MF τ L (miS S g m) (pushN hc) (pushH S hist) ∧ z_sf Qdo σ τ := by
  have hN := ok.2.2.2.2
  have hM4 := ok.2.2.2.1
  have hg4 : g < 4 := by omega
  have hmi : S.2.2.1 g < 10 := by have := sk.2.2.1 g hg4; omega
  have b1 : (¬ nI g < 0 ∧ nI g < nI L.2.2.2.2.2) = True := eq_true (inN_nI hg (by omega))
  have e9 : (nI m = 9) = (m = 9) := propext (nI_eq (by omega) (by decide))
  have b2 : m ≠ 9 → (¬ nI m < 0 ∧ nI m < nI L.2.2.2.2.1) = True := fun q => eq_true (inN_nI (hm.resolve_left q) (by omega))
  have eto : (if m = 9 then (-9 : Int32) else nI m) = toldF m := rfl
  have ett : (toldF (S.2.2.1 g) = toldF m) = (S.2.2.1 g = m) := by
    by_cases q9 : m = 9
    · subst q9
      exact told9 hmi
    · rw [show toldF m = nI m from if_neg q9]
      exact told_m hmi (by omega)
  obtain ⟨τ, e1, f1, g1⟩ := t155 h ok
  have sf2 : z_sf (fun p _ => p ≠ 81) τ (z_ui τ 81 (4 + g) (toldF m)) := sf_ui (fun q => q rfl)
  have fin : MF (z_ui τ 81 (4 + g) (toldF m)) L (miS S g m) (pushN hc) (pushH S hist) ∧ z_sf Qdo σ (z_ui τ 81 (4 + g) (toldF m)) := ⟨⟨D_sf f1.1 sf2 (by simp), r_mi f1.2.1 hN hg rfl, B_sf f1.2.2 sf2 (by simp) hN⟩, (g1.mono Qdo_83).tr (sf2.mono (fun p k q => q.1))⟩
  have t0 : toldF 9 = -9 := rfl
  by_cases q : S.2.2.1 g = m
  · rw [if_pos q]
    by_cases q9 : m = 9
    · have t1 : toldF (S.2.2.1 g) = -9 := by rw [q, q9]; rfl
      simp only [en158, e158_0, e158_1, e158_2, e158_5, e158_8, e158_9, e158_11, e158_14, e158_15, e158_16, e158_19, e158_22, e158_23, e158_24, e158_25, e158_27, e158_30, e158_32, e158_35, e158_36, e158_37, e158_38, e158_41, e158_42, e158_43, e158_44, e158_45, e158_47, e158_49, e158_50, e158_53, e158_55, e158_56, e158_57, e158_60, e158_61, e158_64, e158_65, e158_66, e158_67, e158_68, e158_69, e158_71, v76, s138 h.1 ok, z_bd_i, z_bd_l, z_bd_v, List.cons_append, List.nil_append, z_nk_i, z_nk_r, z_nk_n, v0, v1, v3, v19, v61, v71, v76, z_b_0, b1, not_true, if_false, e9, eq_true q9, if_true, g76_5, z4, g_iln an81 (show 4 + g < 16 by omega) (by decide), r0_mi h.2.1 hg, t1]
    · have t1 : toldF (S.2.2.1 g) = nI m := by rw [q]; exact if_neg q9
      simp only [en158, e158_0, e158_1, e158_2, e158_5, e158_8, e158_9, e158_11, e158_14, e158_15, e158_16, e158_19, e158_22, e158_23, e158_24, e158_25, e158_27, e158_30, e158_32, e158_35, e158_36, e158_37, e158_38, e158_41, e158_42, e158_43, e158_44, e158_45, e158_47, e158_49, e158_50, e158_53, e158_55, e158_56, e158_57, e158_60, e158_61, e158_64, e158_65, e158_66, e158_67, e158_68, e158_69, e158_71, v76, s138 h.1 ok, s139 h.1 ok, z_bd_i, z_bd_l, z_bd_v, List.cons_append, List.nil_append, z_nk_i, z_nk_r, z_nk_n, v0, v1, v3, v19, v61, v71, v76, z_b_0, b1, b2 q9, not_true, if_false, e9, eq_false q9, if_true, g76_5, z4, g_iln an81 (show 4 + g < 16 by omega) (by decide), r0_mi h.2.1 hg, t1]
  · rw [if_neg q]
    refine ⟨_, ?_, fin⟩
    by_cases q9 : m = 9
    · subst q9
      simp only [en158, e158_0, e158_1, e158_2, e158_5, e158_8, e158_9, e158_11, e158_14, e158_15, e158_16, e158_19, e158_22, e158_23, e158_24, e158_25, e158_27, e158_30, e158_32, e158_35, e158_36, e158_37, e158_38, e158_41, e158_42, e158_43, e158_44, e158_45, e158_47, e158_49, e158_50, e158_53, e158_55, e158_56, e158_57, e158_60, e158_61, e158_64, e158_65, e158_66, e158_67, e158_68, e158_69, e158_71, v76, s138 h.1 ok, z_bd_i, z_bd_l, z_bd_v, List.cons_append, List.nil_append, z_nk_i, z_nk_r, z_nk_n, v0, v1, v3, v19, v61, v71, v76, z_b_0, b1, not_true, if_false, e9, if_true, g76_5, z4, g_iln an81 (show 4 + g < 16 by omega) (by decide), r0_mi h.2.1 hg, told9 hmi, eq_false q, e1, g_isn an81 (show 4 + g < 16 by omega) (by decide), t0]
    · have t1 : toldF m = nI m := if_neg q9
      simp only [en158, e158_0, e158_1, e158_2, e158_5, e158_8, e158_9, e158_11, e158_14, e158_15, e158_16, e158_19, e158_22, e158_23, e158_24, e158_25, e158_27, e158_30, e158_32, e158_35, e158_36, e158_37, e158_38, e158_41, e158_42, e158_43, e158_44, e158_45, e158_47, e158_49, e158_50, e158_53, e158_55, e158_56, e158_57, e158_60, e158_61, e158_64, e158_65, e158_66, e158_67, e158_68, e158_69, e158_71, v76, s138 h.1 ok, s139 h.1 ok, z_bd_i, z_bd_l, z_bd_v, List.cons_append, List.nil_append, z_nk_i, z_nk_r, z_nk_n, v0, v1, v3, v19, v61, v71, v76, z_b_0, b1, b2 q9, not_true, if_false, e9, eq_false q9, if_true, g76_5, z4, g_iln an81 (show 4 + g < 16 by omega) (by decide), r0_mi h.2.1 hg, told_m hmi (show m < 9 by omega), eq_false q, e1, g_isn an81 (show 4 + g < 16 by omega) (by decide), t1]
theorem s158b (hD : D_at σ L) (ok : L_ok L) {g m : Int32} (hb : ¬ ((¬ g < 0 ∧ g < nI L.2.2.2.2.2) ∧ (m = 9 ∨ (¬ m < 0 ∧ m < nI L.2.2.2.2.1)))) : z_call 158 [.ref 76, .int g, .int m] (z_enc σ) = some (some (.int (-1)), z_enc σ) := by
  by_cases h1 : ¬ g < 0 ∧ g < nI L.2.2.2.2.2
  · have h2 : ¬ m = 9 := fun q => hb ⟨h1, Or.inl q⟩
    have h3 : ¬ (¬ m < 0 ∧ m < nI L.2.2.2.2.1) := fun q => hb ⟨h1, Or.inr q⟩
    simp only [en158, e158_0, e158_1, e158_2, e158_5, e158_8, e158_9, e158_11, e158_14, e158_15, e158_16, e158_19, e158_22, e158_23, e158_24, e158_25, e158_27, e158_30, e158_32, e158_35, e158_36, e158_37, e158_38, e158_41, e158_42, e158_43, e158_44, e158_45, e158_47, e158_49, e158_50, e158_53, e158_55, e158_56, e158_57, e158_60, e158_61, e158_64, e158_65, e158_66, e158_67, e158_68, e158_69, e158_71, v76, s138 hD ok, s139 hD ok, z_bd_i, z_bd_l, z_bd_v, List.cons_append, List.nil_append, z_nk_i, z_nk_r, z_nk_n, v0, v1, v3, v19, v61, v71, v76, z_b_0, eq_true h1, not_true, if_false, eq_false h2, eq_false h3, not_false_iff, if_true]
  · simp only [en158, e158_0, e158_1, e158_2, e158_5, e158_8, e158_9, e158_11, e158_14, e158_15, e158_16, e158_19, e158_22, e158_23, e158_24, e158_25, e158_27, e158_30, e158_32, e158_35, e158_36, e158_37, e158_38, e158_41, e158_42, e158_43, e158_44, e158_45, e158_47, e158_49, e158_50, e158_53, e158_55, e158_56, e158_57, e158_60, e158_61, e158_64, e158_65, e158_66, e158_67, e158_68, e158_69, e158_71, v76, s138 hD ok, z_bd_i, z_bd_l, z_bd_v, List.cons_append, List.nil_append, z_nk_i, z_nk_r, z_nk_n, v0, v1, v3, v19, v61, v71, v76, z_b_0, eq_false h1, not_false_iff, if_true]
theorem s159 (h : MF σ L S hc hist) (ok : L_ok L) (sk : S_ok S) {g x : Nat} (hg : g < L.2.2.2.2.2) (hx : x < 2) :
    if (if S.2.2.2.1.testBit g = true then 1 else 0) = x then z_call 159 [.ref 76, .int (nI g), .int (nI x)] (z_enc σ) = some (some (.int (-2)), z_enc σ)
    else ∃ τ, z_call 159 [.ref 76, .int (nI g), .int (nI x)] (z_enc σ) = some (some (.int (nI (ones4 (S.2.2.2.1 ^^^ 2 ^ g)))), z_enc τ) ∧ MF τ L (mirS S (S.2.2.2.1 ^^^ 2 ^ g)) (pushN hc) (pushH S hist) ∧ z_sf Qdo σ τ := by
  have hN := ok.2.2.2.2
  have hg4 : g < 4 := by omega
  have b1 : (¬ nI g < 0 ∧ nI g < nI L.2.2.2.2.2) = True := eq_true (inN_nI hg (by omega))
  have b2 : (¬ nI x < 0 ∧ ¬ (1 : Int32) < nI x) = True := eq_true ⟨nI_pos (by omega), nI_nlt (a := 1) (b := x) (by omega) (by decide)⟩
  have i8 : ∀ (σ : z_G) (K : Int32 → Option z_O), z_il1 (z_enc σ) 81 8 K = K (σ.1 81 8) := fun σ K => g_iln (k := 8) an81 (by decide) (by decide)
  have j8 : ∀ (σ : z_G) (x : Int32) (K : z_H → Option z_O), z_is1 (z_enc σ) 81 8 x K = K (z_enc (z_ui σ 81 8 x)) := fun σ x K => g_isn (k := 8) an81 (by decide) (by decide)
  obtain ⟨x1, x2⟩ := xor_ok _ sk.2.2.2.1 g hg4
  obtain ⟨τ, e1, f1, g1⟩ := t155 h ok
  have sf2 : z_sf (fun p _ => p ≠ 81) τ (z_ui τ 81 8 (nI (S.2.2.2.1 ^^^ 2 ^ g))) := sf_ui (fun q => q rfl)
  by_cases q : (if S.2.2.2.1.testBit g = true then 1 else 0) = x
  · rw [if_pos q]
    simp only [en159, e159_0, e159_1, e159_2, e159_5, e159_8, e159_9, e159_10, e159_11, e159_14, e159_17, e159_18, e159_19, e159_20, e159_23, e159_25, e159_26, e159_27, e159_28, e159_29, e159_30, e159_31, e159_34, e159_36, e159_37, e159_38, e159_41, e159_42, e159_45, e159_47, e159_48, e159_49, e159_50, e159_51, e159_52, e159_53, e159_54, e159_55, e159_58, e159_60, e159_61, e159_64, v76, s138 h.1 ok, z_bd_i, z_bd_l, z_bd_v, List.cons_append, List.nil_append, z_nk_i, z_nk_r, z_nk_n, v0, v1, v3, v19, v61, v71, v76, z_b_0, b1, not_true, if_false, s115, b2, g76_5, i8, r0_mir h.2.1, bit4 _ sk.2.2.2.1 g hg4, zb_eq _ hx, eq_true q, if_true]
  · rw [if_neg q]
    refine ⟨z_ui τ 81 8 (nI (S.2.2.2.1 ^^^ 2 ^ g)), ?_, ⟨D_sf f1.1 sf2 (by simp), r_mir f1.2.1 hN, B_sf f1.2.2 sf2 (by simp) hN⟩, (g1.mono Qdo_83).tr (sf2.mono (fun p k q => q.1))⟩
    have e8 : (z_ui τ 81 8 (nI (S.2.2.2.1 ^^^ 2 ^ g))).1 81 8 = nI (S.2.2.2.1 ^^^ 2 ^ g) := z_ui_eq
    simp only [en159, e159_0, e159_1, e159_2, e159_5, e159_8, e159_9, e159_10, e159_11, e159_14, e159_17, e159_18, e159_19, e159_20, e159_23, e159_25, e159_26, e159_27, e159_28, e159_29, e159_30, e159_31, e159_34, e159_36, e159_37, e159_38, e159_41, e159_42, e159_45, e159_47, e159_48, e159_49, e159_50, e159_51, e159_52, e159_53, e159_54, e159_55, e159_58, e159_60, e159_61, e159_64, v76, s138 h.1 ok, z_bd_i, z_bd_l, z_bd_v, List.cons_append, List.nil_append, z_nk_i, z_nk_r, z_nk_n, v0, v1, v3, v19, v61, v71, v76, z_b_0, b1, not_true, if_false, s115, b2, g76_5, i8, r0_mir h.2.1, r0_mir f1.2.1, bit4 _ sk.2.2.2.1 g hg4, zb_eq _ hx, eq_false q, e1, sh1 g (by omega), x1, j8, e8, s117b x2]
theorem s159b (hD : D_at σ L) (ok : L_ok L) {g x : Int32} (hb : ¬ ((¬ g < 0 ∧ g < nI L.2.2.2.2.2) ∧ ¬ x < 0 ∧ ¬ 1 < x)) : z_call 159 [.ref 76, .int g, .int x] (z_enc σ) = some (some (.int (-1)), z_enc σ) := by
  by_cases h1 : ¬ g < 0 ∧ g < nI L.2.2.2.2.2
  · have h2 : ¬ (¬ x < 0 ∧ ¬ 1 < x) := fun q => hb ⟨h1, q⟩
    simp only [en159, e159_0, e159_1, e159_2, e159_5, e159_8, e159_9, e159_10, e159_11, e159_14, e159_17, e159_18, e159_19, e159_20, e159_23, e159_25, e159_26, e159_27, e159_28, e159_29, e159_30, e159_31, e159_34, e159_36, e159_37, e159_38, e159_41, e159_42, e159_45, e159_47, e159_48, e159_49, e159_50, e159_51, e159_52, e159_53, e159_54, e159_55, e159_58, e159_60, e159_61, e159_64, v76, s138 hD ok, z_bd_i, z_bd_l, z_bd_v, List.cons_append, List.nil_append, z_nk_i, z_nk_r, z_nk_n, v0, v1, v3, v19, v61, v71, v76, z_b_0, eq_true h1, not_true, if_false, s115, eq_false h2, not_false_iff, if_true]
  · simp only [en159, e159_0, e159_1, e159_2, e159_5, e159_8, e159_9, e159_10, e159_11, e159_14, e159_17, e159_18, e159_19, e159_20, e159_23, e159_25, e159_26, e159_27, e159_28, e159_29, e159_30, e159_31, e159_34, e159_36, e159_37, e159_38, e159_41, e159_42, e159_45, e159_47, e159_48, e159_49, e159_50, e159_51, e159_52, e159_53, e159_54, e159_55, e159_58, e159_60, e159_61, e159_64, v76, s138 hD ok, z_bd_i, z_bd_l, z_bd_v, List.cons_append, List.nil_append, z_nk_i, z_nk_r, z_nk_n, v0, v1, v3, v19, v61, v71, v76, z_b_0, eq_false h1, not_false_iff, if_true]
end MDONE
