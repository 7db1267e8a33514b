/-! the reference: leads, undo -/
section MLEAD
variable {σ : z_G} {L : t_L} {S : t_S} {hc : Nat} {hist : Nat → t_S}
theorem s160 (h : MF σ L S hc hist) (ok : L_ok L) (sk : S_ok S) {g s : Nat} (hg : g < L.2.2.2.2.2) (hs : s < 4) :
    match leadR L S g s with
    | none => ∃ τ, z_call 160 [.ref 76, .int (nI g), .int (nI s)] (z_enc σ) = some (some (.int (-2)), z_enc τ) ∧ MF τ L S hc hist ∧ z_sf Qdo σ τ
    | some d => ∃ τ, z_call 160 [.ref 76, .int (nI g), .int (nI s)] (z_enc σ) = some (some (.int (nI (tn d))), z_enc τ) ∧ MF τ L (entF L S g d) (pushN hc) (pushH S hist) ∧ z_sf Qdo σ τ := by
  have hN := ok.2.2.2.2
  have hg4 : g < 4 := by omega
  have hmi : S.2.2.1 g < 10 := by have := sk.2.2.1 g hg4; omega
  have b1 : (¬ nI g < 0 ∧ nI g < nI L.2.2.2.2.2) = True := eq_true (inN_nI hg (by omega))
  have b2 : (¬ nI s < 0 ∧ ¬ (3 : Int32) < nI s) = True := eq_true ⟨nI_pos (by omega), nI_nlt (a := 3) (b := s) (by omega) (by decide)⟩
  have hr := sk.2.1 g hg4
  have ho : ∀ c, besF L (S.2.1 g) s = some c → c < 64 ∧ insF L c = true := fun c e => bes_lt hr ok e
  have sfa : z_sf (fun p _ => p ≠ 82) σ (cpF σ 82 0 81 0 16) := sf_cp (fun j _ _ q => q rfl)
  have hRa : R_at (cpF σ 82 0 81 0 16) 82 0 L.2.2.2.2.2 S := R_cp h.2.1 hN
  have ha : MF (cpF σ 82 0 81 0 16) L S hc hist := MF_sf h sfa (by simp) hN
  have i9 : ∀ (σ : z_G) (K : Int32 → Option z_O), z_il1 (z_enc σ) 81 9 K = K (σ.1 81 9) := fun σ K => g_iln (k := 9) an81 (by decide) (by decide)
  have none_case : ∀ X : Prop, X → X := fun _ x => x
  unfold leadR
  by_cases g1 : S.2.2.1 g = 9
  · by_cases g2 : S.2.2.2.2.1.testBit g = true
    · simp only [g2, Bool.true_eq_false, false_and, and_false, if_false]
      refine ⟨_, ?_, ha, sfa.mono (fun p k q => q.2.1)⟩
      simp only [en160, e160_0, e160_1, e160_2, e160_5, e160_8, e160_9, e160_10, e160_11, e160_14, e160_17, e160_18, e160_19, e160_20, e160_23, e160_24, e160_25, e160_28, e160_29, e160_30, e160_31, e160_34, e160_35, e160_36, e160_39, e160_40, e160_41, e160_42, e160_43, e160_45, e160_48, e160_49, e160_52, e160_54, e160_55, e160_56, e160_59, e160_62, e160_63, e160_64, e160_67, e160_70, e160_72, e160_73, e160_74, e160_77, e160_78, e160_79, e160_80, e160_83, e160_84, e160_87, e160_89, e160_90, e160_91, e160_92, e160_93, e160_96, e160_97, e160_100, e160_101, e160_104, e160_106, e160_107, e160_108, e160_111, e160_114, e160_115, e160_116, e160_117, e160_120, e160_121, e160_122, e160_123, e160_124, e160_127, e160_128, e160_131, v76, s138 h.1 ok, z_bd_i, z_bd_l, z_bd_v, List.cons_append, List.nil_append, z_nk_i, z_nk_r, z_nk_n, v0, v1, v3, v19, v61, v71, v76, z_b_0, b1, b2, not_true, if_false, s115, s140, g76_5, g_iln an81 (show g < 16 by omega) (by decide), r0_rc ha.2.1 hg4, s136 ha.1 ok hr hs, z4, g_iln an81 (show 4 + g < 16 by omega) (by decide), r0_mi ha.2.1 hg, told9 hmi, eq_true g1, i9, r0_dn ha.2.1, s116 sk.2.2.2.2.1 hg4, eq_true g2, not_false_iff, if_true]
    · have g2f : S.2.2.2.2.1.testBit g = false := by simpa using g2
      by_cases g3 : mayO L S (besF L (S.2.1 g) s) true = true
      · cases hb : besF L (S.2.1 g) s with
        | none => rw [hb] at g3; cases g3
        | some d =>
          obtain ⟨hd, hi⟩ := ho d hb
          have m143 := s143 ha.1 hRa ok sk ho
          rw [hb] at g3 m143
          simp only [z_n] at m143
          simp only [g1, g2f, g3, and_self, if_true]
          obtain ⟨τ1, e1, f1, q1⟩ := t155 ha ok
          have hR1 : R_at τ1 82 0 L.2.2.2.2.2 S := R_sf hRa q1 (fun k _ => by unfold Q83; omega) hN
          obtain ⟨τ2, e2, f2, q2⟩ := s145 hR1 hN hg4 hd
          have ha2 : MF τ2 L S (pushN hc) (pushH S hist) := MF_sf f1 q2 (by simp) hN
          have hw : wallF L d = false := by
            have c2 : mayF L S d true = true := g3
            unfold mayF at c2
            simp only [Bool.and_eq_true, Bool.not_eq_true'] at c2
            exact c2.1.1.2
          have j9 : ∀ (σ : z_G) (x : Int32) (K : z_H → Option z_O), z_is1 (z_enc σ) 82 9 x K = K (z_enc (z_ui σ 82 9 x)) := fun σ x K => g_isn (k := 9) an82 (by decide) (by decide)
          have i9b : ∀ (σ : z_G) (K : Int32 → Option z_O), z_il1 (z_enc σ) 82 9 K = K (σ.1 82 9) := fun σ K => g_iln (k := 9) an82 (by decide) (by decide)
          have i8b : ∀ (σ : z_G) (K : Int32 → Option z_O), z_il1 (z_enc σ) 82 8 K = K (σ.1 82 8) := fun σ K => g_iln (k := 8) an82 (by decide) (by decide)
          have z0 : nI S.2.2.2.2.1 ||| (0 : Int32) = nI S.2.2.2.2.1 := by
            rw [show (0 : Int32) = nI 0 from rfl, z_orI, Nat.or_zero]
          have d9 : τ2.1 82 9 = nI S.2.2.2.2.1 := by have e := r0_dn f2; exact e
          have d8 : τ2.1 82 8 = nI S.2.2.2.1 := by have e := r0_mir f2; exact e
          -- the row aside behind it
          have hx : ∃ dx, (dnS (knS (rcS S g d) (S.2.2.2.2.2 ||| 2 ^ d)) dx) = entF L S g d ∧ ((foldF L d = true ∧ ¬ S.2.2.2.1.testBit g = true ∧ dx = S.2.2.2.2.1 ||| 2 ^ g) ∨ ((foldF L d = false ∨ S.2.2.2.1.testBit g = true) ∧ dx = S.2.2.2.2.1)) := by
            unfold entF
            by_cases c1 : foldF L d = true ∧ S.2.2.2.1.testBit g = false
            · refine ⟨_, ?_, Or.inl ⟨c1.1, ?_, rfl⟩⟩
              · simp only [hi, c1, and_self, if_true]
              · rw [c1.2]; decide
            · refine ⟨S.2.2.2.2.1, ?_, Or.inr ⟨?_, rfl⟩⟩
              · rw [if_neg (fun q => c1 q.2)]
                rfl
              · by_cases c2 : foldF L d = true
                · refine Or.inr ?_
                  apply Classical.byContradiction
                  intro c3
                  exact c1 ⟨c2, by simpa using c3⟩
                · exact Or.inl (by simpa using c2)
          obtain ⟨dx, x1, x2⟩ := hx
          have f3 : R_at (z_ui τ2 82 9 (nI dx)) 82 0 L.2.2.2.2.2 (entF L S g d) := by rw [← x1]; exact r_dn f2 hN
          have sf3 : z_sf (fun p _ => p ≠ 82) τ2 (z_ui τ2 82 9 (nI dx)) := sf_ui (fun q => q rfl)
          have ha3 : MF (z_ui τ2 82 9 (nI dx)) L S (pushN hc) (pushH S hist) := MF_sf ha2 sf3 (by simp) hN
          have sf4 : z_sf (fun p _ => p ≠ 81) (z_ui τ2 82 9 (nI dx)) (cpF (z_ui τ2 82 9 (nI dx)) 81 0 82 0 16) := sf_cp (fun j _ _ q => q rfl)
          refine ⟨cpF (z_ui τ2 82 9 (nI dx)) 81 0 82 0 16, ?_, ⟨D_sf ha3.1 sf4 (by simp), R_cp f3 hN, B_sf ha3.2.2 sf4 (by simp) hN⟩, (sfa.mono (fun p k q => q.2.1)).tr ((q1.mono Qdo_83).tr ((q2.mono (fun p k q => q.2.1)).tr ((sf3.mono (fun p k q => q.2.1)).tr (sf4.mono (fun p k q => q.1)))))⟩
          rcases x2 with ⟨x2, x3, x4⟩ | ⟨x2, x4⟩
          · subst x4
            simp only [en160, e160_0, e160_1, e160_2, e160_5, e160_8, e160_9, e160_10, e160_11, e160_14, e160_17, e160_18, e160_19, e160_20, e160_23, e160_24, e160_25, e160_28, e160_29, e160_30, e160_31, e160_34, e160_35, e160_36, e160_39, e160_40, e160_41, e160_42, e160_43, e160_45, e160_48, e160_49, e160_52, e160_54, e160_55, e160_56, e160_59, e160_62, e160_63, e160_64, e160_67, e160_70, e160_72, e160_73, e160_74, e160_77, e160_78, e160_79, e160_80, e160_83, e160_84, e160_87, e160_89, e160_90, e160_91, e160_92, e160_93, e160_96, e160_97, e160_100, e160_101, e160_104, e160_106, e160_107, e160_108, e160_111, e160_114, e160_115, e160_116, e160_117, e160_120, e160_121, e160_122, e160_123, e160_124, e160_127, e160_128, e160_131, v76, s138 h.1 ok, z_bd_i, z_bd_l, z_bd_v, List.cons_append, List.nil_append, z_nk_i, z_nk_r, z_nk_n, v0, v1, v3, v19, v61, v71, v76, z_b_0, b1, b2, not_true, if_false, s115, s140, g76_5, g76_6, g_iln an81 (show g < 16 by omega) (by decide), r0_rc ha.2.1 hg4, s136 ha.1 ok hr hs, hb, z_n, z4, g_iln an81 (show 4 + g < 16 by omega) (by decide), r0_mi ha.2.1 hg, told9 hmi, eq_true g1, i9, r0_dn ha.2.1, s116 sk.2.2.2.2.1 hg4, eq_false g2, not_false_iff, if_true, m143, g3, e1, e2, i9b, d9, s137 ha2.1 hd, k1, hw, x2, and_self, i8b, d8, s116 sk.2.2.2.1 hg4, eq_false x3, sh1 g (by omega), z_orI, j9, s141, s132 hd]
          · subst x4
            rcases x2 with x2 | x2
            · simp only [en160, e160_0, e160_1, e160_2, e160_5, e160_8, e160_9, e160_10, e160_11, e160_14, e160_17, e160_18, e160_19, e160_20, e160_23, e160_24, e160_25, e160_28, e160_29, e160_30, e160_31, e160_34, e160_35, e160_36, e160_39, e160_40, e160_41, e160_42, e160_43, e160_45, e160_48, e160_49, e160_52, e160_54, e160_55, e160_56, e160_59, e160_62, e160_63, e160_64, e160_67, e160_70, e160_72, e160_73, e160_74, e160_77, e160_78, e160_79, e160_80, e160_83, e160_84, e160_87, e160_89, e160_90, e160_91, e160_92, e160_93, e160_96, e160_97, e160_100, e160_101, e160_104, e160_106, e160_107, e160_108, e160_111, e160_114, e160_115, e160_116, e160_117, e160_120, e160_121, e160_122, e160_123, e160_124, e160_127, e160_128, e160_131, v76, s138 h.1 ok, z_bd_i, z_bd_l, z_bd_v, List.cons_append, List.nil_append, z_nk_i, z_nk_r, z_nk_n, v0, v1, v3, v19, v61, v71, v76, z_b_0, b1, b2, not_true, if_false, s115, s140, g76_5, g76_6, g_iln an81 (show g < 16 by omega) (by decide), r0_rc ha.2.1 hg4, s136 ha.1 ok hr hs, hb, z_n, z4, g_iln an81 (show 4 + g < 16 by omega) (by decide), r0_mi ha.2.1 hg, told9 hmi, eq_true g1, i9, r0_dn ha.2.1, s116 sk.2.2.2.2.1 hg4, eq_false g2, not_false_iff, if_true, m143, g3, e1, e2, i9b, d9, s137 ha2.1 hd, k1, hw, x2, Bool.false_eq_true, and_false, z0, j9, s141, s132 hd]
            · by_cases x5 : foldF L d = true
              · simp only [en160, e160_0, e160_1, e160_2, e160_5, e160_8, e160_9, e160_10, e160_11, e160_14, e160_17, e160_18, e160_19, e160_20, e160_23, e160_24, e160_25, e160_28, e160_29, e160_30, e160_31, e160_34, e160_35, e160_36, e160_39, e160_40, e160_41, e160_42, e160_43, e160_45, e160_48, e160_49, e160_52, e160_54, e160_55, e160_56, e160_59, e160_62, e160_63, e160_64, e160_67, e160_70, e160_72, e160_73, e160_74, e160_77, e160_78, e160_79, e160_80, e160_83, e160_84, e160_87, e160_89, e160_90, e160_91, e160_92, e160_93, e160_96, e160_97, e160_100, e160_101, e160_104, e160_106, e160_107, e160_108, e160_111, e160_114, e160_115, e160_116, e160_117, e160_120, e160_121, e160_122, e160_123, e160_124, e160_127, e160_128, e160_131, v76, s138 h.1 ok, z_bd_i, z_bd_l, z_bd_v, List.cons_append, List.nil_append, z_nk_i, z_nk_r, z_nk_n, v0, v1, v3, v19, v61, v71, v76, z_b_0, b1, b2, not_true, if_false, s115, s140, g76_5, g76_6, g_iln an81 (show g < 16 by omega) (by decide), r0_rc ha.2.1 hg4, s136 ha.1 ok hr hs, hb, z_n, z4, g_iln an81 (show 4 + g < 16 by omega) (by decide), r0_mi ha.2.1 hg, told9 hmi, eq_true g1, i9, r0_dn ha.2.1, s116 sk.2.2.2.2.1 hg4, eq_false g2, not_false_iff, if_true, m143, g3, e1, e2, i9b, d9, s137 ha2.1 hd, k1, hw, x5, and_self, i8b, d8, s116 sk.2.2.2.1 hg4, eq_true x2, z0, j9, s141, s132 hd]
              · simp only [en160, e160_0, e160_1, e160_2, e160_5, e160_8, e160_9, e160_10, e160_11, e160_14, e160_17, e160_18, e160_19, e160_20, e160_23, e160_24, e160_25, e160_28, e160_29, e160_30, e160_31, e160_34, e160_35, e160_36, e160_39, e160_40, e160_41, e160_42, e160_43, e160_45, e160_48, e160_49, e160_52, e160_54, e160_55, e160_56, e160_59, e160_62, e160_63, e160_64, e160_67, e160_70, e160_72, e160_73, e160_74, e160_77, e160_78, e160_79, e160_80, e160_83, e160_84, e160_87, e160_89, e160_90, e160_91, e160_92, e160_93, e160_96, e160_97, e160_100, e160_101, e160_104, e160_106, e160_107, e160_108, e160_111, e160_114, e160_115, e160_116, e160_117, e160_120, e160_121, e160_122, e160_123, e160_124, e160_127, e160_128, e160_131, v76, s138 h.1 ok, z_bd_i, z_bd_l, z_bd_v, List.cons_append, List.nil_append, z_nk_i, z_nk_r, z_nk_n, v0, v1, v3, v19, v61, v71, v76, z_b_0, b1, b2, not_true, if_false, s115, s140, g76_5, g76_6, g_iln an81 (show g < 16 by omega) (by decide), r0_rc ha.2.1 hg4, s136 ha.1 ok hr hs, hb, z_n, z4, g_iln an81 (show 4 + g < 16 by omega) (by decide), r0_mi ha.2.1 hg, told9 hmi, eq_true g1, i9, r0_dn ha.2.1, s116 sk.2.2.2.2.1 hg4, eq_false g2, not_false_iff, if_true, m143, g3, e1, e2, i9b, d9, s137 ha2.1 hd, k1, hw, eq_false x5, and_false, z0, j9, s141, s132 hd]
      · simp only [eq_false g3, and_false, if_false]
        refine ⟨_, ?_, ha, sfa.mono (fun p k q => q.2.1)⟩
        simp only [en160, e160_0, e160_1, e160_2, e160_5, e160_8, e160_9, e160_10, e160_11, e160_14, e160_17, e160_18, e160_19, e160_20, e160_23, e160_24, e160_25, e160_28, e160_29, e160_30, e160_31, e160_34, e160_35, e160_36, e160_39, e160_40, e160_41, e160_42, e160_43, e160_45, e160_48, e160_49, e160_52, e160_54, e160_55, e160_56, e160_59, e160_62, e160_63, e160_64, e160_67, e160_70, e160_72, e160_73, e160_74, e160_77, e160_78, e160_79, e160_80, e160_83, e160_84, e160_87, e160_89, e160_90, e160_91, e160_92, e160_93, e160_96, e160_97, e160_100, e160_101, e160_104, e160_106, e160_107, e160_108, e160_111, e160_114, e160_115, e160_116, e160_117, e160_120, e160_121, e160_122, e160_123, e160_124, e160_127, e160_128, e160_131, v76, s138 h.1 ok, z_bd_i, z_bd_l, z_bd_v, List.cons_append, List.nil_append, z_nk_i, z_nk_r, z_nk_n, v0, v1, v3, v19, v61, v71, v76, z_b_0, b1, b2, not_true, if_false, s115, s140, g76_5, g_iln an81 (show g < 16 by omega) (by decide), r0_rc ha.2.1 hg4, s136 ha.1 ok hr hs, z4, g_iln an81 (show 4 + g < 16 by omega) (by decide), r0_mi ha.2.1 hg, told9 hmi, eq_true g1, i9, r0_dn ha.2.1, s116 sk.2.2.2.2.1 hg4, eq_false g2, not_false_iff, if_true, s143 ha.1 hRa ok sk ho, eq_false g3]
  · simp only [g1, false_and, if_false]
    refine ⟨_, ?_, ha, sfa.mono (fun p k q => q.2.1)⟩
    simp only [en160, e160_0, e160_1, e160_2, e160_5, e160_8, e160_9, e160_10, e160_11, e160_14, e160_17, e160_18, e160_19, e160_20, e160_23, e160_24, e160_25, e160_28, e160_29, e160_30, e160_31, e160_34, e160_35, e160_36, e160_39, e160_40, e160_41, e160_42, e160_43, e160_45, e160_48, e160_49, e160_52, e160_54, e160_55, e160_56, e160_59, e160_62, e160_63, e160_64, e160_67, e160_70, e160_72, e160_73, e160_74, e160_77, e160_78, e160_79, e160_80, e160_83, e160_84, e160_87, e160_89, e160_90, e160_91, e160_92, e160_93, e160_96, e160_97, e160_100, e160_101, e160_104, e160_106, e160_107, e160_108, e160_111, e160_114, e160_115, e160_116, e160_117, e160_120, e160_121, e160_122, e160_123, e160_124, e160_127, e160_128, e160_131, v76, s138 h.1 ok, z_bd_i, z_bd_l, z_bd_v, List.cons_append, List.nil_append, z_nk_i, z_nk_r, z_nk_n, v0, v1, v3, v19, v61, v71, v76, z_b_0, b1, b2, not_true, if_false, s115, s140, g76_5, g_iln an81 (show g < 16 by omega) (by decide), r0_rc ha.2.1 hg4, s136 ha.1 ok hr hs, z4, g_iln an81 (show 4 + g < 16 by omega) (by decide), r0_mi ha.2.1 hg, told9 hmi, eq_false g1, not_false_iff, if_true]
theorem s160b (hD : D_at σ L) (ok : L_ok L) {m s : Int32} (hb : ¬ ((¬ m < 0 ∧ m < nI L.2.2.2.2.2) ∧ (¬ s < 0 ∧ s < 4))) : z_call 160 [.ref 76, .int m, .int s] (z_enc σ) = some (some (.int (-1)), z_enc σ) := by
  rw [← i34] at hb
  by_cases h1 : ¬ m < 0 ∧ m < nI L.2.2.2.2.2
  · have h2 : ¬ (¬ s < 0 ∧ ¬ 3 < s) := fun q => hb ⟨h1, q⟩
    simp only [en160, e160_0, e160_1, e160_2, e160_5, e160_8, e160_9, e160_10, e160_11, e160_14, e160_17, e160_18, e160_19, e160_20, e160_23, e160_24, e160_25, e160_28, e160_29, e160_30, e160_31, e160_34, e160_35, e160_36, e160_39, e160_40, e160_41, e160_42, e160_43, e160_45, e160_48, e160_49, e160_52, e160_54, e160_55, e160_56, e160_59, e160_62, e160_63, e160_64, e160_67, e160_70, e160_72, e160_73, e160_74, e160_77, e160_78, e160_79, e160_80, e160_83, e160_84, e160_87, e160_89, e160_90, e160_91, e160_92, e160_93, e160_96, e160_97, e160_100, e160_101, e160_104, e160_106, e160_107, e160_108, e160_111, e160_114, e160_115, e160_116, e160_117, e160_120, e160_121, e160_122, e160_123, e160_124, e160_127, e160_128, e160_131, v76, s138 hD ok, z_bd_i, z_bd_l, z_bd_v, List.cons_append, List.nil_append, z_nk_i, z_nk_r, z_nk_n, v0, v1, v3, v19, v61, v71, v76, z_b_0, eq_true h1, not_true, if_false, s115, eq_false h2, not_false_iff, if_true]
  · simp only [en160, e160_0, e160_1, e160_2, e160_5, e160_8, e160_9, e160_10, e160_11, e160_14, e160_17, e160_18, e160_19, e160_20, e160_23, e160_24, e160_25, e160_28, e160_29, e160_30, e160_31, e160_34, e160_35, e160_36, e160_39, e160_40, e160_41, e160_42, e160_43, e160_45, e160_48, e160_49, e160_52, e160_54, e160_55, e160_56, e160_59, e160_62, e160_63, e160_64, e160_67, e160_70, e160_72, e160_73, e160_74, e160_77, e160_78, e160_79, e160_80, e160_83, e160_84, e160_87, e160_89, e160_90, e160_91, e160_92, e160_93, e160_96, e160_97, e160_100, e160_101, e160_104, e160_106, e160_107, e160_108, e160_111, e160_114, e160_115, e160_116, e160_117, e160_120, e160_121, e160_122, e160_123, e160_124, e160_127, e160_128, e160_131, v76, s138 hD ok, z_bd_i, z_bd_l, z_bd_v, List.cons_append, List.nil_append, z_nk_i, z_nk_r, z_nk_n, v0, v1, v3, v19, v61, v71, v76, z_b_0, eq_false h1, not_false_iff, if_true]
theorem l161 {u : Nat} (hu : u < 10) : ∀ d k (σ : z_G), d + k = 16 → σ.1 76 8 = nI u → z_r [] 0 0 161 22 [some (.ref 76), some (.int (nI k))] [] (z_enc (cpF σ 81 0 83 (16 * u) k)) = some (some (.int (nI u)), z_enc (cpF σ 81 0 83 (16 * u) 16)) := by
  intro d
  induction d with
  | zero =>
    intro k σ hk h8
    obtain rfl : k = 16 := by omega
    have b1 : (nI 16 < 16) = False := by decide
    have e8 : (cpF σ 81 0 83 (16 * u) 16).1 76 8 = nI u := (cp_out (by decide)).trans h8
    rw [e161_22]
    simp only [e161_0, e161_1, e161_4, e161_7, e161_9, e161_10, e161_11, e161_12, e161_15, e161_16, e161_17, e161_20, e161_21, e161_23, e161_25, e161_28, e161_29, e161_32, e161_33, e161_34, e161_37, e161_39, e161_40, e161_43, e161_44, e161_45, e161_46, e161_47, e161_48, e161_51, e161_54, e161_55, e161_58, b1, if_false, g76_8, e8]
  | succ d ih =>
    intro k σ hk h8
    have b1 : (nI k < 16) = True := eq_true (nI_lt (a := k) (b := 16) (by omega) (by decide))
    have e8 : (cpF σ 81 0 83 (16 * u) k).1 76 8 = nI u := (cp_out (by decide)).trans h8
    have e1 : (16 : Int32) * nI u + nI k = nI (16 * u + k) := by rw [show (16 : Int32) = nI 16 from rfl, pk_mul, nI_add]
    rw [e161_22]
    simp only [e161_0, e161_1, e161_4, e161_7, e161_9, e161_10, e161_11, e161_12, e161_15, e161_16, e161_17, e161_20, e161_21, e161_23, e161_25, e161_28, e161_29, e161_32, e161_33, e161_34, e161_37, e161_39, e161_40, e161_43, e161_44, e161_45, e161_46, e161_47, e161_48, e161_51, e161_54, e161_55, e161_58, b1, if_true, g76_7, g76_8, e8, e1, g76_5, g_iln an83 (show 16 * u + k < 160 by omega) (by decide), g_isn an81 (show k < 16 by omega) (by decide), cp_succ (show (83 : Nat) ≠ 81 by decide) (show k = 0 + k by omega) (show 16 * u + k = 16 * u + k from rfl), nI_1]
    exact ih (k + 1) σ (by omega) h8
theorem s161 (h : MF σ L S hc hist) (ok : L_ok L) : if hc = 0 then z_call 161 [.ref 76] (z_enc σ) = some (some (.int (-2)), z_enc σ) else ∃ τ, z_call 161 [.ref 76] (z_enc σ) = some (some (.int (nI (hc - 1))), z_enc τ) ∧ MF τ L (hist 0) (hc - 1) (fun j => hist (j + 1)) ∧ z_sf Qdo σ τ := by
  obtain ⟨hD, hR, h1, h2, h3⟩ := h
  have hN := ok.2.2.2.2
  by_cases q : hc = 0
  · rw [if_pos q]
    have e0 : (nI hc = 0) = True := eq_true (by rw [q]; rfl)
    simp only [en161, e161_0, e161_1, e161_4, e161_7, e161_9, e161_10, e161_11, e161_12, e161_15, e161_16, e161_17, e161_20, e161_21, e161_23, e161_25, e161_28, e161_29, e161_32, e161_33, e161_34, e161_37, e161_39, e161_40, e161_43, e161_44, e161_45, e161_46, e161_47, e161_48, e161_51, e161_54, e161_55, e161_58, g76_8, h2, e0, not_true, if_false, if_true]
  · rw [if_neg q]
    have e0 : (nI hc = 0) = False := eq_false (nz (by omega) q)
    have hm1 : nI hc - 1 = nI (hc - 1) := nI_dec (by omega)
    have sf1 : z_sf (fun p _ => p ≠ 76) σ (z_ui σ 76 8 (nI (hc - 1))) := sf_ui (fun q => q rfl)
    have sf2 : z_sf (fun p _ => p ≠ 81) (z_ui σ 76 8 (nI (hc - 1))) (cpF (z_ui σ 76 8 (nI (hc - 1))) 81 0 83 (16 * (hc - 1)) 16) := sf_cp (fun j _ _ q => q rfl)
    have r0 := h3 0 (by omega)
    rw [Nat.sub_zero] at r0
    refine ⟨cpF (z_ui σ 76 8 (nI (hc - 1))) 81 0 83 (16 * (hc - 1)) 16, ?_, ⟨D_sf (D_sf hD sf1 (by simp)) sf2 (by simp), R_cp (R_sf r0 sf1 (fun k _ => by decide) hN) hN, by omega, (cp_out (by decide)).trans z_ui_eq, fun j hj => ?_⟩, ?_⟩
    · have e := l161 (u := hc - 1) (by omega) 16 0 (z_ui σ 76 8 (nI (hc - 1))) rfl z_ui_eq
      rw [cp_0] at e
      simp only [en161, e161_0, e161_1, e161_4, e161_7, e161_9, e161_10, e161_11, e161_12, e161_15, e161_16, e161_17, e161_20, e161_21, e161_23, e161_25, e161_28, e161_29, e161_32, e161_33, e161_34, e161_37, e161_39, e161_40, e161_43, e161_44, e161_45, e161_46, e161_47, e161_48, e161_51, e161_54, e161_55, e161_58, g76_8, h2, e0, not_false_iff, if_true, hm1, p76_8]
      exact e
    · have r1 := h3 (j + 1) (by omega)
      rw [show hc - 1 - (j + 1) = hc - 1 - 1 - j by omega] at r1
      exact R_sf (R_sf r1 sf1 (fun k _ => by decide) hN) sf2 (fun k _ => by decide) hN
    · exact z_sf.tr (sf_ui (fun q => q.2.2.2 ⟨rfl, Or.inl rfl⟩)) (sf_cp (fun k _ _ q => q.1 rfl))
end MLEAD
