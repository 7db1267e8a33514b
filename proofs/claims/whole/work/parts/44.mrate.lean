/-! the reference: kinds, images, counts -/
section MRATE
variable {σ : z_G} {L : t_L} {S : t_S} {wn : Nat} {w : Nat → Nat × Nat × Nat} {kp hc : Nat} {img hist : Nat → t_S}
theorem R_ul {N : Nat} (hR : R_at σ 81 0 N S) (x : Int64) : R_at (z_ul σ 76 13 x) 81 0 N S := hR
theorem D_ul (hD : D_at σ L) (x : Int64) : D_at (z_ul σ 76 13 x) L := hD
theorem mul_ul (x y : Int64) : z_ul (z_ul σ 76 13 x) 76 13 y = z_ul σ 76 13 y := by
  unfold z_ul
  refine Prod.ext rfl (funext fun p => funext fun k => ?_)
  dsimp only
  split <;> rfl
theorem mul_9 (x : Int64) : (z_ul σ 76 13 x).2 76 13 = x := by simp [z_ul]
theorem s174 {N : Nat} (hR : R_at σ 81 0 N S) (sk : S_ok S) {g : Nat} (hg : g < 4) : z_call 174 [.ref 76, .int (nI g)] (z_enc σ) = some (some (.int (nI (xyF (S.2.1 g)))), z_enc (z_ul σ 76 13 (σ.2 76 13 + 1))) := by
  have hc := sk.2.1 g hg
  simp only [en174, e174_0, e174_1, e174_2, e174_5, e174_6, e174_7, e174_10, e174_11, e174_14, e174_15, e174_16, e174_18, e174_19, e174_20, e174_23, e174_24, e174_25, e174_27, e174_28, e174_29, g76_13, p76_13, g76_5, g_iln an81 (show g < 16 by omega) (by decide), r0_rc (R_ul hR _) hg, d_8, if_false, z8d hc, z8m hc, nI_add, xyF]
theorem s175 {N : Nat} (hR : R_at σ 81 0 N S) (sk : S_ok S) {g : Nat} (hg : g < N) (hN : N ≤ 4) : z_call 175 [.ref 76, .int (nI g)] (z_enc σ) = some (some (.int (nI (xyF (S.2.1 g) + distF S g))), z_enc (z_ul σ 76 13 (σ.2 76 13 + 10 + 1))) := by
  have hg4 : g < 4 := by omega
  have hc := sk.2.1 g hg4
  have hmi : S.2.2.1 g < 10 := by have := sk.2.2.1 g hg4; omega
  unfold distF
  by_cases q9 : S.2.2.1 g = 9
  · have z1 := sz_ok (S.2.1 g / 8) (by omega) (S.2.1 g / 8) (by omega)
    have z2 := sz_ok (S.2.1 g % 8) (by omega) (S.2.1 g % 8) (by omega)
    simp only [en175, e175_0, e175_1, e175_2, e175_5, e175_8, e175_9, e175_12, e175_13, e175_14, e175_17, e175_18, e175_19, e175_22, e175_23, e175_24, e175_25, e175_26, e175_28, e175_31, e175_32, e175_35, e175_36, e175_37, e175_40, e175_41, e175_44, e175_46, e175_47, e175_50, e175_51, e175_52, e175_53, e175_54, e175_55, e175_56, e175_57, e175_58, e175_59, e175_62, e175_63, e175_64, e175_66, e175_67, e175_68, e175_70, e175_71, e175_72, e175_75, e175_76, e175_77, e175_80, e175_81, e175_82, e175_84, e175_85, e175_86, e175_88, e175_89, e175_90, e175_93, e175_94, g76_13, p76_13, v76, s174 (R_ul hR _) sk hg4, mul_9, mul_ul, z_bd_i, z_bd_l, z_bd_v, List.cons_append, List.nil_append, z_nk_i, z_nk_r, z_nk_n, v0, v1, v3, v19, v61, v71, v76, g76_5, z4, g_iln an81 (show 4 + g < 16 by omega) (by decide), r0_mi (R_ul hR _) hg, told9 hmi, eq_true q9, not_true, if_false, if_true, g_iln an81 (show g < 16 by omega) (by decide), r0_rc (R_ul hR _) hg4, d_8, z8d hc, z8m hc, s146, z1, z2, nI_add]
    rw [show xyF (S.2.1 g) + (S.2.1 g / 8 - S.2.1 g / 8 + (S.2.1 g / 8 - S.2.1 g / 8)) + (S.2.1 g % 8 - S.2.1 g % 8 + (S.2.1 g % 8 - S.2.1 g % 8)) = xyF (S.2.1 g) + 0 by omega]
  · have hm4 : S.2.2.1 g < 4 := by have := sk.2.2.1 g hg4; omega
    have et : toldF (S.2.2.1 g) = nI (S.2.2.1 g) := if_neg q9
    have hd := sk.1 _ hm4
    have t9 : (nI (S.2.2.1 g) = -9) = False := m_9 (by omega)
    have z1 := sz_ok (S.2.1 g / 8) (by omega) (S.1 (S.2.2.1 g) / 8) (by omega)
    have z2 := sz_ok (S.2.1 g % 8) (by omega) (S.1 (S.2.2.1 g) % 8) (by omega)
    simp only [en175, e175_0, e175_1, e175_2, e175_5, e175_8, e175_9, e175_12, e175_13, e175_14, e175_17, e175_18, e175_19, e175_22, e175_23, e175_24, e175_25, e175_26, e175_28, e175_31, e175_32, e175_35, e175_36, e175_37, e175_40, e175_41, e175_44, e175_46, e175_47, e175_50, e175_51, e175_52, e175_53, e175_54, e175_55, e175_56, e175_57, e175_58, e175_59, e175_62, e175_63, e175_64, e175_66, e175_67, e175_68, e175_70, e175_71, e175_72, e175_75, e175_76, e175_77, e175_80, e175_81, e175_82, e175_84, e175_85, e175_86, e175_88, e175_89, e175_90, e175_93, e175_94, g76_13, p76_13, v76, s174 (R_ul hR _) sk hg4, mul_9, mul_ul, z_bd_i, z_bd_l, z_bd_v, List.cons_append, List.nil_append, z_nk_i, z_nk_r, z_nk_n, v0, v1, v3, v19, v61, v71, v76, g76_5, z4, g_iln an81 (show 4 + g < 16 by omega) (by decide), r0_mi (R_ul hR _) hg, et, t9, not_false_iff, if_false, if_true, z12, g_iln an81 (show 12 + S.2.2.1 g < 16 by omega) (by decide), r0_mc (R_ul hR _) hm4, g_iln an81 (show g < 16 by omega) (by decide), r0_rc (R_ul hR _) hg4, d_8, z8d hc, z8m hc, z8d hd, z8m hd, s146, z1, z2, nI_add, eq_false q9]
    rw [Nat.add_assoc]
    rfl
theorem s176 {N : Nat} (hR : R_at σ 81 0 N S) (sk : S_ok S) {g : Nat} (hg : g < 4) : z_call 176 [.ref 76, .int (nI g)] (z_enc σ) = some (some (.int (nI (xyF (S.2.1 g)) - nI (ones4 S.2.2.2.1))), z_enc (z_ul σ 76 13 (σ.2 76 13 + 100 + 1))) := by
  have i8 : ∀ (σ : z_G) (K : Int32 → Option z_O), z_il1 (z_enc σ) 81 8 K = K (σ.1 81 8) := fun σ K => g_iln (k := 8) an81 (by decide) (by decide)
  simp only [en176, e176_0, e176_1, e176_2, e176_5, e176_8, e176_9, e176_12, e176_13, e176_14, e176_17, e176_18, e176_21, e176_23, e176_24, e176_27, e176_28, g76_13, p76_13, v76, s174 (R_ul hR _) sk hg, mul_9, mul_ul, z_bd_i, z_bd_l, z_bd_v, List.cons_append, List.nil_append, z_nk_i, z_nk_r, z_nk_n, v0, v1, v3, v19, v61, v71, v76, g76_5, i8, r0_mir (R_ul hR _), s117b sk.2.2.2.1]
theorem s177 (hD : D_at σ L) (hR : R_at σ 81 0 L.2.2.2.2.2 S) (ok : L_ok L) (sk : S_ok S) {g k : Nat} (hg : g < L.2.2.2.2.2) (hk : k < 6) : z_call 177 [.ref 76, .int (nI k), .int (nI g)] (z_enc σ) = some (some (.int (rateF S g k)), z_enc (z_ul σ 76 13 (grow k (σ.2 76 13)))) := by
  have hN := ok.2.2.2.2
  have hg4 : g < 4 := by omega
  have b1 : (¬ nI g < 0 ∧ nI g < nI L.2.2.2.2.2) = True := eq_true (inN_nI hg (by omega))
  have b2 : (¬ nI k < 0 ∧ ¬ (5 : Int32) < nI k) = True := eq_true ⟨nI_pos (by omega), nI_nlt (a := 5) (b := k) (by omega) (by decide)⟩
  have hk6 : k = 0 ∨ k = 1 ∨ k = 2 ∨ k = 3 ∨ k = 4 ∨ k = 5 := by omega
  have pre : z_call 177 [.ref 76, .int (nI k), .int (nI g)] (z_enc σ) = z_r [] 0 0 177 21 [some (.ref 76), some (.int (nI k)), some (.int (nI g))] [.int (nI k)] (z_enc σ) := by
    simp only [en177, e177_0, e177_1, e177_2, e177_3, e177_6, e177_9, e177_10, e177_11, e177_14, e177_17, e177_19, e177_20, e177_56, e177_57, e177_58, e177_61, e177_62, e177_63, e177_64, e177_67, e177_68, e177_69, e177_70, e177_73, e177_74, e177_75, e177_76, e177_79, e177_82, e177_83, e177_86, e177_87, e177_88, e177_89, e177_92, e177_93, e177_94, e177_95, e177_96, e177_99, e177_102, e177_103, e177_106, e177_107, e177_108, e177_111, e177_112, e177_113, e177_114, e177_115, e177_116, e177_119, e177_122, e177_123, e177_126, e177_127, e177_128, e177_131, e177_132, e177_135, e177_136, s115, v76, s138 hD ok, z_bd_i, z_bd_l, z_bd_v, List.cons_append, List.nil_append, z_nk_i, z_nk_r, z_nk_n, v0, v1, v3, v19, v61, v71, v76, z_b_0, b1, b2, not_true, if_false]
  rw [pre]
  rcases hk6 with rfl | rfl | rfl | rfl | rfl | rfl
  · simp only [e177_0, e177_1, e177_2, e177_3, e177_6, e177_9, e177_10, e177_11, e177_14, e177_17, e177_19, e177_20, e177_21, e177_56, e177_57, e177_58, e177_61, e177_62, e177_63, e177_64, e177_67, e177_68, e177_69, e177_70, e177_73, e177_74, e177_75, e177_76, e177_79, e177_82, e177_83, e177_86, e177_87, e177_88, e177_89, e177_92, e177_93, e177_94, e177_95, e177_96, e177_99, e177_102, e177_103, e177_106, e177_107, e177_108, e177_111, e177_112, e177_113, e177_114, e177_115, e177_116, e177_119, e177_122, e177_123, e177_126, e177_127, e177_128, e177_131, e177_132, e177_135, e177_136, z_bd_i, z_bd_l, z_bd_v, List.cons_append, List.nil_append, z_nk_i, z_nk_r, z_nk_n, v0, v1, v3, v19, v61, v71, v76, show (nI 0 = 0) = True from by decide, if_true, v76, s174 hR sk hg4]
    rfl
  · simp only [e177_0, e177_1, e177_2, e177_3, e177_6, e177_9, e177_10, e177_11, e177_14, e177_17, e177_19, e177_20, e177_21, e177_56, e177_57, e177_58, e177_61, e177_62, e177_63, e177_64, e177_67, e177_68, e177_69, e177_70, e177_73, e177_74, e177_75, e177_76, e177_79, e177_82, e177_83, e177_86, e177_87, e177_88, e177_89, e177_92, e177_93, e177_94, e177_95, e177_96, e177_99, e177_102, e177_103, e177_106, e177_107, e177_108, e177_111, e177_112, e177_113, e177_114, e177_115, e177_116, e177_119, e177_122, e177_123, e177_126, e177_127, e177_128, e177_131, e177_132, e177_135, e177_136, z_bd_i, z_bd_l, z_bd_v, List.cons_append, List.nil_append, z_nk_i, z_nk_r, z_nk_n, v0, v1, v3, v19, v61, v71, v76, show (nI 1 = 0) = False from by decide, show (nI 1 = 1) = True from by decide, if_true, if_false, v76, s175 hR sk hg hN]
    rfl
  · simp only [e177_0, e177_1, e177_2, e177_3, e177_6, e177_9, e177_10, e177_11, e177_14, e177_17, e177_19, e177_20, e177_21, e177_56, e177_57, e177_58, e177_61, e177_62, e177_63, e177_64, e177_67, e177_68, e177_69, e177_70, e177_73, e177_74, e177_75, e177_76, e177_79, e177_82, e177_83, e177_86, e177_87, e177_88, e177_89, e177_92, e177_93, e177_94, e177_95, e177_96, e177_99, e177_102, e177_103, e177_106, e177_107, e177_108, e177_111, e177_112, e177_113, e177_114, e177_115, e177_116, e177_119, e177_122, e177_123, e177_126, e177_127, e177_128, e177_131, e177_132, e177_135, e177_136, z_bd_i, z_bd_l, z_bd_v, List.cons_append, List.nil_append, z_nk_i, z_nk_r, z_nk_n, v0, v1, v3, v19, v61, v71, v76, show (nI 2 = 0) = False from by decide, show (nI 2 = 1) = False from by decide, show (nI 2 = 2) = True from by decide, if_true, if_false, v76, s176 hR sk hg4]
    rfl
  · simp only [e177_0, e177_1, e177_2, e177_3, e177_6, e177_9, e177_10, e177_11, e177_14, e177_17, e177_19, e177_20, e177_21, e177_56, e177_57, e177_58, e177_61, e177_62, e177_63, e177_64, e177_67, e177_68, e177_69, e177_70, e177_73, e177_74, e177_75, e177_76, e177_79, e177_82, e177_83, e177_86, e177_87, e177_88, e177_89, e177_92, e177_93, e177_94, e177_95, e177_96, e177_99, e177_102, e177_103, e177_106, e177_107, e177_108, e177_111, e177_112, e177_113, e177_114, e177_115, e177_116, e177_119, e177_122, e177_123, e177_126, e177_127, e177_128, e177_131, e177_132, e177_135, e177_136, z_bd_i, z_bd_l, z_bd_v, List.cons_append, List.nil_append, z_nk_i, z_nk_r, z_nk_n, v0, v1, v3, v19, v61, v71, v76, show (nI 3 = 0) = False from by decide, show (nI 3 = 1) = False from by decide, show (nI 3 = 2) = False from by decide, show (nI 3 = 3) = True from by decide, if_true, if_false, v76, g76_13, p76_13, s175 (R_ul hR _) sk hg hN, mul_9, mul_ul]
    rfl
  · simp only [e177_0, e177_1, e177_2, e177_3, e177_6, e177_9, e177_10, e177_11, e177_14, e177_17, e177_19, e177_20, e177_21, e177_56, e177_57, e177_58, e177_61, e177_62, e177_63, e177_64, e177_67, e177_68, e177_69, e177_70, e177_73, e177_74, e177_75, e177_76, e177_79, e177_82, e177_83, e177_86, e177_87, e177_88, e177_89, e177_92, e177_93, e177_94, e177_95, e177_96, e177_99, e177_102, e177_103, e177_106, e177_107, e177_108, e177_111, e177_112, e177_113, e177_114, e177_115, e177_116, e177_119, e177_122, e177_123, e177_126, e177_127, e177_128, e177_131, e177_132, e177_135, e177_136, z_bd_i, z_bd_l, z_bd_v, List.cons_append, List.nil_append, z_nk_i, z_nk_r, z_nk_n, v0, v1, v3, v19, v61, v71, v76, show (nI 4 = 0) = False from by decide, show (nI 4 = 1) = False from by decide, show (nI 4 = 2) = False from by decide, show (nI 4 = 3) = False from by decide, show (nI 4 = 4) = True from by decide, if_true, if_false, v76, g76_13, p76_13, s176 (R_ul hR _) sk hg4, mul_9, mul_ul]
    rfl
  · simp only [e177_0, e177_1, e177_2, e177_3, e177_6, e177_9, e177_10, e177_11, e177_14, e177_17, e177_19, e177_20, e177_21, e177_56, e177_57, e177_58, e177_61, e177_62, e177_63, e177_64, e177_67, e177_68, e177_69, e177_70, e177_73, e177_74, e177_75, e177_76, e177_79, e177_82, e177_83, e177_86, e177_87, e177_88, e177_89, e177_92, e177_93, e177_94, e177_95, e177_96, e177_99, e177_102, e177_103, e177_106, e177_107, e177_108, e177_111, e177_112, e177_113, e177_114, e177_115, e177_116, e177_119, e177_122, e177_123, e177_126, e177_127, e177_128, e177_131, e177_132, e177_135, e177_136, z_bd_i, z_bd_l, z_bd_v, List.cons_append, List.nil_append, z_nk_i, z_nk_r, z_nk_n, v0, v1, v3, v19, v61, v71, v76, show (nI 5 = 0) = False from by decide, show (nI 5 = 1) = False from by decide, show (nI 5 = 2) = False from by decide, show (nI 5 = 3) = False from by decide, show (nI 5 = 4) = False from by decide, if_false, v76, g76_13, p76_13, s174 (R_ul hR _) sk hg4, mul_9, mul_ul, s150 (R_ul hR _) sk]
    rfl
theorem s177b (hD : D_at σ L) (ok : L_ok L) {g k : Int32} (hb : ¬ ((¬ g < 0 ∧ g < nI L.2.2.2.2.2) ∧ (k = 0 ∨ k = 1 ∨ k = 2 ∨ k = 3 ∨ k = 4 ∨ k = 5))) : z_call 177 [.ref 76, .int k, .int g] (z_enc σ) = some (some (.int (-1000000)), z_enc σ) := by
  by_cases h1 : ¬ k < 0 ∧ ¬ 5 < k
  · have h2 : ¬ (¬ g < 0 ∧ g < nI L.2.2.2.2.2) := fun q => hb ⟨q, in_5 h1⟩
    simp only [en177, e177_0, e177_1, e177_2, e177_3, e177_6, e177_9, e177_10, e177_11, e177_14, e177_17, e177_19, e177_20, e177_56, e177_57, e177_58, e177_61, e177_62, e177_63, e177_64, e177_67, e177_68, e177_69, e177_70, e177_73, e177_74, e177_75, e177_76, e177_79, e177_82, e177_83, e177_86, e177_87, e177_88, e177_89, e177_92, e177_93, e177_94, e177_95, e177_96, e177_99, e177_102, e177_103, e177_106, e177_107, e177_108, e177_111, e177_112, e177_113, e177_114, e177_115, e177_116, e177_119, e177_122, e177_123, e177_126, e177_127, e177_128, e177_131, e177_132, e177_135, e177_136, s115, v76, s138 hD ok, z_bd_i, z_bd_l, z_bd_v, List.cons_append, List.nil_append, z_nk_i, z_nk_r, z_nk_n, v0, v1, v3, v19, v61, v71, v76, z_b_0, eq_true h1, eq_false h2, not_true, not_false_iff, if_false, if_true]
  · simp only [en177, e177_0, e177_1, e177_2, e177_3, e177_6, e177_9, e177_10, e177_11, e177_14, e177_17, e177_19, e177_20, e177_56, e177_57, e177_58, e177_61, e177_62, e177_63, e177_64, e177_67, e177_68, e177_69, e177_70, e177_73, e177_74, e177_75, e177_76, e177_79, e177_82, e177_83, e177_86, e177_87, e177_88, e177_89, e177_92, e177_93, e177_94, e177_95, e177_96, e177_99, e177_102, e177_103, e177_106, e177_107, e177_108, e177_111, e177_112, e177_113, e177_114, e177_115, e177_116, e177_119, e177_122, e177_123, e177_126, e177_127, e177_128, e177_131, e177_132, e177_135, e177_136, s115, v76, z_bd_i, z_bd_l, z_bd_v, List.cons_append, List.nil_append, z_nk_i, z_nk_r, z_nk_n, v0, v1, v3, v19, v61, v71, v76, z_b_0, eq_false h1, not_false_iff, if_true]
-- images
theorem l178 {i : Nat} (hi : i < 2) {K : Option z_O} : ∀ d k, d + k = 16 → z_r [] 0 0 178 42 [some (.ref 76), some (.int (nI i)), some (.int (nI 16))] [] (z_enc (cpF σ 84 (16 * i) 81 0 16)) = K → z_r [] 0 0 178 13 [some (.ref 76), some (.int (nI i)), some (.int (nI k))] [] (z_enc (cpF σ 84 (16 * i) 81 0 k)) = K := by
  intro d
  induction d with
  | zero =>
    intro k hk hK
    obtain rfl : k = 16 := by omega
    have b1 : (nI 16 < 16) = False := by decide
    rw [e178_13]
    simp only [e178_0, e178_1, e178_2, e178_3, e178_6, e178_9, e178_10, e178_11, e178_12, e178_14, e178_16, e178_19, e178_20, e178_23, e178_25, e178_26, e178_27, e178_28, e178_29, e178_30, e178_33, e178_34, e178_35, e178_36, e178_39, e178_43, e178_44, e178_47, e178_48, e178_49, e178_50, e178_51, e178_54, e178_55, e178_58, b1, if_false]
    exact hK
  | succ d ih =>
    intro k hk hK
    have b1 : (nI k < 16) = True := eq_true (nI_lt (a := k) (b := 16) (by omega) (by decide))
    have e1 : (16 : Int32) * nI i + nI k = nI (16 * i + k) := by rw [show (16 : Int32) = nI 16 from rfl, pk_mul, nI_add]
    rw [e178_13]
    simp only [e178_0, e178_1, e178_2, e178_3, e178_6, e178_9, e178_10, e178_11, e178_12, e178_14, e178_16, e178_19, e178_20, e178_23, e178_25, e178_26, e178_27, e178_28, e178_29, e178_30, e178_33, e178_34, e178_35, e178_36, e178_39, e178_43, e178_44, e178_47, e178_48, e178_49, e178_50, e178_51, e178_54, e178_55, e178_58, b1, if_true, g76_9, e1, g76_5, g_iln an81 (show k < 16 by omega) (by decide), g_isn an84 (show 16 * i + k < 32 by omega) (by decide), cp_succ (show (81 : Nat) ≠ 84 by decide) (show 16 * i + k = 16 * i + k from rfl) (show k = 0 + k by omega), nI_1]
    exact ih (k + 1) (by omega) hK
def Q84 (p k : Nat) : Prop := p ≠ 84 ∧ ¬ (p = 76 ∧ k = 10)
theorem s178 (hJ : J_at σ L.2.2.2.2.2 kp img) (hR : R_at σ 81 0 L.2.2.2.2.2 S) (ok : L_ok L) (sk : S_ok S) {i : Nat} (hi : i < 2) : ∃ τ, z_call 178 [.ref 76, .int (nI i)] (z_enc σ) = some (some (.int (nI (popN 64 S.2.2.2.2.2))), z_enc τ) ∧ J_at τ L.2.2.2.2.2 (kp ||| 2 ^ i) (fun j => if j = i then S else img j) ∧ z_sf Q84 σ τ := by
  have hN := ok.2.2.2.2
  obtain ⟨h1, h2, h3⟩ := hJ
  have b1 : (¬ nI i < 0 ∧ ¬ (1 : Int32) < nI i) = True := eq_true ⟨nI_pos (by omega), nI_nlt (a := 1) (b := i) (by omega) (by decide)⟩
  have e10 : (cpF σ 84 (16 * i) 81 0 16).1 76 10 = nI kp := (cp_out (by decide)).trans h2
  have sf1 : z_sf (fun p k => ¬ (p = 84 ∧ 16 * i ≤ k ∧ k < 16 * i + 16)) σ (cpF σ 84 (16 * i) 81 0 16) := sf_cp (fun j a b q => q ⟨rfl, a, b⟩)
  have sf2 : z_sf (fun p _ => p ≠ 76) (cpF σ 84 (16 * i) 81 0 16) (z_ui (cpF σ 84 (16 * i) 81 0 16) 76 10 (nI (kp ||| 2 ^ i))) := sf_ui (fun q => q rfl)
  have hR2 : R_at (z_ui (cpF σ 84 (16 * i) 81 0 16) 76 10 (nI (kp ||| 2 ^ i))) 81 0 L.2.2.2.2.2 S := R_sf (R_sf hR sf1 (by simp) hN) sf2 (by simp) hN
  refine ⟨z_ui (cpF σ 84 (16 * i) 81 0 16) 76 10 (nI (kp ||| 2 ^ i)), ?_, ⟨setb _ h1 i hi, z_ui_eq, fun j hj hb => ?_⟩, z_sf.tr (sf_cp (fun k _ _ q => q.1 rfl)) (sf_ui (fun q => q.2 ⟨rfl, rfl⟩))⟩
  · have e := l178 (σ := σ) hi (K := some (some (.int (nI (popN 64 S.2.2.2.2.2))), z_enc (z_ui (cpF σ 84 (16 * i) 81 0 16) 76 10 (nI (kp ||| 2 ^ i))))) 16 0 rfl (by
      rw [e178_42]
      simp only [e178_0, e178_1, e178_2, e178_3, e178_6, e178_9, e178_10, e178_11, e178_12, e178_14, e178_16, e178_19, e178_20, e178_23, e178_25, e178_26, e178_27, e178_28, e178_29, e178_30, e178_33, e178_34, e178_35, e178_36, e178_39, e178_43, e178_44, e178_47, e178_48, e178_49, e178_50, e178_51, e178_54, e178_55, e178_58, g76_10, e10, sh1 i (by omega), z_orI, p76_10, v76, s150 hR2 sk, z_bd_i, z_bd_l, z_bd_v, List.cons_append, List.nil_append, z_nk_i, z_nk_r, z_nk_n, v0, v1, v3, v19, v61, v71, v76])
    rw [cp_0] at e
    simp only [en178, e178_0, e178_1, e178_2, e178_3, e178_6, e178_9, e178_10, e178_11, e178_12, e178_14, e178_16, e178_19, e178_20, e178_23, e178_25, e178_26, e178_27, e178_28, e178_29, e178_30, e178_33, e178_34, e178_35, e178_36, e178_39, e178_43, e178_44, e178_47, e178_48, e178_49, e178_50, e178_51, e178_54, e178_55, e178_58, s115, z_bd_i, z_bd_l, z_bd_v, List.cons_append, List.nil_append, z_nk_i, z_nk_r, z_nk_n, v0, v1, v3, v19, v61, v71, v76, z_b_0, b1, not_true, if_false]
    exact e
  · refine R_sf ?_ sf2 (by simp) hN
    by_cases hji : j = i
    · subst hji
      dsimp only
      rw [if_pos rfl]
      exact R_cp hR hN
    · dsimp only
      rw [if_neg hji]
      rcases setb2 _ h1 i hi j hj hb with q | q
      · exact absurd q hji
      · exact R_sf (h3 j hj q) sf1 (fun k hk => by simp; omega) hN
theorem s178b {x : Int32} (hb : ¬ (¬ x < 0 ∧ x < nI 2)) : z_call 178 [.ref 76, .int x] (z_enc σ) = some (some (.int (-1)), z_enc σ) := by
  have h : ¬ (¬ x < 0 ∧ ¬ 1 < x) := fun q => hb ⟨q.1, by
    obtain ⟨j, hj, rfl⟩ := nI_of q.1
    refine nI_lt ?_ (by decide)
    apply Classical.byContradiction
    intro r
    exact q.2 (nI_lt (a := 1) (b := j) (by omega) (by omega))⟩
  simp only [en178, e178_0, e178_1, e178_2, e178_3, e178_6, e178_9, e178_10, e178_11, e178_12, e178_14, e178_16, e178_19, e178_20, e178_23, e178_25, e178_26, e178_27, e178_28, e178_29, e178_30, e178_33, e178_34, e178_35, e178_36, e178_39, e178_43, e178_44, e178_47, e178_48, e178_49, e178_50, e178_51, e178_54, e178_55, e178_58, s115, z_bd_i, z_bd_l, z_bd_v, List.cons_append, List.nil_append, z_nk_i, z_nk_r, z_nk_n, v0, v1, v3, v19, v61, v71, v76, z_b_0, eq_false h, not_false_iff, if_true]
theorem l179 {i : Nat} (hi : i < 2) {K : Option z_O} : ∀ d k, d + k = 16 → z_r [] 0 0 179 56 [some (.ref 76), some (.int (nI i)), some (.int (nI 16))] [] (z_enc (cpF σ 81 0 84 (16 * i) 16)) = K → z_r [] 0 0 179 27 [some (.ref 76), some (.int (nI i)), some (.int (nI k))] [] (z_enc (cpF σ 81 0 84 (16 * i) k)) = K := by
  intro d
  induction d with
  | zero =>
    intro k hk hK
    obtain rfl : k = 16 := by omega
    have b1 : (nI 16 < 16) = False := by decide
    rw [e179_27]
    simp only [e179_0, e179_1, e179_2, e179_3, e179_6, e179_9, e179_10, e179_11, e179_12, e179_15, e179_16, e179_19, e179_22, e179_24, e179_25, e179_26, e179_28, e179_30, e179_33, e179_34, e179_37, e179_38, e179_39, e179_42, e179_44, e179_45, e179_46, e179_47, e179_48, e179_49, e179_50, e179_53, e179_57, e179_58, e179_61, e179_62, e179_65, b1, if_false]
    exact hK
  | succ d ih =>
    intro k hk hK
    have b1 : (nI k < 16) = True := eq_true (nI_lt (a := k) (b := 16) (by omega) (by decide))
    have e1 : (16 : Int32) * nI i + nI k = nI (16 * i + k) := by rw [show (16 : Int32) = nI 16 from rfl, pk_mul, nI_add]
    rw [e179_27]
    simp only [e179_0, e179_1, e179_2, e179_3, e179_6, e179_9, e179_10, e179_11, e179_12, e179_15, e179_16, e179_19, e179_22, e179_24, e179_25, e179_26, e179_28, e179_30, e179_33, e179_34, e179_37, e179_38, e179_39, e179_42, e179_44, e179_45, e179_46, e179_47, e179_48, e179_49, e179_50, e179_53, e179_57, e179_58, e179_61, e179_62, e179_65, b1, if_true, g76_9, e1, g76_5, g_iln an84 (show 16 * i + k < 32 by omega) (by decide), g_isn an81 (show k < 16 by omega) (by decide), cp_succ (show (84 : Nat) ≠ 81 by decide) (show k = 0 + k by omega) (show 16 * i + k = 16 * i + k from rfl), nI_1]
    exact ih (k + 1) (by omega) hK
theorem s179 (h : MF σ L S hc hist) (hJ : J_at σ L.2.2.2.2.2 kp img) (ok : L_ok L) (hk : ∀ i, i < 2 → kp.testBit i = true → S_ok (img i)) {i : Nat} (hi : i < 2) :
    if kp.testBit i = true then ∃ τ, z_call 179 [.ref 76, .int (nI i)] (z_enc σ) = some (some (.int (nI (popN 64 (img i).2.2.2.2.2))), z_enc τ) ∧ MF τ L (img i) 0 hist ∧ z_sf Qdo σ τ
    else z_call 179 [.ref 76, .int (nI i)] (z_enc σ) = some (some (.int (-2)), z_enc σ) := by
  have hN := ok.2.2.2.2
  obtain ⟨h1, h2, h3⟩ := hJ
  have b1 : (¬ nI i < 0 ∧ ¬ (1 : Int32) < nI i) = True := eq_true ⟨nI_pos (by omega), nI_nlt (a := 1) (b := i) (by omega) (by decide)⟩
  by_cases q : kp.testBit i = true
  · rw [if_pos q]
    have sf1 : z_sf (fun p _ => p ≠ 81) σ (cpF σ 81 0 84 (16 * i) 16) := sf_cp (fun j _ _ q => q rfl)
    have sf2 : z_sf (fun p _ => p ≠ 76) (cpF σ 81 0 84 (16 * i) 16) (z_ui (cpF σ 81 0 84 (16 * i) 16) 76 8 0) := sf_ui (fun q => q rfl)
    have hR2 : R_at (z_ui (cpF σ 81 0 84 (16 * i) 16) 76 8 0) 81 0 L.2.2.2.2.2 (img i) := R_sf (R_cp (h3 i hi q) hN) sf2 (by simp) hN
    refine ⟨z_ui (cpF σ 81 0 84 (16 * i) 16) 76 8 0, ?_, ⟨D_sf (D_sf h.1 sf1 (by simp)) sf2 (by simp), hR2, by decide, z_ui_eq, fun j hj => absurd hj (by omega)⟩, z_sf.tr (sf_cp (fun k _ _ q => q.1 rfl)) (sf_ui (fun q => q.2.2.2 ⟨rfl, Or.inl rfl⟩))⟩
    have e := l179 (σ := σ) hi (K := some (some (.int (nI (popN 64 (img i).2.2.2.2.2))), z_enc (z_ui (cpF σ 81 0 84 (16 * i) 16) 76 8 0))) 16 0 rfl (by
      rw [e179_56]
      simp only [e179_0, e179_1, e179_2, e179_3, e179_6, e179_9, e179_10, e179_11, e179_12, e179_15, e179_16, e179_19, e179_22, e179_24, e179_25, e179_26, e179_28, e179_30, e179_33, e179_34, e179_37, e179_38, e179_39, e179_42, e179_44, e179_45, e179_46, e179_47, e179_48, e179_49, e179_50, e179_53, e179_57, e179_58, e179_61, e179_62, e179_65, p76_8, v76, s150 hR2 (hk i hi q), z_bd_i, z_bd_l, z_bd_v, List.cons_append, List.nil_append, z_nk_i, z_nk_r, z_nk_n, v0, v1, v3, v19, v61, v71, v76])
    rw [cp_0] at e
    simp only [en179, e179_0, e179_1, e179_2, e179_3, e179_6, e179_9, e179_10, e179_11, e179_12, e179_15, e179_16, e179_19, e179_22, e179_24, e179_25, e179_26, e179_28, e179_30, e179_33, e179_34, e179_37, e179_38, e179_39, e179_42, e179_44, e179_45, e179_46, e179_47, e179_48, e179_49, e179_50, e179_53, e179_57, e179_58, e179_61, e179_62, e179_65, s115, z_bd_i, z_bd_l, z_bd_v, List.cons_append, List.nil_append, z_nk_i, z_nk_r, z_nk_n, v0, v1, v3, v19, v61, v71, v76, z_b_0, b1, not_true, if_false, g76_10, h2, s116 (show kp < 16 by omega) (show i < 4 by omega), eq_true q]
    exact e
  · rw [if_neg q]
    simp only [en179, e179_0, e179_1, e179_2, e179_3, e179_6, e179_9, e179_10, e179_11, e179_12, e179_15, e179_16, e179_19, e179_22, e179_24, e179_25, e179_26, e179_28, e179_30, e179_33, e179_34, e179_37, e179_38, e179_39, e179_42, e179_44, e179_45, e179_46, e179_47, e179_48, e179_49, e179_50, e179_53, e179_57, e179_58, e179_61, e179_62, e179_65, s115, z_bd_i, z_bd_l, z_bd_v, List.cons_append, List.nil_append, z_nk_i, z_nk_r, z_nk_n, v0, v1, v3, v19, v61, v71, v76, z_b_0, b1, not_true, if_false, g76_10, h2, s116 (show kp < 16 by omega) (show i < 4 by omega), eq_false q, not_false_iff, if_true]
theorem s179b {x : Int32} (hb : ¬ (¬ x < 0 ∧ x < 2)) : z_call 179 [.ref 76, .int x] (z_enc σ) = some (some (.int (-1)), z_enc σ) := by
  have h : ¬ (¬ x < 0 ∧ ¬ 1 < x) := fun q => hb ⟨q.1, by
    obtain ⟨j, hj, rfl⟩ := nI_of q.1
    refine nI_lt (b := 2) ?_ (by decide)
    apply Classical.byContradiction
    intro r
    exact q.2 (nI_lt (a := 1) (b := j) (by omega) (by omega))⟩
  simp only [en179, e179_0, e179_1, e179_2, e179_3, e179_6, e179_9, e179_10, e179_11, e179_12, e179_15, e179_16, e179_19, e179_22, e179_24, e179_25, e179_26, e179_28, e179_30, e179_33, e179_34, e179_37, e179_38, e179_39, e179_42, e179_44, e179_45, e179_46, e179_47, e179_48, e179_49, e179_50, e179_53, e179_57, e179_58, e179_61, e179_62, e179_65, s115, z_bd_i, z_bd_l, z_bd_v, List.cons_append, List.nil_append, z_nk_i, z_nk_r, z_nk_n, v0, v1, v3, v19, v61, v71, v76, z_b_0, eq_false h, not_false_iff, if_true]
theorem in_3 {k : Int32} (h : ¬ k < 0 ∧ ¬ 3 < k) : k = 0 ∨ k = 1 ∨ k = 2 ∨ k = 3 := by
  obtain ⟨j, hj, rfl⟩ := nI_of h.1
  have h5 : ¬ (3 : Int32) < nI j := h.2
  have : j ≤ 3 := by
    apply Classical.byContradiction
    intro q
    exact h5 (nI_lt (a := 3) (b := j) (by omega) (by omega))
  have : j = 0 ∨ j = 1 ∨ j = 2 ∨ j = 3 := by omega
  rcases this with rfl | rfl | rfl | rfl <;> decide
theorem s180 (hD : D_at σ L) (hV : V_at σ wn w) {n : Nat} (hn : σ.1 76 0 = nI n) (x : Int32) : z_call 180 [.ref 76, .int x] (z_enc σ) = some (some (.int (countR L wn n x)), z_enc σ) := by
  have i0 : ∀ K : Int32 → Option z_O, z_il1 (z_enc σ) 78 0 K = K (σ.1 78 0) := fun K => g_iln (k := 0) an78 (by decide) (by decide)
  have i1 : ∀ K : Int32 → Option z_O, z_il1 (z_enc σ) 78 1 K = K (σ.1 78 1) := fun K => g_iln (k := 1) an78 (by decide) (by decide)
  have i2 : ∀ K : Int32 → Option z_O, z_il1 (z_enc σ) 78 2 K = K (σ.1 78 2) := fun K => g_iln (k := 2) an78 (by decide) (by decide)
  have i3 : ∀ K : Int32 → Option z_O, z_il1 (z_enc σ) 78 3 K = K (σ.1 78 3) := fun K => g_iln (k := 3) an78 (by decide) (by decide)
  unfold countR
  by_cases h : ¬ x < 0 ∧ ¬ 3 < x
  · have hx := in_3 h
    have pre : z_call 180 [.ref 76, .int x] (z_enc σ) = z_il1 (z_enc σ) 78 x fun v => some (some (.int v), z_enc σ) := by
      simp only [en180, e180_0, e180_1, e180_2, e180_3, e180_6, e180_9, e180_10, e180_13, e180_14, e180_15, e180_18, e180_19, e180_20, e180_23, e180_24, e180_27, e180_30, e180_31, e180_32, e180_35, e180_36, e180_39, e180_42, e180_43, s115, z_bd_i, z_bd_l, z_bd_v, List.cons_append, List.nil_append, z_nk_i, z_nk_r, z_nk_n, v0, v1, v3, v19, v61, v71, v76, z_b_0, eq_true h, not_true, if_false, g76_2]
    rw [pre]
    rcases hx with rfl | rfl | rfl | rfl
    · rw [i0, hD.1]; rfl
    · rw [i1, hD.2.1]; rfl
    · rw [i2, hD.2.2.1]; rfl
    · rw [i3, hD.2.2.2.1]; rfl
  · have x0 : ¬ x = 0 := fun e => h (by rw [e]; decide)
    have x1 : ¬ x = 1 := fun e => h (by rw [e]; decide)
    have x2 : ¬ x = 2 := fun e => h (by rw [e]; decide)
    have x3 : ¬ x = 3 := fun e => h (by rw [e]; decide)
    simp only [en180, e180_0, e180_1, e180_2, e180_3, e180_6, e180_9, e180_10, e180_13, e180_14, e180_15, e180_18, e180_19, e180_20, e180_23, e180_24, e180_27, e180_30, e180_31, e180_32, e180_35, e180_36, e180_39, e180_42, e180_43, s115, z_bd_i, z_bd_l, z_bd_v, List.cons_append, List.nil_append, z_nk_i, z_nk_r, z_nk_n, v0, v1, v3, v19, v61, v71, v76, z_b_0, eq_false h, not_false_iff, if_true, eq_false x0, eq_false x1, eq_false x2, eq_false x3, if_false, g76_12, hV.2.1, g76_0, hn]
    by_cases x4 : x = 4
    · simp only [eq_true x4, not_true, if_false, if_true]
    · by_cases x5 : x = 5
      · simp only [eq_false x4, eq_true x5, not_true, not_false_iff, if_false, if_true]
      · simp only [eq_false x4, eq_false x5, not_false_iff, if_true, if_false]
theorem s181 : z_call 181 [.ref 76] (z_enc σ) = some (some (.long (σ.2 76 13)), z_enc σ) := by
  simp only [en181, e181_0, e181_1, e181_4, g76_13]
end MRATE
