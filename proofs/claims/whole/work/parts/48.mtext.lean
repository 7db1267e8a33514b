/-! the reference's tokens -/
def nx (σ : z_G) (a p k v : Int32) : z_G := (fun q j => if q = 76 ∧ j = 14 then a else if q = 76 ∧ j = 15 then p else if q = 76 ∧ j = 16 then k else if q = 76 ∧ j = 17 then v else σ.1 q j, σ.2)
def Qn (p k : Nat) : Prop := ¬ (p = 76 ∧ 14 ≤ k ∧ k ≤ 17)
section NX
variable {σ : z_G} {a p k v x : Int32}
theorem nx_self : nx σ (σ.1 76 14) (σ.1 76 15) (σ.1 76 16) (σ.1 76 17) = σ := by
  unfold nx
  refine Prod.ext (funext fun q => funext fun j => ?_) rfl
  dsimp only
  split
  · rename_i h; rw [h.1, h.2]
  · split
    · rename_i h; rw [h.1, h.2]
    · split
      · rename_i h; rw [h.1, h.2]
      · split
        · rename_i h; rw [h.1, h.2]
        · rfl
theorem nx_u14 : z_ui (nx σ a p k v) 76 14 x = nx σ x p k v := by
  unfold nx z_ui
  refine Prod.ext (funext fun q => funext fun j => ?_) rfl
  dsimp only
  by_cases h : q = 76 ∧ j = 14
  · obtain ⟨rfl, rfl⟩ := h
    simp
  · simp only [h, if_false]
theorem nx_u15 : z_ui (nx σ a p k v) 76 15 x = nx σ a x k v := by
  unfold nx z_ui
  refine Prod.ext (funext fun q => funext fun j => ?_) rfl
  dsimp only
  by_cases h : q = 76 ∧ j = 15
  · obtain ⟨rfl, rfl⟩ := h
    simp
  · simp only [h, if_false]
theorem nx_u16 : z_ui (nx σ a p k v) 76 16 x = nx σ a p x v := by
  unfold nx z_ui
  refine Prod.ext (funext fun q => funext fun j => ?_) rfl
  dsimp only
  by_cases h : q = 76 ∧ j = 16
  · obtain ⟨rfl, rfl⟩ := h
    simp
  · simp only [h, if_false]
theorem nx_u17 : z_ui (nx σ a p k v) 76 17 x = nx σ a p k x := by
  unfold nx z_ui
  refine Prod.ext (funext fun q => funext fun j => ?_) rfl
  dsimp only
  by_cases h : q = 76 ∧ j = 17
  · obtain ⟨rfl, rfl⟩ := h
    simp
  · simp only [h, if_false]
theorem nx_14 : (nx σ a p k v).1 76 14 = a := by simp [nx]
theorem nx_15 : (nx σ a p k v).1 76 15 = p := by simp [nx]
theorem nx_16 : (nx σ a p k v).1 76 16 = k := by simp [nx]
theorem nx_17 : (nx σ a p k v).1 76 17 = v := by simp [nx]
theorem nx_0 : (nx σ a p k v).1 76 0 = σ.1 76 0 := by simp [nx]
theorem nx_77 {j : Nat} : (nx σ a p k v).1 77 j = σ.1 77 j := by simp [nx]
theorem nx_sf : z_sf Qn σ (nx σ a p k v) := fun q j h => ⟨by
  unfold Qn at h
  unfold nx
  dsimp only
  rw [if_neg (by omega), if_neg (by omega), if_neg (by omega), if_neg (by omega)], rfl⟩
theorem TM_sf {Q : Nat → Nat → Prop} {τ : z_G} {n : Nat} {txt : Nat → Nat} (h : TM_at σ n txt) (hs : z_sf Q σ τ) (hQ : Q 76 0 ∧ ∀ k, Q 77 k) : TM_at τ n txt :=
  ⟨h.1, ((hs _ _ hQ.1).1).trans h.2.1, fun j hj => ⟨((hs _ _ (hQ.2 j)).1).trans (h.2.2 j hj).1, (h.2.2 j hj).2⟩⟩
end NX
theorem cap_2 {w c : Nat} (hc : 48 ≤ c ∧ c ≤ 57) : capF (if 99 < w then 100 else 10 * w + c - 48) = capF (10 * capF w + c - 48) := by
  unfold capF
  by_cases h : 99 < w
  · rw [if_pos h]
    by_cases h2 : 100 < w
    · rw [if_pos h2, if_neg (by omega), if_pos (by omega)]
    · rw [if_neg h2, if_neg (by omega), if_pos (by omega)]
  · rw [if_neg h, if_neg (show ¬ 100 < w by omega)]
def kcM (k : Nat) : Int32 := if k < 3 then -1 else nI (k - 3)
section MTEXT
variable {σ : z_G} {n : Nat} {txt : Nat → Nat}
theorem l122a (hT : TM_at σ n txt) (p k v : Int32) (l1 l2 : Option Value) : ∀ d s, d + s = n → z_r [] 0 0 122 0 [some (.ref 76), l1, l2] [] (z_enc (nx σ (nI s) p k v)) = z_r [] 0 0 122 38 [some (.ref 76), l1, l2] [] (z_enc (nx σ (nI (skF txt d s)) p k v)) := by
  have hn := hT.1
  intro d
  induction d with
  | zero =>
    intro s hd
    have b1 : (nI s < nI n) = False := eq_false (nI_nlt (by omega) (by omega))
    rw [e122_0]
    simp only [e122_1, e122_4, e122_5, e122_8, e122_11, e122_12, e122_15, e122_16, e122_19, e122_20, e122_22, e122_25, e122_26, e122_27, e122_30, e122_31, e122_32, e122_35, e122_39, e122_40, e122_43, e122_46, e122_47, e122_48, e122_51, e122_52, e122_53, e122_56, e122_57, e122_60, e122_61, e122_64, e122_67, e122_68, e122_69, e122_70, e122_73, e122_74, e122_77, e122_78, e122_79, e122_80, e122_82, e122_84, e122_87, e122_90, e122_91, e122_92, e122_95, e122_96, e122_97, e122_100, e122_101, e122_102, e122_105, e122_106, e122_107, e122_108, e122_109, e122_110, e122_113, e122_114, e122_117, e122_120, e122_121, e122_124, e122_125, e122_128, e122_129, e122_131, e122_133, e122_136, e122_139, e122_140, e122_141, e122_144, e122_146, e122_149, e122_151, e122_154, e122_156, e122_157, e122_160, e122_161, e122_162, e122_165, e122_166, e122_169, e122_170, e122_171, e122_173, e122_174, e122_177, e122_180, e122_181, e122_182, e122_185, e122_186, e122_187, e122_190, e122_193, e122_194, e122_197, e122_199, e122_202, e122_203, e122_204, e122_207, e122_208, e122_211, e122_212, e122_215, e122_216, e122_218, e122_221, e122_222, e122_225, e122_226, g76_14, nx_14, g76_0, nx_0, hT.2.1, b1, if_false, skF]
  | succ d ih =>
    intro s hd
    have hs : s < n := by omega
    have b1 : (nI s < nI n) = True := eq_true (nI_lt hs (by omega))
    obtain ⟨hr, hc⟩ := hT.2.2 s hs
    have b2 : (nI (txt s) = 32) = (txt s = 32) := propext (nI_eq (b := 32) (by omega) (by decide))
    rw [e122_0]
    by_cases q : txt s = 32
    · have e := ih (s + 1) (by omega)
      simp only [e122_1, e122_4, e122_5, e122_8, e122_11, e122_12, e122_15, e122_16, e122_19, e122_20, e122_22, e122_25, e122_26, e122_27, e122_30, e122_31, e122_32, e122_35, e122_39, e122_40, e122_43, e122_46, e122_47, e122_48, e122_51, e122_52, e122_53, e122_56, e122_57, e122_60, e122_61, e122_64, e122_67, e122_68, e122_69, e122_70, e122_73, e122_74, e122_77, e122_78, e122_79, e122_80, e122_82, e122_84, e122_87, e122_90, e122_91, e122_92, e122_95, e122_96, e122_97, e122_100, e122_101, e122_102, e122_105, e122_106, e122_107, e122_108, e122_109, e122_110, e122_113, e122_114, e122_117, e122_120, e122_121, e122_124, e122_125, e122_128, e122_129, e122_131, e122_133, e122_136, e122_139, e122_140, e122_141, e122_144, e122_146, e122_149, e122_151, e122_154, e122_156, e122_157, e122_160, e122_161, e122_162, e122_165, e122_166, e122_169, e122_170, e122_171, e122_173, e122_174, e122_177, e122_180, e122_181, e122_182, e122_185, e122_186, e122_187, e122_190, e122_193, e122_194, e122_197, e122_199, e122_202, e122_203, e122_204, e122_207, e122_208, e122_211, e122_212, e122_215, e122_216, e122_218, e122_221, e122_222, e122_225, e122_226, g76_14, nx_14, g76_0, nx_0, hT.2.1, b1, if_true, g76_1, g_iln an77 (show s < 120 by omega) (by decide), nx_77, hr, b2, eq_true q, p76_14, nx_u14, nI_1, skF]
      exact e
    · simp only [e122_1, e122_4, e122_5, e122_8, e122_11, e122_12, e122_15, e122_16, e122_19, e122_20, e122_22, e122_25, e122_26, e122_27, e122_30, e122_31, e122_32, e122_35, e122_39, e122_40, e122_43, e122_46, e122_47, e122_48, e122_51, e122_52, e122_53, e122_56, e122_57, e122_60, e122_61, e122_64, e122_67, e122_68, e122_69, e122_70, e122_73, e122_74, e122_77, e122_78, e122_79, e122_80, e122_82, e122_84, e122_87, e122_90, e122_91, e122_92, e122_95, e122_96, e122_97, e122_100, e122_101, e122_102, e122_105, e122_106, e122_107, e122_108, e122_109, e122_110, e122_113, e122_114, e122_117, e122_120, e122_121, e122_124, e122_125, e122_128, e122_129, e122_131, e122_133, e122_136, e122_139, e122_140, e122_141, e122_144, e122_146, e122_149, e122_151, e122_154, e122_156, e122_157, e122_160, e122_161, e122_162, e122_165, e122_166, e122_169, e122_170, e122_171, e122_173, e122_174, e122_177, e122_180, e122_181, e122_182, e122_185, e122_186, e122_187, e122_190, e122_193, e122_194, e122_197, e122_199, e122_202, e122_203, e122_204, e122_207, e122_208, e122_211, e122_212, e122_215, e122_216, e122_218, e122_221, e122_222, e122_225, e122_226, g76_14, nx_14, g76_0, nx_0, hT.2.1, b1, if_true, g76_1, g_iln an77 (show s < 120 by omega) (by decide), nx_77, hr, b2, eq_false q, if_false, skF]
theorem l122b (hT : TM_at σ n txt) (p k : Int32) (l1 : Int32) : ∀ d s w f, d + s = n → w < 2000 → ∃ w2, z_r [] 0 0 122 109 [some (.ref 76), some (.int l1), some (.int (nI f))] [] (z_enc (nx σ (nI s) p k (nI w))) = z_r [] 0 0 122 193 [some (.ref 76), some (.int l1), some (.int (nI (f + ((dgF txt d s (capF w)).1 - s))))] [] (z_enc (nx σ (nI (dgF txt d s (capF w)).1) p k (nI w2))) ∧ capF w2 = (dgF txt d s (capF w)).2 ∧ w2 < 2000 := by
  have hn := hT.1
  intro d
  induction d with
  | zero =>
    intro s w f hd hw
    have b1 : (nI s < nI n) = False := eq_false (nI_nlt (by omega) (by omega))
    refine ⟨w, ?_, rfl, hw⟩
    rw [e122_109]
    simp only [e122_0, e122_1, e122_4, e122_5, e122_8, e122_11, e122_12, e122_15, e122_16, e122_19, e122_20, e122_22, e122_25, e122_26, e122_27, e122_30, e122_31, e122_32, e122_35, e122_38, e122_39, e122_40, e122_43, e122_46, e122_47, e122_48, e122_51, e122_52, e122_53, e122_56, e122_57, e122_60, e122_61, e122_64, e122_67, e122_68, e122_69, e122_70, e122_73, e122_74, e122_77, e122_78, e122_79, e122_80, e122_82, e122_84, e122_87, e122_90, e122_91, e122_92, e122_95, e122_96, e122_97, e122_100, e122_101, e122_102, e122_105, e122_106, e122_107, e122_108, e122_110, e122_113, e122_114, e122_117, e122_120, e122_121, e122_124, e122_125, e122_128, e122_129, e122_131, e122_133, e122_136, e122_139, e122_140, e122_141, e122_144, e122_146, e122_149, e122_151, e122_154, e122_156, e122_157, e122_160, e122_161, e122_162, e122_165, e122_166, e122_169, e122_170, e122_171, e122_173, e122_174, e122_177, e122_180, e122_181, e122_182, e122_185, e122_186, e122_187, e122_190, e122_194, e122_197, e122_199, e122_202, e122_203, e122_204, e122_207, e122_208, e122_211, e122_212, e122_215, e122_216, e122_218, e122_221, e122_222, e122_225, e122_226, g76_14, nx_14, g76_0, nx_0, hT.2.1, b1, if_false, dgF, Nat.sub_self, Nat.add_zero]
  | succ d ih =>
    intro s w f hd hw
    have hs : s < n := by omega
    have b1 : (nI s < nI n) = True := eq_true (nI_lt hs (by omega))
    obtain ⟨hr, hc⟩ := hT.2.2 s hs
    have b3 : ((99 : Int32) < nI w) = (99 < w) := propext (nI_ltI (a := 99) (by decide) (by omega))
    by_cases q : 48 ≤ txt s ∧ txt s ≤ 57
    · obtain ⟨w2, e, h2, h3⟩ := ih (s + 1) (if 99 < w then 100 else 10 * w + txt s - 48) (f + 1) (by omega) (by split <;> omega)
      rw [cap_2 q] at e h2
      have hge := (dg_le txt d (s + 1) _ (cap_le (10 * capF w + txt s - 48))).1.1
      have ed : dgF txt (d + 1) s (capF w) = dgF txt d (s + 1) (capF (10 * capF w + txt s - 48)) := by
        rw [dgF, if_pos q]
      rw [ed]
      refine ⟨w2, ?_, h2, h3⟩
      rw [show f + ((dgF txt d (s + 1) (capF (10 * capF w + txt s - 48))).1 - s) = f + 1 + ((dgF txt d (s + 1) (capF (10 * capF w + txt s - 48))).1 - (s + 1)) by omega, ← e, e122_109]
      by_cases q2 : 99 < w
      · have l100 : (100 : Int32) = nI 100 := rfl
        simp only [e122_0, e122_1, e122_4, e122_5, e122_8, e122_11, e122_12, e122_15, e122_16, e122_19, e122_20, e122_22, e122_25, e122_26, e122_27, e122_30, e122_31, e122_32, e122_35, e122_38, e122_39, e122_40, e122_43, e122_46, e122_47, e122_48, e122_51, e122_52, e122_53, e122_56, e122_57, e122_60, e122_61, e122_64, e122_67, e122_68, e122_69, e122_70, e122_73, e122_74, e122_77, e122_78, e122_79, e122_80, e122_82, e122_84, e122_87, e122_90, e122_91, e122_92, e122_95, e122_96, e122_97, e122_100, e122_101, e122_102, e122_105, e122_106, e122_107, e122_108, e122_110, e122_113, e122_114, e122_117, e122_120, e122_121, e122_124, e122_125, e122_128, e122_129, e122_131, e122_133, e122_136, e122_139, e122_140, e122_141, e122_144, e122_146, e122_149, e122_151, e122_154, e122_156, e122_157, e122_160, e122_161, e122_162, e122_165, e122_166, e122_169, e122_170, e122_171, e122_173, e122_174, e122_177, e122_180, e122_181, e122_182, e122_185, e122_186, e122_187, e122_190, e122_194, e122_197, e122_199, e122_202, e122_203, e122_204, e122_207, e122_208, e122_211, e122_212, e122_215, e122_216, e122_218, e122_221, e122_222, e122_225, e122_226, g76_14, nx_14, g76_0, nx_0, hT.2.1, b1, if_true, g76_1, g_iln an77 (show s < 120 by omega) (by decide), nx_77, hr, s115, z_bd_i, z_bd_l, z_bd_v, List.cons_append, List.nil_append, z_nk_i, z_nk_r, z_nk_n, v0, v1, v3, v19, v61, v71, v76, z_b_0, dig_ok hc, eq_true q, not_true, if_false, g76_17, nx_17, b3, eq_true q2, p76_17, nx_u17, p76_14, nx_u14, nI_1, l100, show ((1 : Int32) = 0) = False from by decide, show ((0 : Int32) = 0) = True from by decide, if_true, if_false]
      · have a1 : (10 : Int32) * nI w + nI (txt s) - 48 = nI (10 * w + txt s - 48) := by rw [l_10, l_48, pk_mul, nI_add, pk_sub (by omega)]
        simp only [e122_0, e122_1, e122_4, e122_5, e122_8, e122_11, e122_12, e122_15, e122_16, e122_19, e122_20, e122_22, e122_25, e122_26, e122_27, e122_30, e122_31, e122_32, e122_35, e122_38, e122_39, e122_40, e122_43, e122_46, e122_47, e122_48, e122_51, e122_52, e122_53, e122_56, e122_57, e122_60, e122_61, e122_64, e122_67, e122_68, e122_69, e122_70, e122_73, e122_74, e122_77, e122_78, e122_79, e122_80, e122_82, e122_84, e122_87, e122_90, e122_91, e122_92, e122_95, e122_96, e122_97, e122_100, e122_101, e122_102, e122_105, e122_106, e122_107, e122_108, e122_110, e122_113, e122_114, e122_117, e122_120, e122_121, e122_124, e122_125, e122_128, e122_129, e122_131, e122_133, e122_136, e122_139, e122_140, e122_141, e122_144, e122_146, e122_149, e122_151, e122_154, e122_156, e122_157, e122_160, e122_161, e122_162, e122_165, e122_166, e122_169, e122_170, e122_171, e122_173, e122_174, e122_177, e122_180, e122_181, e122_182, e122_185, e122_186, e122_187, e122_190, e122_194, e122_197, e122_199, e122_202, e122_203, e122_204, e122_207, e122_208, e122_211, e122_212, e122_215, e122_216, e122_218, e122_221, e122_222, e122_225, e122_226, g76_14, nx_14, g76_0, nx_0, hT.2.1, b1, if_true, g76_1, g_iln an77 (show s < 120 by omega) (by decide), nx_77, hr, s115, z_bd_i, z_bd_l, z_bd_v, List.cons_append, List.nil_append, z_nk_i, z_nk_r, z_nk_n, v0, v1, v3, v19, v61, v71, v76, z_b_0, dig_ok hc, eq_true q, not_true, if_false, g76_17, nx_17, b3, eq_false q2, a1, p76_17, nx_u17, p76_14, nx_u14, nI_1, show ((1 : Int32) = 0) = False from by decide, show ((0 : Int32) = 0) = True from by decide, if_true, if_false]
    · refine ⟨w, ?_, ?_, hw⟩
      · rw [e122_109]
        simp only [e122_0, e122_1, e122_4, e122_5, e122_8, e122_11, e122_12, e122_15, e122_16, e122_19, e122_20, e122_22, e122_25, e122_26, e122_27, e122_30, e122_31, e122_32, e122_35, e122_38, e122_39, e122_40, e122_43, e122_46, e122_47, e122_48, e122_51, e122_52, e122_53, e122_56, e122_57, e122_60, e122_61, e122_64, e122_67, e122_68, e122_69, e122_70, e122_73, e122_74, e122_77, e122_78, e122_79, e122_80, e122_82, e122_84, e122_87, e122_90, e122_91, e122_92, e122_95, e122_96, e122_97, e122_100, e122_101, e122_102, e122_105, e122_106, e122_107, e122_108, e122_110, e122_113, e122_114, e122_117, e122_120, e122_121, e122_124, e122_125, e122_128, e122_129, e122_131, e122_133, e122_136, e122_139, e122_140, e122_141, e122_144, e122_146, e122_149, e122_151, e122_154, e122_156, e122_157, e122_160, e122_161, e122_162, e122_165, e122_166, e122_169, e122_170, e122_171, e122_173, e122_174, e122_177, e122_180, e122_181, e122_182, e122_185, e122_186, e122_187, e122_190, e122_194, e122_197, e122_199, e122_202, e122_203, e122_204, e122_207, e122_208, e122_211, e122_212, e122_215, e122_216, e122_218, e122_221, e122_222, e122_225, e122_226, g76_14, nx_14, g76_0, nx_0, hT.2.1, b1, if_true, g76_1, g_iln an77 (show s < 120 by omega) (by decide), nx_77, hr, s115, z_bd_i, z_bd_l, z_bd_v, List.cons_append, List.nil_append, z_nk_i, z_nk_r, z_nk_n, v0, v1, v3, v19, v61, v71, v76, z_b_0, dig_ok hc, eq_false q, not_false_iff, dgF, if_false, Nat.sub_self, Nat.add_zero, show ((1 : Int32) = 0) = False from by decide, show ((0 : Int32) = 0) = True from by decide, if_true, if_false]
      · rw [dgF, if_neg q]
theorem s122 (hT : TM_at σ n txt) {s : Nat} (hs : s ≤ n) (p k v : Int32) : ∃ w, z_call 122 [.ref 76] (z_enc (nx σ (nI s) p k v)) = some (some (.int (z_b (¬ (tkF n txt s).1 = 0 ∧ ¬ (tkF n txt s).1 = 2))), z_enc (nx σ (nI (tkF n txt s).2.2.2) (nI (tkF n txt s).2.2.1) (kcM (tkF n txt s).1) w)) ∧ ((tkF n txt s).1 = 1 → w = nI (tkF n txt s).2.1) := by
  have hn := hT.1
  have e := l122a hT p k v none none (n - s) s (by omega)
  have h1 := sk_le txt (n - s) s
  have z0 : (0 : Int32) = nI 0 := rfl
  rw [en122, e, e122_38]
  unfold tkF
  generalize skF txt (n - s) s = b at *
  unfold tk1
  by_cases q : b < n
  · obtain ⟨hr, hc⟩ := hT.2.2 b q
    have b1 : (nI b = nI n) = False := eq_false (fun h => by have := (nI_eq (by omega) (by omega)).mp h; omega)
    rw [if_pos q]
    by_cases q2 : 48 ≤ txt b ∧ txt b ≤ 57
    · rw [if_pos q2]
      obtain ⟨w2, f1, f2, f3⟩ := l122b hT (nI b) (-1) (nI (txt b)) (n - b) b 0 0 (by omega) (by omega)
      have c0 : capF 0 = 0 := rfl
      rw [c0] at f1 f2
      have h2 := dg_le txt (n - b) b 0 (by omega)
      have h3 := dg_lt txt (v := 0) (show 0 < n - b by omega) q2
      have b2 : (nI w2 < 100) = (w2 < 100) := propext (nI_ltI (b := 100) (by omega) (by decide))
      have b3 : (nI (0 + ((dgF txt (n - b) b 0).1 - b)) = 1) = ((dgF txt (n - b) b 0).1 - b = 1) := by
        rw [Nat.zero_add]
        exact propext (nI_eq (b := 1) (by omega) (by decide))
      have b4 : (nI (txt b) = 48) = (txt b = 48) := propext (nI_eq (b := 48) (by omega) (by decide))
      have w1 : ¬ 99 < (dgF txt (n - b) b 0).2 → w2 = (dgF txt (n - b) b 0).2 := fun h => by
        rw [← f2] at h ⊢
        unfold capF at h ⊢
        split
        · rename_i h5
          rw [if_pos h5] at h
          omega
        · rfl
      have w3 : (w2 < 100) = ¬ 99 < (dgF txt (n - b) b 0).2 := by
        rw [← f2]
        unfold capF
        apply propext
        split <;> omega
      refine ⟨nI w2, ?_, fun h => ?_⟩
      · simp only [e122_1, e122_4, e122_5, e122_8, e122_11, e122_12, e122_15, e122_16, e122_19, e122_20, e122_22, e122_25, e122_26, e122_27, e122_30, e122_31, e122_32, e122_35, e122_39, e122_40, e122_43, e122_46, e122_47, e122_48, e122_51, e122_52, e122_53, e122_56, e122_57, e122_60, e122_61, e122_64, e122_67, e122_68, e122_69, e122_70, e122_73, e122_74, e122_77, e122_78, e122_79, e122_80, e122_82, e122_84, e122_87, e122_90, e122_91, e122_92, e122_95, e122_96, e122_97, e122_100, e122_101, e122_102, e122_105, e122_106, e122_107, e122_108, e122_110, e122_113, e122_114, e122_117, e122_120, e122_121, e122_124, e122_125, e122_128, e122_129, e122_131, e122_133, e122_136, e122_139, e122_140, e122_141, e122_144, e122_146, e122_149, e122_151, e122_154, e122_156, e122_157, e122_160, e122_161, e122_162, e122_165, e122_166, e122_169, e122_170, e122_171, e122_173, e122_174, e122_177, e122_180, e122_181, e122_182, e122_185, e122_186, e122_187, e122_190, e122_193, e122_194, e122_197, e122_199, e122_202, e122_203, e122_204, e122_207, e122_208, e122_211, e122_212, e122_215, e122_216, e122_218, e122_221, e122_222, e122_225, e122_226, g76_14, nx_14, p76_15, nx_u15, p76_17, nx_u17, p76_16, nx_u16, g76_0, nx_0, hT.2.1, b1, if_false, g76_1, g_iln an77 (show b < 120 by omega) (by decide), nx_77, hr, s115, z_bd_i, z_bd_l, z_bd_v, List.cons_append, List.nil_append, z_nk_i, z_nk_r, z_nk_n, v0, v1, v3, v19, v61, v71, v76, z_b_0, dig_ok hc, eq_true q2, not_true, z0, show ((1 : Int32) = 0) = False from by decide, show ((0 : Int32) = 0) = True from by decide, if_true, if_false]
        rw [f1, e122_193]
        simp only [← z0]
        by_cases q3 : 99 < (dgF txt (n - b) b 0).2
        · simp only [e122_1, e122_4, e122_5, e122_8, e122_11, e122_12, e122_15, e122_16, e122_19, e122_20, e122_22, e122_25, e122_26, e122_27, e122_30, e122_31, e122_32, e122_35, e122_39, e122_40, e122_43, e122_46, e122_47, e122_48, e122_51, e122_52, e122_53, e122_56, e122_57, e122_60, e122_61, e122_64, e122_67, e122_68, e122_69, e122_70, e122_73, e122_74, e122_77, e122_78, e122_79, e122_80, e122_82, e122_84, e122_87, e122_90, e122_91, e122_92, e122_95, e122_96, e122_97, e122_100, e122_101, e122_102, e122_105, e122_106, e122_107, e122_108, e122_110, e122_113, e122_114, e122_117, e122_120, e122_121, e122_124, e122_125, e122_128, e122_129, e122_131, e122_133, e122_136, e122_139, e122_140, e122_141, e122_144, e122_146, e122_149, e122_151, e122_154, e122_156, e122_157, e122_160, e122_161, e122_162, e122_165, e122_166, e122_169, e122_170, e122_171, e122_173, e122_174, e122_177, e122_180, e122_181, e122_182, e122_185, e122_186, e122_187, e122_190, e122_193, e122_194, e122_197, e122_199, e122_202, e122_203, e122_204, e122_207, e122_208, e122_211, e122_212, e122_215, e122_216, e122_218, e122_221, e122_222, e122_225, e122_226, g76_17, nx_17, b2, w3, eq_true q3, not_true, if_false, z_b_ok0, if_true, true_or, not_false_iff, and_false, z_b, kcM, show (2 : Nat) < 3 from by decide, show ((1 : Int32) = 0) = False from by decide, show ((0 : Int32) = 0) = True from by decide, if_true, if_false]
        · by_cases q4 : (dgF txt (n - b) b 0).1 - b = 1
          · have q5 : ¬ 1 < (dgF txt (n - b) b 0).1 - b := by omega
            simp only [e122_1, e122_4, e122_5, e122_8, e122_11, e122_12, e122_15, e122_16, e122_19, e122_20, e122_22, e122_25, e122_26, e122_27, e122_30, e122_31, e122_32, e122_35, e122_39, e122_40, e122_43, e122_46, e122_47, e122_48, e122_51, e122_52, e122_53, e122_56, e122_57, e122_60, e122_61, e122_64, e122_67, e122_68, e122_69, e122_70, e122_73, e122_74, e122_77, e122_78, e122_79, e122_80, e122_82, e122_84, e122_87, e122_90, e122_91, e122_92, e122_95, e122_96, e122_97, e122_100, e122_101, e122_102, e122_105, e122_106, e122_107, e122_108, e122_110, e122_113, e122_114, e122_117, e122_120, e122_121, e122_124, e122_125, e122_128, e122_129, e122_131, e122_133, e122_136, e122_139, e122_140, e122_141, e122_144, e122_146, e122_149, e122_151, e122_154, e122_156, e122_157, e122_160, e122_161, e122_162, e122_165, e122_166, e122_169, e122_170, e122_171, e122_173, e122_174, e122_177, e122_180, e122_181, e122_182, e122_185, e122_186, e122_187, e122_190, e122_193, e122_194, e122_197, e122_199, e122_202, e122_203, e122_204, e122_207, e122_208, e122_211, e122_212, e122_215, e122_216, e122_218, e122_221, e122_222, e122_225, e122_226, g76_17, nx_17, b2, w3, eq_false q3, not_false_iff, if_true, b3, eq_true q4, z_b_ok1, q5, and_false, or_false, if_false, z_b, kcM, show (1 : Nat) < 3 from by decide, show ¬ (1 : Nat) = 0 from by decide, show ¬ (1 : Nat) = 2 from by decide, and_self, show ((1 : Int32) = 0) = False from by decide, show ((0 : Int32) = 0) = True from by decide, if_true, if_false]
          · have q5 : 1 < (dgF txt (n - b) b 0).1 - b := by omega
            by_cases q6 : txt b = 48
            · simp only [e122_1, e122_4, e122_5, e122_8, e122_11, e122_12, e122_15, e122_16, e122_19, e122_20, e122_22, e122_25, e122_26, e122_27, e122_30, e122_31, e122_32, e122_35, e122_39, e122_40, e122_43, e122_46, e122_47, e122_48, e122_51, e122_52, e122_53, e122_56, e122_57, e122_60, e122_61, e122_64, e122_67, e122_68, e122_69, e122_70, e122_73, e122_74, e122_77, e122_78, e122_79, e122_80, e122_82, e122_84, e122_87, e122_90, e122_91, e122_92, e122_95, e122_96, e122_97, e122_100, e122_101, e122_102, e122_105, e122_106, e122_107, e122_108, e122_110, e122_113, e122_114, e122_117, e122_120, e122_121, e122_124, e122_125, e122_128, e122_129, e122_131, e122_133, e122_136, e122_139, e122_140, e122_141, e122_144, e122_146, e122_149, e122_151, e122_154, e122_156, e122_157, e122_160, e122_161, e122_162, e122_165, e122_166, e122_169, e122_170, e122_171, e122_173, e122_174, e122_177, e122_180, e122_181, e122_182, e122_185, e122_186, e122_187, e122_190, e122_193, e122_194, e122_197, e122_199, e122_202, e122_203, e122_204, e122_207, e122_208, e122_211, e122_212, e122_215, e122_216, e122_218, e122_221, e122_222, e122_225, e122_226, g76_17, nx_17, b2, w3, eq_false q3, not_false_iff, if_true, b3, eq_false q4, if_false, g76_15, nx_15, g76_1, g_iln an77 (show b < 120 by omega) (by decide), nx_77, hr, b4, eq_true q6, z_b_ok0, q5, and_self, or_true, z_b, kcM, show (2 : Nat) < 3 from by decide, not_true, and_false, show ((1 : Int32) = 0) = False from by decide, show ((0 : Int32) = 0) = True from by decide, if_true, if_false]
            · simp only [e122_1, e122_4, e122_5, e122_8, e122_11, e122_12, e122_15, e122_16, e122_19, e122_20, e122_22, e122_25, e122_26, e122_27, e122_30, e122_31, e122_32, e122_35, e122_39, e122_40, e122_43, e122_46, e122_47, e122_48, e122_51, e122_52, e122_53, e122_56, e122_57, e122_60, e122_61, e122_64, e122_67, e122_68, e122_69, e122_70, e122_73, e122_74, e122_77, e122_78, e122_79, e122_80, e122_82, e122_84, e122_87, e122_90, e122_91, e122_92, e122_95, e122_96, e122_97, e122_100, e122_101, e122_102, e122_105, e122_106, e122_107, e122_108, e122_110, e122_113, e122_114, e122_117, e122_120, e122_121, e122_124, e122_125, e122_128, e122_129, e122_131, e122_133, e122_136, e122_139, e122_140, e122_141, e122_144, e122_146, e122_149, e122_151, e122_154, e122_156, e122_157, e122_160, e122_161, e122_162, e122_165, e122_166, e122_169, e122_170, e122_171, e122_173, e122_174, e122_177, e122_180, e122_181, e122_182, e122_185, e122_186, e122_187, e122_190, e122_193, e122_194, e122_197, e122_199, e122_202, e122_203, e122_204, e122_207, e122_208, e122_211, e122_212, e122_215, e122_216, e122_218, e122_221, e122_222, e122_225, e122_226, g76_17, nx_17, b2, w3, eq_false q3, not_false_iff, if_true, b3, eq_false q4, if_false, g76_15, nx_15, g76_1, g_iln an77 (show b < 120 by omega) (by decide), nx_77, hr, b4, eq_false q6, z_b_ok1, false_and, or_false, z_b, kcM, show (1 : Nat) < 3 from by decide, show ¬ (1 : Nat) = 0 from by decide, show ¬ (1 : Nat) = 2 from by decide, and_self, show ((1 : Int32) = 0) = False from by decide, show ((0 : Int32) = 0) = True from by decide, if_true, if_false]
      · dsimp only at h
        split at h
        · omega
        · rename_i h5
          rw [w1 (fun q => h5 (Or.inl q))]
    · rw [if_neg q2]
      refine ⟨0, ?_, fun h => absurd h (by show ¬ 3 + txt b = 1; omega)⟩
      have c0 : ¬ 3 + txt b = 0 := by omega
      have c2 : ¬ 3 + txt b = 2 := by omega
      have c3 : kcM (3 + txt b) = nI (txt b) := by
        unfold kcM
        rw [if_neg (by omega), show 3 + txt b - 3 = txt b by omega]
      dsimp only
      rw [c3]
      simp only [e122_1, e122_4, e122_5, e122_8, e122_11, e122_12, e122_15, e122_16, e122_19, e122_20, e122_22, e122_25, e122_26, e122_27, e122_30, e122_31, e122_32, e122_35, e122_39, e122_40, e122_43, e122_46, e122_47, e122_48, e122_51, e122_52, e122_53, e122_56, e122_57, e122_60, e122_61, e122_64, e122_67, e122_68, e122_69, e122_70, e122_73, e122_74, e122_77, e122_78, e122_79, e122_80, e122_82, e122_84, e122_87, e122_90, e122_91, e122_92, e122_95, e122_96, e122_97, e122_100, e122_101, e122_102, e122_105, e122_106, e122_107, e122_108, e122_110, e122_113, e122_114, e122_117, e122_120, e122_121, e122_124, e122_125, e122_128, e122_129, e122_131, e122_133, e122_136, e122_139, e122_140, e122_141, e122_144, e122_146, e122_149, e122_151, e122_154, e122_156, e122_157, e122_160, e122_161, e122_162, e122_165, e122_166, e122_169, e122_170, e122_171, e122_173, e122_174, e122_177, e122_180, e122_181, e122_182, e122_185, e122_186, e122_187, e122_190, e122_193, e122_194, e122_197, e122_199, e122_202, e122_203, e122_204, e122_207, e122_208, e122_211, e122_212, e122_215, e122_216, e122_218, e122_221, e122_222, e122_225, e122_226, g76_14, nx_14, p76_15, nx_u15, p76_17, nx_u17, p76_16, nx_u16, g76_0, nx_0, hT.2.1, b1, if_false, g76_1, g_iln an77 (show b < 120 by omega) (by decide), nx_77, hr, s115, z_bd_i, z_bd_l, z_bd_v, List.cons_append, List.nil_append, z_nk_i, z_nk_r, z_nk_n, v0, v1, v3, v19, v61, v71, v76, z_b_0, dig_ok hc, eq_false q2, not_false_iff, if_true, p76_14, nx_u14, nI_1, z_b_ok1, c0, c2, and_self, z_b, show ((1 : Int32) = 0) = False from by decide, show ((0 : Int32) = 0) = True from by decide, if_true, if_false]
  · rw [if_neg q]
    obtain rfl : b = n := by omega
    refine ⟨0, ?_, fun h => absurd (show (0 : Nat) = 1 from h) (by decide)⟩
    simp only [e122_1, e122_4, e122_5, e122_8, e122_11, e122_12, e122_15, e122_16, e122_19, e122_20, e122_22, e122_25, e122_26, e122_27, e122_30, e122_31, e122_32, e122_35, e122_39, e122_40, e122_43, e122_46, e122_47, e122_48, e122_51, e122_52, e122_53, e122_56, e122_57, e122_60, e122_61, e122_64, e122_67, e122_68, e122_69, e122_70, e122_73, e122_74, e122_77, e122_78, e122_79, e122_80, e122_82, e122_84, e122_87, e122_90, e122_91, e122_92, e122_95, e122_96, e122_97, e122_100, e122_101, e122_102, e122_105, e122_106, e122_107, e122_108, e122_110, e122_113, e122_114, e122_117, e122_120, e122_121, e122_124, e122_125, e122_128, e122_129, e122_131, e122_133, e122_136, e122_139, e122_140, e122_141, e122_144, e122_146, e122_149, e122_151, e122_154, e122_156, e122_157, e122_160, e122_161, e122_162, e122_165, e122_166, e122_169, e122_170, e122_171, e122_173, e122_174, e122_177, e122_180, e122_181, e122_182, e122_185, e122_186, e122_187, e122_190, e122_193, e122_194, e122_197, e122_199, e122_202, e122_203, e122_204, e122_207, e122_208, e122_211, e122_212, e122_215, e122_216, e122_218, e122_221, e122_222, e122_225, e122_226, g76_14, nx_14, p76_15, nx_u15, p76_17, nx_u17, p76_16, nx_u16, g76_0, nx_0, hT.2.1, if_true, z_b_ok0, not_true, false_and, z_b, if_false, kcM, show (0 : Nat) < 3 from by decide, show ((1 : Int32) = 0) = False from by decide, show ((0 : Int32) = 0) = True from by decide, if_true, if_false]
theorem r122 (hT : TM_at σ n txt) {s : Nat} (hs : s ≤ n) (ha : σ.1 76 14 = nI s) : ∃ τ, z_call 122 [.ref 76] (z_enc σ) = some (some (.int (z_b (¬ (tkF n txt s).1 = 0 ∧ ¬ (tkF n txt s).1 = 2))), z_enc τ) ∧ τ.1 76 14 = nI (tkF n txt s).2.2.2 ∧ τ.1 76 15 = nI (tkF n txt s).2.2.1 ∧ τ.1 76 16 = kcM (tkF n txt s).1 ∧ ((tkF n txt s).1 = 1 → τ.1 76 17 = nI (tkF n txt s).2.1) ∧ z_sf Qn σ τ := by
  obtain ⟨w, e, h⟩ := s122 hT hs (σ.1 76 15) (σ.1 76 16) (σ.1 76 17)
  rw [← ha, nx_self] at e
  exact ⟨_, e, nx_14, nx_15, nx_16, fun q => by rw [nx_17]; exact h q, nx_sf⟩
theorem kcM_neg {k : Nat} (hk : k < 1000) : (kcM k < 0) = (k < 3) := by
  unfold kcM
  by_cases h : k < 3
  · rw [if_pos h]
    exact (eq_true (by decide : (-1 : Int32) < 0)).trans (eq_true h).symm
  · rw [if_neg h]
    exact (eq_false (nI_pos (by omega))).trans (eq_false h).symm
theorem tk_k {s : Nat} (hs : s ≤ n) (hT : ∀ k, k < n → txt k < 256) : (tkF n txt s).1 < 300 := by
  have h1 := sk_le txt (n - s) s
  unfold tkF tk1
  generalize skF txt (n - s) s = b at *
  by_cases q : b < n
  · have := hT b q
    rw [if_pos q]
    split
    · dsimp only
      split <;> omega
    · dsimp only
      omega
  · rw [if_neg q]
    dsimp only
    omega
theorem r123 (hT : TM_at σ n txt) {s : Nat} (hs : s ≤ n) (ha : σ.1 76 14 = nI s) {lo hi : Int32} {P : Nat → Bool} (hP : ∀ v, v < 100 → (¬ nI v < lo ∧ ¬ hi < nI v) = (P v = true)) : ∃ τ, z_call 123 [.ref 76, .int lo, .int hi] (z_enc σ) = some (some (.int (z_b ((tkF n txt s).1 = 1 ∧ P (tkF n txt s).2.1 = true))), z_enc τ) ∧ τ.1 76 14 = nI (tkF n txt s).2.2.2 ∧ τ.1 76 15 = nI (tkF n txt s).2.2.1 ∧ ((tkF n txt s).1 = 1 → τ.1 76 17 = nI (tkF n txt s).2.1) ∧ z_sf Qn σ τ := by
  obtain ⟨τ, e, h1, h2, h3, h4, hf⟩ := r122 hT hs ha
  have hk := tk_k hs (fun k hk => (hT.2.2 k hk).2)
  obtain ⟨-, -, -, -, t5⟩ := tk_ok (txt := txt) hs
  refine ⟨τ, ?_, h1, h2, h4, hf⟩
  have kn := kcM_neg (k := (tkF n txt s).1) (by omega)
  by_cases q1 : (tkF n txt s).1 = 1
  · have hv := hP _ (t5 q1)
    have q0 : (¬ (tkF n txt s).1 = 0 ∧ ¬ (tkF n txt s).1 = 2) = True := eq_true (by omega)
    have q3 : ((tkF n txt s).1 < 3) = True := eq_true (by omega)
    by_cases q2 : P (tkF n txt s).2.1 = true
    · simp only [en123, e123_0, e123_1, e123_4, e123_7, e123_8, e123_11, e123_14, e123_15, e123_18, e123_19, e123_20, e123_23, e123_26, e123_27, e123_30, e123_31, v76, e, z_bd_i, z_bd_l, z_bd_v, List.cons_append, List.nil_append, z_nk_i, z_nk_r, z_nk_n, v0, v1, v3, v19, v61, v71, v76, z_b_0, q0, not_true, if_false, g76_16, h3, kn, q3, if_true, g76_17, h4 q1, s115, hv, eq_true q2, eq_true q1, and_self, z_b_ok1, z_b, show ((1 : Int32) = 0) = False from by decide, show ((0 : Int32) = 0) = True from by decide, if_true, if_false]
    · simp only [en123, e123_0, e123_1, e123_4, e123_7, e123_8, e123_11, e123_14, e123_15, e123_18, e123_19, e123_20, e123_23, e123_26, e123_27, e123_30, e123_31, v76, e, z_bd_i, z_bd_l, z_bd_v, List.cons_append, List.nil_append, z_nk_i, z_nk_r, z_nk_n, v0, v1, v3, v19, v61, v71, v76, z_b_0, q0, not_true, if_false, g76_16, h3, kn, q3, if_true, g76_17, h4 q1, s115, hv, eq_false q2, not_false_iff, and_false, z_b_ok0, z_b, show ((1 : Int32) = 0) = False from by decide, show ((0 : Int32) = 0) = True from by decide, if_true, if_false]
  · by_cases q0 : ¬ (tkF n txt s).1 = 0 ∧ ¬ (tkF n txt s).1 = 2
    · have q3 : ((tkF n txt s).1 < 3) = False := eq_false (by omega)
      simp only [en123, e123_0, e123_1, e123_4, e123_7, e123_8, e123_11, e123_14, e123_15, e123_18, e123_19, e123_20, e123_23, e123_26, e123_27, e123_30, e123_31, v76, e, z_bd_i, z_bd_l, z_bd_v, List.cons_append, List.nil_append, z_nk_i, z_nk_r, z_nk_n, v0, v1, v3, v19, v61, v71, v76, z_b_0, eq_true q0, not_true, if_false, g76_16, h3, kn, q3, if_true, eq_false q1, false_and, z_b_ok0, z_b, show ((1 : Int32) = 0) = False from by decide, show ((0 : Int32) = 0) = True from by decide, if_true, if_false]
    · simp only [en123, e123_0, e123_1, e123_4, e123_7, e123_8, e123_11, e123_14, e123_15, e123_18, e123_19, e123_20, e123_23, e123_26, e123_27, e123_30, e123_31, v76, e, z_bd_i, z_bd_l, z_bd_v, List.cons_append, List.nil_append, z_nk_i, z_nk_r, z_nk_n, v0, v1, v3, v19, v61, v71, v76, z_b_0, eq_false q0, not_false_iff, if_true, eq_false q1, false_and, z_b_ok0, z_b, if_false, show ((1 : Int32) = 0) = False from by decide, show ((0 : Int32) = 0) = True from by decide, if_true, if_false]
theorem r124 (hT : TM_at σ n txt) {s : Nat} (hs : s ≤ n) (ha : σ.1 76 14 = nI s) : ∃ τ, z_call 124 [.ref 76] (z_enc σ) = some (some (.int (z_b ((tkF n txt s).1 = 62))), z_enc τ) ∧ τ.1 76 14 = nI (tkF n txt s).2.2.2 ∧ τ.1 76 15 = nI (tkF n txt s).2.2.1 ∧ z_sf Qn σ τ := by
  obtain ⟨τ, e, h1, h2, h3, h4, hf⟩ := r122 hT hs ha
  have hk := tk_k hs (fun k hk => (hT.2.2 k hk).2)
  refine ⟨τ, ?_, h1, h2, hf⟩
  have k59 : (kcM (tkF n txt s).1 = 59) = ((tkF n txt s).1 = 62) := by
    unfold kcM
    apply propext
    split
    · exact ⟨fun h => absurd h (by decide), fun h => by omega⟩
    · rename_i h3
      have := nI_eq (a := (tkF n txt s).1 - 3) (b := 59) (by omega) (by decide)
      constructor
      · intro h
        have := this.mp h
        omega
      · intro h
        exact this.mpr (by omega)
  by_cases q0 : ¬ (tkF n txt s).1 = 0 ∧ ¬ (tkF n txt s).1 = 2
  · by_cases q1 : (tkF n txt s).1 = 62
    · simp only [en124, e124_0, e124_1, e124_4, e124_7, e124_8, e124_11, e124_13, e124_16, e124_17, e124_20, e124_21, v76, e, z_bd_i, z_bd_l, z_bd_v, List.cons_append, List.nil_append, z_nk_i, z_nk_r, z_nk_n, v0, v1, v3, v19, v61, v71, v76, z_b_0, eq_true q0, not_true, if_false, g76_16, h3, k59, eq_true q1, if_true, z_b_ok1, z_b, show ((1 : Int32) = 0) = False from by decide, show ((0 : Int32) = 0) = True from by decide, if_true, if_false]
    · simp only [en124, e124_0, e124_1, e124_4, e124_7, e124_8, e124_11, e124_13, e124_16, e124_17, e124_20, e124_21, v76, e, z_bd_i, z_bd_l, z_bd_v, List.cons_append, List.nil_append, z_nk_i, z_nk_r, z_nk_n, v0, v1, v3, v19, v61, v71, v76, z_b_0, eq_true q0, not_true, if_false, g76_16, h3, k59, eq_false q1, if_true, z_b_ok0, z_b, show ((1 : Int32) = 0) = False from by decide, show ((0 : Int32) = 0) = True from by decide, if_true, if_false]
  · have q1 : ¬ (tkF n txt s).1 = 62 := fun h => q0 (by omega)
    simp only [en124, e124_0, e124_1, e124_4, e124_7, e124_8, e124_11, e124_13, e124_16, e124_17, e124_20, e124_21, v76, e, z_bd_i, z_bd_l, z_bd_v, List.cons_append, List.nil_append, z_nk_i, z_nk_r, z_nk_n, v0, v1, v3, v19, v61, v71, v76, z_b_0, eq_false q0, not_false_iff, if_true, eq_false q1, z_b_ok0, z_b, if_false, show ((1 : Int32) = 0) = False from by decide, show ((0 : Int32) = 0) = True from by decide, if_true, if_false]
end MTEXT
