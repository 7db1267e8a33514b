/-! the class's March: steps, copies -/
section STEP
variable {σ : z_G} {a : Nat} {L : t_L} {S : t_S}
theorem s32t (hM : z_isM a) (hL : L_at σ (z_rf a 0) L) (h : M_at σ a S) (ok : L_ok L) (sk : S_ok S) {o : Option Nat} (ho : ∀ c, o = some c → c < 64) : z_call 32 [.ref a, .int (z_o o), .int 1] (z_enc σ) = some (some (.int (z_b (mayO L S o true = true))), z_enc σ) := s32 hM hL h ok sk ho true
theorem s32f (hM : z_isM a) (hL : L_at σ (z_rf a 0) L) (h : M_at σ a S) (ok : L_ok L) (sk : S_ok S) {o : Option Nat} (ho : ∀ c, o = some c → c < 64) : z_call 32 [.ref a, .int (z_o o), .int 0] (z_enc σ) = some (some (.int (z_b (mayO L S o false = true))), z_enc σ) := s32 hM hL h ok sk ho false
theorem sd_lt {c d s : Nat} (h : sdF c d = some s) : s < 4 := by
  unfold sdF at h
  repeat' split at h
  all_goals cases h
  all_goals decide
theorem side_lt {g s : Nat} (h : sideF S g = some s) : s < 4 := by
  unfold sideF at h
  split at h
  · cases h
  · exact sd_lt h
theorem s37 (hM : z_isM a) (hL : L_at σ (z_rf a 0) L) (h : M_at σ a S) (ok : L_ok L) (sk : S_ok S) {g : Nat} (hg : g < 4) : z_call 37 [.ref a, .int (nI g)] (z_enc σ) = some (some (.int (z_o (goalF L S g))), z_enc σ) := by
  have hl := isM_L hM
  have hc := sk.2.1 g hg
  have mi1 := h.2.2.2.1
  have o1 : ((1 : Int32) = 0) = False := by decide
  cases hs : sideF S g with
  | none =>
    simp only [en37, e37_0, e37_1, e37_2, e37_5, e37_6, e37_7, e37_8, e37_11, e37_12, e37_13, e37_14, e37_15, e37_18, e37_19, e37_20, e37_23, e37_24, e37_27, e37_28, e37_31, e37_32, e37_35, e37_36, e37_38, e37_39, e37_42, e37_43, e37_44, e37_47, e37_49, e37_50, e37_52, e37_54, e37_57, e37_58, e37_61, e37_62, e37_65, e37_68, e37_70, e37_71, e37_73, e37_76, e37_77, e37_78, e37_79, e37_80, e37_83, e37_84, e37_87, e37_88, e37_90, e37_91, e37_94, e37_95, e37_97, e37_100, e37_102, e37_103, e37_105, e37_106, e37_109, e37_112, e37_114, e37_115, e37_116, e37_119, e37_120, e37_122, e37_123, e37_124, e37_127, e37_129, e37_130, e37_132, e37_133, e37_136, e37_139, e37_141, e37_144, e37_145, vM hM, s38 hM h sk hg, z_bd_i, z_bd_l, z_bd_v, List.cons_append, List.nil_append, z_nk_i, z_nk_r, z_nk_n, hs, z_s, if_true, goalF, z_o]
  | some s =>
    have hs4 := side_lt hs
    have hb : ∀ s, ∀ c, besF L (S.2.1 g) s = some c → c < 64 := fun s c e => (bes_lt hc ok e).1
    by_cases gm : S.2.2.2.1.testBit g = true
    · have b0 : z_call 18 [.ref (z_rf a 0), .int (nI (tn (S.2.1 g))), .int 0] (z_enc σ) = some (some (.int (z_o (besF L (S.2.1 g) 0))), z_enc σ) := s18 hl hL ok hc (by decide)
      have b1 : z_call 18 [.ref (z_rf a 0), .int (nI (tn (S.2.1 g))), .int (nI 1)] (z_enc σ) = some (some (.int (z_o (besF L (S.2.1 g) 1))), z_enc σ) := s18 hl hL ok hc (by decide)
      have b2 : z_call 18 [.ref (z_rf a 0), .int (nI (tn (S.2.1 g))), .int 2] (z_enc σ) = some (some (.int (z_o (besF L (S.2.1 g) 2))), z_enc σ) := s18 hl hL ok hc (by decide)
      have b3 : z_call 18 [.ref (z_rf a 0), .int (nI (tn (S.2.1 g))), .int (nI 3)] (z_enc σ) = some (some (.int (z_o (besF L (S.2.1 g) 3))), z_enc σ) := s18 hl hL ok hc (by decide)
      have n21 : (2 : Int32) + 1 = nI 3 := by decide
      have n01 : (0 : Int32) + 1 = nI 1 := by decide
      have s2 : (nI s < 2) = (s < 2) := propext (nI_ltI (by omega) (by decide))
      simp only [en37, e37_0, e37_1, e37_2, e37_5, e37_6, e37_7, e37_8, e37_11, e37_12, e37_13, e37_14, e37_15, e37_18, e37_19, e37_20, e37_23, e37_24, e37_27, e37_28, e37_31, e37_32, e37_35, e37_36, e37_38, e37_39, e37_42, e37_43, e37_44, e37_47, e37_49, e37_50, e37_52, e37_54, e37_57, e37_58, e37_61, e37_62, e37_65, e37_68, e37_70, e37_71, e37_73, e37_76, e37_77, e37_78, e37_79, e37_80, e37_83, e37_84, e37_87, e37_88, e37_90, e37_91, e37_94, e37_95, e37_97, e37_100, e37_102, e37_103, e37_105, e37_106, e37_109, e37_112, e37_114, e37_115, e37_116, e37_119, e37_120, e37_122, e37_123, e37_124, e37_127, e37_129, e37_130, e37_132, e37_133, e37_136, e37_139, e37_141, e37_144, e37_145, vM hM, s38 hM h sk hg, z_bd_i, z_bd_l, z_bd_v, List.cons_append, List.nil_append, z_nk_i, z_nk_r, z_nk_n, hs, z_s, m_1 (show s < 2147483648 by omega), if_false, s23 hM h hg, gM_4 hM, mi1, s91, bit4 _ sk.2.2.2.1 g hg, z_b_0, z_b_1, gm, if_true, o1, gM_0 hM, vL hl, s18 hl hL ok hc hs4, s32f hM hL h ok sk (hb s), goalF, Bool.true_eq_false, s2, not_true, b0, b1, b2, b3, n21, n01, s32f hM hL h ok sk (hb 0), s32f hM hL h ok sk (hb 1), s32f hM hL h ok sk (hb 2), s32f hM hL h ok sk (hb 3)]
      by_cases g1 : mayO L S (besF L (S.2.1 g) s) false = true
      · simp only [g1, not_true, if_false, if_true]
      · by_cases g2 : s < 2
        · by_cases g3 : mayO L S (besF L (S.2.1 g) 2) false = true <;> by_cases g4 : mayO L S (besF L (S.2.1 g) 3) false = true <;> simp [g1, g2, g3, g4, z_o]
        · by_cases g3 : mayO L S (besF L (S.2.1 g) 0) false = true <;> by_cases g4 : mayO L S (besF L (S.2.1 g) 1) false = true <;> simp [g1, g2, g3, g4, z_o]
    · have gm2 : S.2.2.2.1.testBit g = false := by simpa using gm
      simp only [en37, e37_0, e37_1, e37_2, e37_5, e37_6, e37_7, e37_8, e37_11, e37_12, e37_13, e37_14, e37_15, e37_18, e37_19, e37_20, e37_23, e37_24, e37_27, e37_28, e37_31, e37_32, e37_35, e37_36, e37_38, e37_39, e37_42, e37_43, e37_44, e37_47, e37_49, e37_50, e37_52, e37_54, e37_57, e37_58, e37_61, e37_62, e37_65, e37_68, e37_70, e37_71, e37_73, e37_76, e37_77, e37_78, e37_79, e37_80, e37_83, e37_84, e37_87, e37_88, e37_90, e37_91, e37_94, e37_95, e37_97, e37_100, e37_102, e37_103, e37_105, e37_106, e37_109, e37_112, e37_114, e37_115, e37_116, e37_119, e37_120, e37_122, e37_123, e37_124, e37_127, e37_129, e37_130, e37_132, e37_133, e37_136, e37_139, e37_141, e37_144, e37_145, vM hM, s38 hM h sk hg, z_bd_i, z_bd_l, z_bd_v, List.cons_append, List.nil_append, z_nk_i, z_nk_r, z_nk_n, hs, z_s, m_1 (show s < 2147483648 by omega), if_false, s23 hM h hg, gM_4 hM, mi1, s91, bit4 _ sk.2.2.2.1 g hg, z_b_0, z_b_1, gm, if_true, o1, gM_0 hM, vL hl, s18 hl hL ok hc hs4, s32t hM hL h ok sk (hb s), goalF, gm2, Bool.false_eq_true, not_true, not_false_iff]
      by_cases q : mayO L S (besF L (S.2.1 g) s) true = true <;> simp [q, z_o]
theorem goal_lt {g c : Nat} (ok : L_ok L) (sk : S_ok S) (hg : g < 4) (h : goalF L S g = some c) : c < 64 := by
  have hb : ∀ s, besF L (S.2.1 g) s = some c → c < 64 := fun s e => (bes_lt (sk.2.1 g hg) ok e).1
  unfold goalF at h
  split at h
  · cases h
  · repeat' split at h
    all_goals first
      | (cases h; done)
      | exact hb _ h
theorem one_ok (ok : L_ok L) (sk : S_ok S) {g : Nat} (hg : g < 4) : S_ok (oneF L S g).1 := by
  unfold oneF
  split
  · exact ⟨sk.1, sk.2.1, sk.2.2.1, sk.2.2.2.1, clr_lt _ sk.2.2.2.2.1 g hg, sk.2.2.2.2.2⟩
  · split
    · exact sk
    · rename_i c hc
      exact ent_ok sk hg (goal_lt ok sk hg hc)
theorem one_le (L : t_L) (S : t_S) (g : Nat) : (oneF L S g).2 ≤ 1 := by
  unfold oneF
  split
  · exact Nat.zero_le _
  · split
    · exact Nat.zero_le _
    · exact Nat.le_refl _
theorem stp_ok (ok : L_ok L) (sk : S_ok S) : ∀ k, k ≤ 4 → S_ok (stpF L S k).1 ∧ (stpF L S k).2 ≤ k
  | 0, _ => ⟨sk, Nat.le_refl _⟩
  | k + 1, hk => by
    have h := stp_ok ok sk k (by omega)
    have h1 := one_le L (stpF L S k).1 k
    refine ⟨one_ok ok h.1 (by omega), ?_⟩
    rw [stpF]
    have := h.2
    dsimp only
    omega
theorem step_ok (ok : L_ok L) (sk : S_ok S) : S_ok (stepF L S) := (stp_ok ok sk _ ok.2.2.2.2).1
theorem l36 (hM : z_isM a) (hL : L_at σ (z_rf a 0) L) (hd : z_rf a 0 < a ∨ a + 4 ≤ z_rf a 0) (ok : L_ok L) (sk : S_ok S) : ∀ d k (l3 : Option Value), k + d = L.2.2.2.2.2 →
    z_r [] 0 0 36 4 [some (.ref a), some (.int (nI (stpF L S k).2)), some (.int (nI k)), l3] [] (z_enc (M_set σ a (stpF L S k).1)) = some (some (.int (nI (goneF L S))), z_enc (M_set σ a (stepF L S))) := by
  have h4 := ok.2.2.2.2
  have hl := isM_L hM
  intro d
  induction d with
  | zero =>
    intro k l3 hk
    have e : k = L.2.2.2.2.2 := by omega
    subst e
    have hN := (L_at_ne (S := (stpF L S L.2.2.2.2.2).1) (show a + 4 ≤ z_rf a 0 ∨ z_rf a 0 < a by omega) hL).2.2.2.2.2
    rw [e36_4]
    simp (disch := omega) only [e36_0, e36_1, e36_2, e36_3, e36_5, e36_6, e36_9, e36_12, e36_15, e36_16, e36_19, e36_20, e36_23, e36_24, e36_27, e36_28, e36_29, e36_32, e36_33, e36_34, e36_35, e36_36, e36_37, e36_38, e36_41, e36_44, e36_45, e36_46, e36_49, e36_50, e36_51, e36_52, e36_55, e36_56, e36_57, e36_58, e36_61, e36_64, e36_67, e36_70, e36_71, gM_0 hM, gL_5 hl, hN, nI_ltI, Nat.lt_irrefl, if_false, goneF, stepF]
  | succ d ih =>
    intro k l3 hk
    have hk4 : k < 4 := by omega
    have hkN : k < L.2.2.2.2.2 := by omega
    have hL2 := L_at_ne (S := (stpF L S k).1) (show a + 4 ≤ z_rf a 0 ∨ z_rf a 0 < a by omega) hL
    have hN := hL2.2.2.2.2.2
    have hat := M_at_set σ a (stpF L S k).1
    have sk2 := (stp_ok ok sk k (by omega)).1
    have hb := bit4 _ sk2.2.2.2.2.1 k hk4
    have e := fun l3 => ih (k + 1) l3 (by omega)
    rw [stpF] at e
    dsimp only at e
    generalize (stpF L S k).1 = S1 at *
    generalize (stpF L S k).2 = n1 at *
    unfold oneF at e
    by_cases g1 : S1.2.2.2.2.1.testBit k = true
    · simp only [g1, if_true] at e
      rw [e36_4]
      simp (disch := omega) only [e36_0, e36_1, e36_2, e36_3, e36_5, e36_6, e36_9, e36_12, e36_15, e36_16, e36_19, e36_20, e36_23, e36_24, e36_27, e36_28, e36_29, e36_32, e36_33, e36_34, e36_35, e36_36, e36_37, e36_38, e36_41, e36_44, e36_45, e36_46, e36_49, e36_50, e36_51, e36_52, e36_55, e36_56, e36_57, e36_58, e36_61, e36_64, e36_67, e36_70, e36_71, gM_0 hM, gL_5 hl, hN, nI_ltI, hkN, if_true, gM_5 hM, hat.2.2.2.2.1, s91, z_bd_i, z_bd_l, z_bd_v, List.cons_append, List.nil_append, z_nk_i, z_nk_r, z_nk_n, hb, z_b_1, g1, sh1 k (by omega), clr4 _ sk2.2.2.2.2.1 k hk4, pM_5 hM, u_dn hat, M_set_set, nI_1]
      exact e _
    · simp only [g1, if_false] at e
      rw [e36_4]
      simp (disch := omega) only [e36_0, e36_1, e36_2, e36_3, e36_5, e36_6, e36_9, e36_12, e36_15, e36_16, e36_19, e36_20, e36_23, e36_24, e36_27, e36_28, e36_29, e36_32, e36_33, e36_34, e36_35, e36_36, e36_37, e36_38, e36_41, e36_44, e36_45, e36_46, e36_49, e36_50, e36_51, e36_52, e36_55, e36_56, e36_57, e36_58, e36_61, e36_64, e36_67, e36_70, e36_71, gM_0 hM, gL_5 hl, hN, nI_ltI, hkN, if_true, gM_5 hM, hat.2.2.2.2.1, s91, z_bd_i, z_bd_l, z_bd_v, List.cons_append, List.nil_append, z_nk_i, z_nk_r, z_nk_n, hb, z_b_1, g1, if_false, vM hM, s37 hM hL2 hat ok sk2 hk4]
      cases hg : goalF L S1 k with
      | none =>
        simp only [hg] at e
        simp only [z_o, if_true, nI_1]
        exact e _
      | some c =>
        have hc := goal_lt ok sk2 hk4 hg
        have ht := tn_lt hc
        simp only [hg] at e
        simp only [z_o, m_1 (show tn c < 2147483648 by omega), if_false, s34 hM hL2 hd hat ok sk2 hk4 hc, e36_0, e36_1, e36_2, e36_3, e36_5, e36_6, e36_9, e36_12, e36_15, e36_16, e36_19, e36_20, e36_23, e36_24, e36_27, e36_28, e36_29, e36_32, e36_33, e36_34, e36_35, e36_36, e36_37, e36_38, e36_41, e36_44, e36_45, e36_46, e36_49, e36_50, e36_51, e36_52, e36_55, e36_56, e36_57, e36_58, e36_61, e36_64, e36_67, e36_70, e36_71, vM hM, z_bd_i, z_bd_l, z_bd_v, List.cons_append, List.nil_append, z_nk_i, z_nk_r, z_nk_n, M_set_set, nI_1]
        exact e _
theorem s36 (hM : z_isM a) (hL : L_at σ (z_rf a 0) L) (hd : z_rf a 0 < a ∨ a + 4 ≤ z_rf a 0) (h : M_at σ a S) (ok : L_ok L) (sk : S_ok S) : z_call 36 [.ref a] (z_enc σ) = some (some (.int (nI (goneF L S))), z_enc (M_set σ a (stepF L S))) := by
  have e := l36 hM hL hd ok sk L.2.2.2.2.2 0 none (by omega)
  rw [stpF, M_set_self h] at e
  simp only [en36, e36_0, e36_1, e36_2, e36_3]
  exact e
end STEP
