/-! the reference: deal, odds -/
def chF (x s : Nat) : Nat → Nat
  | 0 => 1
  | m + 1 => chF x s m * (if s.testBit m = true then x else 10 - x)
def belF (x M : Nat) : Nat → Nat
  | 0 => 0
  | s + 1 => belF x M s + chF x s M
theorem ch_ok : ∀ M, M < 5 → ∀ x, x < 11 → ∀ s, s < 2 ^ M → chF x s M = x ^ ones4 s * (10 - x) ^ (M - ones4 s) := by decide +kernel
theorem bel_ok : ∀ M, M < 5 → ∀ x, x < 11 → belF x M (2 ^ M) = 10 ^ M := by decide +kernel
section MDEAL
variable {σ : z_G} {L : t_L} {S : t_S}
theorem l166 (ok : L_ok L) (sk : S_ok S) (dk : DN L S) {k n : Nat} (hk : k ≤ 4) (hn : n ≤ 20) : ∀ d s (o : Option (Nat × Nat)) (l6 : Option Value) (σ : z_G), D_at σ L → R_at σ 81 0 L.2.2.2.2.2 S → d + s = 2 ^ L.2.2.2.2.2 → (∀ q, o = some q → q.1 < 16 ∧ q.2 ≤ 160) →
    ∃ τ, z_r [] 0 0 166 30 [some (.ref 76), some (.int (nI k)), some (.int (nI n)), some (.int (dlB o)), some (.int (nI (dlW o))), some (.int (nI s)), l6] [] (z_enc σ) = some (some (.int (dlB (dlF L S k n d s o))), z_enc τ) ∧ z_sf Q82 σ τ := by
  have hN := ok.2.2.2.2
  have h16 : 2 ^ L.2.2.2.2.2 ≤ 16 := Nat.pow_le_pow_right (by decide) hN
  intro d
  induction d with
  | zero =>
    intro s o l6 σ hD hR hd ho
    have i3 : ∀ K : Int32 → Option z_O, z_il1 (z_enc σ) 78 3 K = K (σ.1 78 3) := fun K => g_iln (k := 3) an78 (by decide) (by decide)
    have b1 : (nI s < nI (2 ^ L.2.2.2.2.2)) = False := eq_false (nI_nlt (by omega) (by omega))
    refine ⟨σ, ?_, z_sf.rf⟩
    rw [e166_30]
    simp only [e166_0, e166_1, e166_2, e166_3, e166_6, e166_9, e166_10, e166_11, e166_13, e166_16, e166_19, e166_20, e166_21, e166_23, e166_24, e166_25, e166_27, e166_28, e166_32, e166_33, e166_34, e166_37, e166_38, e166_39, e166_40, e166_43, e166_45, e166_48, e166_49, e166_52, e166_53, e166_56, e166_57, e166_60, e166_62, e166_64, e166_65, e166_66, e166_67, e166_70, e166_71, e166_72, e166_75, e166_76, e166_78, e166_81, e166_82, e166_85, e166_87, e166_90, e166_91, e166_94, e166_95, e166_97, e166_99, e166_102, e166_104, e166_107, e166_108, e166_109, e166_111, e166_114, e166_115, e166_118, e166_121, e166_123, e166_125, e166_128, e166_131, e166_132, g76_2, i3, hD.2.2.2.1, sh1 _ (show L.2.2.2.2.2 < 31 by omega), b1, if_false, dlF]
  | succ d ih =>
    intro s o l6 σ hD hR hd ho
    have i3 : ∀ K : Int32 → Option z_O, z_il1 (z_enc σ) 78 3 K = K (σ.1 78 3) := fun K => g_iln (k := 3) an78 (by decide) (by decide)
    have hs : s < 16 := by omega
    have b1 : (nI s < nI (2 ^ L.2.2.2.2.2)) = True := eq_true (nI_lt (by omega) (by omega))
    have e1 : (nI (ones4 s) = nI k) = (ones4 s = k) := propext (nI_eq (by have := ones_le s; omega) (by omega))
    have hf : fallF L (mirS S s) n ≤ 80 := by have := fall_le L (mirS S s) n; omega
    have j8 : ∀ (σ : z_G) (x : Int32) (K : z_H → Option z_O), z_is1 (z_enc σ) 82 8 x K = K (z_enc (z_ui σ 82 8 x)) := fun σ x K => g_isn (k := 8) an82 (by decide) (by decide)
    rw [dlF]
    rw [e166_30]
    simp only [e166_0, e166_1, e166_2, e166_3, e166_6, e166_9, e166_10, e166_11, e166_13, e166_16, e166_19, e166_20, e166_21, e166_23, e166_24, e166_25, e166_27, e166_28, e166_32, e166_33, e166_34, e166_37, e166_38, e166_39, e166_40, e166_43, e166_45, e166_48, e166_49, e166_52, e166_53, e166_56, e166_57, e166_60, e166_62, e166_64, e166_65, e166_66, e166_67, e166_70, e166_71, e166_72, e166_75, e166_76, e166_78, e166_81, e166_82, e166_85, e166_87, e166_90, e166_91, e166_94, e166_95, e166_97, e166_99, e166_102, e166_104, e166_107, e166_108, e166_109, e166_111, e166_114, e166_115, e166_118, e166_121, e166_123, e166_125, e166_128, e166_131, e166_132, g76_2, i3, hD.2.2.2.1, sh1 _ (show L.2.2.2.2.2 < 31 by omega), b1, if_true, s117b hs, z_bd_i, z_bd_l, z_bd_v, List.cons_append, List.nil_append, z_nk_i, z_nk_r, z_nk_n, v0, v1, v3, v19, v61, v71, v76, e1]
    by_cases q1 : ones4 s = k
    · obtain ⟨a1, a2, a3, a4⟩ := asd hD hR ok
      have sf2 : z_sf (fun p _ => p ≠ 82) (cpF σ 82 0 81 0 16) (z_ui (cpF σ 82 0 81 0 16) 82 8 (nI s)) := sf_ui (fun q => q rfl)
      have sf3 : z_sf (fun p k => ¬ (p = 76 ∧ k = 19)) (z_ui (cpF σ 82 0 81 0 16) 82 8 (nI s)) (z_ui (z_ui (cpF σ 82 0 81 0 16) 82 8 (nI s)) 76 19 0) := sf_ui (fun q => q ⟨rfl, rfl⟩)
      obtain ⟨τ, e2, r1, f0, f1⟩ := s149 (D_sf (D_sf a1 sf2 (by simp)) sf3 (by simp)) (R_sf (r_mir a3 hN) sf3 (by simp) hN) ok (mir_ok sk hs) dk (show n ≤ 40 by omega)
      rw [z_ui_eq, Int32.zero_add] at f0
      have ft : z_sf Q82 σ τ := (sf_82 a4).tr ((sf_82 sf2).tr ((sf3.mono (fun p k q => q.2)).tr f1))
      have hD2 : D_at τ L := D_sf hD ft (fun k => by unfold Q82; omega)
      have hR2 : R_at τ 81 0 L.2.2.2.2.2 S := R_sf hR ft (fun k _ => by unfold Q82; omega) hN
      simp only [eq_true q1, if_true, v76, s140, z_bd_i, z_bd_l, z_bd_v, List.cons_append, List.nil_append, z_nk_i, z_nk_r, z_nk_n, v0, v1, v3, v19, v61, v71, v76, g76_6, j8, p76_19, e2, e166_0, e166_1, e166_2, e166_3, e166_6, e166_9, e166_10, e166_11, e166_13, e166_16, e166_19, e166_20, e166_21, e166_23, e166_24, e166_25, e166_27, e166_28, e166_32, e166_33, e166_34, e166_37, e166_38, e166_39, e166_40, e166_43, e166_45, e166_48, e166_49, e166_52, e166_53, e166_56, e166_57, e166_60, e166_62, e166_64, e166_65, e166_66, e166_67, e166_70, e166_71, e166_72, e166_75, e166_76, e166_78, e166_81, e166_82, e166_85, e166_87, e166_90, e166_91, e166_94, e166_95, e166_97, e166_99, e166_102, e166_104, e166_107, e166_108, e166_109, e166_111, e166_114, e166_115, e166_118, e166_121, e166_123, e166_125, e166_128, e166_131, e166_132, g76_19, f0]
      cases o with
      | none =>
        have b9 : (dlB none = -9) = True := by decide
        simp only [b9, if_true, one0, show ((1 : Int32) = 0) = False from by decide, if_false, nI_1, dl1, eq_true q1]
        obtain ⟨τ2, e, f⟩ := ih (s + 1) (some (s, fallF L (mirS S s) n)) (some (.int 1)) τ hD2 hR2 (by omega) (fun q hq => by cases hq; exact ⟨hs, by dsimp only; omega⟩)
        exact ⟨τ2, e, ft.tr f⟩
      | some q =>
        obtain ⟨ho1, ho2⟩ := ho q rfl
        have b9 : (dlB (some q) = -9) = False := m_9 (by omega)
        have b10 : (nI (fallF L (mirS S s) n) < nI (dlW (some q))) = (fallF L (mirS S s) n < q.2) := propext (nI_ltI (by omega) (by dsimp only [dlW]; omega))
        simp only [b9, if_false, b10, nI_1, dl1, eq_true q1, if_true]
        by_cases q2 : fallF L (mirS S s) n < q.2
        · simp only [eq_true q2, if_true, show ((1 : Int32) = 0) = False from by decide, if_false]
          obtain ⟨τ2, e, f⟩ := ih (s + 1) (some (s, fallF L (mirS S s) n)) (some (.int 1)) τ hD2 hR2 (by omega) (fun q hq => by cases hq; exact ⟨hs, by dsimp only; omega⟩)
          exact ⟨τ2, e, ft.tr f⟩
        · simp only [eq_false q2, if_false, if_true]
          obtain ⟨τ2, e, f⟩ := ih (s + 1) (some q) (some (.int 0)) τ hD2 hR2 (by omega) ho
          exact ⟨τ2, e, ft.tr f⟩
    · simp only [eq_false q1, if_false, nI_1, dl1]
      exact ih (s + 1) o l6 σ hD hR (by omega) ho
theorem s166 (hD : D_at σ L) (hR : R_at σ 81 0 L.2.2.2.2.2 S) (ok : L_ok L) (sk : S_ok S) (dk : DN L S) {k n : Nat} (hk : k ≤ 4) (hn : n ≤ 20) : ∃ τ, z_call 166 [.ref 76, .int (nI k), .int (nI n)] (z_enc σ) = some (some (.int (dealR L S k n)), z_enc τ) ∧ z_sf Q82 σ τ := by
  have b1 : (¬ nI k < 0 ∧ ¬ (4 : Int32) < nI k) = True := eq_true ⟨nI_pos (by omega), nI_nlt (a := 4) (b := k) (by omega) (by decide)⟩
  have b2 : (¬ nI n < 0 ∧ ¬ (20 : Int32) < nI n) = True := eq_true ⟨nI_pos (by omega), nI_nlt (a := 20) (b := n) (by omega) (by decide)⟩
  obtain ⟨τ, e, f⟩ := l166 ok sk dk hk hn (2 ^ L.2.2.2.2.2) 0 none none σ hD hR (by omega) (fun q hq => by cases hq)
  refine ⟨τ, ?_, f⟩
  simp only [en166, e166_0, e166_1, e166_2, e166_3, e166_6, e166_9, e166_10, e166_11, e166_13, e166_16, e166_19, e166_20, e166_21, e166_23, e166_24, e166_25, e166_27, e166_28, e166_32, e166_33, e166_34, e166_37, e166_38, e166_39, e166_40, e166_43, e166_45, e166_48, e166_49, e166_52, e166_53, e166_56, e166_57, e166_60, e166_62, e166_64, e166_65, e166_66, e166_67, e166_70, e166_71, e166_72, e166_75, e166_76, e166_78, e166_81, e166_82, e166_85, e166_87, e166_90, e166_91, e166_94, e166_95, e166_97, e166_99, e166_102, e166_104, e166_107, e166_108, e166_109, e166_111, e166_114, e166_115, e166_118, e166_121, e166_123, e166_125, e166_128, e166_131, e166_132, s115, z_bd_i, z_bd_l, z_bd_v, List.cons_append, List.nil_append, z_nk_i, z_nk_r, z_nk_n, v0, v1, v3, v19, v61, v71, v76, z_b_0, b1, b2, not_true, if_false]
  exact e
theorem s166b {k n : Int32} (hb : ¬ (¬ k < 0 ∧ ¬ 4 < k ∧ ¬ n < 0 ∧ ¬ 20 < n)) : z_call 166 [.ref 76, .int k, .int n] (z_enc σ) = some (some (.int (-1)), z_enc σ) := by
  by_cases h1 : ¬ k < 0 ∧ ¬ 4 < k
  · have h2 : ¬ (¬ n < 0 ∧ ¬ 20 < n) := fun q => hb ⟨h1.1, h1.2, q⟩
    simp only [en166, e166_0, e166_1, e166_2, e166_3, e166_6, e166_9, e166_10, e166_11, e166_13, e166_16, e166_19, e166_20, e166_21, e166_23, e166_24, e166_25, e166_27, e166_28, e166_32, e166_33, e166_34, e166_37, e166_38, e166_39, e166_40, e166_43, e166_45, e166_48, e166_49, e166_52, e166_53, e166_56, e166_57, e166_60, e166_62, e166_64, e166_65, e166_66, e166_67, e166_70, e166_71, e166_72, e166_75, e166_76, e166_78, e166_81, e166_82, e166_85, e166_87, e166_90, e166_91, e166_94, e166_95, e166_97, e166_99, e166_102, e166_104, e166_107, e166_108, e166_109, e166_111, e166_114, e166_115, e166_118, e166_121, e166_123, e166_125, e166_128, e166_131, e166_132, s115, z_bd_i, z_bd_l, z_bd_v, List.cons_append, List.nil_append, z_nk_i, z_nk_r, z_nk_n, v0, v1, v3, v19, v61, v71, v76, z_b_0, eq_true h1, eq_false h2, not_true, not_false_iff, if_false, if_true]
  · simp only [en166, e166_0, e166_1, e166_2, e166_3, e166_6, e166_9, e166_10, e166_11, e166_13, e166_16, e166_19, e166_20, e166_21, e166_23, e166_24, e166_25, e166_27, e166_28, e166_32, e166_33, e166_34, e166_37, e166_38, e166_39, e166_40, e166_43, e166_45, e166_48, e166_49, e166_52, e166_53, e166_56, e166_57, e166_60, e166_62, e166_64, e166_65, e166_66, e166_67, e166_70, e166_71, e166_72, e166_75, e166_76, e166_78, e166_81, e166_82, e166_85, e166_87, e166_90, e166_91, e166_94, e166_95, e166_97, e166_99, e166_102, e166_104, e166_107, e166_108, e166_109, e166_111, e166_114, e166_115, e166_118, e166_121, e166_123, e166_125, e166_128, e166_131, e166_132, s115, z_bd_i, z_bd_l, z_bd_v, List.cons_append, List.nil_append, z_nk_i, z_nk_r, z_nk_n, v0, v1, v3, v19, v61, v71, v76, z_b_0, eq_false h1, not_false_iff, if_true]
-- odds
theorem l167c (hD : D_at σ L) (ok : L_ok L) {x s : Nat} (hx : x ≤ 10) (hs : s < 16) {l2 l3 l4 l5 : Option Value} : ∀ d m, d + m = L.2.2.2.2.1 →
    z_r [] 0 0 167 58 [some (.ref 76), some (.int (nI x)), l2, l3, l4, l5, some (.int (nI s)), some (.int (nI (chF x s m))), some (.int (nI m))] [] (z_enc σ) = z_r [] 0 0 167 98 [some (.ref 76), some (.int (nI x)), l2, l3, l4, l5, some (.int (nI s)), some (.int (nI (chF x s L.2.2.2.2.1))), some (.int (nI L.2.2.2.2.1))] [] (z_enc σ) := by
  have hM := ok.2.2.2.1
  have i2 : ∀ K : Int32 → Option z_O, z_il1 (z_enc σ) 78 2 K = K (σ.1 78 2) := fun K => g_iln (k := 2) an78 (by decide) (by decide)
  have s2 : (10 : Int32) - nI x = nI (10 - x) := by rw [show (10 : Int32) = nI 10 from rfl, pk_sub hx]
  intro d
  induction d with
  | zero =>
    intro m hd
    obtain rfl : m = L.2.2.2.2.1 := by omega
    have b1 : (nI L.2.2.2.2.1 < nI L.2.2.2.2.1) = False := eq_false (nI_nlt (by omega) (by omega))
    conv => lhs; rw [e167_58]
    simp only [e167_0, e167_1, e167_2, e167_4, e167_7, e167_10, e167_11, e167_12, e167_13, e167_16, e167_19, e167_20, e167_21, e167_22, e167_25, e167_28, e167_29, e167_30, e167_31, e167_33, e167_34, e167_36, e167_37, e167_41, e167_42, e167_43, e167_46, e167_47, e167_48, e167_49, e167_52, e167_53, e167_55, e167_56, e167_60, e167_61, e167_64, e167_65, e167_66, e167_69, e167_71, e167_73, e167_75, e167_78, e167_81, e167_82, e167_85, e167_87, e167_88, e167_89, e167_90, e167_92, e167_95, e167_100, e167_102, e167_103, e167_105, e167_107, e167_109, e167_112, e167_113, e167_116, e167_118, e167_121, e167_122, e167_123, e167_125, e167_128, e167_131, e167_133, e167_135, e167_137, e167_141, e167_144, e167_146, e167_148, e167_149, e167_151, e167_153, e167_155, e167_157, e167_159, e167_162, e167_163, e167_166, e167_168, e167_170, e167_171, e167_174, e167_176, e167_178, e167_179, g76_2, i2, hD.2.2.1, b1, if_false]
  | succ d ih =>
    intro m hd
    have b1 : (nI m < nI L.2.2.2.2.1) = True := eq_true (nI_lt (by omega) (by omega))
    have e := ih (m + 1) (by omega)
    rw [chF] at e
    conv => lhs; rw [e167_58]
    simp only [e167_0, e167_1, e167_2, e167_4, e167_7, e167_10, e167_11, e167_12, e167_13, e167_16, e167_19, e167_20, e167_21, e167_22, e167_25, e167_28, e167_29, e167_30, e167_31, e167_33, e167_34, e167_36, e167_37, e167_41, e167_42, e167_43, e167_46, e167_47, e167_48, e167_49, e167_52, e167_53, e167_55, e167_56, e167_60, e167_61, e167_64, e167_65, e167_66, e167_69, e167_71, e167_73, e167_75, e167_78, e167_81, e167_82, e167_85, e167_87, e167_88, e167_89, e167_90, e167_92, e167_95, e167_100, e167_102, e167_103, e167_105, e167_107, e167_109, e167_112, e167_113, e167_116, e167_118, e167_121, e167_122, e167_123, e167_125, e167_128, e167_131, e167_133, e167_135, e167_137, e167_141, e167_144, e167_146, e167_148, e167_149, e167_151, e167_153, e167_155, e167_157, e167_159, e167_162, e167_163, e167_166, e167_168, e167_170, e167_171, e167_174, e167_176, e167_178, e167_179, g76_2, i2, hD.2.2.1, b1, if_true, s116 hs (show m < 4 by omega), z_bd_i, z_bd_l, z_bd_v, List.cons_append, List.nil_append, z_nk_i, z_nk_r, z_nk_n, v0, v1, v3, v19, v61, v71, v76, z_b_0]
    by_cases q : s.testBit m = true
    · simp only [eq_true q, if_true, not_true, if_false, pk_mul, nI_1] at e ⊢
      exact e
    · simp only [eq_false q, not_false_iff, if_true, if_false, s2, pk_mul, nI_1] at e ⊢
      exact e
theorem l167g {l1 l2 l3 l4 : Option Value} {y5 : Int32} {K : Option z_O} {g : Nat} (hK : ∀ l8 : Option Value, z_r [] 0 0 167 162 [some (.ref 76), l1, l2, l3, l4, some (.int y5), some (.int (nI g)), some (.int (nI 0)), l8] [] (z_enc σ) = K) : ∀ w v (l8 : Option Value), v < 2147483648 → w < 2147483648 → Nat.gcd v w = g →
    z_r [] 0 0 167 139 [some (.ref 76), l1, l2, l3, l4, some (.int y5), some (.int (nI v)), some (.int (nI w)), l8] [] (z_enc σ) = K := by
  intro w
  induction w using Nat.strongRecOn with
  | ind w ih =>
    intro v l8 hv hw hg
    by_cases q : w = 0
    · subst q
      rw [Nat.gcd_zero_right] at hg
      subst hg
      have b1 : (nI 0 = 0) = True := by decide
      rw [e167_139]
      simp only [e167_0, e167_1, e167_2, e167_4, e167_7, e167_10, e167_11, e167_12, e167_13, e167_16, e167_19, e167_20, e167_21, e167_22, e167_25, e167_28, e167_29, e167_30, e167_31, e167_33, e167_34, e167_36, e167_37, e167_41, e167_42, e167_43, e167_46, e167_47, e167_48, e167_49, e167_52, e167_53, e167_55, e167_56, e167_60, e167_61, e167_64, e167_65, e167_66, e167_69, e167_71, e167_73, e167_75, e167_78, e167_81, e167_82, e167_85, e167_87, e167_88, e167_89, e167_90, e167_92, e167_95, e167_100, e167_102, e167_103, e167_105, e167_107, e167_109, e167_112, e167_113, e167_116, e167_118, e167_121, e167_122, e167_123, e167_125, e167_128, e167_131, e167_133, e167_135, e167_137, e167_141, e167_144, e167_146, e167_148, e167_149, e167_151, e167_153, e167_155, e167_157, e167_159, e167_163, e167_166, e167_168, e167_170, e167_171, e167_174, e167_176, e167_178, e167_179, b1, if_true]
      exact hK l8
    · have b1 : (nI w = 0) = False := eq_false (nz (by omega) q)
      have hm : v % w < w := Nat.mod_lt _ (by omega)
      have e := ih (v % w) hm w (some (.int (nI (v % w)))) hw (by omega) (by rw [Nat.gcd_comm, ← Nat.gcd_rec, Nat.gcd_comm]; exact hg)
      rw [e167_139]
      simp only [e167_0, e167_1, e167_2, e167_4, e167_7, e167_10, e167_11, e167_12, e167_13, e167_16, e167_19, e167_20, e167_21, e167_22, e167_25, e167_28, e167_29, e167_30, e167_31, e167_33, e167_34, e167_36, e167_37, e167_41, e167_42, e167_43, e167_46, e167_47, e167_48, e167_49, e167_52, e167_53, e167_55, e167_56, e167_60, e167_61, e167_64, e167_65, e167_66, e167_69, e167_71, e167_73, e167_75, e167_78, e167_81, e167_82, e167_85, e167_87, e167_88, e167_89, e167_90, e167_92, e167_95, e167_100, e167_102, e167_103, e167_105, e167_107, e167_109, e167_112, e167_113, e167_116, e167_118, e167_121, e167_122, e167_123, e167_125, e167_128, e167_131, e167_133, e167_135, e167_137, e167_141, e167_144, e167_146, e167_148, e167_149, e167_151, e167_153, e167_155, e167_157, e167_159, e167_163, e167_166, e167_168, e167_170, e167_171, e167_174, e167_176, e167_178, e167_179, b1, if_false, irem_nI hv (show 0 < w by omega) hw]
      exact e
theorem l167 (hD : D_at σ L) (ok : L_ok L) {x k : Nat} (hx : x ≤ 10) (hk : k ≤ 4) {y3 : Int32} {K : Option z_O}
    (hK : ∀ l7 l8 : Option Value, z_r [] 0 0 167 131 [some (.ref 76), some (.int (nI x)), some (.int (nI k)), some (.int y3), some (.int (nI (wayF x k L.2.2.2.2.1 (2 ^ L.2.2.2.2.1)))), some (.int (nI (belF x L.2.2.2.2.1 (2 ^ L.2.2.2.2.1)))), some (.int (nI (2 ^ L.2.2.2.2.1))), l7, l8] [] (z_enc σ) = K) :
    ∀ d s (l7 l8 : Option Value), d + s = 2 ^ L.2.2.2.2.1 → z_r [] 0 0 167 39 [some (.ref 76), some (.int (nI x)), some (.int (nI k)), some (.int y3), some (.int (nI (wayF x k L.2.2.2.2.1 s))), some (.int (nI (belF x L.2.2.2.2.1 s))), some (.int (nI s)), l7, l8] [] (z_enc σ) = K := by
  have hM := ok.2.2.2.1
  have h16 : 2 ^ L.2.2.2.2.1 ≤ 16 := Nat.pow_le_pow_right (by decide) hM
  have i2 : ∀ K : Int32 → Option z_O, z_il1 (z_enc σ) 78 2 K = K (σ.1 78 2) := fun K => g_iln (k := 2) an78 (by decide) (by decide)
  intro d
  induction d with
  | zero =>
    intro s l7 l8 hd
    obtain rfl : s = 2 ^ L.2.2.2.2.1 := by omega
    have b1 : (nI (2 ^ L.2.2.2.2.1) < nI (2 ^ L.2.2.2.2.1)) = False := eq_false (nI_nlt (by omega) (by omega))
    rw [e167_39]
    simp only [e167_0, e167_1, e167_2, e167_4, e167_7, e167_10, e167_11, e167_12, e167_13, e167_16, e167_19, e167_20, e167_21, e167_22, e167_25, e167_28, e167_29, e167_30, e167_31, e167_33, e167_34, e167_36, e167_37, e167_41, e167_42, e167_43, e167_46, e167_47, e167_48, e167_49, e167_52, e167_53, e167_55, e167_56, e167_60, e167_61, e167_64, e167_65, e167_66, e167_69, e167_71, e167_73, e167_75, e167_78, e167_81, e167_82, e167_85, e167_87, e167_88, e167_89, e167_90, e167_92, e167_95, e167_100, e167_102, e167_103, e167_105, e167_107, e167_109, e167_112, e167_113, e167_116, e167_118, e167_121, e167_122, e167_123, e167_125, e167_128, e167_133, e167_135, e167_137, e167_141, e167_144, e167_146, e167_148, e167_149, e167_151, e167_153, e167_155, e167_157, e167_159, e167_162, e167_163, e167_166, e167_168, e167_170, e167_171, e167_174, e167_176, e167_178, e167_179, g76_2, i2, hD.2.2.1, sh1 _ (show L.2.2.2.2.1 < 31 by omega), b1, if_false]
    exact hK l7 l8
  | succ d ih =>
    intro s l7 l8 hd
    have hs : s < 16 := by omega
    have b1 : (nI s < nI (2 ^ L.2.2.2.2.1)) = True := eq_true (nI_lt (by omega) (by omega))
    have h4 := ones_le s
    have e1 : (nI k < nI (ones4 s)) = (k < ones4 s) := propext (nI_ltI (by omega) (by omega))
    have ec := l167c hD ok hx hs (l2 := some (.int (nI k))) (l3 := some (.int y3)) (l4 := some (.int (nI (wayF x k L.2.2.2.2.1 s)))) (l5 := some (.int (nI (belF x L.2.2.2.2.1 s)))) L.2.2.2.2.1 0 rfl
    have hc := ch_ok _ (show L.2.2.2.2.1 < 5 by omega) x (by omega) s (by omega)
    have e := fun l7 l8 => ih (s + 1) l7 l8 (by omega)
    rw [wayF, belF, ← hc] at e
    rw [chF] at ec
    rw [e167_39]
    simp only [e167_0, e167_1, e167_2, e167_4, e167_7, e167_10, e167_11, e167_12, e167_13, e167_16, e167_19, e167_20, e167_21, e167_22, e167_25, e167_28, e167_29, e167_30, e167_31, e167_33, e167_34, e167_36, e167_37, e167_41, e167_42, e167_43, e167_46, e167_47, e167_48, e167_49, e167_52, e167_53, e167_55, e167_56, e167_60, e167_61, e167_64, e167_65, e167_66, e167_69, e167_71, e167_73, e167_75, e167_78, e167_81, e167_82, e167_85, e167_87, e167_88, e167_89, e167_90, e167_92, e167_95, e167_100, e167_102, e167_103, e167_105, e167_107, e167_109, e167_112, e167_113, e167_116, e167_118, e167_121, e167_122, e167_123, e167_125, e167_128, e167_133, e167_135, e167_137, e167_141, e167_144, e167_146, e167_148, e167_149, e167_151, e167_153, e167_155, e167_157, e167_159, e167_162, e167_163, e167_166, e167_168, e167_170, e167_171, e167_174, e167_176, e167_178, e167_179, g76_2, i2, hD.2.2.1, sh1 _ (show L.2.2.2.2.1 < 31 by omega), b1, if_true]
    refine Eq.trans ec ?_
    rw [e167_98]
    simp only [e167_0, e167_1, e167_2, e167_4, e167_7, e167_10, e167_11, e167_12, e167_13, e167_16, e167_19, e167_20, e167_21, e167_22, e167_25, e167_28, e167_29, e167_30, e167_31, e167_33, e167_34, e167_36, e167_37, e167_41, e167_42, e167_43, e167_46, e167_47, e167_48, e167_49, e167_52, e167_53, e167_55, e167_56, e167_60, e167_61, e167_64, e167_65, e167_66, e167_69, e167_71, e167_73, e167_75, e167_78, e167_81, e167_82, e167_85, e167_87, e167_88, e167_89, e167_90, e167_92, e167_95, e167_100, e167_102, e167_103, e167_105, e167_107, e167_109, e167_112, e167_113, e167_116, e167_118, e167_121, e167_122, e167_123, e167_125, e167_128, e167_133, e167_135, e167_137, e167_141, e167_144, e167_146, e167_148, e167_149, e167_151, e167_153, e167_155, e167_157, e167_159, e167_162, e167_163, e167_166, e167_168, e167_170, e167_171, e167_174, e167_176, e167_178, e167_179, s117b hs, z_bd_i, z_bd_l, z_bd_v, List.cons_append, List.nil_append, z_nk_i, z_nk_r, z_nk_n, v0, v1, v3, v19, v61, v71, v76, e1, nI_add]
    by_cases q : k < ones4 s
    · rw [if_neg (show ¬ ones4 s ≤ k by omega)] at e
      simp only [eq_true q, if_true, nI_1]
      rw [show nI (wayF x k L.2.2.2.2.1 s) + 0 = nI (wayF x k L.2.2.2.2.1 s + 0) from Int32.add_zero _]
      exact e _ _
    · rw [if_pos (show ones4 s ≤ k by omega)] at e
      simp only [eq_false q, if_false, nI_add, nI_1]
      exact e _ _
theorem s167 (hD : D_at σ L) (ok : L_ok L) {x k what : Nat} (hx : x ≤ 10) (hk : k ≤ 4) (hw : what ≤ 1) : z_call 167 [.ref 76, .int (nI x), .int (nI k), .int (nI what)] (z_enc σ) = some (some (.int (oddR L.2.2.2.2.1 x k what)), z_enc σ) := by
  have hM := ok.2.2.2.1
  obtain ⟨f1, f2, f3, f4, f5⟩ := odd_fin _ (show L.2.2.2.2.1 < 5 by omega) x (by omega) k (by omega)
  have hb := bel_ok _ (show L.2.2.2.2.1 < 5 by omega) x (by omega)
  have b1 : (¬ nI x < 0 ∧ ¬ (10 : Int32) < nI x) = True := eq_true ⟨nI_pos (by omega), nI_nlt (a := 10) (b := x) (by omega) (by decide)⟩
  have b2 : (¬ nI k < 0 ∧ ¬ (4 : Int32) < nI k) = True := eq_true ⟨nI_pos (by omega), nI_nlt (a := 4) (b := k) (by omega) (by decide)⟩
  have b3 : (¬ nI what < 0 ∧ ¬ (1 : Int32) < nI what) = True := eq_true ⟨nI_pos (by omega), nI_nlt (a := 1) (b := what) (by omega) (by decide)⟩
  have e2 : (nI (Nat.gcd (wayF x k L.2.2.2.2.1 (2 ^ L.2.2.2.2.1)) (10 ^ L.2.2.2.2.1)) = 0) = False := eq_false (nz (by omega) (by omega))
  simp only [en167, e167_0, e167_1, e167_2, e167_4, e167_7, e167_10, e167_11, e167_12, e167_13, e167_16, e167_19, e167_20, e167_21, e167_22, e167_25, e167_28, e167_29, e167_30, e167_31, e167_33, e167_34, e167_36, e167_37, e167_41, e167_42, e167_43, e167_46, e167_47, e167_48, e167_49, e167_52, e167_53, e167_55, e167_56, e167_60, e167_61, e167_64, e167_65, e167_66, e167_69, e167_71, e167_73, e167_75, e167_78, e167_81, e167_82, e167_85, e167_87, e167_88, e167_89, e167_90, e167_92, e167_95, e167_100, e167_102, e167_103, e167_105, e167_107, e167_109, e167_112, e167_113, e167_116, e167_118, e167_121, e167_122, e167_123, e167_125, e167_128, e167_133, e167_135, e167_137, e167_141, e167_144, e167_146, e167_148, e167_149, e167_151, e167_153, e167_155, e167_157, e167_159, e167_162, e167_163, e167_166, e167_168, e167_170, e167_171, e167_174, e167_176, e167_178, e167_179, s115, z_bd_i, z_bd_l, z_bd_v, List.cons_append, List.nil_append, z_nk_i, z_nk_r, z_nk_n, v0, v1, v3, v19, v61, v71, v76, z_b_0, b1, b2, b3, not_true, if_false, if_true]
  refine l167 hD ok hx hk (fun l7 l8 => ?_) (2 ^ L.2.2.2.2.1) 0 none none (by omega)
  rw [e167_131, hb]
  simp only [e167_0, e167_1, e167_2, e167_4, e167_7, e167_10, e167_11, e167_12, e167_13, e167_16, e167_19, e167_20, e167_21, e167_22, e167_25, e167_28, e167_29, e167_30, e167_31, e167_33, e167_34, e167_36, e167_37, e167_41, e167_42, e167_43, e167_46, e167_47, e167_48, e167_49, e167_52, e167_53, e167_55, e167_56, e167_60, e167_61, e167_64, e167_65, e167_66, e167_69, e167_71, e167_73, e167_75, e167_78, e167_81, e167_82, e167_85, e167_87, e167_88, e167_89, e167_90, e167_92, e167_95, e167_100, e167_102, e167_103, e167_105, e167_107, e167_109, e167_112, e167_113, e167_116, e167_118, e167_121, e167_122, e167_123, e167_125, e167_128, e167_133, e167_135, e167_137, e167_141, e167_144, e167_146, e167_148, e167_149, e167_151, e167_153, e167_155, e167_157, e167_159, e167_162, e167_163, e167_166, e167_168, e167_170, e167_171, e167_174, e167_176, e167_178, e167_179]
  refine l167g (g := Nat.gcd (wayF x k L.2.2.2.2.1 (2 ^ L.2.2.2.2.1)) (10 ^ L.2.2.2.2.1)) (fun l8 => ?_) _ _ _ (by omega) (by omega) rfl
  unfold oddR
  have hw2 : what = 0 ∨ what = 1 := by omega
  rcases hw2 with rfl | rfl
  · simp only [e167_0, e167_1, e167_2, e167_4, e167_7, e167_10, e167_11, e167_12, e167_13, e167_16, e167_19, e167_20, e167_21, e167_22, e167_25, e167_28, e167_29, e167_30, e167_31, e167_33, e167_34, e167_36, e167_37, e167_41, e167_42, e167_43, e167_46, e167_47, e167_48, e167_49, e167_52, e167_53, e167_55, e167_56, e167_60, e167_61, e167_64, e167_65, e167_66, e167_69, e167_71, e167_73, e167_75, e167_78, e167_81, e167_82, e167_85, e167_87, e167_88, e167_89, e167_90, e167_92, e167_95, e167_100, e167_102, e167_103, e167_105, e167_107, e167_109, e167_112, e167_113, e167_116, e167_118, e167_121, e167_122, e167_123, e167_125, e167_128, e167_133, e167_135, e167_137, e167_141, e167_144, e167_146, e167_148, e167_149, e167_151, e167_153, e167_155, e167_157, e167_159, e167_162, e167_163, e167_166, e167_168, e167_170, e167_171, e167_174, e167_176, e167_178, e167_179, show (nI 0 = 0) = True from by decide, not_true, if_false, if_true, e2]
    rw [pk_div (by omega) (by omega) (by omega)]
  · simp only [e167_0, e167_1, e167_2, e167_4, e167_7, e167_10, e167_11, e167_12, e167_13, e167_16, e167_19, e167_20, e167_21, e167_22, e167_25, e167_28, e167_29, e167_30, e167_31, e167_33, e167_34, e167_36, e167_37, e167_41, e167_42, e167_43, e167_46, e167_47, e167_48, e167_49, e167_52, e167_53, e167_55, e167_56, e167_60, e167_61, e167_64, e167_65, e167_66, e167_69, e167_71, e167_73, e167_75, e167_78, e167_81, e167_82, e167_85, e167_87, e167_88, e167_89, e167_90, e167_92, e167_95, e167_100, e167_102, e167_103, e167_105, e167_107, e167_109, e167_112, e167_113, e167_116, e167_118, e167_121, e167_122, e167_123, e167_125, e167_128, e167_133, e167_135, e167_137, e167_141, e167_144, e167_146, e167_148, e167_149, e167_151, e167_153, e167_155, e167_157, e167_159, e167_162, e167_163, e167_166, e167_168, e167_170, e167_171, e167_174, e167_176, e167_178, e167_179, show (nI 1 = 0) = False from by decide, not_false_iff, if_false, if_true, e2, Nat.one_ne_zero]
    rw [pk_div (by omega) (by omega) (by omega)]
theorem s167b {x k wh : Int32} (hb : ¬ (¬ x < 0 ∧ ¬ 10 < x ∧ ¬ k < 0 ∧ ¬ 4 < k ∧ ¬ wh < 0 ∧ ¬ 1 < wh)) : z_call 167 [.ref 76, .int x, .int k, .int wh] (z_enc σ) = some (some (.int (-1)), z_enc σ) := by
  by_cases h1 : ¬ x < 0 ∧ ¬ 10 < x
  · by_cases h2 : ¬ k < 0 ∧ ¬ 4 < k
    · have h3 : ¬ (¬ wh < 0 ∧ ¬ 1 < wh) := fun q => hb ⟨h1.1, h1.2, h2.1, h2.2, q⟩
      simp only [en167, e167_0, e167_1, e167_2, e167_4, e167_7, e167_10, e167_11, e167_12, e167_13, e167_16, e167_19, e167_20, e167_21, e167_22, e167_25, e167_28, e167_29, e167_30, e167_31, e167_33, e167_34, e167_36, e167_37, e167_41, e167_42, e167_43, e167_46, e167_47, e167_48, e167_49, e167_52, e167_53, e167_55, e167_56, e167_60, e167_61, e167_64, e167_65, e167_66, e167_69, e167_71, e167_73, e167_75, e167_78, e167_81, e167_82, e167_85, e167_87, e167_88, e167_89, e167_90, e167_92, e167_95, e167_100, e167_102, e167_103, e167_105, e167_107, e167_109, e167_112, e167_113, e167_116, e167_118, e167_121, e167_122, e167_123, e167_125, e167_128, e167_133, e167_135, e167_137, e167_141, e167_144, e167_146, e167_148, e167_149, e167_151, e167_153, e167_155, e167_157, e167_159, e167_162, e167_163, e167_166, e167_168, e167_170, e167_171, e167_174, e167_176, e167_178, e167_179, s115, z_bd_i, z_bd_l, z_bd_v, List.cons_append, List.nil_append, z_nk_i, z_nk_r, z_nk_n, v0, v1, v3, v19, v61, v71, v76, z_b_0, eq_true h1, eq_true h2, eq_false h3, not_true, not_false_iff, if_false, if_true]
    · simp only [en167, e167_0, e167_1, e167_2, e167_4, e167_7, e167_10, e167_11, e167_12, e167_13, e167_16, e167_19, e167_20, e167_21, e167_22, e167_25, e167_28, e167_29, e167_30, e167_31, e167_33, e167_34, e167_36, e167_37, e167_41, e167_42, e167_43, e167_46, e167_47, e167_48, e167_49, e167_52, e167_53, e167_55, e167_56, e167_60, e167_61, e167_64, e167_65, e167_66, e167_69, e167_71, e167_73, e167_75, e167_78, e167_81, e167_82, e167_85, e167_87, e167_88, e167_89, e167_90, e167_92, e167_95, e167_100, e167_102, e167_103, e167_105, e167_107, e167_109, e167_112, e167_113, e167_116, e167_118, e167_121, e167_122, e167_123, e167_125, e167_128, e167_133, e167_135, e167_137, e167_141, e167_144, e167_146, e167_148, e167_149, e167_151, e167_153, e167_155, e167_157, e167_159, e167_162, e167_163, e167_166, e167_168, e167_170, e167_171, e167_174, e167_176, e167_178, e167_179, s115, z_bd_i, z_bd_l, z_bd_v, List.cons_append, List.nil_append, z_nk_i, z_nk_r, z_nk_n, v0, v1, v3, v19, v61, v71, v76, z_b_0, eq_true h1, eq_false h2, not_true, not_false_iff, if_false, if_true]
  · simp only [en167, e167_0, e167_1, e167_2, e167_4, e167_7, e167_10, e167_11, e167_12, e167_13, e167_16, e167_19, e167_20, e167_21, e167_22, e167_25, e167_28, e167_29, e167_30, e167_31, e167_33, e167_34, e167_36, e167_37, e167_41, e167_42, e167_43, e167_46, e167_47, e167_48, e167_49, e167_52, e167_53, e167_55, e167_56, e167_60, e167_61, e167_64, e167_65, e167_66, e167_69, e167_71, e167_73, e167_75, e167_78, e167_81, e167_82, e167_85, e167_87, e167_88, e167_89, e167_90, e167_92, e167_95, e167_100, e167_102, e167_103, e167_105, e167_107, e167_109, e167_112, e167_113, e167_116, e167_118, e167_121, e167_122, e167_123, e167_125, e167_128, e167_133, e167_135, e167_137, e167_141, e167_144, e167_146, e167_148, e167_149, e167_151, e167_153, e167_155, e167_157, e167_159, e167_162, e167_163, e167_166, e167_168, e167_170, e167_171, e167_174, e167_176, e167_178, e167_179, s115, z_bd_i, z_bd_l, z_bd_v, List.cons_append, List.nil_append, z_nk_i, z_nk_r, z_nk_n, v0, v1, v3, v19, v61, v71, v76, z_b_0, eq_false h1, not_false_iff, if_true]
end MDEAL
