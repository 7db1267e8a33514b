/-! the reference: watches, faced, look -/
def V_at (σ : z_G) (wn : Nat) (w : Nat → Nat × Nat × Nat) : Prop := wn ≤ 6 ∧ σ.1 76 12 = nI wn ∧ ∀ k, k < wn → σ.1 85 (3 * k) = nI (w k).1 ∧ σ.1 85 (3 * k + 1) = nI (w k).2.1 ∧ σ.1 85 (3 * k + 2) = nI (w k).2.2 ∧ (w k).1 < 4 ∧ (w k).2.1 ≤ 20 ∧ (w k).2.2 < 64
theorem V_sf {Q : Nat → Nat → Prop} {σ τ : z_G} {wn : Nat} {w : Nat → Nat × Nat × Nat} (h : V_at σ wn w) (hs : z_sf Q σ τ) (hQ : Q 76 12 ∧ ∀ k, Q 85 k) : V_at τ wn w := by
  obtain ⟨h1, h2, h3⟩ := h
  refine ⟨h1, ((hs _ _ hQ.1).1).trans h2, fun k hk => ?_⟩
  obtain ⟨a1, a2, a3, a4⟩ := h3 k hk
  exact ⟨((hs _ _ (hQ.2 _)).1).trans a1, ((hs _ _ (hQ.2 _)).1).trans a2, ((hs _ _ (hQ.2 _)).1).trans a3, a4⟩
def Q85 (p k : Nat) : Prop := p ≠ 85 ∧ ¬ (p = 76 ∧ k = 12)
def Q86 (p k : Nat) : Prop := p ≠ 82 ∧ p ≠ 86 ∧ ¬ (p = 76 ∧ k = 19)
theorem z3 (k : Nat) : (3 : Int32) * nI k = nI (3 * k) := by rw [show (3 : Int32) = nI 3 from rfl, pk_mul]
theorem z31 (k : Nat) : (3 : Int32) * nI k + 1 = nI (3 * k + 1) := by rw [z3, nI_1]
theorem z32 (k : Nat) : (3 : Int32) * nI k + 2 = nI (3 * k + 2) := by rw [z3, show (2 : Int32) = nI 2 from rfl, nI_add]
theorem ct_M {set M : Nat} (hs : set < 2 ^ M) (p : Nat → Nat) (c : Nat) : ∀ i, ctF set p c (M + i) = ctF set p c M
  | 0 => rfl
  | i + 1 => by
    have h : set.testBit (M + i) = false := Nat.testBit_lt_two_pow (Nat.lt_of_lt_of_le hs (Nat.pow_le_pow_right (by decide) (by omega)))
    rw [← Nat.add_assoc, ctF, ct_M hs p c i]
    simp [h]
theorem gc_M {set M : Nat} (hs : set < 2 ^ M) (p : Nat → Nat) : ∀ i, gcF set p (M + i) = gcF set p M
  | 0 => rfl
  | i + 1 => by
    have h : set.testBit (M + i) = false := Nat.testBit_lt_two_pow (Nat.lt_of_lt_of_le hs (Nat.pow_le_pow_right (by decide) (by omega)))
    rw [← Nat.add_assoc, gcF, gc_M hs p i]
    simp [h]
section MFACE
variable {σ : z_G} {L : t_L} {S : t_S} {wn : Nat} {w : Nat → Nat × Nat × Nat}
theorem s168 (hD : D_at σ L) (hV : V_at σ wn w) (ok : L_ok L) {g c n : Nat} (hg : g < L.2.2.2.2.2) (hn : n ≤ 20) (hc : c < 64) (hi : insF L c = true) : ∃ τ, z_call 168 [.ref 76, .int (nI g), .int (nI n), .int (nI (tn c))] (z_enc σ) = some (some (.int (if wn < 6 then nI (wn + 1) else -3)), z_enc τ) ∧ V_at τ (if wn < 6 then wn + 1 else wn) (fun k => if k = wn then (g, n, c) else w k) ∧ z_sf Q85 σ τ := by
  have hg4 : g < 4 := by have := ok.2.2.2.2; omega
  obtain ⟨h1, h2, h3⟩ := hV
  have b1 : (¬ nI g < 0 ∧ nI g < nI L.2.2.2.2.2) = True := eq_true (inN_nI hg (by have := ok.2.2.2.2; omega))
  have b2 : (¬ nI n < 0 ∧ ¬ (20 : Int32) < nI n) = True := eq_true ⟨nI_pos (by omega), nI_nlt (a := 20) (b := n) (by omega) (by decide)⟩
  by_cases q : wn < 6
  · have e6 : (nI wn = 6) = False := eq_false (fun e => by rw [show (6 : Int32) = nI 6 from rfl, nI_eq (by omega) (by decide)] at e; omega)
    have c12 : ∀ (σ : z_G) (j : Nat) (x : Int32), (z_ui σ 85 j x).1 76 12 = σ.1 76 12 := fun σ j x => z_ui_ne (by omega)
    refine ⟨z_ui (z_ui (z_ui (z_ui σ 85 (3 * wn) (nI g)) 85 (3 * wn + 1) (nI n)) 85 (3 * wn + 2) (nI c)) 76 12 (nI (wn + 1)), ?_, ?_, z_sf.tr (sf_ui (fun q => q.1 rfl)) (z_sf.tr (sf_ui (fun q => q.1 rfl)) (z_sf.tr (sf_ui (fun q => q.1 rfl)) (sf_ui (fun q => q.2 ⟨rfl, rfl⟩))))⟩
    · have c12b : ∀ (σ : z_G) (x : Int32), (z_ui σ 76 12 x).1 76 12 = x := fun σ x => z_ui_eq
      simp only [en168, e168_0, e168_1, e168_2, e168_5, e168_8, e168_9, e168_10, e168_12, e168_15, e168_18, e168_19, e168_20, e168_23, e168_26, e168_27, e168_28, e168_29, e168_32, e168_34, e168_37, e168_39, e168_40, e168_41, e168_44, e168_45, e168_46, e168_49, e168_50, e168_51, e168_52, e168_53, e168_56, e168_57, e168_58, e168_61, e168_62, e168_63, e168_64, e168_65, e168_66, e168_67, e168_70, e168_71, e168_72, e168_75, e168_76, e168_77, e168_78, e168_79, e168_82, e168_83, e168_84, e168_85, e168_88, e168_89, e168_90, e168_93, e168_94, e168_97, v76, s138 hD ok, s133 hD ok, hasV_c hc ok, eq_true hi, z_bd_i, z_bd_l, z_bd_v, List.cons_append, List.nil_append, z_nk_i, z_nk_r, z_nk_n, v0, v1, v3, v19, v61, v71, v76, z_b_0, b1, b2, s115, not_true, not_false_iff, if_false, if_true, g76_12, h2, e6, g76_11, z3, z31, z32, g_isn an85 (show 3 * wn < 18 by omega) (by decide), g_isn an85 (show 3 * wn + 1 < 18 by omega) (by decide), g_isn an85 (show 3 * wn + 2 < 18 by omega) (by decide), c12, s134 hc, p76_12, nI_1, c12b, eq_true q]
      have z31' : nI (3 * wn) + 1 = nI (3 * wn + 1) := nI_1 _
      have z32' : nI (3 * wn) + 2 = nI (3 * wn + 2) := by rw [show (2 : Int32) = nI 2 from rfl, nI_add]
      simp only [z31', z32', g_isn an85 (show 3 * wn + 1 < 18 by omega) (by decide), g_isn an85 (show 3 * wn + 2 < 18 by omega) (by decide), c12, s134 hc, p76_12, nI_1, c12b, e168_0, e168_1, e168_2, e168_5, e168_8, e168_9, e168_10, e168_12, e168_15, e168_18, e168_19, e168_20, e168_23, e168_26, e168_27, e168_28, e168_29, e168_32, e168_34, e168_37, e168_39, e168_40, e168_41, e168_44, e168_45, e168_46, e168_49, e168_50, e168_51, e168_52, e168_53, e168_56, e168_57, e168_58, e168_61, e168_62, e168_63, e168_64, e168_65, e168_66, e168_67, e168_70, e168_71, e168_72, e168_75, e168_76, e168_77, e168_78, e168_79, e168_82, e168_83, e168_84, e168_85, e168_88, e168_89, e168_90, e168_93, e168_94, e168_97, z_bd_i, z_bd_l, z_bd_v, List.cons_append, List.nil_append, z_nk_i, z_nk_r, z_nk_n, v0, v1, v3, v19, v61, v71, v76, g76_12, g76_11, h2, z3]
    · rw [if_pos q]
      refine ⟨by omega, z_ui_eq, fun k hk => ?_⟩
      by_cases e : k = wn
      · subst e
        dsimp only
        rw [if_pos rfl]
        refine ⟨?_, ?_, ?_, hg4, hn, hc⟩ <;> simp (disch := omega) only [z_ui_ne, z_ui_eq]
      · dsimp only
        rw [if_neg e]
        obtain ⟨a1, a2, a3, a4⟩ := h3 k (by omega)
        refine ⟨?_, ?_, ?_, a4⟩ <;> simp (disch := omega) only [z_ui_ne] <;> assumption
  · have e6 : (nI wn = 6) = True := eq_true (by rw [show wn = 6 by omega]; rfl)
    refine ⟨σ, ?_, ?_, z_sf.rf⟩
    · simp only [en168, e168_0, e168_1, e168_2, e168_5, e168_8, e168_9, e168_10, e168_12, e168_15, e168_18, e168_19, e168_20, e168_23, e168_26, e168_27, e168_28, e168_29, e168_32, e168_34, e168_37, e168_39, e168_40, e168_41, e168_44, e168_45, e168_46, e168_49, e168_50, e168_51, e168_52, e168_53, e168_56, e168_57, e168_58, e168_61, e168_62, e168_63, e168_64, e168_65, e168_66, e168_67, e168_70, e168_71, e168_72, e168_75, e168_76, e168_77, e168_78, e168_79, e168_82, e168_83, e168_84, e168_85, e168_88, e168_89, e168_90, e168_93, e168_94, e168_97, v76, s138 hD ok, s133 hD ok, hasV_c hc ok, eq_true hi, z_bd_i, z_bd_l, z_bd_v, List.cons_append, List.nil_append, z_nk_i, z_nk_r, z_nk_n, v0, v1, v3, v19, v61, v71, v76, z_b_0, b1, b2, s115, not_true, not_false_iff, if_false, if_true, g76_12, h2, e6, eq_false q]
    · rw [if_neg q]
      refine ⟨h1, h2, fun k hk => ?_⟩
      dsimp only
      rw [if_neg (by omega)]
      exact h3 k hk
theorem s168b (hD : D_at σ L) (ok : L_ok L) {g x n : Int32} (hb : ¬ ((¬ g < 0 ∧ g < nI L.2.2.2.2.2) ∧ ¬ n < 0 ∧ ¬ 20 < n ∧ ¬ hasV L x = 0)) : z_call 168 [.ref 76, .int g, .int n, .int x] (z_enc σ) = some (some (.int (-1)), z_enc σ) := by
  by_cases h1 : ¬ g < 0 ∧ g < nI L.2.2.2.2.2
  · by_cases h3 : ¬ n < 0 ∧ ¬ 20 < n
    · have h2 : hasV L x = 0 := Classical.byContradiction fun q => hb ⟨h1, h3.1, h3.2, q⟩
      simp only [en168, e168_0, e168_1, e168_2, e168_5, e168_8, e168_9, e168_10, e168_12, e168_15, e168_18, e168_19, e168_20, e168_23, e168_26, e168_27, e168_28, e168_29, e168_32, e168_34, e168_37, e168_39, e168_40, e168_41, e168_44, e168_45, e168_46, e168_49, e168_50, e168_51, e168_52, e168_53, e168_56, e168_57, e168_58, e168_61, e168_62, e168_63, e168_64, e168_65, e168_66, e168_67, e168_70, e168_71, e168_72, e168_75, e168_76, e168_77, e168_78, e168_79, e168_82, e168_83, e168_84, e168_85, e168_88, e168_89, e168_90, e168_93, e168_94, e168_97, v76, s138 hD ok, s133 hD ok, h2, z_bd_i, z_bd_l, z_bd_v, List.cons_append, List.nil_append, z_nk_i, z_nk_r, z_nk_n, v0, v1, v3, v19, v61, v71, v76, z_b_0, eq_true h1, eq_true h3, s115, not_true, if_false, if_true]
    · simp only [en168, e168_0, e168_1, e168_2, e168_5, e168_8, e168_9, e168_10, e168_12, e168_15, e168_18, e168_19, e168_20, e168_23, e168_26, e168_27, e168_28, e168_29, e168_32, e168_34, e168_37, e168_39, e168_40, e168_41, e168_44, e168_45, e168_46, e168_49, e168_50, e168_51, e168_52, e168_53, e168_56, e168_57, e168_58, e168_61, e168_62, e168_63, e168_64, e168_65, e168_66, e168_67, e168_70, e168_71, e168_72, e168_75, e168_76, e168_77, e168_78, e168_79, e168_82, e168_83, e168_84, e168_85, e168_88, e168_89, e168_90, e168_93, e168_94, e168_97, v76, s138 hD ok, z_bd_i, z_bd_l, z_bd_v, List.cons_append, List.nil_append, z_nk_i, z_nk_r, z_nk_n, v0, v1, v3, v19, v61, v71, v76, z_b_0, eq_true h1, eq_false h3, s115, not_true, not_false_iff, if_false, if_true]
  · simp only [en168, e168_0, e168_1, e168_2, e168_5, e168_8, e168_9, e168_10, e168_12, e168_15, e168_18, e168_19, e168_20, e168_23, e168_26, e168_27, e168_28, e168_29, e168_32, e168_34, e168_37, e168_39, e168_40, e168_41, e168_44, e168_45, e168_46, e168_49, e168_50, e168_51, e168_52, e168_53, e168_56, e168_57, e168_58, e168_61, e168_62, e168_63, e168_64, e168_65, e168_66, e168_67, e168_70, e168_71, e168_72, e168_75, e168_76, e168_77, e168_78, e168_79, e168_82, e168_83, e168_84, e168_85, e168_88, e168_89, e168_90, e168_93, e168_94, e168_97, v76, s138 hD ok, z_bd_i, z_bd_l, z_bd_v, List.cons_append, List.nil_append, z_nk_i, z_nk_r, z_nk_n, v0, v1, v3, v19, v61, v71, v76, z_b_0, eq_false h1, not_false_iff, if_true]
theorem s169 (hV : V_at σ wn w) : z_call 169 [.ref 76] (z_enc σ) = some (some (.int (nI wn)), z_enc (z_ui σ 76 12 0)) := by
  simp only [en169, e169_0, e169_1, e169_4, e169_5, e169_6, e169_7, e169_10, e169_11, g76_12, hV.2.1, p76_12]
theorem l170k (hV : V_at σ wn w) (hR : R_at σ 82 0 L.2.2.2.2.2 S) (sk : S_ok S) {g m n set : Nat} (hg : g < 4) (hn : n ≤ 20) : ∀ d k (b : Bool) , d + k = wn →
    z_r [] 0 0 170 43 [some (.ref 76), some (.int (nI g)), some (.int (nI set)), some (.int (nI m)), some (.int (z_b (b = true))), some (.int (nI n)), some (.int (nI k))] [] (z_enc σ) = z_r [] 0 0 170 119 [some (.ref 76), some (.int (nI g)), some (.int (nI set)), some (.int (nI m)), some (.int (z_b ((b && alF w g n (S.2.1 g) d k) = true))), some (.int (nI n)), some (.int (nI wn))] [] (z_enc σ) := by
  obtain ⟨h1, h2, h3⟩ := hV
  intro d
  induction d with
  | zero =>
    intro k b hd
    obtain rfl : k = wn := by omega
    have b1 : (nI k < nI k) = False := eq_false (nI_nlt (by omega) (by omega))
    rw [alF, Bool.and_true]
    conv => lhs; rw [e170_43]
    simp only [e170_0, e170_1, e170_2, e170_3, e170_5, e170_6, e170_9, e170_10, e170_11, e170_14, e170_15, e170_18, e170_19, e170_22, e170_23, e170_24, e170_25, e170_26, e170_27, e170_28, e170_30, e170_31, e170_35, e170_37, e170_40, e170_41, e170_45, e170_46, e170_49, e170_52, e170_54, e170_57, e170_58, e170_61, e170_62, e170_64, e170_65, e170_66, e170_67, e170_70, e170_71, e170_74, e170_75, e170_77, e170_78, e170_79, e170_80, e170_81, e170_83, e170_86, e170_87, e170_90, e170_91, e170_93, e170_94, e170_95, e170_96, e170_97, e170_98, e170_101, e170_102, e170_103, e170_106, e170_107, e170_110, e170_111, e170_113, e170_116, e170_120, e170_123, e170_124, e170_127, e170_130, e170_131, e170_133, e170_136, e170_137, e170_138, e170_139, e170_142, e170_143, e170_144, e170_145, e170_148, e170_151, e170_152, g76_12, h2, b1, if_false]
  | succ d ih =>
    intro k b hd
    have b1 : (nI k < nI wn) = True := eq_true (nI_lt (by omega) (by omega))
    obtain ⟨a1, a2, a3, a4, a5, a6⟩ := h3 k (by omega)
    have hr := sk.2.1 g hg
    have c1 : (nI (w k).1 = nI g) = ((w k).1 = g) := propext (nI_eq (by omega) (by omega))
    have c2 : (nI (w k).2.1 = nI n) = ((w k).2.1 = n) := propext (nI_eq (by omega) (by omega))
    have c3 : (nI (w k).2.2 = nI (S.2.1 g)) = ((w k).2.2 = S.2.1 g) := propext (nI_eq (by omega) (by omega))
    have fin : ∀ b2 : Bool, b2 = (b && !(decide ((w k).1 = g) && decide ((w k).2.1 = n) && !decide ((w k).2.2 = S.2.1 g))) → (b && alF w g n (S.2.1 g) (d + 1) k) = (b2 && alF w g n (S.2.1 g) d (k + 1)) := by
      intro b2 hb
      rw [alF, hb]
      by_cases q1 : (w k).1 = g <;> by_cases q2 : (w k).2.1 = n <;> by_cases q3 : (w k).2.2 = S.2.1 g <;> cases b <;> simp [q1, q2, q3]
    conv => lhs; rw [e170_43]
    cases b with
    | false =>
      rw [fin false rfl]
      have e := ih (k + 1) false (by omega)
      have z0 : z_b (false = true) = 0 := rfl
      rw [z0] at e
      simp only [e170_0, e170_1, e170_2, e170_3, e170_5, e170_6, e170_9, e170_10, e170_11, e170_14, e170_15, e170_18, e170_19, e170_22, e170_23, e170_24, e170_25, e170_26, e170_27, e170_28, e170_30, e170_31, e170_35, e170_37, e170_40, e170_41, e170_45, e170_46, e170_49, e170_52, e170_54, e170_57, e170_58, e170_61, e170_62, e170_64, e170_65, e170_66, e170_67, e170_70, e170_71, e170_74, e170_75, e170_77, e170_78, e170_79, e170_80, e170_81, e170_83, e170_86, e170_87, e170_90, e170_91, e170_93, e170_94, e170_95, e170_96, e170_97, e170_98, e170_101, e170_102, e170_103, e170_106, e170_107, e170_110, e170_111, e170_113, e170_116, e170_120, e170_123, e170_124, e170_127, e170_130, e170_131, e170_133, e170_136, e170_137, e170_138, e170_139, e170_142, e170_143, e170_144, e170_145, e170_148, e170_151, e170_152, g76_12, h2, b1, if_true, z0, nI_1]
      exact e
    | true =>
      have z1 : z_b (true = true) = 1 := rfl
      have z0 : z_b (false = true) = 0 := rfl
      have o1 : ((1 : Int32) = 0) = False := by decide
      have e1 := ih (k + 1) true (by omega)
      have e0 := ih (k + 1) false (by omega)
      rw [z1] at e1
      rw [z0] at e0
      by_cases q1 : (w k).1 = g
      · by_cases q2 : (w k).2.1 = n
        · by_cases q3 : (w k).2.2 = S.2.1 g
          · rw [fin true (by simp [q1, q2, q3])]
            simp only [e170_0, e170_1, e170_2, e170_3, e170_5, e170_6, e170_9, e170_10, e170_11, e170_14, e170_15, e170_18, e170_19, e170_22, e170_23, e170_24, e170_25, e170_26, e170_27, e170_28, e170_30, e170_31, e170_35, e170_37, e170_40, e170_41, e170_45, e170_46, e170_49, e170_52, e170_54, e170_57, e170_58, e170_61, e170_62, e170_64, e170_65, e170_66, e170_67, e170_70, e170_71, e170_74, e170_75, e170_77, e170_78, e170_79, e170_80, e170_81, e170_83, e170_86, e170_87, e170_90, e170_91, e170_93, e170_94, e170_95, e170_96, e170_97, e170_98, e170_101, e170_102, e170_103, e170_106, e170_107, e170_110, e170_111, e170_113, e170_116, e170_120, e170_123, e170_124, e170_127, e170_130, e170_131, e170_133, e170_136, e170_137, e170_138, e170_139, e170_142, e170_143, e170_144, e170_145, e170_148, e170_151, e170_152, g76_12, h2, b1, if_true, z1, o1, if_false, g76_11, z3, nI_1, show nI (3 * k) + 2 = nI (3 * k + 2) from by rw [show (2 : Int32) = nI 2 from rfl, nI_add], g_iln an85 (show 3 * k < 18 by omega) (by decide), g_iln an85 (show 3 * k + 1 < 18 by omega) (by decide), g_iln an85 (show 3 * k + 2 < 18 by omega) (by decide), a1, a2, a3, c1, c2, c3, eq_true q1, eq_true q2, eq_true q3, g76_6, g_iln an82 (show g < 16 by omega) (by decide), r0_rc hR hg]
            exact e1
          · rw [fin false (by simp [q1, q2, q3])]
            simp only [e170_0, e170_1, e170_2, e170_3, e170_5, e170_6, e170_9, e170_10, e170_11, e170_14, e170_15, e170_18, e170_19, e170_22, e170_23, e170_24, e170_25, e170_26, e170_27, e170_28, e170_30, e170_31, e170_35, e170_37, e170_40, e170_41, e170_45, e170_46, e170_49, e170_52, e170_54, e170_57, e170_58, e170_61, e170_62, e170_64, e170_65, e170_66, e170_67, e170_70, e170_71, e170_74, e170_75, e170_77, e170_78, e170_79, e170_80, e170_81, e170_83, e170_86, e170_87, e170_90, e170_91, e170_93, e170_94, e170_95, e170_96, e170_97, e170_98, e170_101, e170_102, e170_103, e170_106, e170_107, e170_110, e170_111, e170_113, e170_116, e170_120, e170_123, e170_124, e170_127, e170_130, e170_131, e170_133, e170_136, e170_137, e170_138, e170_139, e170_142, e170_143, e170_144, e170_145, e170_148, e170_151, e170_152, g76_12, h2, b1, if_true, z1, o1, if_false, g76_11, z3, nI_1, show nI (3 * k) + 2 = nI (3 * k + 2) from by rw [show (2 : Int32) = nI 2 from rfl, nI_add], g_iln an85 (show 3 * k < 18 by omega) (by decide), g_iln an85 (show 3 * k + 1 < 18 by omega) (by decide), g_iln an85 (show 3 * k + 2 < 18 by omega) (by decide), a1, a2, a3, c1, c2, c3, eq_true q1, eq_true q2, eq_false q3, g76_6, g_iln an82 (show g < 16 by omega) (by decide), r0_rc hR hg]
            exact e0
        · rw [fin true (by simp [q2])]
          simp only [e170_0, e170_1, e170_2, e170_3, e170_5, e170_6, e170_9, e170_10, e170_11, e170_14, e170_15, e170_18, e170_19, e170_22, e170_23, e170_24, e170_25, e170_26, e170_27, e170_28, e170_30, e170_31, e170_35, e170_37, e170_40, e170_41, e170_45, e170_46, e170_49, e170_52, e170_54, e170_57, e170_58, e170_61, e170_62, e170_64, e170_65, e170_66, e170_67, e170_70, e170_71, e170_74, e170_75, e170_77, e170_78, e170_79, e170_80, e170_81, e170_83, e170_86, e170_87, e170_90, e170_91, e170_93, e170_94, e170_95, e170_96, e170_97, e170_98, e170_101, e170_102, e170_103, e170_106, e170_107, e170_110, e170_111, e170_113, e170_116, e170_120, e170_123, e170_124, e170_127, e170_130, e170_131, e170_133, e170_136, e170_137, e170_138, e170_139, e170_142, e170_143, e170_144, e170_145, e170_148, e170_151, e170_152, g76_12, h2, b1, if_true, z1, o1, if_false, g76_11, z3, nI_1, g_iln an85 (show 3 * k < 18 by omega) (by decide), g_iln an85 (show 3 * k + 1 < 18 by omega) (by decide), a1, a2, c1, c2, eq_true q1, eq_false q2]
          exact e1
      · rw [fin true (by simp [q1])]
        simp only [e170_0, e170_1, e170_2, e170_3, e170_5, e170_6, e170_9, e170_10, e170_11, e170_14, e170_15, e170_18, e170_19, e170_22, e170_23, e170_24, e170_25, e170_26, e170_27, e170_28, e170_30, e170_31, e170_35, e170_37, e170_40, e170_41, e170_45, e170_46, e170_49, e170_52, e170_54, e170_57, e170_58, e170_61, e170_62, e170_64, e170_65, e170_66, e170_67, e170_70, e170_71, e170_74, e170_75, e170_77, e170_78, e170_79, e170_80, e170_81, e170_83, e170_86, e170_87, e170_90, e170_91, e170_93, e170_94, e170_95, e170_96, e170_97, e170_98, e170_101, e170_102, e170_103, e170_106, e170_107, e170_110, e170_111, e170_113, e170_116, e170_120, e170_123, e170_124, e170_127, e170_130, e170_131, e170_133, e170_136, e170_137, e170_138, e170_139, e170_142, e170_143, e170_144, e170_145, e170_148, e170_151, e170_152, g76_12, h2, b1, if_true, z1, o1, if_false, g76_11, z3, nI_1, g_iln an85 (show 3 * k < 18 by omega) (by decide), a1, c1, eq_false q1]
        exact e1
theorem l170n (ok : L_ok L) (sk : S_ok S) {g m set : Nat} (hg : g < 4) (hm : m < 4) : ∀ d n (b : Bool) (l6 : Option Value) (σ : z_G), d + n = 21 → D_at σ L → V_at σ wn w → R_at σ 82 0 L.2.2.2.2.2 (stepsF L (miS S g m) n) →
    ∃ τ l6b, z_r [] 0 0 170 33 [some (.ref 76), some (.int (nI g)), some (.int (nI set)), some (.int (nI m)), some (.int (z_b (b = true))), some (.int (nI n)), l6] [] (z_enc σ) = z_r [] 0 0 170 130 [some (.ref 76), some (.int (nI g)), some (.int (nI set)), some (.int (nI m)), some (.int (z_b ((b && fitF L S wn w g m d n) = true))), some (.int (nI 21)), l6b] [] (z_enc τ) ∧ z_sf Q82 σ τ := by
  have skm := mi_ok sk (g := g) (m := m) (Or.inl hm)
  intro d
  induction d with
  | zero =>
    intro n b l6 σ hd hD hV hR
    obtain rfl : n = 21 := by omega
    have b1 : (nI 21 < 21) = False := by decide
    refine ⟨σ, l6, ?_, z_sf.rf⟩
    rw [fitF, Bool.and_true]
    conv => lhs; rw [e170_33]
    simp only [e170_0, e170_1, e170_2, e170_3, e170_5, e170_6, e170_9, e170_10, e170_11, e170_14, e170_15, e170_18, e170_19, e170_22, e170_23, e170_24, e170_25, e170_26, e170_27, e170_28, e170_30, e170_31, e170_35, e170_37, e170_40, e170_41, e170_45, e170_46, e170_49, e170_52, e170_54, e170_57, e170_58, e170_61, e170_62, e170_64, e170_65, e170_66, e170_67, e170_70, e170_71, e170_74, e170_75, e170_77, e170_78, e170_79, e170_80, e170_81, e170_83, e170_86, e170_87, e170_90, e170_91, e170_93, e170_94, e170_95, e170_96, e170_97, e170_98, e170_101, e170_102, e170_103, e170_106, e170_107, e170_110, e170_111, e170_113, e170_116, e170_120, e170_123, e170_124, e170_127, e170_131, e170_133, e170_136, e170_137, e170_138, e170_139, e170_142, e170_143, e170_144, e170_145, e170_148, e170_151, e170_152, b1, if_false]
  | succ d ih =>
    intro n b l6 σ hd hD hV hR
    have b1 : (nI n < 21) = True := eq_true (nI_lt (a := n) (b := 21) (by omega) (by decide))
    have sk2 := steps_ok ok skm n
    have ek := l170k hV hR sk2 (m := m) (set := set) hg (show n ≤ 20 by omega) wn 0 b (by omega)
    obtain ⟨τ, e1, r1, -, q1⟩ := s148 hD hR ok sk2
    obtain ⟨τ2, l6b, e2, q2⟩ := ih (n + 1) (b && alF w g n (posF L S g m n) wn 0) (some (.int (nI wn))) τ (by omega) (D_sf hD q1 (fun k => by unfold Q82; omega)) (V_sf hV q1 (by unfold Q82; simp)) r1
    refine ⟨τ2, l6b, ?_, q1.tr q2⟩
    have ef : (b && fitF L S wn w g m (d + 1) n) = ((b && alF w g n (posF L S g m n) wn 0) && fitF L S wn w g m d (n + 1)) := by
      rw [fitF]
      cases b <;> cases alF w g n (posF L S g m n) wn 0 <;> simp
    rw [ef]
    conv => lhs; rw [e170_33]
    simp only [e170_0, e170_1, e170_2, e170_3, e170_5, e170_6, e170_9, e170_10, e170_11, e170_14, e170_15, e170_18, e170_19, e170_22, e170_23, e170_24, e170_25, e170_26, e170_27, e170_28, e170_30, e170_31, e170_35, e170_37, e170_40, e170_41, e170_45, e170_46, e170_49, e170_52, e170_54, e170_57, e170_58, e170_61, e170_62, e170_64, e170_65, e170_66, e170_67, e170_70, e170_71, e170_74, e170_75, e170_77, e170_78, e170_79, e170_80, e170_81, e170_83, e170_86, e170_87, e170_90, e170_91, e170_93, e170_94, e170_95, e170_96, e170_97, e170_98, e170_101, e170_102, e170_103, e170_106, e170_107, e170_110, e170_111, e170_113, e170_116, e170_120, e170_123, e170_124, e170_127, e170_131, e170_133, e170_136, e170_137, e170_138, e170_139, e170_142, e170_143, e170_144, e170_145, e170_148, e170_151, e170_152, b1, if_true]
    refine Eq.trans ek ?_
    conv => lhs; rw [e170_119]
    simp only [e170_0, e170_1, e170_2, e170_3, e170_5, e170_6, e170_9, e170_10, e170_11, e170_14, e170_15, e170_18, e170_19, e170_22, e170_23, e170_24, e170_25, e170_26, e170_27, e170_28, e170_30, e170_31, e170_35, e170_37, e170_40, e170_41, e170_45, e170_46, e170_49, e170_52, e170_54, e170_57, e170_58, e170_61, e170_62, e170_64, e170_65, e170_66, e170_67, e170_70, e170_71, e170_74, e170_75, e170_77, e170_78, e170_79, e170_80, e170_81, e170_83, e170_86, e170_87, e170_90, e170_91, e170_93, e170_94, e170_95, e170_96, e170_97, e170_98, e170_101, e170_102, e170_103, e170_106, e170_107, e170_110, e170_111, e170_113, e170_116, e170_120, e170_123, e170_124, e170_127, e170_131, e170_133, e170_136, e170_137, e170_138, e170_139, e170_142, e170_143, e170_144, e170_145, e170_148, e170_151, e170_152, v76, e1, z_bd_i, z_bd_l, z_bd_v, List.cons_append, List.nil_append, z_nk_i, z_nk_r, z_nk_n, v0, v1, v3, v19, v61, v71, v76, nI_1]
    exact e2
theorem l170m (ok : L_ok L) (sk : S_ok S) {g : Nat} (hg : g < L.2.2.2.2.2) : ∀ d m (l4 l5 l6 : Option Value) (σ : z_G), d + m = L.2.2.2.2.1 → D_at σ L → V_at σ wn w → R_at σ 81 0 L.2.2.2.2.2 S →
    ∃ τ, z_r [] 0 0 170 4 [some (.ref 76), some (.int (nI g)), some (.int (nI (faceF L S wn w g m))), some (.int (nI m)), l4, l5, l6] [] (z_enc σ) = some (some (.int (nI (faceF L S wn w g L.2.2.2.2.1))), z_enc τ) ∧ z_sf Q82 σ τ := by
  have hM := ok.2.2.2.1
  have hN := ok.2.2.2.2
  intro d
  induction d with
  | zero =>
    intro m l4 l5 l6 σ hd hD hV hR
    have i2 : ∀ K : Int32 → Option z_O, z_il1 (z_enc σ) 78 2 K = K (σ.1 78 2) := fun K => g_iln (k := 2) an78 (by decide) (by decide)
    obtain rfl : m = L.2.2.2.2.1 := by omega
    have b1 : (nI L.2.2.2.2.1 < nI L.2.2.2.2.1) = False := eq_false (nI_nlt (by omega) (by omega))
    refine ⟨σ, ?_, z_sf.rf⟩
    rw [e170_4]
    simp only [e170_0, e170_1, e170_2, e170_3, e170_5, e170_6, e170_9, e170_10, e170_11, e170_14, e170_15, e170_18, e170_19, e170_22, e170_23, e170_24, e170_25, e170_26, e170_27, e170_28, e170_30, e170_31, e170_35, e170_37, e170_40, e170_41, e170_45, e170_46, e170_49, e170_52, e170_54, e170_57, e170_58, e170_61, e170_62, e170_64, e170_65, e170_66, e170_67, e170_70, e170_71, e170_74, e170_75, e170_77, e170_78, e170_79, e170_80, e170_81, e170_83, e170_86, e170_87, e170_90, e170_91, e170_93, e170_94, e170_95, e170_96, e170_97, e170_98, e170_101, e170_102, e170_103, e170_106, e170_107, e170_110, e170_111, e170_113, e170_116, e170_120, e170_123, e170_124, e170_127, e170_131, e170_133, e170_136, e170_137, e170_138, e170_139, e170_142, e170_143, e170_144, e170_145, e170_148, e170_151, e170_152, g76_2, i2, hD.2.2.1, b1, if_false]
  | succ d ih =>
    intro m l4 l5 l6 σ hd hD hV hR
    have i2 : ∀ K : Int32 → Option z_O, z_il1 (z_enc σ) 78 2 K = K (σ.1 78 2) := fun K => g_iln (k := 2) an78 (by decide) (by decide)
    have b1 : (nI m < nI L.2.2.2.2.1) = True := eq_true (nI_lt (by omega) (by omega))
    obtain ⟨a1, a2, a3, a4⟩ := asd hD hR ok
    have sf2 : z_sf (fun p _ => p ≠ 82) (cpF σ 82 0 81 0 16) (z_ui (cpF σ 82 0 81 0 16) 82 (4 + g) (nI m)) := sf_ui (fun q => q rfl)
    obtain ⟨τ, l6b, e1, q1⟩ := l170n ok sk (set := faceF L S wn w g m) (show g < 4 by omega) (show m < 4 by omega) 21 0 true l6 _ rfl (D_sf a1 sf2 (by simp)) (V_sf (V_sf hV a4 (by simp)) sf2 (by simp)) (r_mi (x := nI m) a3 hN hg (by unfold toldF; rw [if_neg (by omega)]))
    have ft : z_sf Q82 σ τ := (sf_82 a4).tr ((sf_82 sf2).tr q1)
    obtain ⟨τ2, e2, q2⟩ := ih (m + 1) (some (.int (z_b (fitF L S wn w g m 21 0 = true)))) (some (.int (nI 21))) l6b τ (by omega) (D_sf hD ft (fun k => by unfold Q82; omega)) (V_sf hV ft (by unfold Q82; simp)) (R_sf hR ft (fun k _ => by unfold Q82; omega) hN)
    refine ⟨τ2, ?_, ft.tr q2⟩
    have z1 : z_b (true = true) = 1 := rfl
    rw [z1, Bool.true_and] at e1
    rw [faceF] at e2
    rw [e170_4]
    simp only [e170_0, e170_1, e170_2, e170_3, e170_5, e170_6, e170_9, e170_10, e170_11, e170_14, e170_15, e170_18, e170_19, e170_22, e170_23, e170_24, e170_25, e170_26, e170_27, e170_28, e170_30, e170_31, e170_35, e170_37, e170_40, e170_41, e170_45, e170_46, e170_49, e170_52, e170_54, e170_57, e170_58, e170_61, e170_62, e170_64, e170_65, e170_66, e170_67, e170_70, e170_71, e170_74, e170_75, e170_77, e170_78, e170_79, e170_80, e170_81, e170_83, e170_86, e170_87, e170_90, e170_91, e170_93, e170_94, e170_95, e170_96, e170_97, e170_98, e170_101, e170_102, e170_103, e170_106, e170_107, e170_110, e170_111, e170_113, e170_116, e170_120, e170_123, e170_124, e170_127, e170_131, e170_133, e170_136, e170_137, e170_138, e170_139, e170_142, e170_143, e170_144, e170_145, e170_148, e170_151, e170_152, g76_2, i2, hD.2.2.1, b1, if_true, v76, s140, z_bd_i, z_bd_l, z_bd_v, List.cons_append, List.nil_append, z_nk_i, z_nk_r, z_nk_n, v0, v1, v3, v19, v61, v71, v76, g76_6, z4, g_isn an82 (show 4 + g < 16 by omega) (by decide)]
    refine Eq.trans e1 ?_
    rw [e170_130]
    simp only [e170_0, e170_1, e170_2, e170_3, e170_5, e170_6, e170_9, e170_10, e170_11, e170_14, e170_15, e170_18, e170_19, e170_22, e170_23, e170_24, e170_25, e170_26, e170_27, e170_28, e170_30, e170_31, e170_35, e170_37, e170_40, e170_41, e170_45, e170_46, e170_49, e170_52, e170_54, e170_57, e170_58, e170_61, e170_62, e170_64, e170_65, e170_66, e170_67, e170_70, e170_71, e170_74, e170_75, e170_77, e170_78, e170_79, e170_80, e170_81, e170_83, e170_86, e170_87, e170_90, e170_91, e170_93, e170_94, e170_95, e170_96, e170_97, e170_98, e170_101, e170_102, e170_103, e170_106, e170_107, e170_110, e170_111, e170_113, e170_116, e170_120, e170_123, e170_124, e170_127, e170_131, e170_133, e170_136, e170_137, e170_138, e170_139, e170_142, e170_143, e170_144, e170_145, e170_148, e170_151, e170_152, z_b_0, sh1 m (by omega), nI_1]
    by_cases q : fitF L S wn w g m 21 0 = true
    · simp only [eq_true q, not_true, if_false, if_true, z_orI, or_add (face_lt L S wn w g m)] at e2 ⊢
      exact e2
    · simp only [eq_false q, not_false_iff, if_true, if_false] at e2 ⊢
      rw [show nI (faceF L S wn w g m) ||| (0 : Int32) = nI (faceF L S wn w g m + 0) by rw [show (0 : Int32) = nI 0 from rfl, z_orI, Nat.or_zero, Nat.add_zero]]
      exact e2
theorem s170 (hD : D_at σ L) (hV : V_at σ wn w) (hR : R_at σ 81 0 L.2.2.2.2.2 S) (ok : L_ok L) (sk : S_ok S) {g : Nat} (hg : g < L.2.2.2.2.2) : ∃ τ, z_call 170 [.ref 76, .int (nI g)] (z_enc σ) = some (some (.int (nI (faceF L S wn w g L.2.2.2.2.1))), z_enc τ) ∧ z_sf Q82 σ τ := by
  obtain ⟨τ, e, f⟩ := l170m ok sk hg L.2.2.2.2.1 0 none none none σ (by omega) hD hV hR
  refine ⟨τ, ?_, f⟩
  rw [faceF] at e
  simp only [en170, e170_0, e170_1, e170_2, e170_3, e170_5, e170_6, e170_9, e170_10, e170_11, e170_14, e170_15, e170_18, e170_19, e170_22, e170_23, e170_24, e170_25, e170_26, e170_27, e170_28, e170_30, e170_31, e170_35, e170_37, e170_40, e170_41, e170_45, e170_46, e170_49, e170_52, e170_54, e170_57, e170_58, e170_61, e170_62, e170_64, e170_65, e170_66, e170_67, e170_70, e170_71, e170_74, e170_75, e170_77, e170_78, e170_79, e170_80, e170_81, e170_83, e170_86, e170_87, e170_90, e170_91, e170_93, e170_94, e170_95, e170_96, e170_97, e170_98, e170_101, e170_102, e170_103, e170_106, e170_107, e170_110, e170_111, e170_113, e170_116, e170_120, e170_123, e170_124, e170_127, e170_131, e170_133, e170_136, e170_137, e170_138, e170_139, e170_142, e170_143, e170_144, e170_145, e170_148, e170_151, e170_152]
  exact e
theorem s171 (hD : D_at σ L) (hV : V_at σ wn w) (hR : R_at σ 81 0 L.2.2.2.2.2 S) (ok : L_ok L) (sk : S_ok S) {g : Nat} (hg : g < L.2.2.2.2.2) : ∃ τ, z_call 171 [.ref 76, .int (nI g)] (z_enc σ) = some (some (.int (nI (faceF L S wn w g L.2.2.2.2.1))), z_enc τ) ∧ z_sf Q82 σ τ := by
  have b1 : (¬ nI g < 0 ∧ nI g < nI L.2.2.2.2.2) = True := eq_true (inN_nI hg (by have := ok.2.2.2.2; omega))
  obtain ⟨τ, e, f⟩ := s170 hD hV hR ok sk hg
  refine ⟨τ, ?_, f⟩
  simp only [en171, e171_0, e171_1, e171_2, e171_5, e171_8, e171_9, e171_10, e171_13, e171_16, e171_17, v76, s138 hD ok, z_bd_i, z_bd_l, z_bd_v, List.cons_append, List.nil_append, z_nk_i, z_nk_r, z_nk_n, v0, v1, v3, v19, v61, v71, v76, z_b_0, b1, not_true, if_false, e]
theorem s171b (hD : D_at σ L) (ok : L_ok L) {g : Int32} (hb : ¬ (¬ g < 0 ∧ g < nI L.2.2.2.2.2)) : z_call 171 [.ref 76, .int g] (z_enc σ) = some (some (.int (-1)), z_enc σ) := by
  simp only [en171, e171_0, e171_1, e171_2, e171_5, e171_8, e171_9, e171_10, e171_13, e171_16, e171_17, v76, s138 hD ok, z_bd_i, z_bd_l, z_bd_v, List.cons_append, List.nil_append, z_nk_i, z_nk_r, z_nk_n, v0, v1, v3, v19, v61, v71, v76, z_b_0, eq_false hb, not_false_iff, if_true]
end MFACE
