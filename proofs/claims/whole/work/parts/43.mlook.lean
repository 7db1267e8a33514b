/-! the reference: look, kinds, images, counts -/
def J_at (σ : z_G) (N kp : Nat) (img : Nat → t_S) : Prop := kp < 4 ∧ σ.1 76 10 = nI kp ∧ ∀ i, i < 2 → kp.testBit i = true → R_at σ 84 (16 * i) N (img i)
theorem J_sf {Q : Nat → Nat → Prop} {σ τ : z_G} {N kp : Nat} {img : Nat → t_S} (h : J_at σ N kp img) (hs : z_sf Q σ τ) (hQ : Q 76 10 ∧ ∀ k, Q 84 k) (hN : N ≤ 4) : J_at τ N kp img :=
  ⟨h.1, ((hs _ _ hQ.1).1).trans h.2.1, fun i hi hb => R_sf (h.2.2 i hi hb) hs (fun k _ => hQ.2 _) hN⟩
theorem in_5 {k : Int32} (h : ¬ k < 0 ∧ ¬ 5 < k) : k = 0 ∨ k = 1 ∨ k = 2 ∨ k = 3 ∨ k = 4 ∨ k = 5 := by
  obtain ⟨j, hj, rfl⟩ := nI_of h.1
  have h5 : ¬ (5 : Int32) < nI j := h.2
  have : j ≤ 5 := by
    apply Classical.byContradiction
    intro q
    exact h5 (nI_lt (a := 5) (b := j) (by omega) (by omega))
  have : j = 0 ∨ j = 1 ∨ j = 2 ∨ j = 3 ∨ j = 4 ∨ j = 5 := by omega
  rcases this with rfl | rfl | rfl | rfl | rfl | rfl <;> decide
theorem sz_ok : ∀ a, a < 8 → ∀ b, b < 8 → sizeF (nI a - nI b) = nI ((a - b) + (b - a)) := by decide +kernel
theorem lk_lt (cw : Nat → Nat) : ∀ d n b, b < 21 → d + n = 21 → lkF cw d n b < 21
  | 0, n, b, hb, _ => hb
  | d + 1, n, b, hb, hd => by
    rw [lkF]
    split
    · exact lk_lt cw d (n + 1) n (by omega) (by omega)
    · exact lk_lt cw d (n + 1) b hb (by omega)
/-- would: where each of those it may mind brings it -/
def U_at (σ : z_G) (p : Nat → Nat) (M : Nat) : Prop := ∀ m, m < M → σ.1 86 m = nI (p m)
section MLOOK
variable {σ : z_G} {L : t_L} {S : t_S} {wn : Nat} {w : Nat → Nat × Nat × Nat} {kp : Nat} {img : Nat → t_S}
theorem l172a (ok : L_ok L) (sk : S_ok S) (dk : DN L S) {g n : Nat} {y2 : Int32} (hg : g < L.2.2.2.2.2) (hn : n ≤ 20) {l5 l6 l7 : Option Value} : ∀ d m (σ : z_G), d + m = L.2.2.2.2.1 → D_at σ L → R_at σ 81 0 L.2.2.2.2.2 S → U_at σ (fun m => posF L S g m n) m →
    ∃ τ, z_r [] 0 0 172 3 [some (.ref 76), some (.int (nI g)), some (.int y2), some (.int (nI n)), some (.int (nI m)), l5, l6, l7] [] (z_enc σ) = z_r [] 0 0 172 52 [some (.ref 76), some (.int (nI g)), some (.int y2), some (.int (nI n)), some (.int (nI L.2.2.2.2.1)), l5, l6, l7] [] (z_enc τ) ∧ z_sf Q86 σ τ ∧ U_at τ (fun m => posF L S g m n) L.2.2.2.2.1 := by
  have hM := ok.2.2.2.1
  have hN := ok.2.2.2.2
  intro d
  induction d with
  | zero =>
    intro m σ hd hD hR hU
    have i2 : ∀ K : Int32 → Option z_O, z_il1 (z_enc σ) 78 2 K = K (σ.1 78 2) := fun K => g_iln (k := 2) an78 (by decide) (by decide)
    obtain rfl : m = L.2.2.2.2.1 := by omega
    have b1 : (nI L.2.2.2.2.1 < nI L.2.2.2.2.1) = False := eq_false (nI_nlt (by omega) (by omega))
    refine ⟨σ, ?_, z_sf.rf, hU⟩
    conv => lhs; rw [e172_3]
    simp only [e172_0, e172_1, e172_5, e172_6, e172_9, e172_10, e172_11, e172_14, e172_15, e172_18, e172_19, e172_22, e172_23, e172_24, e172_25, e172_27, e172_28, e172_29, e172_30, e172_33, e172_34, e172_37, e172_39, e172_40, e172_43, e172_44, e172_45, e172_46, e172_49, e172_53, e172_55, e172_56, e172_60, e172_61, e172_64, e172_65, e172_66, e172_69, e172_70, e172_72, e172_73, e172_77, e172_78, e172_81, e172_82, e172_83, e172_86, e172_88, e172_89, e172_91, e172_94, e172_97, e172_98, e172_100, e172_103, e172_106, e172_107, e172_110, e172_112, e172_113, e172_114, e172_117, e172_119, e172_120, e172_123, e172_124, e172_127, e172_128, e172_129, e172_131, e172_134, e172_137, e172_139, e172_141, e172_144, e172_146, e172_149, e172_151, e172_153, e172_156, e172_159, e172_161, g76_2, i2, hD.2.2.1, b1, if_false]
  | succ d ih =>
    intro m σ hd hD hR hU
    have i2 : ∀ K : Int32 → Option z_O, z_il1 (z_enc σ) 78 2 K = K (σ.1 78 2) := fun K => g_iln (k := 2) an78 (by decide) (by decide)
    have hm4 : m < 4 := by omega
    have b1 : (nI m < nI L.2.2.2.2.1) = True := eq_true (nI_lt (by omega) (by omega))
    obtain ⟨a1, a2, a3, a4⟩ := asd hD hR ok
    have sf2 : z_sf (fun p _ => p ≠ 82) (cpF σ 82 0 81 0 16) (z_ui (cpF σ 82 0 81 0 16) 82 (4 + g) (nI m)) := sf_ui (fun q => q rfl)
    have skm := mi_ok sk (g := g) (m := m) (Or.inl hm4)
    obtain ⟨τ, e1, r1, -, f1⟩ := s149 (D_sf a1 sf2 (by simp)) (r_mi (x := nI m) a3 hN hg (by unfold toldF; rw [if_neg (by omega)])) ok skm dk (show n ≤ 40 by omega)
    have ft : z_sf Q82 σ τ := (sf_82 a4).tr ((sf_82 sf2).tr f1)
    have sf3 : z_sf (fun p _ => p ≠ 86) τ (z_ui τ 86 m (nI (posF L S g m n))) := sf_ui (fun q => q rfl)
    obtain ⟨τ2, e2, f2, u2⟩ := ih (m + 1) (z_ui τ 86 m (nI (posF L S g m n))) (by omega) (D_sf (D_sf hD ft (fun k => by unfold Q82; omega)) sf3 (by simp)) (R_sf (R_sf hR ft (fun k _ => by unfold Q82; omega) hN) sf3 (by simp) hN) (fun j hj => by
      by_cases e : j = m
      · subst e; exact z_ui_eq
      · rw [z_ui_ne (by omega), (ft 86 j (by unfold Q82; omega)).1]
        exact hU j (by omega))
    refine ⟨τ2, ?_, (ft.mono (fun p k q => ⟨q.1, q.2.2⟩)).tr ((sf3.mono (fun p k q => q.2.1)).tr f2), u2⟩
    have hpos : posF L S g m n = (stepsF L (miS S g m) n).2.1 g := rfl
    rw [hpos] at e2
    conv => lhs; rw [e172_3]
    simp only [e172_0, e172_1, e172_5, e172_6, e172_9, e172_10, e172_11, e172_14, e172_15, e172_18, e172_19, e172_22, e172_23, e172_24, e172_25, e172_27, e172_28, e172_29, e172_30, e172_33, e172_34, e172_37, e172_39, e172_40, e172_43, e172_44, e172_45, e172_46, e172_49, e172_53, e172_55, e172_56, e172_60, e172_61, e172_64, e172_65, e172_66, e172_69, e172_70, e172_72, e172_73, e172_77, e172_78, e172_81, e172_82, e172_83, e172_86, e172_88, e172_89, e172_91, e172_94, e172_97, e172_98, e172_100, e172_103, e172_106, e172_107, e172_110, e172_112, e172_113, e172_114, e172_117, e172_119, e172_120, e172_123, e172_124, e172_127, e172_128, e172_129, e172_131, e172_134, e172_137, e172_139, e172_141, e172_144, e172_146, e172_149, e172_151, e172_153, e172_156, e172_159, e172_161, g76_2, i2, hD.2.2.1, b1, if_true, v76, s140, z_bd_i, z_bd_l, z_bd_v, List.cons_append, List.nil_append, z_nk_i, z_nk_r, z_nk_n, v0, v1, v3, v19, v61, v71, v76, g76_6, z4, g_isn an82 (show 4 + g < 16 by omega) (by decide), e1, g76_20, g_iln an82 (show g < 16 by omega) (by decide), r0_rc r1 (show g < 4 by omega), g_isn an86 hm4 (by decide), nI_1]
    exact e2
theorem l172j (hD : D_at σ L) (ok : L_ok L) {p : Nat → Nat} (hp : ∀ m, m < 4 → p m < 64) (hU : U_at σ p L.2.2.2.2.1) {l1 l3 : Option Value} {set : Nat} (hset : set < 16) {m : Nat} (hm : m < L.2.2.2.2.1) {y4 y5 : Int32} : ∀ d j, d + j = L.2.2.2.2.1 →
    z_r [] 0 0 172 75 [some (.ref 76), l1, some (.int (nI set)), l3, some (.int y4), some (.int (nI m)), some (.int (nI (if set.testBit m = true then ctF set p (p m) j else 0))), some (.int (nI j))] [] (z_enc σ) = z_r [] 0 0 172 137 [some (.ref 76), l1, some (.int (nI set)), l3, some (.int y4), some (.int (nI m)), some (.int (nI (if set.testBit m = true then ctF set p (p m) L.2.2.2.2.1 else 0))), some (.int (nI L.2.2.2.2.1))] [] (z_enc σ) := by
  have hM := ok.2.2.2.1
  have i2 : ∀ K : Int32 → Option z_O, z_il1 (z_enc σ) 78 2 K = K (σ.1 78 2) := fun K => g_iln (k := 2) an78 (by decide) (by decide)
  have hm4 : m < 4 := by omega
  intro d
  induction d with
  | zero =>
    intro j hd
    obtain rfl : j = L.2.2.2.2.1 := by omega
    have b1 : (nI L.2.2.2.2.1 < nI L.2.2.2.2.1) = False := eq_false (nI_nlt (by omega) (by omega))
    conv => lhs; rw [e172_75]
    simp only [e172_0, e172_1, e172_5, e172_6, e172_9, e172_10, e172_11, e172_14, e172_15, e172_18, e172_19, e172_22, e172_23, e172_24, e172_25, e172_27, e172_28, e172_29, e172_30, e172_33, e172_34, e172_37, e172_39, e172_40, e172_43, e172_44, e172_45, e172_46, e172_49, e172_53, e172_55, e172_56, e172_60, e172_61, e172_64, e172_65, e172_66, e172_69, e172_70, e172_72, e172_73, e172_77, e172_78, e172_81, e172_82, e172_83, e172_86, e172_88, e172_89, e172_91, e172_94, e172_97, e172_98, e172_100, e172_103, e172_106, e172_107, e172_110, e172_112, e172_113, e172_114, e172_117, e172_119, e172_120, e172_123, e172_124, e172_127, e172_128, e172_129, e172_131, e172_134, e172_139, e172_141, e172_144, e172_146, e172_149, e172_151, e172_153, e172_156, e172_159, e172_161, g76_2, i2, hD.2.2.1, b1, if_false]
  | succ d ih =>
    intro j hd
    have b1 : (nI j < nI L.2.2.2.2.1) = True := eq_true (nI_lt (by omega) (by omega))
    have hj4 : j < 4 := by omega
    have e := ih (j + 1) (by omega)
    rw [ctF] at e
    have z0 : ∀ x : Nat, nI x + 0 = nI x := fun x => Int32.add_zero _
    conv => lhs; rw [e172_75]
    by_cases q1 : set.testBit m = true
    · simp only [eq_true q1, if_true] at e ⊢
      by_cases q2 : set.testBit j = true
      · have c1 := hp m hm4
        have c2 := hp j hj4
        have e3 : (nI (p j) = nI (p m)) = (p j = p m) := propext (nI_eq (by omega) (by omega))
        by_cases q3 : p j = p m
        · simp only [eq_true q2, eq_true q3, and_self, if_true] at e
          simp only [e172_0, e172_1, e172_5, e172_6, e172_9, e172_10, e172_11, e172_14, e172_15, e172_18, e172_19, e172_22, e172_23, e172_24, e172_25, e172_27, e172_28, e172_29, e172_30, e172_33, e172_34, e172_37, e172_39, e172_40, e172_43, e172_44, e172_45, e172_46, e172_49, e172_53, e172_55, e172_56, e172_60, e172_61, e172_64, e172_65, e172_66, e172_69, e172_70, e172_72, e172_73, e172_77, e172_78, e172_81, e172_82, e172_83, e172_86, e172_88, e172_89, e172_91, e172_94, e172_97, e172_98, e172_100, e172_103, e172_106, e172_107, e172_110, e172_112, e172_113, e172_114, e172_117, e172_119, e172_120, e172_123, e172_124, e172_127, e172_128, e172_129, e172_131, e172_134, e172_139, e172_141, e172_144, e172_146, e172_149, e172_151, e172_153, e172_156, e172_159, e172_161, g76_2, i2, hD.2.2.1, b1, if_true, s116 hset hm4, s116 hset hj4, z_bd_i, z_bd_l, z_bd_v, List.cons_append, List.nil_append, z_nk_i, z_nk_r, z_nk_n, v0, v1, v3, v19, v61, v71, v76, z_b_0, eq_true q1, eq_true q2, not_true, if_false, g76_20, g_iln an86 hj4 (by decide), g_iln an86 hm4 (by decide), hU j (by omega), hU m hm, e3, eq_true q3, nI_1]
          exact e
        · simp only [eq_true q2, eq_false q3, and_false, if_false, Nat.add_zero] at e
          simp only [e172_0, e172_1, e172_5, e172_6, e172_9, e172_10, e172_11, e172_14, e172_15, e172_18, e172_19, e172_22, e172_23, e172_24, e172_25, e172_27, e172_28, e172_29, e172_30, e172_33, e172_34, e172_37, e172_39, e172_40, e172_43, e172_44, e172_45, e172_46, e172_49, e172_53, e172_55, e172_56, e172_60, e172_61, e172_64, e172_65, e172_66, e172_69, e172_70, e172_72, e172_73, e172_77, e172_78, e172_81, e172_82, e172_83, e172_86, e172_88, e172_89, e172_91, e172_94, e172_97, e172_98, e172_100, e172_103, e172_106, e172_107, e172_110, e172_112, e172_113, e172_114, e172_117, e172_119, e172_120, e172_123, e172_124, e172_127, e172_128, e172_129, e172_131, e172_134, e172_139, e172_141, e172_144, e172_146, e172_149, e172_151, e172_153, e172_156, e172_159, e172_161, g76_2, i2, hD.2.2.1, b1, if_true, s116 hset hm4, s116 hset hj4, z_bd_i, z_bd_l, z_bd_v, List.cons_append, List.nil_append, z_nk_i, z_nk_r, z_nk_n, v0, v1, v3, v19, v61, v71, v76, z_b_0, eq_true q1, eq_true q2, not_true, if_false, g76_20, g_iln an86 hj4 (by decide), g_iln an86 hm4 (by decide), hU j (by omega), hU m hm, e3, eq_false q3, nI_1, z0]
          exact e
      · simp only [eq_false q2, false_and, if_false, Nat.add_zero] at e
        simp only [e172_0, e172_1, e172_5, e172_6, e172_9, e172_10, e172_11, e172_14, e172_15, e172_18, e172_19, e172_22, e172_23, e172_24, e172_25, e172_27, e172_28, e172_29, e172_30, e172_33, e172_34, e172_37, e172_39, e172_40, e172_43, e172_44, e172_45, e172_46, e172_49, e172_53, e172_55, e172_56, e172_60, e172_61, e172_64, e172_65, e172_66, e172_69, e172_70, e172_72, e172_73, e172_77, e172_78, e172_81, e172_82, e172_83, e172_86, e172_88, e172_89, e172_91, e172_94, e172_97, e172_98, e172_100, e172_103, e172_106, e172_107, e172_110, e172_112, e172_113, e172_114, e172_117, e172_119, e172_120, e172_123, e172_124, e172_127, e172_128, e172_129, e172_131, e172_134, e172_139, e172_141, e172_144, e172_146, e172_149, e172_151, e172_153, e172_156, e172_159, e172_161, g76_2, i2, hD.2.2.1, b1, if_true, s116 hset hm4, s116 hset hj4, z_bd_i, z_bd_l, z_bd_v, List.cons_append, List.nil_append, z_nk_i, z_nk_r, z_nk_n, v0, v1, v3, v19, v61, v71, v76, z_b_0, eq_true q1, eq_false q2, not_true, not_false_iff, if_false, nI_1, z0]
        exact e
    · simp only [eq_false q1, if_false] at e ⊢
      simp only [e172_0, e172_1, e172_5, e172_6, e172_9, e172_10, e172_11, e172_14, e172_15, e172_18, e172_19, e172_22, e172_23, e172_24, e172_25, e172_27, e172_28, e172_29, e172_30, e172_33, e172_34, e172_37, e172_39, e172_40, e172_43, e172_44, e172_45, e172_46, e172_49, e172_53, e172_55, e172_56, e172_60, e172_61, e172_64, e172_65, e172_66, e172_69, e172_70, e172_72, e172_73, e172_77, e172_78, e172_81, e172_82, e172_83, e172_86, e172_88, e172_89, e172_91, e172_94, e172_97, e172_98, e172_100, e172_103, e172_106, e172_107, e172_110, e172_112, e172_113, e172_114, e172_117, e172_119, e172_120, e172_123, e172_124, e172_127, e172_128, e172_129, e172_131, e172_134, e172_139, e172_141, e172_144, e172_146, e172_149, e172_151, e172_153, e172_156, e172_159, e172_161, g76_2, i2, hD.2.2.1, b1, if_true, s116 hset hm4, z_bd_i, z_bd_l, z_bd_v, List.cons_append, List.nil_append, z_nk_i, z_nk_r, z_nk_n, v0, v1, v3, v19, v61, v71, v76, z_b_0, eq_false q1, not_false_iff, nI_1, z0]
      exact e
theorem l172m (hD : D_at σ L) (ok : L_ok L) {p : Nat → Nat} (hp : ∀ m, m < 4 → p m < 64) (hU : U_at σ p L.2.2.2.2.1) {l1 : Option Value} {y3 : Int32} {set : Nat} (hset : set < 2 ^ L.2.2.2.2.1) : ∀ d m (l6 l7 : Option Value), d + m = L.2.2.2.2.1 →
    z_r [] 0 0 172 58 [some (.ref 76), l1, some (.int (nI set)), some (.int y3), some (.int (nI (gcF set p m))), some (.int (nI m)), l6, l7] [] (z_enc σ) = some (some (.int (nI (gcF set p 4))), z_enc σ) := by
  have hM := ok.2.2.2.1
  have hs16 : set < 16 := Nat.lt_of_lt_of_le hset (Nat.pow_le_pow_right (by decide) hM)
  have i2 : ∀ K : Int32 → Option z_O, z_il1 (z_enc σ) 78 2 K = K (σ.1 78 2) := fun K => g_iln (k := 2) an78 (by decide) (by decide)
  have hg4 : gcF set p 4 = gcF set p L.2.2.2.2.1 := by
    have := gc_M hset p (4 - L.2.2.2.2.1)
    rwa [show L.2.2.2.2.1 + (4 - L.2.2.2.2.1) = 4 by omega] at this
  have hc4 : ∀ c, ctF set p c 4 = ctF set p c L.2.2.2.2.1 := fun c => by
    have := ct_M hset p c (4 - L.2.2.2.2.1)
    rwa [show L.2.2.2.2.1 + (4 - L.2.2.2.2.1) = 4 by omega] at this
  intro d
  induction d with
  | zero =>
    intro m l6 l7 hd
    obtain rfl : m = L.2.2.2.2.1 := by omega
    have b1 : (nI L.2.2.2.2.1 < nI L.2.2.2.2.1) = False := eq_false (nI_nlt (by omega) (by omega))
    rw [e172_58, hg4]
    simp only [e172_0, e172_1, e172_5, e172_6, e172_9, e172_10, e172_11, e172_14, e172_15, e172_18, e172_19, e172_22, e172_23, e172_24, e172_25, e172_27, e172_28, e172_29, e172_30, e172_33, e172_34, e172_37, e172_39, e172_40, e172_43, e172_44, e172_45, e172_46, e172_49, e172_53, e172_55, e172_56, e172_60, e172_61, e172_64, e172_65, e172_66, e172_69, e172_70, e172_72, e172_73, e172_77, e172_78, e172_81, e172_82, e172_83, e172_86, e172_88, e172_89, e172_91, e172_94, e172_97, e172_98, e172_100, e172_103, e172_106, e172_107, e172_110, e172_112, e172_113, e172_114, e172_117, e172_119, e172_120, e172_123, e172_124, e172_127, e172_128, e172_129, e172_131, e172_134, e172_139, e172_141, e172_144, e172_146, e172_149, e172_151, e172_153, e172_156, e172_159, e172_161, g76_2, i2, hD.2.2.1, b1, if_false]
  | succ d ih =>
    intro m l6 l7 hd
    have b1 : (nI m < nI L.2.2.2.2.1) = True := eq_true (nI_lt (by omega) (by omega))
    have ej := l172j hD ok hp hU (l1 := l1) (l3 := some (.int y3)) hs16 (show m < L.2.2.2.2.1 by omega) (y4 := nI (gcF set p m)) (y5 := 0) L.2.2.2.2.1 0 (by omega)
    have e := fun l6 l7 => ih (m + 1) l6 l7 (by omega)
    rw [gcF] at e
    have hle := gc_le set p m
    rw [e172_58]
    simp only [e172_0, e172_1, e172_5, e172_6, e172_9, e172_10, e172_11, e172_14, e172_15, e172_18, e172_19, e172_22, e172_23, e172_24, e172_25, e172_27, e172_28, e172_29, e172_30, e172_33, e172_34, e172_37, e172_39, e172_40, e172_43, e172_44, e172_45, e172_46, e172_49, e172_53, e172_55, e172_56, e172_60, e172_61, e172_64, e172_65, e172_66, e172_69, e172_70, e172_72, e172_73, e172_77, e172_78, e172_81, e172_82, e172_83, e172_86, e172_88, e172_89, e172_91, e172_94, e172_97, e172_98, e172_100, e172_103, e172_106, e172_107, e172_110, e172_112, e172_113, e172_114, e172_117, e172_119, e172_120, e172_123, e172_124, e172_127, e172_128, e172_129, e172_131, e172_134, e172_139, e172_141, e172_144, e172_146, e172_149, e172_151, e172_153, e172_156, e172_159, e172_161, g76_2, i2, hD.2.2.1, b1, if_true]
    have e00 : nI (if set.testBit m = true then ctF set p (p m) 0 else 0) = 0 := by
      by_cases q : set.testBit m = true
      · rw [if_pos q]; rfl
      · rw [if_neg q]; rfl
    rw [e00] at ej
    refine Eq.trans ej ?_
    rw [e172_137]
    by_cases q1 : set.testBit m = true
    · have h2 := ct_le set p (p m) L.2.2.2.2.1
      have e3 : (nI (gcF set p m) < nI (ctF set p (p m) L.2.2.2.2.1)) = (gcF set p m < ctF set p (p m) L.2.2.2.2.1) := propext (nI_ltI (by omega) (by omega))
      simp only [eq_true q1, if_true, hc4] at e ⊢
      by_cases q2 : gcF set p m < ctF set p (p m) L.2.2.2.2.1
      · simp only [eq_true q2, if_true] at e
        simp only [e172_0, e172_1, e172_5, e172_6, e172_9, e172_10, e172_11, e172_14, e172_15, e172_18, e172_19, e172_22, e172_23, e172_24, e172_25, e172_27, e172_28, e172_29, e172_30, e172_33, e172_34, e172_37, e172_39, e172_40, e172_43, e172_44, e172_45, e172_46, e172_49, e172_53, e172_55, e172_56, e172_60, e172_61, e172_64, e172_65, e172_66, e172_69, e172_70, e172_72, e172_73, e172_77, e172_78, e172_81, e172_82, e172_83, e172_86, e172_88, e172_89, e172_91, e172_94, e172_97, e172_98, e172_100, e172_103, e172_106, e172_107, e172_110, e172_112, e172_113, e172_114, e172_117, e172_119, e172_120, e172_123, e172_124, e172_127, e172_128, e172_129, e172_131, e172_134, e172_139, e172_141, e172_144, e172_146, e172_149, e172_151, e172_153, e172_156, e172_159, e172_161, e3, eq_true q2, not_true, if_true, if_false, nI_1]
        exact e _ _
      · simp only [eq_false q2, if_false] at e
        simp only [e172_0, e172_1, e172_5, e172_6, e172_9, e172_10, e172_11, e172_14, e172_15, e172_18, e172_19, e172_22, e172_23, e172_24, e172_25, e172_27, e172_28, e172_29, e172_30, e172_33, e172_34, e172_37, e172_39, e172_40, e172_43, e172_44, e172_45, e172_46, e172_49, e172_53, e172_55, e172_56, e172_60, e172_61, e172_64, e172_65, e172_66, e172_69, e172_70, e172_72, e172_73, e172_77, e172_78, e172_81, e172_82, e172_83, e172_86, e172_88, e172_89, e172_91, e172_94, e172_97, e172_98, e172_100, e172_103, e172_106, e172_107, e172_110, e172_112, e172_113, e172_114, e172_117, e172_119, e172_120, e172_123, e172_124, e172_127, e172_128, e172_129, e172_131, e172_134, e172_139, e172_141, e172_144, e172_146, e172_149, e172_151, e172_153, e172_156, e172_159, e172_161, e3, eq_false q2, not_false_iff, if_true, if_false, nI_1]
        exact e _ _
    · simp only [eq_false q1, if_false] at e ⊢
      have e3 : (nI (gcF set p m) < nI 0) = False := eq_false (nI_pos (by omega))
      simp only [e172_0, e172_1, e172_5, e172_6, e172_9, e172_10, e172_11, e172_14, e172_15, e172_18, e172_19, e172_22, e172_23, e172_24, e172_25, e172_27, e172_28, e172_29, e172_30, e172_33, e172_34, e172_37, e172_39, e172_40, e172_43, e172_44, e172_45, e172_46, e172_49, e172_53, e172_55, e172_56, e172_60, e172_61, e172_64, e172_65, e172_66, e172_69, e172_70, e172_72, e172_73, e172_77, e172_78, e172_81, e172_82, e172_83, e172_86, e172_88, e172_89, e172_91, e172_94, e172_97, e172_98, e172_100, e172_103, e172_106, e172_107, e172_110, e172_112, e172_113, e172_114, e172_117, e172_119, e172_120, e172_123, e172_124, e172_127, e172_128, e172_129, e172_131, e172_134, e172_139, e172_141, e172_144, e172_146, e172_149, e172_151, e172_153, e172_156, e172_159, e172_161, e3, not_false_iff, if_true, if_false, nI_1]
      exact e _ _
theorem s172 (hD : D_at σ L) (hR : R_at σ 81 0 L.2.2.2.2.2 S) (ok : L_ok L) (sk : S_ok S) (dk : DN L S) {g n set : Nat} (hg : g < L.2.2.2.2.2) (hn : n ≤ 20) (hset : set < 2 ^ L.2.2.2.2.1) : ∃ τ, z_call 172 [.ref 76, .int (nI g), .int (nI set), .int (nI n)] (z_enc σ) = some (some (.int (nI (cwF L S g set n))), z_enc τ) ∧ z_sf Q86 σ τ := by
  have hN := ok.2.2.2.2
  have hg4 : g < 4 := by omega
  obtain ⟨τ, e1, f1, u1⟩ := l172a ok sk dk (y2 := nI set) hg hn (l5 := none) (l6 := none) (l7 := none) L.2.2.2.2.1 0 σ (by omega) hD hR (fun m hm => absurd hm (by omega))
  have hp : ∀ m, m < 4 → posF L S g m n < 64 := fun m hm => (steps_ok ok (mi_ok sk (g := g) (m := m) (Or.inl hm)) n).2.1 g hg4
  have e2 := l172m (D_sf hD f1 (fun k => by unfold Q86; omega)) ok (p := fun m => posF L S g m n) hp u1 (l1 := some (.int (nI g))) (y3 := nI n) hset L.2.2.2.2.1 0 none none (by omega)
  refine ⟨τ, ?_, f1⟩
  simp only [en172, e172_0, e172_1, e172_5, e172_6, e172_9, e172_10, e172_11, e172_14, e172_15, e172_18, e172_19, e172_22, e172_23, e172_24, e172_25, e172_27, e172_28, e172_29, e172_30, e172_33, e172_34, e172_37, e172_39, e172_40, e172_43, e172_44, e172_45, e172_46, e172_49, e172_53, e172_55, e172_56, e172_60, e172_61, e172_64, e172_65, e172_66, e172_69, e172_70, e172_72, e172_73, e172_77, e172_78, e172_81, e172_82, e172_83, e172_86, e172_88, e172_89, e172_91, e172_94, e172_97, e172_98, e172_100, e172_103, e172_106, e172_107, e172_110, e172_112, e172_113, e172_114, e172_117, e172_119, e172_120, e172_123, e172_124, e172_127, e172_128, e172_129, e172_131, e172_134, e172_139, e172_141, e172_144, e172_146, e172_149, e172_151, e172_153, e172_156, e172_159, e172_161]
  refine Eq.trans e1 ?_
  rw [e172_52]
  simp only [e172_0, e172_1, e172_5, e172_6, e172_9, e172_10, e172_11, e172_14, e172_15, e172_18, e172_19, e172_22, e172_23, e172_24, e172_25, e172_27, e172_28, e172_29, e172_30, e172_33, e172_34, e172_37, e172_39, e172_40, e172_43, e172_44, e172_45, e172_46, e172_49, e172_53, e172_55, e172_56, e172_60, e172_61, e172_64, e172_65, e172_66, e172_69, e172_70, e172_72, e172_73, e172_77, e172_78, e172_81, e172_82, e172_83, e172_86, e172_88, e172_89, e172_91, e172_94, e172_97, e172_98, e172_100, e172_103, e172_106, e172_107, e172_110, e172_112, e172_113, e172_114, e172_117, e172_119, e172_120, e172_123, e172_124, e172_127, e172_128, e172_129, e172_131, e172_134, e172_139, e172_141, e172_144, e172_146, e172_149, e172_151, e172_153, e172_156, e172_159, e172_161]
  exact e2
theorem l173 (ok : L_ok L) (sk : S_ok S) (dk : DN L S) {g set : Nat} (hg : g < L.2.2.2.2.2) (hset : set < 2 ^ L.2.2.2.2.1) (h2 : ¬ ones4 set < 2) : ∀ d n best (l6 : Option Value) (σ : z_G), d + n = 21 → best < 21 → D_at σ L → R_at σ 81 0 L.2.2.2.2.2 S →
    ∃ τ, z_r [] 0 0 173 25 [some (.ref 76), some (.int (nI g)), some (.int (nI set)), some (.int (nI best)), some (.int (nI (cwF L S g set best))), some (.int (nI n)), l6] [] (z_enc σ) = some (some (.int (nI (lkF (cwF L S g set) d n best))), z_enc τ) ∧ z_sf Q86 σ τ := by
  have hM := ok.2.2.2.1
  have hN := ok.2.2.2.2
  have hs16 : set < 16 := Nat.lt_of_lt_of_le hset (Nat.pow_le_pow_right (by decide) hM)
  intro d
  induction d with
  | zero =>
    intro n best l6 σ hd hb hD hR
    obtain rfl : n = 21 := by omega
    have b1 : (nI 21 < 21) = False := by decide
    refine ⟨σ, ?_, z_sf.rf⟩
    rw [e173_25]
    simp only [e173_0, e173_1, e173_2, e173_5, e173_8, e173_9, e173_10, e173_11, e173_12, e173_15, e173_16, e173_18, e173_19, e173_20, e173_22, e173_23, e173_27, e173_29, e173_32, e173_33, e173_36, e173_37, e173_40, e173_41, e173_42, e173_43, e173_45, e173_48, e173_50, e173_52, e173_54, e173_57, e173_59, e173_62, e173_63, e173_64, e173_66, e173_68, e173_71, e173_73, e173_76, e173_78, e173_80, e173_83, e173_86, e173_87, b1, if_false, lkF]
  | succ d ih =>
    intro n best l6 σ hd hb hD hR
    have b1 : (nI n < 21) = True := eq_true (nI_lt (a := n) (b := 21) (by omega) (by decide))
    have ho := ones_le set
    have b2 : ((1 : Int32) < nI (ones4 set)) = True := eq_true (nI_lt (a := 1) (b := ones4 set) (by omega) (by omega))
    obtain ⟨τ, e1, f1⟩ := s172 hD hR ok sk dk hg (show n ≤ 20 by omega) hset
    have c1 := cw_le L S g set n
    have c2 := cw_le L S g set best
    have e3 : (nI (cwF L S g set n) < nI (cwF L S g set best)) = (cwF L S g set n < cwF L S g set best) := propext (nI_ltI (by omega) (by omega))
    have hD2 : D_at τ L := D_sf hD f1 (fun k => by unfold Q86; omega)
    have hR2 : R_at τ 81 0 L.2.2.2.2.2 S := R_sf hR f1 (fun k _ => by unfold Q86; omega) hN
    rw [lkF]
    by_cases q : cwF L S g set n < cwF L S g set best
    · obtain ⟨τ2, e4, f4⟩ := ih (n + 1) n (some (.int (nI (cwF L S g set n)))) τ (by omega) (by omega) hD2 hR2
      refine ⟨τ2, ?_, f1.tr f4⟩
      rw [if_pos q, e173_25]
      simp only [e173_0, e173_1, e173_2, e173_5, e173_8, e173_9, e173_10, e173_11, e173_12, e173_15, e173_16, e173_18, e173_19, e173_20, e173_22, e173_23, e173_27, e173_29, e173_32, e173_33, e173_36, e173_37, e173_40, e173_41, e173_42, e173_43, e173_45, e173_48, e173_50, e173_52, e173_54, e173_57, e173_59, e173_62, e173_63, e173_64, e173_66, e173_68, e173_71, e173_73, e173_76, e173_78, e173_80, e173_83, e173_86, e173_87, b1, if_true, s117b hs16, z_bd_i, z_bd_l, z_bd_v, List.cons_append, List.nil_append, z_nk_i, z_nk_r, z_nk_n, v0, v1, v3, v19, v61, v71, v76, b2, not_true, if_false, v76, e1, e3, eq_true q, nI_1]
      exact e4
    · obtain ⟨τ2, e4, f4⟩ := ih (n + 1) best (some (.int (nI (cwF L S g set n)))) τ (by omega) hb hD2 hR2
      refine ⟨τ2, ?_, f1.tr f4⟩
      rw [if_neg q, e173_25]
      simp only [e173_0, e173_1, e173_2, e173_5, e173_8, e173_9, e173_10, e173_11, e173_12, e173_15, e173_16, e173_18, e173_19, e173_20, e173_22, e173_23, e173_27, e173_29, e173_32, e173_33, e173_36, e173_37, e173_40, e173_41, e173_42, e173_43, e173_45, e173_48, e173_50, e173_52, e173_54, e173_57, e173_59, e173_62, e173_63, e173_64, e173_66, e173_68, e173_71, e173_73, e173_76, e173_78, e173_80, e173_83, e173_86, e173_87, b1, if_true, s117b hs16, z_bd_i, z_bd_l, z_bd_v, List.cons_append, List.nil_append, z_nk_i, z_nk_r, z_nk_n, v0, v1, v3, v19, v61, v71, v76, b2, not_true, if_false, v76, e1, e3, eq_false q, nI_1]
      exact e4
theorem s173 (hD : D_at σ L) (hV : V_at σ wn w) (hR : R_at σ 81 0 L.2.2.2.2.2 S) (ok : L_ok L) (sk : S_ok S) (dk : DN L S) {g : Nat} (hg : g < L.2.2.2.2.2) : ∃ τ, z_call 173 [.ref 76, .int (nI g)] (z_enc σ) = some (some (.int (lookR L S wn w g)), z_enc τ) ∧ z_sf Q86 σ τ := by
  have hM := ok.2.2.2.1
  have hN := ok.2.2.2.2
  have b1 : (¬ nI g < 0 ∧ nI g < nI L.2.2.2.2.2) = True := eq_true (inN_nI hg (by omega))
  have hset := face_lt L S wn w g L.2.2.2.2.1
  have hs16 : faceF L S wn w g L.2.2.2.2.1 < 16 := Nat.lt_of_lt_of_le hset (Nat.pow_le_pow_right (by decide) hM)
  obtain ⟨τ, e, f⟩ := s170 hD hV hR ok sk hg
  have f86 : z_sf Q86 σ τ := f.mono (fun p k q => ⟨q.1, q.2.2⟩)
  have hD2 : D_at τ L := D_sf hD f (fun k => by unfold Q82; omega)
  have hR2 : R_at τ 81 0 L.2.2.2.2.2 S := R_sf hR f (fun k _ => by unfold Q82; omega) hN
  have b0 : (nI 0 < 21) = True := by decide
  have z0 : (0 : Int32) = nI 0 := rfl
  have ho := ones_le (faceF L S wn w g L.2.2.2.2.1)
  have c00 : ((0 : Int32) < 21) = True := by decide
  unfold lookR
  by_cases q : ones4 (faceF L S wn w g L.2.2.2.2.1) < 2
  · have b2 : ((1 : Int32) < nI (ones4 (faceF L S wn w g L.2.2.2.2.1))) = False := eq_false (nI_nlt (a := 1) (b := ones4 (faceF L S wn w g L.2.2.2.2.1)) (by omega) (by decide))
    refine ⟨τ, ?_, f86⟩
    simp only [en173, e173_0, e173_1, e173_2, e173_5, e173_8, e173_9, e173_10, e173_11, e173_12, e173_15, e173_16, e173_18, e173_19, e173_20, e173_22, e173_23, e173_25, e173_27, e173_29, e173_32, e173_33, e173_36, e173_37, e173_40, e173_41, e173_42, e173_43, e173_45, e173_48, e173_50, e173_52, e173_54, e173_57, e173_59, e173_62, e173_63, e173_64, e173_66, e173_68, e173_71, e173_73, e173_76, e173_78, e173_80, e173_83, e173_86, e173_87, v76, s138 hD ok, z_bd_i, z_bd_l, z_bd_v, List.cons_append, List.nil_append, z_nk_i, z_nk_r, z_nk_n, v0, v1, v3, v19, v61, v71, v76, z_b_0, b1, not_true, not_false_iff, if_false, if_true, e, c00, s117b hs16, b2, eq_true q]
  · have b2 : ((1 : Int32) < nI (ones4 (faceF L S wn w g L.2.2.2.2.1))) = True := eq_true (nI_lt (a := 1) (b := ones4 (faceF L S wn w g L.2.2.2.2.1)) (by omega) (by omega))
    obtain ⟨τ1, e1, f1⟩ := s172 hD2 hR2 ok sk dk hg (n := 0) (by omega) hset
    have hD3 : D_at τ1 L := D_sf hD2 f1 (fun k => by unfold Q86; omega)
    have hR3 : R_at τ1 81 0 L.2.2.2.2.2 S := R_sf hR2 f1 (fun k _ => by unfold Q86; omega) hN
    have c1 := cw_le L S g (faceF L S wn w g L.2.2.2.2.1) 0
    have e5 : (nI (cwF L S g (faceF L S wn w g L.2.2.2.2.1) 0) < 5) = True := eq_true (nI_lt (b := 5) (by omega) (by decide))
    obtain ⟨τ2, e2, f2⟩ := l173 ok sk dk hg hset q 20 1 0 (some (.int (nI (cwF L S g (faceF L S wn w g L.2.2.2.2.1) 0)))) τ1 rfl (by decide) hD3 hR3
    refine ⟨τ2, ?_, f86.tr (f1.tr f2)⟩
    have z01 : (0 : Int32) + 1 = nI 1 := rfl
    simp only [en173, e173_0, e173_1, e173_2, e173_5, e173_8, e173_9, e173_10, e173_11, e173_12, e173_15, e173_16, e173_18, e173_19, e173_20, e173_22, e173_23, e173_27, e173_29, e173_32, e173_33, e173_36, e173_37, e173_40, e173_41, e173_42, e173_43, e173_45, e173_48, e173_50, e173_52, e173_54, e173_57, e173_59, e173_62, e173_63, e173_64, e173_66, e173_68, e173_71, e173_73, e173_76, e173_78, e173_80, e173_83, e173_86, e173_87, v76, s138 hD ok, z_bd_i, z_bd_l, z_bd_v, List.cons_append, List.nil_append, z_nk_i, z_nk_r, z_nk_n, v0, v1, v3, v19, v61, v71, v76, z_b_0, b1, not_true, not_false_iff, if_false, if_true, e, eq_false q]
    rw [e173_25]
    have e1' : z_call 172 [.ref 76, .int (nI g), .int (nI (faceF L S wn w g L.2.2.2.2.1)), .int 0] (z_enc τ) = some (some (.int (nI (cwF L S g (faceF L S wn w g L.2.2.2.2.1) 0))), z_enc τ1) := e1
    simp only [e173_0, e173_1, e173_2, e173_5, e173_8, e173_9, e173_10, e173_11, e173_12, e173_15, e173_16, e173_18, e173_19, e173_20, e173_22, e173_23, e173_27, e173_29, e173_32, e173_33, e173_36, e173_37, e173_40, e173_41, e173_42, e173_43, e173_45, e173_48, e173_50, e173_52, e173_54, e173_57, e173_59, e173_62, e173_63, e173_64, e173_66, e173_68, e173_71, e173_73, e173_76, e173_78, e173_80, e173_83, e173_86, e173_87, c00, if_true, s117b hs16, z_bd_i, z_bd_l, z_bd_v, List.cons_append, List.nil_append, z_nk_i, z_nk_r, z_nk_n, v0, v1, v3, v19, v61, v71, v76, b2, not_true, if_false, v76, e1', e5, z01]
    exact e2
theorem s173b (hD : D_at σ L) (ok : L_ok L) {g : Int32} (hb : ¬ (¬ g < 0 ∧ g < nI L.2.2.2.2.2)) : z_call 173 [.ref 76, .int g] (z_enc σ) = some (some (.int (-1)), z_enc σ) := by
  simp only [en173, e173_0, e173_1, e173_2, e173_5, e173_8, e173_9, e173_10, e173_11, e173_12, e173_15, e173_16, e173_18, e173_19, e173_20, e173_22, e173_23, e173_27, e173_29, e173_32, e173_33, e173_36, e173_37, e173_40, e173_41, e173_42, e173_43, e173_45, e173_48, e173_50, e173_52, e173_54, e173_57, e173_59, e173_62, e173_63, e173_64, e173_66, e173_68, e173_71, e173_73, e173_76, e173_78, e173_80, e173_83, e173_86, e173_87, v76, s138 hD ok, z_bd_i, z_bd_l, z_bd_v, List.cons_append, List.nil_append, z_nk_i, z_nk_r, z_nk_n, v0, v1, v3, v19, v61, v71, v76, z_b_0, eq_false hb, not_false_iff, if_true]
end MLOOK
