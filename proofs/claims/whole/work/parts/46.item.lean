/-! the class reads ITEMS -/
def clF (n c : Nat) : Nat := n &&& (2 ^ c ^^^ (2 ^ 64 - 1))
def mk2 (L : t_L) (c k : Nat) : t_L := if k = 0 then (L.1, L.2.1, clF L.2.2.1 c ||| 2 ^ c, clF L.2.2.2.1 c, L.2.2.2.2) else (L.1, L.2.1, clF L.2.2.1 c, clF L.2.2.2.1 c ||| 2 ^ c, L.2.2.2.2)
theorem cl_lt {n c : Nat} (h : n < 2 ^ 64) : clF n c < 2 ^ 64 := Nat.lt_of_le_of_lt Nat.and_le_left h
theorem cl_ok {n c : Nat} (hn : n < 2 ^ 64) (hc : c < 64) : lN n &&& (lN (2 ^ c) ^^^ -1) = lN (clF n c) := by
  have h : (-1 : Int64) = lN (2 ^ 64 - 1) := by decide +kernel
  have h2 : 2 ^ c ^^^ (2 ^ 64 - 1) < 2 ^ 64 := Nat.xor_lt_two_pow (Nat.pow_lt_pow_right (by decide) hc) (by decide)
  rw [h, lN_xor, wb_and hn h2]
  rfl
theorem cl_bit {n c j : Nat} (hj : j < 64) : (clF n c).testBit j = (n.testBit j && !decide (j = c)) := by
  unfold clF
  rw [Nat.testBit_and, Nat.testBit_xor, Nat.testBit_two_pow, Nat.testBit_two_pow_sub_one]
  by_cases h : j = c
  · subst h
    simp [hj]
  · have h' : ¬ c = j := fun e => h e.symm
    simp [hj, h, h']
theorem mk2_kind (L : t_L) {c j k : Nat} (hj : j < 64) : kindF (mk2 L c k) j = if j = c then (if k = 0 then 1 else 2) else kindF L j := by
  unfold kindF wallF foldF mk2
  by_cases hk : k = 0
  · by_cases h : j = c
    · subst h
      simp [hk, Nat.testBit_or, cl_bit hj, Nat.testBit_two_pow]
    · have h' : ¬ c = j := fun e => h e.symm
      simp [hk, Nat.testBit_or, cl_bit hj, Nat.testBit_two_pow, h, h']
  · by_cases h : j = c
    · subst h
      simp [hk, Nat.testBit_or, cl_bit hj, Nat.testBit_two_pow]
    · have h' : ¬ c = j := fun e => h e.symm
      simp [hk, Nat.testBit_or, cl_bit hj, Nat.testBit_two_pow, h, h']
theorem mk2_ok {L : t_L} (ok : L_ok L) {c k : Nat} (hc : c < 64) : L_ok (mk2 L c k) := by
  obtain ⟨h1, h2, ⟨h3, h4⟩, h5, h6⟩ := ok
  unfold mk2
  by_cases hk : k = 0
  · rw [if_pos hk]
    exact ⟨h1, h2, ⟨kn_ok (cl_lt h3) hc, cl_lt h4⟩, h5, h6⟩
  · rw [if_neg hk]
    exact ⟨h1, h2, ⟨cl_lt h3, kn_ok (cl_lt h4) hc⟩, h5, h6⟩
theorem s17 {σ : z_G} {a : Nat} {L : t_L} (hl : z_isL a) (hL : L_at σ a L) (ok : L_ok L) {c k : Nat} (hc : c < 64) (hk : k < 2) : z_call 17 [.ref a, .int (nI (tn c)), .int (nI k)] (z_enc σ) = some (none, z_enc (L_set σ a (mk2 L c k))) := by
  obtain ⟨a0, a1, a2, a3, a4, a5⟩ := hL
  have h3 := ok.2.2.1.1
  have h4 := ok.2.2.1.2
  have r3 : ∀ x, (z_ul σ a 2 x).2 a 3 = lN L.2.2.2.1 := fun x => (z_ul_ne (by omega)).trans a3
  have r2 : ∀ x y, (z_ul (z_ul σ a 2 x) a 3 y).2 a 2 = x := fun x y => by simp [z_ul]
  have r4 : ∀ x y, (z_ul (z_ul σ a 2 x) a 3 y).2 a 3 = y := fun x y => by simp [z_ul]
  have b1 : (nI k = 0) = (k = 0) := propext (nI_eq (b := 0) (by omega) (by decide))
  by_cases q : k = 0
  · simp only [en17, e17_0, e17_1, e17_4, e17_5, e17_6, e17_7, e17_10, e17_11, e17_14, e17_15, e17_16, e17_19, e17_20, e17_21, e17_24, e17_25, e17_28, e17_29, e17_30, e17_33, e17_34, e17_37, e17_38, e17_39, e17_42, e17_43, e17_44, e17_47, e17_50, e17_51, e17_52, e17_55, e17_56, e17_57, e17_60, s13m hc, z_bd_i, z_bd_l, z_bd_v, List.cons_append, List.nil_append, z_nk_i, z_nk_r, z_nk_n, v0, v1, v3, v19, v61, v71, v76, gL_2 hl, a2, cl_ok h3 hc, pL_2 hl, gL_3 hl, r3, cl_ok h4 hc, pL_3 hl, b1, eq_true q, if_true, r2, lor_ok (cl_lt h3) hc]
    refine congrArg (fun τ => some (none, z_enc τ)) (L_set_ext ?_ (fun p j h => rfl) (fun p j h => ?_))
    · unfold L_at mk2
      rw [if_pos q]
      refine ⟨a0, a1, ?_, ?_, a4, a5⟩ <;> simp [z_ul]
    · simp only [z_ul]
      rcases h with h | ⟨g2, g3⟩
      · simp [h]
      · simp [g2, g3]
  · simp only [en17, e17_0, e17_1, e17_4, e17_5, e17_6, e17_7, e17_10, e17_11, e17_14, e17_15, e17_16, e17_19, e17_20, e17_21, e17_24, e17_25, e17_28, e17_29, e17_30, e17_33, e17_34, e17_37, e17_38, e17_39, e17_42, e17_43, e17_44, e17_47, e17_50, e17_51, e17_52, e17_55, e17_56, e17_57, e17_60, s13m hc, z_bd_i, z_bd_l, z_bd_v, List.cons_append, List.nil_append, z_nk_i, z_nk_r, z_nk_n, v0, v1, v3, v19, v61, v71, v76, gL_2 hl, a2, cl_ok h3 hc, pL_2 hl, gL_3 hl, r3, cl_ok h4 hc, pL_3 hl, b1, eq_false q, if_false, r4, lor_ok (cl_lt h4) hc]
    refine congrArg (fun τ => some (none, z_enc τ)) (L_set_ext ?_ (fun p j h => rfl) (fun p j h => ?_))
    · unfold L_at mk2
      rw [if_neg q]
      refine ⟨a0, a1, ?_, ?_, a4, a5⟩ <;> simp [z_ul]
    · simp only [z_ul]
      rcases h with h | ⟨g2, g3⟩
      · simp [h]
      · simp [g2, g3]
-- the spec of ITEMS
def msF (L : t_L) (sg i v : Nat) : Bool := if sg = 110 then decide (1 ≤ v) && decide (v ≤ 8) else if i = 0 then decide (v < L.1) else if i = 1 then decide (v < L.2.1) else if sg = 111 then decide (v ≤ 1) else decide (v = 9) || decide (v < L.2.2.2.2.1)
def numF (n : Nat) (txt : Nat → Nat) (L : t_L) (sg i s : Nat) : Nat ⊕ (Nat × Nat) := if (tkF n txt s).1 = 1 ∧ msF L sg i (tkF n txt s).2.1 = true then .inr ((tkF n txt s).2.1, (tkF n txt s).2.2.2) else .inl (tkF n txt s).2.2.1
def moM (L : t_L) : t_L := (L.1, L.2.1, L.2.2.1, L.2.2.2.1, L.2.2.2.2.1 + 1, L.2.2.2.2.2)
def moN (L : t_L) : t_L := (L.1, L.2.1, L.2.2.1, L.2.2.2.1, L.2.2.2.2.1, L.2.2.2.2.2 + 1)
def setS (S : t_S) (g c m : Nat) : t_S := miS (knS (rcS S g c) (S.2.2.2.2.2 ||| 2 ^ c)) g m
def takF (L : t_L) (S : t_S) (sg x y z : Nat) : t_L × t_S := if sg = 110 then ((x, y, L.2.2), S) else if sg = 111 then (mk2 L (8 * x + y) z, S) else if sg = 109 then (moM L, mcS S L.2.2.2.2.1 (8 * x + y)) else (moN L, setS S L.2.2.2.2.2 (8 * x + y) z)
def finF (n : Nat) (txt : Nat → Nat) (L : t_L) (S : t_S) (sg s x y z : Nat) : Nat ⊕ (Nat × t_L × t_S) := if (tkF n txt s).1 = 62 then .inr ((tkF n txt s).2.2.2, takF L S sg x y z) else .inl (tkF n txt s).2.2.1
def itemF (n : Nat) (txt : Nat → Nat) (L : t_L) (S : t_S) (sg s : Nat) : Nat ⊕ (Nat × t_L × t_S) := match numF n txt L sg 0 s with
  | .inl f => .inl f
  | .inr (x, s1) => match numF n txt L sg 1 s1 with
    | .inl f => .inl f
    | .inr (y, s2) => if sg = 111 ∨ sg = 103 then (match numF n txt L sg 2 s2 with
      | .inl f => .inl f
      | .inr (z, s3) => finF n txt L S sg s3 x y z) else finF n txt L S sg s2 x y 0
theorem kc_case (k : Nat) : (k = 0 ∧ kcF k = -1) ∨ (k = 1 ∧ kcF k = -2) ∨ ((¬ k = 0 ∧ ¬ k = 1 ∧ ¬ k = 113 ∧ ¬ k = 114 ∧ ¬ k = 112 ∧ ¬ k = 106 ∧ ¬ k = 62) ∧ kcF k = -3) ∨ (k = 113 ∧ kcF k = 110) ∨ (k = 114 ∧ kcF k = 111) ∨ (k = 112 ∧ kcF k = 109) ∨ (k = 106 ∧ kcF k = 103) ∨ (k = 62 ∧ kcF k = 59) := by
  by_cases h0 : k = 0
  · subst h0; exact Or.inl ⟨rfl, rfl⟩
  by_cases h1 : k = 1
  · subst h1; exact Or.inr (Or.inl ⟨rfl, rfl⟩)
  by_cases h2 : k = 113
  · subst h2; exact Or.inr (Or.inr (Or.inr (Or.inl ⟨rfl, by decide⟩)))
  by_cases h3 : k = 114
  · subst h3; exact Or.inr (Or.inr (Or.inr (Or.inr (Or.inl ⟨rfl, by decide⟩))))
  by_cases h4 : k = 112
  · subst h4; exact Or.inr (Or.inr (Or.inr (Or.inr (Or.inr (Or.inl ⟨rfl, by decide⟩)))))
  by_cases h5 : k = 106
  · subst h5; exact Or.inr (Or.inr (Or.inr (Or.inr (Or.inr (Or.inr (Or.inl ⟨rfl, by decide⟩))))))
  by_cases h6 : k = 62
  · subst h6; exact Or.inr (Or.inr (Or.inr (Or.inr (Or.inr (Or.inr (Or.inr ⟨rfl, by decide⟩))))))
  refine Or.inr (Or.inr (Or.inl ⟨⟨h0, h1, h2, h3, h4, h5, h6⟩, ?_⟩))
  unfold kcF
  rw [if_neg h0, if_neg h1]
  split
  · rfl
  · rw [if_neg (by omega)]
theorem kc_1 (k : Nat) : (kcF k = -2) = (k = 1) := by
  rcases kc_case k with ⟨h, e⟩ | ⟨h, e⟩ | ⟨h, e⟩ | ⟨h, e⟩ | ⟨h, e⟩ | ⟨h, e⟩ | ⟨h, e⟩ | ⟨h, e⟩ <;> rw [e] <;> apply propext <;> first
    | exact ⟨fun _ => h, fun _ => rfl⟩
    | exact ⟨fun q => absurd q (by decide), fun q => by omega⟩
theorem kc_0 (k : Nat) : (kcF k = -1) = (k = 0) := by
  rcases kc_case k with ⟨h, e⟩ | ⟨h, e⟩ | ⟨h, e⟩ | ⟨h, e⟩ | ⟨h, e⟩ | ⟨h, e⟩ | ⟨h, e⟩ | ⟨h, e⟩ <;> rw [e] <;> apply propext <;> first
    | exact ⟨fun _ => h, fun _ => rfl⟩
    | exact ⟨fun q => absurd q (by decide), fun q => by omega⟩
theorem kc_59 (k : Nat) : (kcF k = 59) = (k = 62) := by
  rcases kc_case k with ⟨h, e⟩ | ⟨h, e⟩ | ⟨h, e⟩ | ⟨h, e⟩ | ⟨h, e⟩ | ⟨h, e⟩ | ⟨h, e⟩ | ⟨h, e⟩ <;> rw [e] <;> apply propext <;> first
    | exact ⟨fun _ => h, fun _ => rfl⟩
    | exact ⟨fun q => absurd q (by decide), fun q => by omega⟩
def Q9 (p k : Nat) : Prop := ¬ (p = 1 ∧ 2 ≤ k) ∧ p ≠ 9
def Q45 (p _k : Nat) : Prop := p < 4 ∨ 9 ≤ p
def Qr (p k : Nat) : Prop := ¬ (p = 1 ∧ 2 ≤ k) ∧ (p < 4 ∨ 10 ≤ p)
theorem sf_M {Q : Nat → Nat → Prop} {σ : z_G} {a : Nat} {S : t_S} (h : ∀ p k, Q p k → p < a ∨ a + 4 ≤ p) : z_sf Q σ (M_set σ a S) := fun p k hp => ⟨M_set_out (by have := h p k hp; unfold M_in; omega), M_set_outL (by have := h p k hp; unfold M_inL; omega)⟩
theorem sf_L {Q : Nat → Nat → Prop} {σ : z_G} {a : Nat} {L : t_L} (h : ∀ p k, Q p k → p ≠ a) : z_sf Q σ (L_set σ a L) := fun p k hp => by
  have := h p k hp
  unfold L_set
  simp [this]
theorem M_sf {Q : Nat → Nat → Prop} {σ τ : z_G} {a : Nat} {S : t_S} (h : M_at σ a S) (hs : z_sf Q σ τ) (hp : ∀ k, Q a k ∧ Q (a + 1) k ∧ Q (a + 2) k ∧ Q (a + 3) k) : M_at τ a S := by
  obtain ⟨a0, a1, a2, a3, a4, a5⟩ := h
  exact ⟨fun j hj => ((hs _ _ (hp j).2.1).1).trans (a0 j hj), fun j hj => ((hs _ _ (hp j).2.2.1).1).trans (a1 j hj), fun j hj => ((hs _ _ (hp j).2.2.2).1).trans (a2 j hj), ((hs _ _ (hp _).1).1).trans a3, ((hs _ _ (hp _).1).1).trans a4, ((hs _ _ (hp _).1).2).trans a5⟩
theorem L_sf {Q : Nat → Nat → Prop} {σ τ : z_G} {a : Nat} {L : t_L} (h : L_at σ a L) (hs : z_sf Q σ τ) (hp : ∀ k, Q a k) : L_at τ a L := by
  obtain ⟨a0, a1, a2, a3, a4, a5⟩ := h
  exact ⟨((hs _ _ (hp _)).1).trans a0, ((hs _ _ (hp _)).1).trans a1, ((hs _ _ (hp _)).2).trans a2, ((hs _ _ (hp _)).2).trans a3, ((hs _ _ (hp _)).1).trans a4, ((hs _ _ (hp _)).1).trans a5⟩
theorem tn_xy {x y : Nat} (hy : y < 8) : 10 * x + y = tn (8 * x + y) := by
  unfold tn
  omega
section ITEM
variable {σ : z_G} {n : Nat} {txt : Nat → Nat} {L : t_L} {S : t_S}
theorem r50 (hT : T_at σ n txt) {s : Nat} (hs : s ≤ n) (ha : σ.1 1 2 = nI s) : ∃ τ, z_call 50 [.ref 1] (z_enc σ) = some (none, z_enc τ) ∧ τ.1 1 2 = nI (if (tkF n txt s).1 = 0 then n + 1 else (tkF n txt s).2.2.2) ∧ τ.1 1 3 = nI (tkF n txt s).2.2.1 ∧ τ.1 1 4 = kcF (tkF n txt s).1 ∧ ((tkF n txt s).1 = 1 → τ.1 1 5 = nI (tkF n txt s).2.1) ∧ z_sf Qt σ τ := by
  have e := s50 hT hs (σ.1 1 3) (σ.1 1 4) (σ.1 1 5)
  rw [← ha, tx_self] at e
  refine ⟨_, e, tx_2, tx_3, tx_4, fun q => ?_, tx_sf⟩
  rw [tx_5, if_pos (Or.inl q)]
theorem s43 (hL : L_at σ 4 L) (ok : L_ok L) {sg i v : Nat} (hsg : sg < 256) (hi : i < 3) (hv : v < 100) : z_call 43 [.ref 3, .int (nI sg), .int (nI i), .int (nI v)] (z_enc σ) = some (some (.int (z_b (msF L sg i v = true))), z_enc σ) := by
  obtain ⟨⟨w1, w2⟩, ⟨w3, w4⟩, -, w5, w6⟩ := id ok
  have e1 : (nI sg = 110) = (sg = 110) := propext (nI_eq (b := 110) (by omega) (by decide))
  have e2 : (nI v < 1) = (v < 1) := propext (nI_ltI (b := 1) (by omega) (by decide))
  have e3 : ((8 : Int32) < nI v) = (8 < v) := propext (nI_ltI (a := 8) (by decide) (by omega))
  have e4 : (nI v < nI L.1) = (v < L.1) := propext (nI_ltI (by omega) (by omega))
  have e5 : (nI v < nI L.2.1) = (v < L.2.1) := propext (nI_ltI (by omega) (by omega))
  have e6 : (nI sg = 111) = (sg = 111) := propext (nI_eq (b := 111) (by omega) (by decide))
  have e7 : ((1 : Int32) < nI v) = (1 < v) := propext (nI_ltI (a := 1) (by decide) (by omega))
  have e8 : (nI v = 9) = (v = 9) := propext (nI_eq (b := 9) (by omega) (by decide))
  have e9 : (nI v < nI L.2.2.2.2.1) = (v < L.2.2.2.2.1) := propext (nI_ltI (by omega) (by omega))
  have i0 : i = 0 ∨ i = 1 ∨ i = 2 := by omega
  unfold msF
  by_cases q1 : sg = 110
  · by_cases q2 : v < 1
    · have q3 : ¬ 1 ≤ v := by omega
      simp only [en43, e43_0, e43_1, e43_3, e43_6, e43_7, e43_8, e43_11, e43_12, e43_14, e43_17, e43_18, e43_21, e43_22, e43_23, e43_24, e43_25, e43_28, e43_29, e43_30, e43_33, e43_34, e43_37, e43_40, e43_43, e43_44, e43_47, e43_50, e43_53, e43_54, e43_57, e43_58, e43_59, e43_60, e43_62, e43_65, e43_66, e43_67, e43_70, e43_71, e43_74, e43_75, e43_76, e43_77, e43_79, e43_82, e43_83, e43_84, e43_87, e43_90, e43_93, e43_94, e43_97, e43_98, e1, eq_true q1, if_true, e2, eq_true q2, q3, decide_false, Bool.false_and, Bool.false_eq_true, z_b, if_false, z_b_ok0]
    · have q3 : 1 ≤ v := by omega
      by_cases q4 : 8 < v
      · have q5 : ¬ v ≤ 8 := by omega
        simp only [en43, e43_0, e43_1, e43_3, e43_6, e43_7, e43_8, e43_11, e43_12, e43_14, e43_17, e43_18, e43_21, e43_22, e43_23, e43_24, e43_25, e43_28, e43_29, e43_30, e43_33, e43_34, e43_37, e43_40, e43_43, e43_44, e43_47, e43_50, e43_53, e43_54, e43_57, e43_58, e43_59, e43_60, e43_62, e43_65, e43_66, e43_67, e43_70, e43_71, e43_74, e43_75, e43_76, e43_77, e43_79, e43_82, e43_83, e43_84, e43_87, e43_90, e43_93, e43_94, e43_97, e43_98, e1, eq_true q1, if_true, e2, eq_false q2, e3, eq_true q4, q3, q5, decide_true, decide_false, Bool.and_false, Bool.false_eq_true, z_b, if_false, z_b_ok0]
      · have q5 : v ≤ 8 := by omega
        simp only [en43, e43_0, e43_1, e43_3, e43_6, e43_7, e43_8, e43_11, e43_12, e43_14, e43_17, e43_18, e43_21, e43_22, e43_23, e43_24, e43_25, e43_28, e43_29, e43_30, e43_33, e43_34, e43_37, e43_40, e43_43, e43_44, e43_47, e43_50, e43_53, e43_54, e43_57, e43_58, e43_59, e43_60, e43_62, e43_65, e43_66, e43_67, e43_70, e43_71, e43_74, e43_75, e43_76, e43_77, e43_79, e43_82, e43_83, e43_84, e43_87, e43_90, e43_93, e43_94, e43_97, e43_98, e1, eq_true q1, if_true, e2, eq_false q2, e3, eq_false q4, q3, q5, decide_true, Bool.and_true, z_b, if_false, z_b_ok1]
  · rcases i0 with rfl | rfl | rfl
    · have j1 : (nI 0 < 2) = True := by decide
      have j2 : (nI 0 = 0) = True := by decide
      by_cases q2 : v < L.1
      · simp only [en43, e43_0, e43_1, e43_3, e43_6, e43_7, e43_8, e43_11, e43_12, e43_14, e43_17, e43_18, e43_21, e43_22, e43_23, e43_24, e43_25, e43_28, e43_29, e43_30, e43_33, e43_34, e43_37, e43_40, e43_43, e43_44, e43_47, e43_50, e43_53, e43_54, e43_57, e43_58, e43_59, e43_60, e43_62, e43_65, e43_66, e43_67, e43_70, e43_71, e43_74, e43_75, e43_76, e43_77, e43_79, e43_82, e43_83, e43_84, e43_87, e43_90, e43_93, e43_94, e43_97, e43_98, e1, eq_false q1, if_false, j1, j2, if_true, g3_1, gL_0 isL_4, hL.1, e4, eq_true q2, decide_true, z_b, z_b_ok1]
      · simp only [en43, e43_0, e43_1, e43_3, e43_6, e43_7, e43_8, e43_11, e43_12, e43_14, e43_17, e43_18, e43_21, e43_22, e43_23, e43_24, e43_25, e43_28, e43_29, e43_30, e43_33, e43_34, e43_37, e43_40, e43_43, e43_44, e43_47, e43_50, e43_53, e43_54, e43_57, e43_58, e43_59, e43_60, e43_62, e43_65, e43_66, e43_67, e43_70, e43_71, e43_74, e43_75, e43_76, e43_77, e43_79, e43_82, e43_83, e43_84, e43_87, e43_90, e43_93, e43_94, e43_97, e43_98, e1, eq_false q1, if_false, j1, j2, if_true, g3_1, gL_0 isL_4, hL.1, e4, eq_false q2, decide_false, Bool.false_eq_true, z_b, z_b_ok0]
    · have j1 : (nI 1 < 2) = True := by decide
      have j2 : (nI 1 = 0) = False := by decide
      have j3 : (1 = 0) = False := by decide
      have j4 : (1 = 1) = True := by decide
      by_cases q2 : v < L.2.1
      · simp only [en43, e43_0, e43_1, e43_3, e43_6, e43_7, e43_8, e43_11, e43_12, e43_14, e43_17, e43_18, e43_21, e43_22, e43_23, e43_24, e43_25, e43_28, e43_29, e43_30, e43_33, e43_34, e43_37, e43_40, e43_43, e43_44, e43_47, e43_50, e43_53, e43_54, e43_57, e43_58, e43_59, e43_60, e43_62, e43_65, e43_66, e43_67, e43_70, e43_71, e43_74, e43_75, e43_76, e43_77, e43_79, e43_82, e43_83, e43_84, e43_87, e43_90, e43_93, e43_94, e43_97, e43_98, e1, eq_false q1, if_false, j1, j2, j3, if_true, g3_1, gL_1 isL_4, hL.2.1, e5, eq_true q2, decide_true, z_b, z_b_ok1]
      · simp only [en43, e43_0, e43_1, e43_3, e43_6, e43_7, e43_8, e43_11, e43_12, e43_14, e43_17, e43_18, e43_21, e43_22, e43_23, e43_24, e43_25, e43_28, e43_29, e43_30, e43_33, e43_34, e43_37, e43_40, e43_43, e43_44, e43_47, e43_50, e43_53, e43_54, e43_57, e43_58, e43_59, e43_60, e43_62, e43_65, e43_66, e43_67, e43_70, e43_71, e43_74, e43_75, e43_76, e43_77, e43_79, e43_82, e43_83, e43_84, e43_87, e43_90, e43_93, e43_94, e43_97, e43_98, e1, eq_false q1, if_false, j1, j2, j3, if_true, g3_1, gL_1 isL_4, hL.2.1, e5, eq_false q2, decide_false, Bool.false_eq_true, z_b, z_b_ok0]
    · have j1 : (nI 2 < 2) = False := by decide
      have j2 : (2 = 0) = False := by decide
      have j3 : (2 = 1) = False := by decide
      by_cases q2 : sg = 111
      · by_cases q3 : 1 < v
        · have q4 : ¬ v ≤ 1 := by omega
          simp only [en43, e43_0, e43_1, e43_3, e43_6, e43_7, e43_8, e43_11, e43_12, e43_14, e43_17, e43_18, e43_21, e43_22, e43_23, e43_24, e43_25, e43_28, e43_29, e43_30, e43_33, e43_34, e43_37, e43_40, e43_43, e43_44, e43_47, e43_50, e43_53, e43_54, e43_57, e43_58, e43_59, e43_60, e43_62, e43_65, e43_66, e43_67, e43_70, e43_71, e43_74, e43_75, e43_76, e43_77, e43_79, e43_82, e43_83, e43_84, e43_87, e43_90, e43_93, e43_94, e43_97, e43_98, e1, eq_false q1, if_false, j1, j2, j3, e6, eq_true q2, if_true, e7, eq_true q3, q4, decide_false, Bool.false_eq_true, z_b, z_b_ok0]
        · have q4 : v ≤ 1 := by omega
          simp only [en43, e43_0, e43_1, e43_3, e43_6, e43_7, e43_8, e43_11, e43_12, e43_14, e43_17, e43_18, e43_21, e43_22, e43_23, e43_24, e43_25, e43_28, e43_29, e43_30, e43_33, e43_34, e43_37, e43_40, e43_43, e43_44, e43_47, e43_50, e43_53, e43_54, e43_57, e43_58, e43_59, e43_60, e43_62, e43_65, e43_66, e43_67, e43_70, e43_71, e43_74, e43_75, e43_76, e43_77, e43_79, e43_82, e43_83, e43_84, e43_87, e43_90, e43_93, e43_94, e43_97, e43_98, e1, eq_false q1, if_false, j1, j2, j3, e6, eq_true q2, if_true, e7, eq_false q3, q4, decide_true, z_b, z_b_ok1]
      · by_cases q3 : v = 9
        · simp only [en43, e43_0, e43_1, e43_3, e43_6, e43_7, e43_8, e43_11, e43_12, e43_14, e43_17, e43_18, e43_21, e43_22, e43_23, e43_24, e43_25, e43_28, e43_29, e43_30, e43_33, e43_34, e43_37, e43_40, e43_43, e43_44, e43_47, e43_50, e43_53, e43_54, e43_57, e43_58, e43_59, e43_60, e43_62, e43_65, e43_66, e43_67, e43_70, e43_71, e43_74, e43_75, e43_76, e43_77, e43_79, e43_82, e43_83, e43_84, e43_87, e43_90, e43_93, e43_94, e43_97, e43_98, e1, eq_false q1, if_false, j1, j2, j3, e6, eq_false q2, e8, eq_true q3, if_true, decide_true, Bool.true_or, z_b, z_b_ok1]
        · by_cases q4 : v < L.2.2.2.2.1
          · simp only [en43, e43_0, e43_1, e43_3, e43_6, e43_7, e43_8, e43_11, e43_12, e43_14, e43_17, e43_18, e43_21, e43_22, e43_23, e43_24, e43_25, e43_28, e43_29, e43_30, e43_33, e43_34, e43_37, e43_40, e43_43, e43_44, e43_47, e43_50, e43_53, e43_54, e43_57, e43_58, e43_59, e43_60, e43_62, e43_65, e43_66, e43_67, e43_70, e43_71, e43_74, e43_75, e43_76, e43_77, e43_79, e43_82, e43_83, e43_84, e43_87, e43_90, e43_93, e43_94, e43_97, e43_98, e1, eq_false q1, if_false, j1, j2, j3, e6, eq_false q2, e8, eq_false q3, g3_1, gL_4 isL_4, hL.2.2.2.2.1, e9, eq_true q4, if_true, decide_true, decide_false, Bool.or_true, z_b, z_b_ok1]
          · simp only [en43, e43_0, e43_1, e43_3, e43_6, e43_7, e43_8, e43_11, e43_12, e43_14, e43_17, e43_18, e43_21, e43_22, e43_23, e43_24, e43_25, e43_28, e43_29, e43_30, e43_33, e43_34, e43_37, e43_40, e43_43, e43_44, e43_47, e43_50, e43_53, e43_54, e43_57, e43_58, e43_59, e43_60, e43_62, e43_65, e43_66, e43_67, e43_70, e43_71, e43_74, e43_75, e43_76, e43_77, e43_79, e43_82, e43_83, e43_84, e43_87, e43_90, e43_93, e43_94, e43_97, e43_98, e1, eq_false q1, if_false, j1, j2, j3, e6, eq_false q2, e8, eq_false q3, g3_1, gL_4 isL_4, hL.2.2.2.2.1, e9, eq_false q4, if_true, decide_false, Bool.or_false, Bool.false_eq_true, z_b, z_b_ok0]
theorem s44 (hL : L_at σ 4 L) (hS : M_at σ 5 S) (ok : L_ok L) (sk : S_ok S) {sg x y z : Nat} {Z : Int32} (hsg : sg = 110 ∨ sg = 111 ∨ sg = 109 ∨ sg = 103) (hxy : sg ≠ 110 → x < 8 ∧ y < 8) (hz : sg = 111 ∨ sg = 103 → Z = nI z) (hz2 : sg = 111 → z < 2) (hm : sg = 109 → L.2.2.2.2.1 < 4) (hg : sg = 103 → L.2.2.2.2.2 < 4) : ∃ τ, z_call 44 [.ref 3, .int (nI sg), .int (nI x), .int (nI y), .int Z] (z_enc σ) = some (none, z_enc τ) ∧ L_at τ 4 (takF L S sg x y z).1 ∧ M_at τ 5 (takF L S sg x y z).2 ∧ z_sf Q45 σ τ := by
  have ec : y < 8 → (10 : Int32) * nI x + nI y = nI (tn (8 * x + y)) := fun hy => by rw [l_10, pk_mul, nI_add, tn_xy hy]
  rcases hsg with rfl | rfl | rfl | rfl
  · have j1 : (nI 110 = 109) = False := by decide
    have j2 : (nI 110 = 110) = True := by decide
    refine ⟨z_ui (z_ui σ 4 0 (nI x)) 4 1 (nI y), ?_, ?_, ?_, ?_⟩
    · simp only [en44, e44_0, e44_1, e44_2, e44_5, e44_7, e44_8, e44_36, e44_37, e44_40, e44_41, e44_44, e44_45, e44_48, e44_49, e44_52, e44_55, e44_56, e44_59, e44_61, e44_63, e44_66, e44_69, e44_70, e44_73, e44_74, e44_77, e44_80, e44_82, e44_85, e44_86, e44_89, e44_90, e44_93, e44_94, e44_95, e44_98, e44_101, e44_102, e44_105, e44_106, e44_109, e44_112, e44_114, e44_117, e44_118, e44_121, e44_122, e44_125, e44_128, e44_130, e44_133, e44_134, e44_137, e44_138, e44_141, e44_142, e44_143, e44_146, s92, z_bd_i, z_bd_l, z_bd_v, List.cons_append, List.nil_append, z_nk_i, z_nk_r, z_nk_n, v0, v1, v3, v19, v61, v71, v76, j1, j2, if_false, if_true, g3_1, pL_0 isL_4, pL_1 isL_4]
    · obtain ⟨a0, a1, a2, a3, a4, a5⟩ := hL
      refine ⟨?_, ?_, a2, a3, ?_, ?_⟩
      · rw [z_ui_ne (by omega), z_ui_eq]; rfl
      · rw [z_ui_eq]; rfl
      · rw [z_ui_ne (by omega), z_ui_ne (by omega)]; exact a4
      · rw [z_ui_ne (by omega), z_ui_ne (by omega)]; exact a5
    · exact M_at_ui (M_at_ui hS (by omega)) (by omega)
    · exact (sf_ui (by unfold Q45; omega)).tr (sf_ui (by unfold Q45; omega))
  · obtain ⟨hx, hy⟩ := hxy (by decide)
    have hz := hz (Or.inl rfl)
    subst hz
    have j1 : (nI 111 = 109) = False := by decide
    have j2 : (nI 111 = 110) = False := by decide
    have j3 : (nI 111 = 111) = True := by decide
    refine ⟨L_set σ 4 (mk2 L (8 * x + y) z), ?_, L_at_set _ _ _, ?_, ?_⟩
    · simp only [en44, e44_0, e44_1, e44_2, e44_5, e44_7, e44_8, e44_36, e44_37, e44_40, e44_41, e44_44, e44_45, e44_48, e44_49, e44_52, e44_55, e44_56, e44_59, e44_61, e44_63, e44_66, e44_69, e44_70, e44_73, e44_74, e44_77, e44_80, e44_82, e44_85, e44_86, e44_89, e44_90, e44_93, e44_94, e44_95, e44_98, e44_101, e44_102, e44_105, e44_106, e44_109, e44_112, e44_114, e44_117, e44_118, e44_121, e44_122, e44_125, e44_128, e44_130, e44_133, e44_134, e44_137, e44_138, e44_141, e44_142, e44_143, e44_146, s92, z_bd_i, z_bd_l, z_bd_v, List.cons_append, List.nil_append, z_nk_i, z_nk_r, z_nk_n, v0, v1, v3, v19, v61, v71, v76, ec hy, j1, j2, j3, if_false, if_true, g3_1, vL isL_4, s17 isL_4 hL ok (show 8 * x + y < 64 by omega) (hz2 rfl)]
    · exact M_at_sm hS (sm_L (P := fun p => p ≠ 4) (fun p h => h)) (by omega)
    · exact sf_L (fun p k h => by unfold Q45 at h; omega)
  · obtain ⟨hx, hy⟩ := hxy (by decide)
    have hm := hm rfl
    have j1 : (nI 109 = 109) = True := by decide
    have hL2 : L_at (M_set σ 5 (mcS S L.2.2.2.2.1 (8 * x + y))) 4 L := L_at_ne (Or.inr (by decide)) hL
    have e4 := hL2.2.2.2.2.1
    refine ⟨z_ui (M_set σ 5 (mcS S L.2.2.2.2.1 (8 * x + y))) 4 4 (nI (L.2.2.2.2.1 + 1)), ?_, ?_, ?_, ?_⟩
    · simp only [en44, e44_0, e44_1, e44_2, e44_5, e44_7, e44_8, e44_36, e44_37, e44_40, e44_41, e44_44, e44_45, e44_48, e44_49, e44_52, e44_55, e44_56, e44_59, e44_61, e44_63, e44_66, e44_69, e44_70, e44_73, e44_74, e44_77, e44_80, e44_82, e44_85, e44_86, e44_89, e44_90, e44_93, e44_94, e44_95, e44_98, e44_101, e44_102, e44_105, e44_106, e44_109, e44_112, e44_114, e44_117, e44_118, e44_121, e44_122, e44_125, e44_128, e44_130, e44_133, e44_134, e44_137, e44_138, e44_141, e44_142, e44_143, e44_146, s92, z_bd_i, z_bd_l, z_bd_v, List.cons_append, List.nil_append, z_nk_i, z_nk_r, z_nk_n, v0, v1, v3, v19, v61, v71, v76, ec hy, j1, if_true, g3_1, g3_2, gL_4 isL_4, hL.2.2.2.2.1, vM isM_5, s25 isM_5 hS hm, e4, nI_1, pL_4 isL_4]
    · obtain ⟨a0, a1, a2, a3, a4, a5⟩ := hL2
      refine ⟨?_, ?_, a2, a3, ?_, ?_⟩
      · rw [z_ui_ne (by omega)]; exact a0
      · rw [z_ui_ne (by omega)]; exact a1
      · rw [z_ui_eq]; rfl
      · rw [z_ui_ne (by omega)]; exact a5
    · exact M_at_ui (M_at_set _ _ _) (by omega)
    · exact (sf_M (fun p k h => by unfold Q45 at h; omega)).tr (sf_ui (by unfold Q45; omega))
  · obtain ⟨hx, hy⟩ := hxy (by decide)
    have hg := hg rfl
    have hz := hz (Or.inr rfl)
    subst hz
    have hc : 8 * x + y < 64 := by omega
    have j1 : (nI 103 = 109) = False := by decide
    have j2 : (nI 103 = 110) = False := by decide
    have j3 : (nI 103 = 111) = False := by decide
    have hL2 : L_at (M_set σ 5 (knS (rcS S L.2.2.2.2.2 (8 * x + y)) (S.2.2.2.2.2 ||| 2 ^ (8 * x + y)))) 4 L := L_at_ne (Or.inr (by decide)) hL
    have hS2 : M_at (M_set σ 5 (knS (rcS S L.2.2.2.2.2 (8 * x + y)) (S.2.2.2.2.2 ||| 2 ^ (8 * x + y)))) 5 (knS (rcS S L.2.2.2.2.2 (8 * x + y)) (S.2.2.2.2.2 ||| 2 ^ (8 * x + y))) := M_at_set _ _ _
    have hL3 : L_at (M_set σ 5 (setS S L.2.2.2.2.2 (8 * x + y) z)) 4 L := L_at_ne (Or.inr (by decide)) hL
    have e5 := hL2.2.2.2.2.2
    have e6 := hL3.2.2.2.2.2
    have es : miS (knS (rcS S L.2.2.2.2.2 (8 * x + y)) (S.2.2.2.2.2 ||| 2 ^ (8 * x + y))) L.2.2.2.2.2 z = setS S L.2.2.2.2.2 (8 * x + y) z := rfl
    refine ⟨z_ui (M_set σ 5 (setS S L.2.2.2.2.2 (8 * x + y) z)) 4 5 (nI (L.2.2.2.2.2 + 1)), ?_, ?_, ?_, ?_⟩
    · simp only [en44, e44_0, e44_1, e44_2, e44_5, e44_7, e44_8, e44_36, e44_37, e44_40, e44_41, e44_44, e44_45, e44_48, e44_49, e44_52, e44_55, e44_56, e44_59, e44_61, e44_63, e44_66, e44_69, e44_70, e44_73, e44_74, e44_77, e44_80, e44_82, e44_85, e44_86, e44_89, e44_90, e44_93, e44_94, e44_95, e44_98, e44_101, e44_102, e44_105, e44_106, e44_109, e44_112, e44_114, e44_117, e44_118, e44_121, e44_122, e44_125, e44_128, e44_130, e44_133, e44_134, e44_137, e44_138, e44_141, e44_142, e44_143, e44_146, s92, z_bd_i, z_bd_l, z_bd_v, List.cons_append, List.nil_append, z_nk_i, z_nk_r, z_nk_n, v0, v1, v3, v19, v61, v71, v76, ec hy, j1, j2, j3, if_false, g3_1, g3_2, gL_5 isL_4, hL.2.2.2.2.2, vM isM_5, s33 isM_5 hS sk hg hc, e5, s26 isM_5 hS2 hg, M_set_set, es, e6, nI_1, pL_5 isL_4]
    · obtain ⟨a0, a1, a2, a3, a4, a5⟩ := hL3
      refine ⟨?_, ?_, a2, a3, ?_, ?_⟩
      · rw [z_ui_ne (by omega)]; exact a0
      · rw [z_ui_ne (by omega)]; exact a1
      · rw [z_ui_ne (by omega)]; exact a4
      · rw [z_ui_eq]; rfl
    · exact M_at_ui (M_at_set _ _ _) (by omega)
    · exact (sf_M (fun p k h => by unfold Q45 at h; omega)).tr (sf_ui (by unfold Q45; omega))
/-- one number of an ITEM -/
theorem l42 (hT : T_at σ n txt) (hL : L_at σ 4 L) (ok : L_ok L) {sg due i s : Nat} (hsg : sg < 256) (hi : i < due) (hd : due ≤ 3) (hs : s ≤ n) (ha : σ.1 1 2 = nI s) :
    match numF n txt L sg i s with
    | .inl f => ∃ τ, z_r [] 0 0 42 20 [some (.ref 3), some (.int (nI sg)), some (.int (nI due)), some (.int (nI i))] [] (z_enc σ) = some (some (.int 0), z_enc τ) ∧ τ.1 1 3 = nI f ∧ z_sf Q9 σ τ
    | .inr q => ∃ τ, z_r [] 0 0 42 20 [some (.ref 3), some (.int (nI sg)), some (.int (nI due)), some (.int (nI i))] [] (z_enc σ) = z_r [] 0 0 42 20 [some (.ref 3), some (.int (nI sg)), some (.int (nI due)), some (.int (nI (i + 1)))] [] (z_enc τ) ∧ τ.1 1 2 = nI q.2 ∧ (q.2 ≤ n ∧ s < q.2) ∧ τ.1 9 i = nI q.1 ∧ (∀ j, j ≠ i → τ.1 9 j = σ.1 9 j) ∧ z_sf Q9 σ τ := by
  obtain ⟨τ, e, h2, h3, h4, h5, hf⟩ := r50 hT hs ha
  obtain ⟨-, t2, -, -, t5⟩ := tk_ok (txt := txt) hs
  have b1 : (nI i < nI due) = True := eq_true (nI_lt hi (by omega))
  have hL2 : L_at τ 4 L := L_sf hL hf (fun k => by unfold Qt; omega)
  have hf9 : z_sf Q9 σ τ := hf.mono (fun p k h => h.1)
  unfold numF
  by_cases q1 : (tkF n txt s).1 = 1
  · have hv := t5 q1
    have h5 := h5 q1
    have hq := t2 (by omega)
    have hk : τ.1 1 4 = -2 := by rw [h4, q1]; rfl
    have ht : τ.1 1 2 = nI (tkF n txt s).2.2.2 := by rw [h2, if_neg (by omega)]
    by_cases q2 : msF L sg i (tkF n txt s).2.1 = true
    · rw [if_pos ⟨q1, q2⟩]
      refine ⟨z_ui τ 9 i (nI (tkF n txt s).2.1), ?_, ?_, ⟨hq.2, hq.1⟩, z_ui_eq, fun j hj => ?_, hf9.tr (sf_ui (fun h => h.2 rfl))⟩
      · rw [e42_20]
        simp only [e42_0, e42_1, e42_3, e42_6, e42_7, e42_9, e42_12, e42_13, e42_16, e42_17, e42_18, e42_19, e42_21, e42_22, e42_25, e42_26, e42_29, e42_32, e42_33, e42_36, e42_39, e42_41, e42_44, e42_45, e42_46, e42_47, e42_48, e42_51, e42_54, e42_57, e42_60, e42_61, e42_62, e42_63, e42_66, e42_67, e42_68, e42_71, e42_74, e42_77, e42_80, e42_83, e42_84, e42_87, e42_90, e42_91, e42_94, e42_97, e42_99, e42_102, e42_103, e42_104, e42_105, e42_106, e42_107, e42_110, e42_111, e42_114, e42_115, e42_118, e42_119, e42_122, e42_123, e42_126, e42_127, e42_130, e42_133, e42_134, b1, if_true, g3_0, v1, e, z_bd_i, z_bd_l, z_bd_v, List.cons_append, List.nil_append, z_nk_i, z_nk_r, z_nk_n, v0, v1, v3, v19, v61, v71, v76, g1_4, hk, g1_5, h5, s43 hL2 ok hsg (show i < 3 by omega) hv, z_b_0, eq_true q2, not_true, if_false, g3_3, s96 an9 (show i < 3 by omega) (by decide), nI_1]
      · rw [z_ui_ne (by omega)]; exact ht
      · rw [z_ui_ne (by omega)]; exact (hf 9 j (by unfold Qt; omega)).1
    · rw [if_neg (fun h => q2 h.2)]
      refine ⟨τ, ?_, h3, hf9⟩
      rw [e42_20]
      simp only [e42_0, e42_1, e42_3, e42_6, e42_7, e42_9, e42_12, e42_13, e42_16, e42_17, e42_18, e42_19, e42_21, e42_22, e42_25, e42_26, e42_29, e42_32, e42_33, e42_36, e42_39, e42_41, e42_44, e42_45, e42_46, e42_47, e42_48, e42_51, e42_54, e42_57, e42_60, e42_61, e42_62, e42_63, e42_66, e42_67, e42_68, e42_71, e42_74, e42_77, e42_80, e42_83, e42_84, e42_87, e42_90, e42_91, e42_94, e42_97, e42_99, e42_102, e42_103, e42_104, e42_105, e42_106, e42_107, e42_110, e42_111, e42_114, e42_115, e42_118, e42_119, e42_122, e42_123, e42_126, e42_127, e42_130, e42_133, e42_134, b1, if_true, g3_0, v1, e, z_bd_i, z_bd_l, z_bd_v, List.cons_append, List.nil_append, z_nk_i, z_nk_r, z_nk_n, v0, v1, v3, v19, v61, v71, v76, g1_4, hk, g1_5, h5, s43 hL2 ok hsg (show i < 3 by omega) hv, z_b_0, eq_false q2, not_false_iff, z_b_ok0]
  · rw [if_neg (fun h => q1 h.1)]
    refine ⟨τ, ?_, h3, hf9⟩
    rw [e42_20]
    simp only [e42_0, e42_1, e42_3, e42_6, e42_7, e42_9, e42_12, e42_13, e42_16, e42_17, e42_18, e42_19, e42_21, e42_22, e42_25, e42_26, e42_29, e42_32, e42_33, e42_36, e42_39, e42_41, e42_44, e42_45, e42_46, e42_47, e42_48, e42_51, e42_54, e42_57, e42_60, e42_61, e42_62, e42_63, e42_66, e42_67, e42_68, e42_71, e42_74, e42_77, e42_80, e42_83, e42_84, e42_87, e42_90, e42_91, e42_94, e42_97, e42_99, e42_102, e42_103, e42_104, e42_105, e42_106, e42_107, e42_110, e42_111, e42_114, e42_115, e42_118, e42_119, e42_122, e42_123, e42_126, e42_127, e42_130, e42_133, e42_134, b1, if_true, g3_0, v1, e, z_bd_i, z_bd_l, z_bd_v, List.cons_append, List.nil_append, z_nk_i, z_nk_r, z_nk_n, v0, v1, v3, v19, v61, v71, v76, g1_4, h4, kc_1, eq_false q1, if_false, z_b_ok0]
end ITEM
