/-! the reference's ITEMS: a cell, a MOTHER, a REGIMENT; all of them -/
theorem mk2_p (L : t_L) (c k : Nat) : (mk2 L c k).1 = L.1 ∧ (mk2 L c k).2.1 = L.2.1 ∧ (mk2 L c k).2.2.2.2.1 = L.2.2.2.2.1 ∧ (mk2 L c k).2.2.2.2.2 = L.2.2.2.2.2 := by
  unfold mk2
  split <;> exact ⟨rfl, rfl, rfl, rfl⟩
section MITEM2
variable {σ : z_G} {n : Nat} {txt : Nat → Nat} {L : t_L} {S : t_S}
theorem r127 (hT : TM_at σ n txt) (hD : D9_at σ L) (hR : R_at σ 80 0 L.2.2.2.2.2 (knS S 0)) (ok : L_ok L) {s : Nat} (hs : s ≤ n) (ha : σ.1 76 14 = nI s) :
    match itemF n txt L S 111 s with
    | .inl f => ∃ τ, z_call 127 [.ref 76] (z_enc σ) = some (some (.int 0), z_enc τ) ∧ τ.1 76 15 = nI f ∧ z_sf Qm σ τ
    | .inr q => ∃ τ, z_call 127 [.ref 76] (z_enc σ) = some (some (.int 1), z_enc τ) ∧ τ.1 76 14 = nI q.1 ∧ D9_at τ q.2.1 ∧ R_at τ 80 0 q.2.1.2.2.2.2.2 (knS q.2.2 0) ∧ z_sf Qm σ τ := by
  have hN := ok.2.2.2.2
  have w2 := ok.1.2
  have w4 := ok.2.1.2
  have P : ∀ v, v < 100 → (¬ nI v < 0 ∧ ¬ 1 < nI v) = (msF L 111 2 v = true) := fun v hv => by
    have e := in_L (a := 0) (b := 1) (by omega) (by omega) hv
    rw [show nI 0 = (0 : Int32) from rfl, show nI 1 = (1 : Int32) from rfl] at e
    rw [e]
    unfold msF
    simp
  have a := r126 hT hD.1 hD.2.1 ok (show (111 : Nat) ≠ 110 by decide) hs ha
  unfold itemF
  cases e1 : numF n txt L 111 0 s with
  | inl f =>
    rw [e1] at a
    obtain ⟨τ, c1, c2, c3⟩ := a
    refine ⟨τ, ?_, c2, c3.mono Qm_c⟩
    simp only [en127, e127_0, e127_1, e127_4, e127_7, e127_8, e127_9, e127_10, e127_13, e127_16, e127_17, e127_18, e127_19, e127_22, e127_23, e127_24, e127_27, e127_28, e127_29, e127_32, e127_33, e127_34, e127_35, e127_36, e127_39, v76, c1, z_bd_i, z_bd_l, z_bd_v, List.cons_append, List.nil_append, z_nk_i, z_nk_r, z_nk_n, v0, v1, v3, v19, v61, v71, v76, show ((1 : Int32) = 0) = False from by decide, show ((0 : Int32) = 0) = True from by decide, if_true, if_false, z_b_ok0]
  | inr q =>
    obtain ⟨x, s1⟩ := q
    obtain ⟨m1, -, l1, u1⟩ := num_inr hs e1
    rw [e1] at a
    dsimp only at a m1 l1 u1 ⊢
    cases e2 : numF n txt L 111 1 s1 with
    | inl f =>
      rw [e2] at a
      obtain ⟨τ, c1, c2, c3⟩ := a
      refine ⟨τ, ?_, c2, c3.mono Qm_c⟩
      simp only [en127, e127_0, e127_1, e127_4, e127_7, e127_8, e127_9, e127_10, e127_13, e127_16, e127_17, e127_18, e127_19, e127_22, e127_23, e127_24, e127_27, e127_28, e127_29, e127_32, e127_33, e127_34, e127_35, e127_36, e127_39, v76, c1, z_bd_i, z_bd_l, z_bd_v, List.cons_append, List.nil_append, z_nk_i, z_nk_r, z_nk_n, v0, v1, v3, v19, v61, v71, v76, show ((1 : Int32) = 0) = False from by decide, show ((0 : Int32) = 0) = True from by decide, if_true, if_false, z_b_ok0]
    | inr q2 =>
      obtain ⟨y, s2⟩ := q2
      obtain ⟨m2, -, l2, u2⟩ := num_inr u1 e2
      rw [e2] at a
      obtain ⟨τ, c1, c2, c3, c4⟩ := a
      dsimp only at c2 c3 m2 l2 u2 ⊢
      have hx := ms_0 (by decide) m1
      have hy := ms_1 (by decide) m2
      have hc : 8 * x + y < 64 := by omega
      rw [if_pos (Or.inl rfl)]
      have hT2 : TM_at τ n txt := TM_sf hT c4 ⟨by unfold Qc; omega, fun k => by unfold Qc; omega⟩
      have a2 := q123 hT2 u2 c2 P
      cases e3 : numF n txt L 111 2 s2 with
      | inl f =>
        rw [e3] at a2
        obtain ⟨υ, d1, d2, d3⟩ := a2
        refine ⟨υ, ?_, d2, (c4.mono Qm_c).tr (d3.mono Qm_n)⟩
        simp only [en127, e127_0, e127_1, e127_4, e127_7, e127_8, e127_9, e127_10, e127_13, e127_16, e127_17, e127_18, e127_19, e127_22, e127_23, e127_24, e127_27, e127_28, e127_29, e127_32, e127_33, e127_34, e127_35, e127_36, e127_39, v76, c1, z_bd_i, z_bd_l, z_bd_v, List.cons_append, List.nil_append, z_nk_i, z_nk_r, z_nk_n, v0, v1, v3, v19, v61, v71, v76, show ((1 : Int32) = 0) = False from by decide, show ((0 : Int32) = 0) = True from by decide, if_true, if_false, d1, z_b_ok0]
      | inr q3 =>
        obtain ⟨z, s3⟩ := q3
        obtain ⟨m3, -, l3, u3⟩ := num_inr u2 e3
        rw [e3] at a2
        obtain ⟨υ, d1, d2, d3, d4⟩ := a2
        dsimp only at d2 d3 m3 l3 u3 ⊢
        have hz := ms_2o m3
        have d18 : υ.1 76 18 = nI (8 * x + y) := ((d4 76 18 (by unfold Qn; omega)).1).trans c3
        have fB : z_sf Qm σ (z_ui υ 79 (4 + (8 * x + y)) (nI (z + 1))) := (c4.mono Qm_c).tr ((d4.mono Qm_n).tr (sf_ui (fun h => h.1 rfl)))
        have hT3 : TM_at (z_ui υ 79 (4 + (8 * x + y)) (nI (z + 1))) n txt := TM_sf hT fB ⟨by unfold Qm; omega, fun k => by unfold Qm; omega⟩
        have b3 : (z_ui υ 79 (4 + (8 * x + y)) (nI (z + 1))).1 76 14 = nI s3 := (z_ui_ne (by omega)).trans d2
        have a3 := q124 (L := L) (S := S) (sg := 111) (x := x) (y := y) (z := z) hT3 u3 b3
        have wr : ∀ (σ : z_G) (w : Int32) (K : z_H → Option z_O), z_is1 (z_enc σ) 79 (nI (4 + (8 * x + y))) w K = K (z_enc (z_ui σ 79 (4 + (8 * x + y)) w)) := fun σ w K => j79 _ (by omega) σ w K
        cases e4 : finF n txt L S 111 s3 x y z with
        | inl f =>
          rw [e4] at a3
          obtain ⟨ω, g1, g2, g3⟩ := a3
          refine ⟨ω, ?_, g2, fB.tr (g3.mono Qm_n)⟩
          simp only [en127, e127_0, e127_1, e127_4, e127_7, e127_8, e127_9, e127_10, e127_13, e127_16, e127_17, e127_18, e127_19, e127_22, e127_23, e127_24, e127_27, e127_28, e127_29, e127_32, e127_33, e127_34, e127_35, e127_36, e127_39, v76, c1, z_bd_i, z_bd_l, z_bd_v, List.cons_append, List.nil_append, z_nk_i, z_nk_r, z_nk_n, v0, v1, v3, v19, v61, v71, v76, show ((1 : Int32) = 0) = False from by decide, show ((0 : Int32) = 0) = True from by decide, if_true, if_false, d1, g76_3, g76_18, d18, z4, g76_17, d3, nI_1, wr, g1, z_b_ok0]
        | inr q3 =>
          rw [e4] at a3
          obtain ⟨ω, g1, g2, g3, g4⟩ := a3
          obtain ⟨p1, p2, p3, p4⟩ := mk2_p L (8 * x + y) z
          refine ⟨ω, ?_, g2, ?_, ?_, fB.tr (g4.mono Qm_n)⟩
          · simp only [en127, e127_0, e127_1, e127_4, e127_7, e127_8, e127_9, e127_10, e127_13, e127_16, e127_17, e127_18, e127_19, e127_22, e127_23, e127_24, e127_27, e127_28, e127_29, e127_32, e127_33, e127_34, e127_35, e127_36, e127_39, v76, c1, z_bd_i, z_bd_l, z_bd_v, List.cons_append, List.nil_append, z_nk_i, z_nk_r, z_nk_n, v0, v1, v3, v19, v61, v71, v76, show ((1 : Int32) = 0) = False from by decide, show ((0 : Int32) = 0) = True from by decide, if_true, if_false, d1, g76_3, g76_18, d18, z4, g76_17, d3, nI_1, wr, g1, z_b_ok1]
          · rw [g3]
            show D9_at ω (mk2 L (8 * x + y) z)
            obtain ⟨k0, k1, k2, k3, k4⟩ := hD
            have n1 : ∀ j, j ≠ 4 + (8 * x + y) → ω.1 79 j = σ.1 79 j := fun j h0 => by
              rw [(g4 79 j (by unfold Qn; omega)).1, z_ui_ne (by omega), (d4 79 j (by unfold Qn; omega)).1, (c4 79 j (by unfold Qc; omega)).1]
            refine ⟨?_, ?_, ?_, ?_, fun c hc2 => ?_⟩
            · rw [p1]; exact (n1 0 (by omega)).trans k0
            · rw [p2]; exact (n1 1 (by omega)).trans k1
            · rw [p3]; exact (n1 2 (by omega)).trans k2
            · rw [p4]; exact (n1 3 (by omega)).trans k3
            · rw [mk2_kind L hc2]
              by_cases h : c = 8 * x + y
              · subst h
                rw [if_pos rfl, (g4 79 _ (by unfold Qn; omega)).1, z_ui_eq]
                by_cases hz0 : z = 0
                · rw [if_pos hz0, hz0]
                · rw [if_neg hz0, show z + 1 = 2 by omega]
              · rw [if_neg h]
                exact (n1 (4 + c) (by omega)).trans (k4 c hc2)
          · rw [g3]
            show R_at ω 80 0 (mk2 L (8 * x + y) z).2.2.2.2.2 (knS S 0)
            rw [p4]
            refine R_sf (Q := fun p _ => p = 80) hR ((c4.mono (fun p k h => by unfold Qc; omega)).tr (((d4.mono (fun p k h => by unfold Qn; omega)).tr (sf_ui (by omega))).tr (g4.mono (fun p k h => by unfold Qn; omega)))) (fun _ _ => rfl) hN
theorem r128 (hT : TM_at σ n txt) (hD : D9_at σ L) (hR : R_at σ 80 0 L.2.2.2.2.2 (knS S 0)) (ok : L_ok L) (hM : L.2.2.2.2.1 < 4) {s : Nat} (hs : s ≤ n) (ha : σ.1 76 14 = nI s) :
    match itemF n txt L S 109 s with
    | .inl f => ∃ τ, z_call 128 [.ref 76] (z_enc σ) = some (some (.int 0), z_enc τ) ∧ τ.1 76 15 = nI f ∧ z_sf Qm σ τ
    | .inr q => ∃ τ, z_call 128 [.ref 76] (z_enc σ) = some (some (.int 1), z_enc τ) ∧ τ.1 76 14 = nI q.1 ∧ D9_at τ q.2.1 ∧ R_at τ 80 0 q.2.1.2.2.2.2.2 (knS q.2.2 0) ∧ z_sf Qm σ τ := by
  have hN := ok.2.2.2.2
  have w2 := ok.1.2
  have w4 := ok.2.1.2
  have eM : (nI L.2.2.2.2.1 = 4) = False := eq_false (fun h => by have := (nI_eq (b := 4) (by omega) (by decide)).mp h; omega)
  have a := r126 hT hD.1 hD.2.1 ok (show (109 : Nat) ≠ 110 by decide) hs ha
  unfold itemF
  cases e1 : numF n txt L 109 0 s with
  | inl f =>
    rw [e1] at a
    obtain ⟨τ, c1, c2, c3⟩ := a
    refine ⟨τ, ?_, c2, c3.mono Qm_c⟩
    simp only [en128, e128_0, e128_1, e128_4, e128_5, e128_6, e128_7, e128_10, e128_11, e128_14, e128_17, e128_18, e128_19, e128_20, e128_23, e128_25, e128_26, e128_29, e128_30, e128_31, e128_32, e128_33, e128_36, e128_37, e128_38, e128_41, e128_42, e128_43, e128_44, e128_45, e128_46, e128_47, e128_48, e128_51, g76_3, i79_2, hD.2.2.1, eM, v76, c1, z_bd_i, z_bd_l, z_bd_v, List.cons_append, List.nil_append, z_nk_i, z_nk_r, z_nk_n, v0, v1, v3, v19, v61, v71, v76, show ((1 : Int32) = 0) = False from by decide, show ((0 : Int32) = 0) = True from by decide, if_true, if_false, z_b_ok0]
  | inr q =>
    obtain ⟨x, s1⟩ := q
    obtain ⟨m1, -, l1, u1⟩ := num_inr hs e1
    rw [e1] at a
    dsimp only at a m1 l1 u1 ⊢
    cases e2 : numF n txt L 109 1 s1 with
    | inl f =>
      rw [e2] at a
      obtain ⟨τ, c1, c2, c3⟩ := a
      refine ⟨τ, ?_, c2, c3.mono Qm_c⟩
      simp only [en128, e128_0, e128_1, e128_4, e128_5, e128_6, e128_7, e128_10, e128_11, e128_14, e128_17, e128_18, e128_19, e128_20, e128_23, e128_25, e128_26, e128_29, e128_30, e128_31, e128_32, e128_33, e128_36, e128_37, e128_38, e128_41, e128_42, e128_43, e128_44, e128_45, e128_46, e128_47, e128_48, e128_51, g76_3, i79_2, hD.2.2.1, eM, v76, c1, z_bd_i, z_bd_l, z_bd_v, List.cons_append, List.nil_append, z_nk_i, z_nk_r, z_nk_n, v0, v1, v3, v19, v61, v71, v76, show ((1 : Int32) = 0) = False from by decide, show ((0 : Int32) = 0) = True from by decide, if_true, if_false, z_b_ok0]
    | inr q2 =>
      obtain ⟨y, s2⟩ := q2
      obtain ⟨m2, -, l2, u2⟩ := num_inr u1 e2
      rw [e2] at a
      obtain ⟨τ, c1, c2, c3, c4⟩ := a
      dsimp only at c2 c3 m2 l2 u2 ⊢
      have hx := ms_0 (by decide) m1
      have hy := ms_1 (by decide) m2
      have hc : 8 * x + y < 64 := by omega
      rw [if_neg (by decide)]
      have t2 : τ.1 79 2 = nI L.2.2.2.2.1 := ((c4 79 2 (by unfold Qc; omega)).1).trans hD.2.2.1
      have t3 : (z_ui τ 80 (12 + L.2.2.2.2.1) (nI (8 * x + y))).1 79 2 = nI L.2.2.2.2.1 := (z_ui_ne (by omega)).trans t2
      have fB : z_sf Qm σ (z_ui (z_ui τ 80 (12 + L.2.2.2.2.1) (nI (8 * x + y))) 79 2 (nI (L.2.2.2.2.1 + 1))) := (c4.mono Qm_c).tr ((sf_ui (fun h => h.2.1 rfl)).tr (sf_ui (fun h => h.1 rfl)))
      have hT3 : TM_at (z_ui (z_ui τ 80 (12 + L.2.2.2.2.1) (nI (8 * x + y))) 79 2 (nI (L.2.2.2.2.1 + 1))) n txt := TM_sf hT fB ⟨by unfold Qm; omega, fun k => by unfold Qm; omega⟩
      have b3 : (z_ui (z_ui τ 80 (12 + L.2.2.2.2.1) (nI (8 * x + y))) 79 2 (nI (L.2.2.2.2.1 + 1))).1 76 14 = nI s2 := ((z_ui_ne (by omega)).trans (z_ui_ne (by omega))).trans c2
      have a3 := q124 (L := L) (S := S) (sg := 109) (x := x) (y := y) (z := 0) hT3 u2 b3
      cases e4 : finF n txt L S 109 s2 x y 0 with
      | inl f =>
        rw [e4] at a3
        obtain ⟨ω, g1, g2, g3⟩ := a3
        refine ⟨ω, ?_, g2, fB.tr (g3.mono Qm_n)⟩
        simp only [en128, e128_0, e128_1, e128_4, e128_5, e128_6, e128_7, e128_10, e128_11, e128_14, e128_17, e128_18, e128_19, e128_20, e128_23, e128_25, e128_26, e128_29, e128_30, e128_31, e128_32, e128_33, e128_36, e128_37, e128_38, e128_41, e128_42, e128_43, e128_44, e128_45, e128_46, e128_47, e128_48, e128_51, g76_3, i79_2, hD.2.2.1, eM, v76, c1, z_bd_i, z_bd_l, z_bd_v, List.cons_append, List.nil_append, z_nk_i, z_nk_r, z_nk_n, v0, v1, v3, v19, v61, v71, v76, show ((1 : Int32) = 0) = False from by decide, show ((0 : Int32) = 0) = True from by decide, if_true, if_false, g76_4, t2, z12, g76_18, c3, g_isn an80 (show 12 + L.2.2.2.2.1 < 16 by omega) (by decide), t3, nI_1, j79_2, g1, z_b_ok0]
      | inr q3 =>
        rw [e4] at a3
        obtain ⟨ω, g1, g2, g3, g4⟩ := a3
        refine ⟨ω, ?_, g2, ?_, ?_, fB.tr (g4.mono Qm_n)⟩
        · simp only [en128, e128_0, e128_1, e128_4, e128_5, e128_6, e128_7, e128_10, e128_11, e128_14, e128_17, e128_18, e128_19, e128_20, e128_23, e128_25, e128_26, e128_29, e128_30, e128_31, e128_32, e128_33, e128_36, e128_37, e128_38, e128_41, e128_42, e128_43, e128_44, e128_45, e128_46, e128_47, e128_48, e128_51, g76_3, i79_2, hD.2.2.1, eM, v76, c1, z_bd_i, z_bd_l, z_bd_v, List.cons_append, List.nil_append, z_nk_i, z_nk_r, z_nk_n, v0, v1, v3, v19, v61, v71, v76, show ((1 : Int32) = 0) = False from by decide, show ((0 : Int32) = 0) = True from by decide, if_true, if_false, g76_4, t2, z12, g76_18, c3, g_isn an80 (show 12 + L.2.2.2.2.1 < 16 by omega) (by decide), t3, nI_1, j79_2, g1, z_b_ok1]
        · rw [g3]
          show D9_at ω (moM L)
          obtain ⟨k0, k1, k2, k3, k4⟩ := hD
          have n1 : ∀ j, j ≠ 2 → ω.1 79 j = σ.1 79 j := fun j h0 => by
            rw [(g4 79 j (by unfold Qn; omega)).1, z_ui_ne (by omega), z_ui_ne (by omega), (c4 79 j (by unfold Qc; omega)).1]
          refine ⟨(n1 0 (by decide)).trans k0, (n1 1 (by decide)).trans k1, ?_, (n1 3 (by decide)).trans k3, fun c hc2 => (n1 (4 + c) (by omega)).trans (k4 c hc2)⟩
          rw [(g4 79 2 (by unfold Qn; omega)).1, z_ui_eq]
          rfl
        · rw [g3]
          show R_at ω 80 0 L.2.2.2.2.2 (mcS (knS S 0) L.2.2.2.2.1 (8 * x + y))
          have hR2 : R_at τ 80 0 L.2.2.2.2.2 (knS S 0) := R_sf (Q := fun p _ => p = 80) hR (c4.mono (fun p k h => by unfold Qc; omega)) (fun _ _ => rfl) hN
          exact R_sf (Q := fun p _ => p = 80) (r_mc hR2 hN hM) ((sf_ui (by omega)).tr (g4.mono (fun p k h => by unfold Qn; omega))) (fun _ _ => rfl) hN
theorem r_new {p N : Nat} {σ : z_G} {S : t_S} (h : R_at σ p 0 N (knS S 0)) (hN : N < 4) {c z : Nat} : R_at (z_ui (z_ui σ p N (nI c)) p (4 + N) (toldF z)) p 0 (N + 1) (knS (setS S N c z) 0) := by
  refine R0_mk (fun k hk => ?_) (fun k hk => ?_) ?_ ?_ ?_ ?_ (fun k hk => ?_)
  · rw [z_ui_ne (by omega)]
    show (z_ui σ p N (nI c)).1 p k = nI (if k = N then c else S.2.1 k)
    by_cases e : k = N
    · subst e
      rw [z_ui_eq, if_pos rfl]
    · rw [z_ui_ne (by omega), if_neg e]
      exact r0_rc h hk
  · show _ = toldF (if k = N then z else S.2.2.1 k)
    by_cases e : k = N
    · subst e
      rw [z_ui_eq, if_pos rfl]
    · rw [z_ui_ne (by omega), z_ui_ne (by omega), if_neg e]
      exact r0_mi h (by omega)
  · rw [z_ui_ne (by omega), z_ui_ne (by omega)]; have e := r0_mir h; exact e
  · rw [z_ui_ne (by omega), z_ui_ne (by omega)]; have e := r0_dn h; exact e
  · rw [z_ui_ne (by omega), z_ui_ne (by omega)]; have e := r0_k0 h; exact e
  · rw [z_ui_ne (by omega), z_ui_ne (by omega)]; have e := r0_k1 h; exact e
  · rw [z_ui_ne (by omega), z_ui_ne (by omega)]; exact r0_mc h hk
theorem r129 (hT : TM_at σ n txt) (hD : D9_at σ L) (hR : R_at σ 80 0 L.2.2.2.2.2 (knS S 0)) (ok : L_ok L) (hG : L.2.2.2.2.2 < 4) {s : Nat} (hs : s ≤ n) (ha : σ.1 76 14 = nI s) :
    match itemF n txt L S 103 s with
    | .inl f => ∃ τ, z_call 129 [.ref 76] (z_enc σ) = some (some (.int 0), z_enc τ) ∧ τ.1 76 15 = nI f ∧ z_sf Qm σ τ
    | .inr q => ∃ τ, z_call 129 [.ref 76] (z_enc σ) = some (some (.int 1), z_enc τ) ∧ τ.1 76 14 = nI q.1 ∧ D9_at τ q.2.1 ∧ R_at τ 80 0 q.2.1.2.2.2.2.2 (knS q.2.2 0) ∧ z_sf Qm σ τ := by
  have hN := ok.2.2.2.2
  have hM := ok.2.2.2.1
  have w2 := ok.1.2
  have w4 := ok.2.1.2
  have eN : (nI L.2.2.2.2.2 = 4) = False := eq_false (fun h => by have := (nI_eq (b := 4) (by omega) (by decide)).mp h; omega)
  have P : ∀ v, v < 100 → (¬ nI v < 0 ∧ ¬ 9 < nI v) = ((fun v => decide (v ≤ 9)) v = true) := fun v hv => by
    have e := in_L (a := 0) (b := 9) (by omega) (by omega) hv
    rw [show nI 0 = (0 : Int32) from rfl, show nI 9 = (9 : Int32) from rfl] at e
    rw [e]
    simp
  have a := r126 hT hD.1 hD.2.1 ok (show (103 : Nat) ≠ 110 by decide) hs ha
  unfold itemF
  cases e1 : numF n txt L 103 0 s with
  | inl f =>
    rw [e1] at a
    obtain ⟨τ, c1, c2, c3⟩ := a
    refine ⟨τ, ?_, c2, c3.mono Qm_c⟩
    simp only [en129, e129_0, e129_1, e129_4, e129_5, e129_6, e129_7, e129_10, e129_11, e129_14, e129_17, e129_18, e129_19, e129_21, e129_24, e129_27, e129_28, e129_31, e129_33, e129_36, e129_37, e129_40, e129_41, e129_44, e129_45, e129_46, e129_49, e129_50, e129_51, e129_52, e129_55, e129_56, e129_59, e129_60, e129_61, e129_62, e129_65, e129_66, e129_67, e129_70, e129_71, e129_72, e129_75, e129_76, e129_77, e129_78, e129_79, e129_82, e129_84, e129_87, e129_89, e129_92, e129_93, e129_96, e129_97, e129_98, e129_101, e129_102, e129_103, e129_104, e129_105, e129_106, e129_107, e129_108, e129_111, g76_3, i79_3, hD.2.2.2.1, eN, v76, c1, z_bd_i, z_bd_l, z_bd_v, List.cons_append, List.nil_append, z_nk_i, z_nk_r, z_nk_n, v0, v1, v3, v19, v61, v71, v76, show ((1 : Int32) = 0) = False from by decide, show ((0 : Int32) = 0) = True from by decide, if_true, if_false, z_b_ok0]
  | inr q =>
    obtain ⟨x, s1⟩ := q
    obtain ⟨m1, -, l1, u1⟩ := num_inr hs e1
    rw [e1] at a
    dsimp only at a m1 l1 u1 ⊢
    cases e2 : numF n txt L 103 1 s1 with
    | inl f =>
      rw [e2] at a
      obtain ⟨τ, c1, c2, c3⟩ := a
      refine ⟨τ, ?_, c2, c3.mono Qm_c⟩
      simp only [en129, e129_0, e129_1, e129_4, e129_5, e129_6, e129_7, e129_10, e129_11, e129_14, e129_17, e129_18, e129_19, e129_21, e129_24, e129_27, e129_28, e129_31, e129_33, e129_36, e129_37, e129_40, e129_41, e129_44, e129_45, e129_46, e129_49, e129_50, e129_51, e129_52, e129_55, e129_56, e129_59, e129_60, e129_61, e129_62, e129_65, e129_66, e129_67, e129_70, e129_71, e129_72, e129_75, e129_76, e129_77, e129_78, e129_79, e129_82, e129_84, e129_87, e129_89, e129_92, e129_93, e129_96, e129_97, e129_98, e129_101, e129_102, e129_103, e129_104, e129_105, e129_106, e129_107, e129_108, e129_111, g76_3, i79_3, hD.2.2.2.1, eN, v76, c1, z_bd_i, z_bd_l, z_bd_v, List.cons_append, List.nil_append, z_nk_i, z_nk_r, z_nk_n, v0, v1, v3, v19, v61, v71, v76, show ((1 : Int32) = 0) = False from by decide, show ((0 : Int32) = 0) = True from by decide, if_true, if_false, z_b_ok0]
    | inr q2 =>
      obtain ⟨y, s2⟩ := q2
      obtain ⟨m2, -, l2, u2⟩ := num_inr u1 e2
      rw [e2] at a
      obtain ⟨τ, c1, c2, c3, c4⟩ := a
      dsimp only at c2 c3 m2 l2 u2 ⊢
      have hx := ms_0 (by decide) m1
      have hy := ms_1 (by decide) m2
      have hc : 8 * x + y < 64 := by omega
      rw [if_pos (Or.inr rfl)]
      have hT2 : TM_at τ n txt := TM_sf hT c4 ⟨by unfold Qc; omega, fun k => by unfold Qc; omega⟩
      obtain ⟨υ, d1, d2, d3, d4, d5⟩ := r123 hT2 u2 c2 (P := fun v => decide (v ≤ 9)) P
      obtain ⟨-, -, -, -, t5⟩ := tk_ok (txt := txt) u2
      have hmv : ∀ v, (msF L 103 2 v = true) = (v = 9 ∨ v < L.2.2.2.2.1) := fun v => by unfold msF; simp
      have fA : z_sf Qm σ υ := (c4.mono Qm_c).tr (d5.mono Qm_n)
      have y2 : υ.1 79 2 = nI L.2.2.2.2.1 := ((d5 79 2 (by unfold Qn; omega)).1).trans (((c4 79 2 (by unfold Qc; omega)).1).trans hD.2.2.1)
      have y3 : υ.1 79 3 = nI L.2.2.2.2.2 := ((d5 79 3 (by unfold Qn; omega)).1).trans (((c4 79 3 (by unfold Qc; omega)).1).trans hD.2.2.2.1)
      have y18 : υ.1 76 18 = nI (8 * x + y) := ((d5 76 18 (by unfold Qn; omega)).1).trans c3
      unfold numF
      by_cases q1 : (tkF n txt s2).1 = 1
      · have hv := t5 q1
        have y17 := d4 q1
        generalize hzv : (tkF n txt s2).2.1 = z at *
        have b9 : (nI z = 9) = (z = 9) := propext (nI_eq (b := 9) (by omega) (by decide))
        have bM : (nI z < nI L.2.2.2.2.1) = (z < L.2.2.2.2.1) := propext (nI_ltI (by omega) (by omega))
        by_cases q2 : z = 9 ∨ z < L.2.2.2.2.1
        · rw [if_pos ⟨q1, (hmv z).mpr q2⟩]
          dsimp only
          rw [z_b_t ⟨q1, decide_eq_true (show z ≤ 9 by omega)⟩] at d1
          have u3 := ((tk_ok (txt := txt) u2).2.1 (by omega)).2
          have wr1 : ∀ (σ : z_G) (w : Int32) (K : z_H → Option z_O), z_is1 (z_enc σ) 80 (nI L.2.2.2.2.2) w K = K (z_enc (z_ui σ 80 L.2.2.2.2.2 w)) := fun σ w K => g_isn an80 (by omega) (by decide)
          have wr2 : ∀ (σ : z_G) (w : Int32) (K : z_H → Option z_O), z_is1 (z_enc σ) 80 (nI (4 + L.2.2.2.2.2)) w K = K (z_enc (z_ui σ 80 (4 + L.2.2.2.2.2) w)) := fun σ w K => g_isn an80 (by omega) (by decide)
          have x3 : ∀ w, (z_ui υ 80 L.2.2.2.2.2 w).1 79 3 = nI L.2.2.2.2.2 := fun w => (z_ui_ne (by omega)).trans y3
          have x17 : ∀ w, (z_ui υ 80 L.2.2.2.2.2 w).1 76 17 = nI z := fun w => (z_ui_ne (by omega)).trans y17
          have x3b : ∀ w w2, (z_ui (z_ui υ 80 L.2.2.2.2.2 w) 80 (4 + L.2.2.2.2.2) w2).1 79 3 = nI L.2.2.2.2.2 := fun w w2 => (z_ui_ne (by omega)).trans ((z_ui_ne (by omega)).trans y3)
          have etv : (if z = 9 then (-9 : Int32) else nI z) = toldF z := rfl
          have fB : z_sf Qm σ (z_ui (z_ui (z_ui υ 80 L.2.2.2.2.2 (nI (8 * x + y))) 80 (4 + L.2.2.2.2.2) (toldF z)) 79 3 (nI (L.2.2.2.2.2 + 1))) := fA.tr ((sf_ui (fun h => h.2.1 rfl)).tr ((sf_ui (fun h => h.2.1 rfl)).tr (sf_ui (fun h => h.1 rfl))))
          have hT3 := TM_sf hT fB ⟨by unfold Qm; omega, fun k => by unfold Qm; omega⟩
          have b3 : (z_ui (z_ui (z_ui υ 80 L.2.2.2.2.2 (nI (8 * x + y))) 80 (4 + L.2.2.2.2.2) (toldF z)) 79 3 (nI (L.2.2.2.2.2 + 1))).1 76 14 = nI (tkF n txt s2).2.2.2 := ((z_ui_ne (by omega)).trans ((z_ui_ne (by omega)).trans (z_ui_ne (by omega)))).trans d2
          have a3 := q124 (L := L) (S := S) (sg := 103) (x := x) (y := y) (z := z) hT3 u3 b3
          have run : z_call 129 [.ref 76] (z_enc σ) = z_bd (z_call 124 [.ref 76] (z_enc (z_ui (z_ui (z_ui υ 80 L.2.2.2.2.2 (nI (8 * x + y))) 80 (4 + L.2.2.2.2.2) (toldF z)) 79 3 (nI (L.2.2.2.2.2 + 1))))) (fun r ph1 => z_r [] 0 0 129 111 [some (.ref 76)] (r ++ []) ph1) := by
            by_cases q9 : z = 9
            · have et : toldF z = -9 := if_pos q9
              rw [et]
              simp only [en129, e129_0, e129_1, e129_4, e129_5, e129_6, e129_7, e129_10, e129_11, e129_14, e129_17, e129_18, e129_19, e129_21, e129_24, e129_27, e129_28, e129_31, e129_33, e129_36, e129_37, e129_40, e129_41, e129_44, e129_45, e129_46, e129_49, e129_50, e129_51, e129_52, e129_55, e129_56, e129_59, e129_60, e129_61, e129_62, e129_65, e129_66, e129_67, e129_70, e129_71, e129_72, e129_75, e129_76, e129_77, e129_78, e129_79, e129_82, e129_84, e129_87, e129_89, e129_92, e129_93, e129_96, e129_97, e129_98, e129_101, e129_102, e129_103, e129_104, e129_105, e129_106, e129_107, e129_108, g76_3, i79_3, hD.2.2.2.1, eN, v76, c1, z_bd_i, z_bd_l, z_bd_v, List.cons_append, List.nil_append, z_nk_i, z_nk_r, z_nk_n, v0, v1, v3, v19, v61, v71, v76, show ((1 : Int32) = 0) = False from by decide, show ((0 : Int32) = 0) = True from by decide, if_true, if_false, d1, g76_17, y17, b9, eq_true q9, g76_4, y3, g76_18, y18, wr1, x3, x17, z4, wr2, x3b, nI_1, j79_3]
            · have et : toldF z = nI z := if_neg q9
              have qM : z < L.2.2.2.2.1 := q2.resolve_left q9
              rw [et]
              simp only [en129, e129_0, e129_1, e129_4, e129_5, e129_6, e129_7, e129_10, e129_11, e129_14, e129_17, e129_18, e129_19, e129_21, e129_24, e129_27, e129_28, e129_31, e129_33, e129_36, e129_37, e129_40, e129_41, e129_44, e129_45, e129_46, e129_49, e129_50, e129_51, e129_52, e129_55, e129_56, e129_59, e129_60, e129_61, e129_62, e129_65, e129_66, e129_67, e129_70, e129_71, e129_72, e129_75, e129_76, e129_77, e129_78, e129_79, e129_82, e129_84, e129_87, e129_89, e129_92, e129_93, e129_96, e129_97, e129_98, e129_101, e129_102, e129_103, e129_104, e129_105, e129_106, e129_107, e129_108, g76_3, i79_3, i79_2, hD.2.2.2.1, eN, v76, c1, z_bd_i, z_bd_l, z_bd_v, List.cons_append, List.nil_append, z_nk_i, z_nk_r, z_nk_n, v0, v1, v3, v19, v61, v71, v76, show ((1 : Int32) = 0) = False from by decide, show ((0 : Int32) = 0) = True from by decide, if_true, if_false, d1, g76_17, y17, b9, eq_false q9, y2, bM, eq_true qM, g76_4, y3, g76_18, y18, wr1, x3, x17, z4, wr2, x3b, nI_1, j79_3]
          cases e4 : finF n txt L S 103 (tkF n txt s2).2.2.2 x y z with
          | inl f =>
            rw [e4] at a3
            obtain ⟨ω, g1, g2, g3⟩ := a3
            refine ⟨ω, ?_, g2, fB.tr (g3.mono Qm_n)⟩
            rw [run]
            simp only [g1, z_bd_i, z_bd_l, z_bd_v, List.cons_append, List.nil_append, z_nk_i, z_nk_r, z_nk_n, v0, v1, v3, v19, v61, v71, v76, show ((1 : Int32) = 0) = False from by decide, show ((0 : Int32) = 0) = True from by decide, if_true, if_false, e129_111, z_b_ok0]
          | inr q3 =>
            rw [e4] at a3
            obtain ⟨ω, g1, g2, g3, g4⟩ := a3
            refine ⟨ω, ?_, g2, ?_, ?_, fB.tr (g4.mono Qm_n)⟩
            · rw [run]
              simp only [g1, z_bd_i, z_bd_l, z_bd_v, List.cons_append, List.nil_append, z_nk_i, z_nk_r, z_nk_n, v0, v1, v3, v19, v61, v71, v76, show ((1 : Int32) = 0) = False from by decide, show ((0 : Int32) = 0) = True from by decide, if_true, if_false, e129_111, z_b_ok1]
            · rw [g3]
              show D9_at ω (moN L)
              obtain ⟨k0, k1, k2, k3, k4⟩ := hD
              have n1 : ∀ j, j ≠ 3 → ω.1 79 j = σ.1 79 j := fun j h0 => by
                rw [(g4 79 j (by unfold Qn; omega)).1, z_ui_ne (by omega), z_ui_ne (by omega), z_ui_ne (by omega), (d5 79 j (by unfold Qn; omega)).1, (c4 79 j (by unfold Qc; omega)).1]
              refine ⟨(n1 0 (by decide)).trans k0, (n1 1 (by decide)).trans k1, (n1 2 (by decide)).trans k2, ?_, fun c hc2 => (n1 (4 + c) (by omega)).trans (k4 c hc2)⟩
              rw [(g4 79 3 (by unfold Qn; omega)).1, z_ui_eq]
              rfl
            · rw [g3]
              show R_at ω 80 0 (L.2.2.2.2.2 + 1) (knS (setS S L.2.2.2.2.2 (8 * x + y) z) 0)
              have hR2 : R_at υ 80 0 L.2.2.2.2.2 (knS S 0) := R_sf (Q := fun p _ => p = 80) hR ((c4.mono (fun p k h => by unfold Qc; omega)).tr (d5.mono (fun p k h => by unfold Qn; omega))) (fun _ _ => rfl) hN
              exact R_sf (Q := fun p _ => p = 80) (r_new hR2 hG) ((sf_ui (by omega)).tr (g4.mono (fun p k h => by unfold Qn; omega))) (fun _ _ => rfl) (by omega)
        · have q3 : ¬ z = 9 ∧ ¬ z < L.2.2.2.2.1 := by omega
          rw [if_neg (fun h => q2 ((hmv z).mp h.2))]
          refine ⟨υ, ?_, d3, fA⟩
          by_cases q4 : z ≤ 9
          · rw [z_b_t ⟨q1, decide_eq_true q4⟩] at d1
            simp only [en129, e129_0, e129_1, e129_4, e129_5, e129_6, e129_7, e129_10, e129_11, e129_14, e129_17, e129_18, e129_19, e129_21, e129_24, e129_27, e129_28, e129_31, e129_33, e129_36, e129_37, e129_40, e129_41, e129_44, e129_45, e129_46, e129_49, e129_50, e129_51, e129_52, e129_55, e129_56, e129_59, e129_60, e129_61, e129_62, e129_65, e129_66, e129_67, e129_70, e129_71, e129_72, e129_75, e129_76, e129_77, e129_78, e129_79, e129_82, e129_84, e129_87, e129_89, e129_92, e129_93, e129_96, e129_97, e129_98, e129_101, e129_102, e129_103, e129_104, e129_105, e129_106, e129_107, e129_108, e129_111, g76_3, i79_3, i79_2, hD.2.2.2.1, eN, v76, c1, z_bd_i, z_bd_l, z_bd_v, List.cons_append, List.nil_append, z_nk_i, z_nk_r, z_nk_n, v0, v1, v3, v19, v61, v71, v76, show ((1 : Int32) = 0) = False from by decide, show ((0 : Int32) = 0) = True from by decide, if_true, if_false, d1, g76_17, y17, b9, eq_false q3.1, y2, bM, eq_false q3.2, z_b_ok0]
          · rw [z_b_f (fun h => q4 (of_decide_eq_true h.2))] at d1
            simp only [en129, e129_0, e129_1, e129_4, e129_5, e129_6, e129_7, e129_10, e129_11, e129_14, e129_17, e129_18, e129_19, e129_21, e129_24, e129_27, e129_28, e129_31, e129_33, e129_36, e129_37, e129_40, e129_41, e129_44, e129_45, e129_46, e129_49, e129_50, e129_51, e129_52, e129_55, e129_56, e129_59, e129_60, e129_61, e129_62, e129_65, e129_66, e129_67, e129_70, e129_71, e129_72, e129_75, e129_76, e129_77, e129_78, e129_79, e129_82, e129_84, e129_87, e129_89, e129_92, e129_93, e129_96, e129_97, e129_98, e129_101, e129_102, e129_103, e129_104, e129_105, e129_106, e129_107, e129_108, e129_111, g76_3, i79_3, hD.2.2.2.1, eN, v76, c1, z_bd_i, z_bd_l, z_bd_v, List.cons_append, List.nil_append, z_nk_i, z_nk_r, z_nk_n, v0, v1, v3, v19, v61, v71, v76, show ((1 : Int32) = 0) = False from by decide, show ((0 : Int32) = 0) = True from by decide, if_true, if_false, d1, z_b_ok0]
      · rw [if_neg (fun h => q1 h.1)]
        rw [z_b_f (fun h => q1 h.1)] at d1
        refine ⟨υ, ?_, d3, fA⟩
        simp only [en129, e129_0, e129_1, e129_4, e129_5, e129_6, e129_7, e129_10, e129_11, e129_14, e129_17, e129_18, e129_19, e129_21, e129_24, e129_27, e129_28, e129_31, e129_33, e129_36, e129_37, e129_40, e129_41, e129_44, e129_45, e129_46, e129_49, e129_50, e129_51, e129_52, e129_55, e129_56, e129_59, e129_60, e129_61, e129_62, e129_65, e129_66, e129_67, e129_70, e129_71, e129_72, e129_75, e129_76, e129_77, e129_78, e129_79, e129_82, e129_84, e129_87, e129_89, e129_92, e129_93, e129_96, e129_97, e129_98, e129_101, e129_102, e129_103, e129_104, e129_105, e129_106, e129_107, e129_108, e129_111, g76_3, i79_3, hD.2.2.2.1, eN, v76, c1, z_bd_i, z_bd_l, z_bd_v, List.cons_append, List.nil_append, z_nk_i, z_nk_r, z_nk_n, v0, v1, v3, v19, v61, v71, v76, show ((1 : Int32) = 0) = False from by decide, show ((0 : Int32) = 0) = True from by decide, if_true, if_false, d1, z_b_ok0]
end MITEM2
