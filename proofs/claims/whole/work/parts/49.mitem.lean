/-! the reference's ITEMS -/
def D9_at (σ : z_G) (L : t_L) : Prop := σ.1 79 0 = nI L.1 ∧ σ.1 79 1 = nI L.2.1 ∧ σ.1 79 2 = nI L.2.2.2.2.1 ∧ σ.1 79 3 = nI L.2.2.2.2.2 ∧ ∀ c, c < 64 → σ.1 79 (4 + c) = nI (kindF L c)
def Qc (p k : Nat) : Prop := ¬ (p = 76 ∧ 14 ≤ k ∧ k ≤ 18)
def Qm (p k : Nat) : Prop := p ≠ 79 ∧ p ≠ 80 ∧ ¬ (p = 76 ∧ 14 ≤ k ∧ k ≤ 18)
theorem Qc_n : ∀ p k, Qc p k → Qn p k := fun p k h => by unfold Qc at h; unfold Qn; omega
theorem Qm_n : ∀ p k, Qm p k → Qn p k := fun p k h => by unfold Qm at h; unfold Qn; omega
theorem Qm_c : ∀ p k, Qm p k → Qc p k := fun p k h => by unfold Qm at h; unfold Qc; omega
theorem D9_sf {Q : Nat → Nat → Prop} {σ τ : z_G} {L : t_L} (h : D9_at σ L) (hs : z_sf Q σ τ) (hQ : ∀ k, Q 79 k) : D9_at τ L := by
  obtain ⟨a0, a1, a2, a3, a4⟩ := h
  exact ⟨((hs _ _ (hQ _)).1).trans a0, ((hs _ _ (hQ _)).1).trans a1, ((hs _ _ (hQ _)).1).trans a2, ((hs _ _ (hQ _)).1).trans a3, fun c hc => ((hs _ _ (hQ _)).1).trans (a4 c hc)⟩
theorem in_N {N v : Nat} (hN : N < 1000) (hv : v < 100) : (¬ nI v < 0 ∧ ¬ nI N - 1 < nI v) = (v < N) := by
  rw [in_m1 hN]
  apply propext
  have h1 : ¬ nI v < 0 := nI_pos (by omega)
  have h2 := nI_ltI (a := v) (b := N) (by omega) (by omega)
  exact ⟨fun h => h2.mp h.2, fun h => ⟨h1, h2.mpr h⟩⟩
theorem in_L {a b v : Nat} (ha : a < 1000) (hb : b < 1000) (hv : v < 100) : (¬ nI v < nI a ∧ ¬ nI b < nI v) = (a ≤ v ∧ v ≤ b) := by
  have h1 := nI_ltI (a := v) (b := a) (by omega) (by omega)
  have h2 := nI_ltI (a := b) (b := v) (by omega) (by omega)
  rw [h1, h2]
  apply propext
  omega
theorem i79 (i : Nat) (hi : i < 68) (σ : z_G) (K : Int32 → Option z_O) : z_il1 (z_enc σ) 79 (nI i) K = K (σ.1 79 i) := g_iln an79 hi (by decide)
theorem j79 (i : Nat) (hi : i < 68) (σ : z_G) (x : Int32) (K : z_H → Option z_O) : z_is1 (z_enc σ) 79 (nI i) x K = K (z_enc (z_ui σ 79 i x)) := g_isn an79 hi (by decide)
theorem i79_0 : ∀ (σ : z_G) (K : Int32 → Option z_O), z_il1 (z_enc σ) 79 0 K = K (σ.1 79 0) := i79 0 (by decide)
theorem i79_1 : ∀ (σ : z_G) (K : Int32 → Option z_O), z_il1 (z_enc σ) 79 1 K = K (σ.1 79 1) := i79 1 (by decide)
theorem i79_2 : ∀ (σ : z_G) (K : Int32 → Option z_O), z_il1 (z_enc σ) 79 2 K = K (σ.1 79 2) := i79 2 (by decide)
theorem i79_3 : ∀ (σ : z_G) (K : Int32 → Option z_O), z_il1 (z_enc σ) 79 3 K = K (σ.1 79 3) := i79 3 (by decide)
theorem j79_0 : ∀ (σ : z_G) (x : Int32) (K : z_H → Option z_O), z_is1 (z_enc σ) 79 0 x K = K (z_enc (z_ui σ 79 0 x)) := j79 0 (by decide)
theorem j79_1 : ∀ (σ : z_G) (x : Int32) (K : z_H → Option z_O), z_is1 (z_enc σ) 79 1 x K = K (z_enc (z_ui σ 79 1 x)) := j79 1 (by decide)
theorem j79_2 : ∀ (σ : z_G) (x : Int32) (K : z_H → Option z_O), z_is1 (z_enc σ) 79 2 x K = K (z_enc (z_ui σ 79 2 x)) := j79 2 (by decide)
theorem j79_3 : ∀ (σ : z_G) (x : Int32) (K : z_H → Option z_O), z_is1 (z_enc σ) 79 3 x K = K (z_enc (z_ui σ 79 3 x)) := j79 3 (by decide)
section MITEM
variable {σ : z_G} {n : Nat} {txt : Nat → Nat} {L : t_L} {S : t_S}
/-- a number of an ITEM -/
theorem q123 (hT : TM_at σ n txt) {s sg i : Nat} (hs : s ≤ n) (ha : σ.1 76 14 = nI s) {lo hi : Int32} (hP : ∀ v, v < 100 → (¬ nI v < lo ∧ ¬ hi < nI v) = (msF L sg i v = true)) :
    match numF n txt L sg i s with
    | .inl f => ∃ τ, z_call 123 [.ref 76, .int lo, .int hi] (z_enc σ) = some (some (.int 0), z_enc τ) ∧ τ.1 76 15 = nI f ∧ z_sf Qn σ τ
    | .inr q => ∃ τ, z_call 123 [.ref 76, .int lo, .int hi] (z_enc σ) = some (some (.int 1), z_enc τ) ∧ τ.1 76 14 = nI q.2 ∧ τ.1 76 17 = nI q.1 ∧ z_sf Qn σ τ := by
  obtain ⟨τ, e, h1, h2, h3, hf⟩ := r123 hT hs ha (P := msF L sg i) hP
  unfold numF
  by_cases q : (tkF n txt s).1 = 1 ∧ msF L sg i (tkF n txt s).2.1 = true
  · rw [if_pos q]
    rw [z_b_t q] at e
    exact ⟨τ, e, h1, h3 q.1, hf⟩
  · rw [if_neg q]
    rw [z_b_f q] at e
    exact ⟨τ, e, h2, hf⟩
theorem r126 (hT : TM_at σ n txt) (h0 : σ.1 79 0 = nI L.1) (h1 : σ.1 79 1 = nI L.2.1) (ok : L_ok L) {s sg : Nat} (hsg : sg ≠ 110) (hs : s ≤ n) (ha : σ.1 76 14 = nI s) :
    match numF n txt L sg 0 s with
    | .inl f => ∃ τ, z_call 126 [.ref 76] (z_enc σ) = some (some (.int 0), z_enc τ) ∧ τ.1 76 15 = nI f ∧ z_sf Qc σ τ
    | .inr q => match numF n txt L sg 1 q.2 with
      | .inl f => ∃ τ, z_call 126 [.ref 76] (z_enc σ) = some (some (.int 0), z_enc τ) ∧ τ.1 76 15 = nI f ∧ z_sf Qc σ τ
      | .inr q2 => ∃ τ, z_call 126 [.ref 76] (z_enc σ) = some (some (.int 1), z_enc τ) ∧ τ.1 76 14 = nI q2.2 ∧ τ.1 76 18 = nI (8 * q.1 + q2.1) ∧ z_sf Qc σ τ := by
  obtain ⟨⟨w1, w2⟩, ⟨w3, w4⟩, -⟩ := id ok
  have P0 : ∀ v, v < 100 → (¬ nI v < 0 ∧ ¬ nI L.1 - 1 < nI v) = (msF L sg 0 v = true) := fun v hv => by
    rw [in_N (by omega) hv]
    unfold msF
    simp [hsg]
  have P1 : ∀ v, v < 100 → (¬ nI v < 0 ∧ ¬ nI L.2.1 - 1 < nI v) = (msF L sg 1 v = true) := fun v hv => by
    rw [in_N (by omega) hv]
    unfold msF
    simp [hsg]
  have a1 := q123 hT hs ha P0
  cases e1 : numF n txt L sg 0 s with
  | inl f =>
    rw [e1] at a1
    obtain ⟨τ, c1, c2, c3⟩ := a1
    refine ⟨τ, ?_, c2, c3.mono Qc_n⟩
    simp only [en126, e126_0, e126_1, e126_2, e126_3, e126_6, e126_7, e126_8, e126_9, e126_10, e126_13, e126_16, e126_17, e126_18, e126_19, e126_21, e126_22, e126_25, e126_26, e126_29, e126_30, e126_31, e126_32, e126_35, e126_36, e126_37, e126_38, e126_39, e126_42, e126_43, e126_44, e126_45, e126_48, e126_49, e126_52, e126_53, e126_56, e126_57, g76_3, i79_0, h0, v76, c1, z_bd_i, z_bd_l, z_bd_v, List.cons_append, List.nil_append, z_nk_i, z_nk_r, z_nk_n, v0, v1, v3, v19, v61, v71, v76, show ((1 : Int32) = 0) = False from by decide, show ((0 : Int32) = 0) = True from by decide, if_true, if_false, z_b_ok0]
  | inr q =>
    rw [e1] at a1
    obtain ⟨τ, c1, c2, c3, c4⟩ := a1
    obtain ⟨m1, -, l1, u1⟩ := num_inr hs e1
    dsimp only
    have f18 : z_sf Qc τ (z_ui τ 76 18 (8 * nI q.1)) := sf_ui (by unfold Qc; omega)
    have fA : z_sf Qc σ (z_ui τ 76 18 (8 * nI q.1)) := (c4.mono Qc_n).tr f18
    have hT2 : TM_at (z_ui τ 76 18 (8 * nI q.1)) n txt := TM_sf hT fA ⟨by unfold Qc; omega, fun k => by unfold Qc; omega⟩
    have b1 : (z_ui τ 76 18 (8 * nI q.1)).1 79 1 = nI L.2.1 := ((fA 79 1 (by unfold Qc; omega)).1).trans h1
    have b2 : (z_ui τ 76 18 (8 * nI q.1)).1 76 14 = nI q.2 := (z_ui_ne (by omega)).trans c2
    have a2 := q123 hT2 u1 b2 P1
    cases e2 : numF n txt L sg 1 q.2 with
    | inl f =>
      rw [e2] at a2
      obtain ⟨υ, d1, d2, d3⟩ := a2
      refine ⟨z_ui υ 76 18 (υ.1 76 18 + υ.1 76 17), ?_, ?_, fA.tr ((d3.mono Qc_n).tr (sf_ui (by unfold Qc; omega)))⟩
      · simp only [en126, e126_0, e126_1, e126_2, e126_3, e126_6, e126_7, e126_8, e126_9, e126_10, e126_13, e126_16, e126_17, e126_18, e126_19, e126_21, e126_22, e126_25, e126_26, e126_29, e126_30, e126_31, e126_32, e126_35, e126_36, e126_37, e126_38, e126_39, e126_42, e126_43, e126_44, e126_45, e126_48, e126_49, e126_52, e126_53, e126_56, e126_57, g76_3, i79_0, h0, v76, c1, z_bd_i, z_bd_l, z_bd_v, List.cons_append, List.nil_append, z_nk_i, z_nk_r, z_nk_n, v0, v1, v3, v19, v61, v71, v76, show ((1 : Int32) = 0) = False from by decide, show ((0 : Int32) = 0) = True from by decide, if_true, if_false, g76_17, c3, p76_18, i79_1, b1, d1, g76_18, z_b_ok0]
      · rw [z_ui_ne (by omega)]; exact d2
    | inr q2 =>
      rw [e2] at a2
      obtain ⟨υ, d1, d2, d3, d4⟩ := a2
      have b3 : υ.1 76 18 = 8 * nI q.1 := ((d4 76 18 (by unfold Qn; omega)).1).trans z_ui_eq
      have b4 : (8 : Int32) * nI q.1 + nI q2.1 = nI (8 * q.1 + q2.1) := by rw [l_8, pk_mul, nI_add]
      refine ⟨z_ui υ 76 18 (nI (8 * q.1 + q2.1)), ?_, ?_, z_ui_eq, fA.tr ((d4.mono Qc_n).tr (sf_ui (by unfold Qc; omega)))⟩
      · simp only [en126, e126_0, e126_1, e126_2, e126_3, e126_6, e126_7, e126_8, e126_9, e126_10, e126_13, e126_16, e126_17, e126_18, e126_19, e126_21, e126_22, e126_25, e126_26, e126_29, e126_30, e126_31, e126_32, e126_35, e126_36, e126_37, e126_38, e126_39, e126_42, e126_43, e126_44, e126_45, e126_48, e126_49, e126_52, e126_53, e126_56, e126_57, g76_3, i79_0, h0, v76, c1, z_bd_i, z_bd_l, z_bd_v, List.cons_append, List.nil_append, z_nk_i, z_nk_r, z_nk_n, v0, v1, v3, v19, v61, v71, v76, show ((1 : Int32) = 0) = False from by decide, show ((0 : Int32) = 0) = True from by decide, if_true, if_false, g76_17, c3, p76_18, i79_1, b1, d1, g76_18, b3, d3, b4, z_b_ok1]
      · rw [z_ui_ne (by omega)]; exact d2
/-- the end of an ITEM -/
theorem q124 (hT : TM_at σ n txt) {s sg x y z : Nat} (hs : s ≤ n) (ha : σ.1 76 14 = nI s) :
    match finF n txt L S sg s x y z with
    | .inl f => ∃ τ, z_call 124 [.ref 76] (z_enc σ) = some (some (.int 0), z_enc τ) ∧ τ.1 76 15 = nI f ∧ z_sf Qn σ τ
    | .inr q => ∃ τ, z_call 124 [.ref 76] (z_enc σ) = some (some (.int 1), z_enc τ) ∧ τ.1 76 14 = nI q.1 ∧ q.2 = takF L S sg x y z ∧ z_sf Qn σ τ := by
  obtain ⟨τ, e, h1, h2, hf⟩ := r124 hT hs ha
  unfold finF
  by_cases q : (tkF n txt s).1 = 62
  · rw [if_pos q]
    rw [z_b_t q] at e
    exact ⟨τ, e, h1, rfl, hf⟩
  · rw [if_neg q]
    rw [z_b_f q] at e
    exact ⟨τ, e, h2, hf⟩
theorem r125 (hT : TM_at σ n txt) (hD : D9_at σ L) (hR : R_at σ 80 0 L.2.2.2.2.2 (knS S 0)) (ok : L_ok L) {s : Nat} (hs : s ≤ n) (ha : σ.1 76 14 = nI s) :
    match itemF n txt L S 110 s with
    | .inl f => ∃ τ, z_call 125 [.ref 76, .int (nI 0)] (z_enc σ) = some (some (.int 0), z_enc τ) ∧ τ.1 76 15 = nI f ∧ z_sf Qm σ τ
    | .inr q => ∃ τ, z_call 125 [.ref 76, .int (nI 0)] (z_enc σ) = some (some (.int 1), z_enc τ) ∧ τ.1 76 14 = nI q.1 ∧ D9_at τ q.2.1 ∧ R_at τ 80 0 q.2.1.2.2.2.2.2 (knS q.2.2 0) ∧ z_sf Qm σ τ := by
  have hN := ok.2.2.2.2
  have P : ∀ i v, v < 100 → (¬ nI v < 1 ∧ ¬ 8 < nI v) = (msF L 110 i v = true) := fun i v hv => by
    have e := in_L (a := 1) (b := 8) (by omega) (by omega) hv
    rw [show nI 1 = (1 : Int32) from rfl, show nI 8 = (8 : Int32) from rfl] at e
    rw [e]
    unfold msF
    simp
  have z0 : ((0 : Int32) < nI 0) = False := by decide
  have a1 := q123 hT hs ha (P 0)
  unfold itemF
  cases e1 : numF n txt L 110 0 s with
  | inl f =>
    rw [e1] at a1
    obtain ⟨τ, c1, c2, c3⟩ := a1
    refine ⟨τ, ?_, c2, c3.mono Qm_n⟩
    simp only [en125, e125_0, e125_1, e125_4, e125_5, e125_6, e125_8, e125_11, e125_14, e125_15, e125_16, e125_17, e125_20, e125_21, e125_22, e125_25, e125_26, e125_27, e125_28, e125_30, e125_33, e125_36, e125_37, e125_38, e125_39, e125_42, e125_43, e125_44, e125_47, e125_48, e125_49, e125_52, z0, v76, c1, z_bd_i, z_bd_l, z_bd_v, List.cons_append, List.nil_append, z_nk_i, z_nk_r, z_nk_n, v0, v1, v3, v19, v61, v71, v76, show ((1 : Int32) = 0) = False from by decide, show ((0 : Int32) = 0) = True from by decide, if_true, if_false, z_b_ok0]
  | inr q =>
    obtain ⟨x, s1⟩ := q
    rw [e1] at a1
    obtain ⟨τ, c1, c2, c3, c4⟩ := a1
    obtain ⟨m1, -, l1, u1⟩ := num_inr hs e1
    dsimp only at c2 c3 m1 l1 u1 ⊢
    have fA : z_sf Qm σ (z_ui τ 79 0 (nI x)) := (c4.mono Qm_n).tr (sf_ui (fun h => h.1 rfl))
    have hT2 : TM_at (z_ui τ 79 0 (nI x)) n txt := TM_sf hT fA ⟨by unfold Qm; omega, fun k => by unfold Qm; omega⟩
    have b2 : (z_ui τ 79 0 (nI x)).1 76 14 = nI s1 := (z_ui_ne (by omega)).trans c2
    have a2 := q123 hT2 u1 b2 (P 1)
    cases e2 : numF n txt L 110 1 s1 with
    | inl f =>
      rw [e2] at a2
      obtain ⟨υ, d1, d2, d3⟩ := a2
      refine ⟨υ, ?_, d2, fA.tr (d3.mono Qm_n)⟩
      simp only [en125, e125_0, e125_1, e125_4, e125_5, e125_6, e125_8, e125_11, e125_14, e125_15, e125_16, e125_17, e125_20, e125_21, e125_22, e125_25, e125_26, e125_27, e125_28, e125_30, e125_33, e125_36, e125_37, e125_38, e125_39, e125_42, e125_43, e125_44, e125_47, e125_48, e125_49, e125_52, z0, v76, c1, z_bd_i, z_bd_l, z_bd_v, List.cons_append, List.nil_append, z_nk_i, z_nk_r, z_nk_n, v0, v1, v3, v19, v61, v71, v76, show ((1 : Int32) = 0) = False from by decide, show ((0 : Int32) = 0) = True from by decide, if_true, if_false, g76_3, g76_17, c3, j79_0, d1, z_b_ok0]
    | inr q2 =>
      obtain ⟨y, s2⟩ := q2
      rw [e2] at a2
      obtain ⟨υ, d1, d2, d3, d4⟩ := a2
      obtain ⟨m2, -, l2, u2⟩ := num_inr u1 e2
      dsimp only at d2 d3 m2 l2 u2 ⊢
      rw [if_neg (by decide)]
      have fB : z_sf Qm σ (z_ui υ 79 1 (nI y)) := fA.tr ((d4.mono Qm_n).tr (sf_ui (fun h => h.1 rfl)))
      have hT3 : TM_at (z_ui υ 79 1 (nI y)) n txt := TM_sf hT fB ⟨by unfold Qm; omega, fun k => by unfold Qm; omega⟩
      have b3 : (z_ui υ 79 1 (nI y)).1 76 14 = nI s2 := (z_ui_ne (by omega)).trans d2
      have a3 := q124 (L := L) (S := S) (sg := 110) (x := x) (y := y) (z := 0) hT3 u2 b3
      cases e3 : finF n txt L S 110 s2 x y 0 with
      | inl f =>
        rw [e3] at a3
        obtain ⟨ω, g1, g2, g3⟩ := a3
        refine ⟨ω, ?_, g2, fB.tr (g3.mono Qm_n)⟩
        simp only [en125, e125_0, e125_1, e125_4, e125_5, e125_6, e125_8, e125_11, e125_14, e125_15, e125_16, e125_17, e125_20, e125_21, e125_22, e125_25, e125_26, e125_27, e125_28, e125_30, e125_33, e125_36, e125_37, e125_38, e125_39, e125_42, e125_43, e125_44, e125_47, e125_48, e125_49, e125_52, z0, v76, c1, z_bd_i, z_bd_l, z_bd_v, List.cons_append, List.nil_append, z_nk_i, z_nk_r, z_nk_n, v0, v1, v3, v19, v61, v71, v76, show ((1 : Int32) = 0) = False from by decide, show ((0 : Int32) = 0) = True from by decide, if_true, if_false, g76_3, g76_17, c3, j79_0, d1, d3, j79_1, g1, z_b_ok0]
      | inr q3 =>
        rw [e3] at a3
        obtain ⟨ω, g1, g2, g3, g4⟩ := a3
        refine ⟨ω, ?_, g2, ?_, ?_, fB.tr (g4.mono Qm_n)⟩
        · simp only [en125, e125_0, e125_1, e125_4, e125_5, e125_6, e125_8, e125_11, e125_14, e125_15, e125_16, e125_17, e125_20, e125_21, e125_22, e125_25, e125_26, e125_27, e125_28, e125_30, e125_33, e125_36, e125_37, e125_38, e125_39, e125_42, e125_43, e125_44, e125_47, e125_48, e125_49, e125_52, z0, v76, c1, z_bd_i, z_bd_l, z_bd_v, List.cons_append, List.nil_append, z_nk_i, z_nk_r, z_nk_n, v0, v1, v3, v19, v61, v71, v76, show ((1 : Int32) = 0) = False from by decide, show ((0 : Int32) = 0) = True from by decide, if_true, if_false, g76_3, g76_17, c3, j79_0, d1, d3, j79_1, g1, z_b_ok1]
        · rw [g3]
          show D9_at ω (x, y, L.2.2)
          obtain ⟨k0, k1, k2, k3, k4⟩ := hD
          have n1 : ∀ j, j ≠ 0 → j ≠ 1 → ω.1 79 j = σ.1 79 j := fun j h0 h1 => by
            rw [(g4 79 j (by unfold Qn; omega)).1, z_ui_ne (by omega), (d4 79 j (by unfold Qn; omega)).1, z_ui_ne (by omega), (c4 79 j (by unfold Qn; omega)).1]
          refine ⟨?_, ?_, (n1 2 (by decide) (by decide)).trans k2, (n1 3 (by decide) (by decide)).trans k3, fun c hc => (n1 (4 + c) (by omega) (by omega)).trans (k4 c hc)⟩
          · rw [(g4 79 0 (by unfold Qn; omega)).1, z_ui_ne (by omega), (d4 79 0 (by unfold Qn; omega)).1, z_ui_eq]
          · rw [(g4 79 1 (by unfold Qn; omega)).1, z_ui_eq]
        · rw [g3]
          show R_at ω 80 0 L.2.2.2.2.2 (knS S 0)
          refine R_sf (Q := fun p _ => p = 80) hR (((c4.mono (fun p k h => by unfold Qn; omega)).tr (sf_ui (by omega))).tr (((d4.mono (fun p k h => by unfold Qn; omega)).tr (sf_ui (by omega))).tr (g4.mono (fun p k h => by unfold Qn; omega)))) (fun _ _ => rfl) hN
end MITEM
