/-! the class's History, Images, Watches -/
theorem g_al20 (σ : z_G) {k : Nat} (hk : k < 10) (K : Value → Option z_O) : z_al1 (z_enc σ) 20 (nI k) K = K (.ref (21 + 4 * k)) := by
  have h : (z_enc σ)[20]? = some (.inr (.inr [some 21, some 25, some 29, some 33, some 37, some 41, some 45, some 49, some 53, some 57])) := by
    rw [z_enc_at]
    rfl
  have h3 : ∀ k, k < 10 → [some 21, some 25, some 29, some 33, some 37, some 41, some 45, some 49, some 53, some 57].getD k none = some (21 + 4 * k) := by decide
  simp only [z_al1, h, show z_in (nI k) [some 21, some 25, some 29, some 33, some 37, some 41, some 45, some 49, some 53, some 57].length = true from z_in_nI hk (by decide), if_true, nI_clamp (show k < 2 ^ 31 by omega), h3 k hk]
theorem g_ln20 (σ : z_G) (K : Int32 → Option z_O) : z_ln (z_enc σ) 20 K = K (nI 10) := by
  have h : (z_enc σ)[20]? = some (.inr (.inr [some 21, some 25, some 29, some 33, some 37, some 41, some 45, some 49, some 53, some 57])) := by
    rw [z_enc_at]
    rfl
  simp only [z_ln, h]
  rfl
theorem g_al62 (σ : z_G) {k : Nat} (hk : k < 2) (K : Value → Option z_O) : z_al1 (z_enc σ) 62 (nI k) K = K (.ref (63 + 4 * k)) := by
  have h : (z_enc σ)[62]? = some (.inr (.inr [some 63, some 67])) := by
    rw [z_enc_at]
    rfl
  have h3 : ∀ k, k < 2 → [some 63, some 67].getD k none = some (63 + 4 * k) := by decide
  simp only [z_al1, h, show z_in (nI k) [some 63, some 67].length = true from z_in_nI hk (by decide), if_true, nI_clamp (show k < 2 ^ 31 by omega), h3 k hk]
theorem g_ln62 (σ : z_G) (K : Int32 → Option z_O) : z_ln (z_enc σ) 62 K = K (nI 2) := by
  have h : (z_enc σ)[62]? = some (.inr (.inr [some 63, some 67])) := by
    rw [z_enc_at]
    rfl
  simp only [z_ln, h]
  rfl
theorem isM_h : ∀ k, k < 10 → z_isM (21 + 4 * k)
  | 0, _ => isM_21
  | 1, _ => isM_25
  | 2, _ => isM_29
  | 3, _ => isM_33
  | 4, _ => isM_37
  | 5, _ => isM_41
  | 6, _ => isM_45
  | 7, _ => isM_49
  | 8, _ => isM_53
  | 9, _ => isM_57
  | n + 10, h => absurd h (by omega)
theorem isM_i : ∀ k, k < 2 → z_isM (63 + 4 * k)
  | 0, _ => isM_63
  | 1, _ => isM_67
  | n + 2, h => absurd h (by omega)
def H_at (σ : z_G) (nx hc : Nat) (hist : Nat → t_S) : Prop := nx < 10 ∧ hc ≤ 10 ∧ σ.1 19 1 = nI nx ∧ σ.1 19 2 = nI hc ∧ ∀ j, j < hc → M_at σ (21 + 4 * ((nx + 9 - j) % 10)) (hist j)
def pushH (S : t_S) (hist : Nat → t_S) : Nat → t_S := fun j => if j = 0 then S else hist (j - 1)
/-- what of memory a march or a field changes -/
theorem M_at_ui {σ : z_G} {a b k : Nat} {x : Int32} {S : t_S} (h : M_at σ a S) (hb : b < a ∨ a + 4 ≤ b) : M_at (z_ui σ b k x) a S := by
  obtain ⟨a0, a1, a2, a3, a4, a5⟩ := h
  refine ⟨fun j hj => ?_, fun j hj => ?_, fun j hj => ?_, ?_, ?_, ?_⟩
  · rw [z_ui_ne (by omega)]; exact a0 j hj
  · rw [z_ui_ne (by omega)]; exact a1 j hj
  · rw [z_ui_ne (by omega)]; exact a2 j hj
  · rw [z_ui_ne (by omega)]; exact a3
  · rw [z_ui_ne (by omega)]; exact a4
  · exact a5
/-- two memories alike at some places -/
def z_sm (P : Nat → Prop) (σ τ : z_G) : Prop := ∀ p, P p → ∀ k, τ.1 p k = σ.1 p k ∧ τ.2 p k = σ.2 p k
theorem z_sm.rf {P : Nat → Prop} {σ : z_G} : z_sm P σ σ := fun _ _ _ => ⟨rfl, rfl⟩
theorem z_sm.tr {P : Nat → Prop} {σ τ υ : z_G} (h1 : z_sm P σ τ) (h2 : z_sm P τ υ) : z_sm P σ υ := fun p hp k => ⟨(h2 p hp k).1.trans (h1 p hp k).1, (h2 p hp k).2.trans (h1 p hp k).2⟩
theorem z_sm.mono {P P2 : Nat → Prop} {σ τ : z_G} (h : z_sm P σ τ) (hp : ∀ p, P2 p → P p) : z_sm P2 σ τ := fun p h2 k => h p (hp p h2) k
theorem sm_M {P : Nat → Prop} {σ : z_G} {a : Nat} {S : t_S} (h : ∀ p, P p → p < a ∨ a + 4 ≤ p) : z_sm P σ (M_set σ a S) := fun p hp k => ⟨M_set_out (by have := h p hp; unfold M_in; omega), M_set_outL (by have := h p hp; unfold M_inL; omega)⟩
theorem sm_ui {P : Nat → Prop} {σ : z_G} {a j : Nat} {x : Int32} (h : ∀ p, P p → p ≠ a) : z_sm P σ (z_ui σ a j x) := fun p hp k => ⟨z_ui_ne (fun q => h p hp q.1), rfl⟩
theorem sm_ul {P : Nat → Prop} {σ : z_G} {a j : Nat} {x : Int64} (h : ∀ p, P p → p ≠ a) : z_sm P σ (z_ul σ a j x) := fun p hp k => ⟨rfl, z_ul_ne (fun q => h p hp q.1)⟩
theorem sm_L {P : Nat → Prop} {σ : z_G} {a : Nat} {L : t_L} (h : ∀ p, P p → p ≠ a) : z_sm P σ (L_set σ a L) := fun p hp k => by
  have := h p hp
  unfold L_set
  simp [this]
theorem M_at_sm {P : Nat → Prop} {σ τ : z_G} {a : Nat} {S : t_S} (h : M_at σ a S) (hs : z_sm P σ τ) (hp : P a ∧ P (a + 1) ∧ P (a + 2) ∧ P (a + 3)) : M_at τ a S := by
  obtain ⟨a0, a1, a2, a3, a4, a5⟩ := h
  obtain ⟨p0, p1, p2, p3⟩ := hp
  exact ⟨fun j hj => ((hs _ p1 j).1).trans (a0 j hj), fun j hj => ((hs _ p2 j).1).trans (a1 j hj), fun j hj => ((hs _ p3 j).1).trans (a2 j hj), ((hs _ p0 _).1).trans a3, ((hs _ p0 _).1).trans a4, ((hs _ p0 _).2).trans a5⟩
theorem L_at_sm {P : Nat → Prop} {σ τ : z_G} {a : Nat} {L : t_L} (h : L_at σ a L) (hs : z_sm P σ τ) (hp : P a) : L_at τ a L := by
  obtain ⟨a0, a1, a2, a3, a4, a5⟩ := h
  exact ⟨((hs _ hp _).1).trans a0, ((hs _ hp _).1).trans a1, ((hs _ hp _).2).trans a2, ((hs _ hp _).2).trans a3, ((hs _ hp _).1).trans a4, ((hs _ hp _).1).trans a5⟩
theorem nz {a : Nat} (h : a < 2147483648) (h0 : ¬ a = 0) : ¬ nI a = 0 := fun e => h0 ((nI_eq h (by decide)).mp e)
section HIST
variable {σ : z_G} {S : t_S} {nx hc : Nat} {hist : Nat → t_S}
theorem s3 (hH : H_at σ nx hc hist) (h : M_at σ 11 S) : ∃ τ nx2, z_call 3 [.ref 19, .ref 11] (z_enc σ) = some (none, z_enc τ) ∧ H_at τ nx2 (if hc = 10 then 10 else hc + 1) (pushH S hist) ∧ z_sm (fun p => p < 19 ∨ 61 ≤ p) σ τ := by
  obtain ⟨h1, h2, h3, h4, h5⟩ := hH
  have hM := isM_h nx h1
  have t1 : (nI nx < 0) = False := eq_false (nI_pos (by omega))
  have t2 : (nI nx < nI 10) = True := eq_true (nI_lt h1 (by decide))
  have t3 : (nI nx = 9) = (nx = 9) := propext (nI_eq (by omega) (by decide))
  have e1 : ∀ S, (M_set σ (21 + 4 * nx) S).1 19 1 = nI nx := fun S => (M_set_out (by unfold M_in; omega)).trans h3
  have e2 : ∀ S, (M_set σ (21 + 4 * nx) S).1 19 2 = nI hc := fun S => (M_set_out (by unfold M_in; omega)).trans h4
  have t4 : (if nI 10 < nI hc + 1 then nI 10 else nI hc + 1) = nI (if hc = 10 then 10 else hc + 1) := by
    rw [nI_1]
    by_cases q : hc = 10
    · subst q; decide
    · rw [if_neg (nI_nlt (by omega) (by decide)), if_neg q]
  have l10 : (10 : Int32) = nI 10 := rfl
  have fin : ∀ nx2, nx2 < 10 → (nx2 + 9) % 10 = nx → H_at (z_ui (z_ui (M_set σ (21 + 4 * nx) S) 19 1 (nI nx2)) 19 2 (nI (if hc = 10 then 10 else hc + 1))) nx2 (if hc = 10 then 10 else hc + 1) (pushH S hist) := by
    intro nx2 q1 q2
    refine ⟨q1, by split <;> omega, by rw [z_ui_ne (by omega), z_ui_eq], by rw [z_ui_eq], fun j hj => ?_⟩
    refine M_at_ui (M_at_ui ?_ (by omega)) (by omega)
    unfold pushH
    by_cases hj0 : j = 0
    · subst hj0
      rw [if_pos rfl, Nat.sub_zero, q2]
      exact M_at_set _ _ _
    · rw [if_neg hj0]
      have hj9 : j < 10 := by split at hj <;> omega
      have e3 : (nx2 + 9 - j) % 10 = (nx + 9 - (j - 1)) % 10 := by omega
      rw [e3]
      refine M_at_ne ?_ (h5 (j - 1) (by split at hj <;> omega))
      unfold M_ap
      have : (nx + 9 - (j - 1)) % 10 ≠ nx := by omega
      omega
  by_cases q : nx = 9
  · refine ⟨_, 0, ?_, fin 0 (by decide) (by omega), (sm_M (by omega)).tr ((sm_ui (by omega)).tr (sm_ui (by omega)))⟩
    simp only [en3, e3_0, e3_1, e3_4, e3_7, e3_8, e3_11, e3_12, e3_15, e3_16, e3_19, e3_20, e3_21, e3_24, e3_25, e3_28, e3_29, e3_30, e3_33, e3_34, e3_35, e3_38, e3_40, e3_43, e3_44, e3_47, e3_48, e3_51, e3_52, e3_53, e3_56, e3_57, e3_58, e3_61, e3_62, e3_63, e3_65, e3_68, e3_71, g19_1, h3, t1, if_false, g19_0, g_ln20, t2, if_true, g_al20 σ h1, vM hM, s21 hM isM_11 (show M_ap (21 + 4 * nx) 11 by unfold M_ap; omega) h, z_bd_i, z_bd_l, z_bd_v, List.cons_append, List.nil_append, z_nk_i, z_nk_r, z_nk_n, e1, eq_true (t3.mpr q), p19_1, g19_2, p19_2]
    rw [z_ui_ne (by omega), e2, l10, t4]
    rfl
  · refine ⟨_, nx + 1, ?_, fin (nx + 1) (by omega) (by omega), (sm_M (by omega)).tr ((sm_ui (by omega)).tr (sm_ui (by omega)))⟩
    simp only [en3, e3_0, e3_1, e3_4, e3_7, e3_8, e3_11, e3_12, e3_15, e3_16, e3_19, e3_20, e3_21, e3_24, e3_25, e3_28, e3_29, e3_30, e3_33, e3_34, e3_35, e3_38, e3_40, e3_43, e3_44, e3_47, e3_48, e3_51, e3_52, e3_53, e3_56, e3_57, e3_58, e3_61, e3_62, e3_63, e3_65, e3_68, e3_71, g19_1, h3, t1, if_false, g19_0, g_ln20, t2, if_true, g_al20 σ h1, vM hM, s21 hM isM_11 (show M_ap (21 + 4 * nx) 11 by unfold M_ap; omega) h, z_bd_i, z_bd_l, z_bd_v, List.cons_append, List.nil_append, z_nk_i, z_nk_r, z_nk_n, e1, eq_false (fun z => q (t3.mp z)), p19_1, g19_2, p19_2]
    rw [z_ui_ne (by omega), e2, l10, t4, nI_1]
theorem s4 (hH : H_at σ nx hc hist) : ∃ τ nx2, z_call 4 [.ref 19, .ref 11] (z_enc σ) = some (some (.int (z_b (¬ hc = 0))), z_enc τ) ∧ H_at τ nx2 (hc - 1) (fun j => hist (j + 1)) ∧ (0 < hc → M_at τ 11 (hist 0)) ∧ z_sm (fun p => p < 11 ∨ (15 ≤ p ∧ p < 19) ∨ 61 ≤ p) σ τ ∧ (hc = 0 → τ = σ) := by
  obtain ⟨h1, h2, h3, h4, h5⟩ := hH
  have z9 : (0 : Int32) = nI 0 := rfl
  have l9 : (9 : Int32) = nI 9 := rfl
  by_cases hc0 : hc = 0
  · subst hc0
    have t0 : (nI 0 = 0) = True := eq_true rfl
    refine ⟨σ, nx, ?_, ⟨h1, by omega, h3, h4, fun j hj => absurd hj (by omega)⟩, fun q => absurd q (by omega), z_sm.rf, fun _ => rfl⟩
    by_cases q : nx = 0
    · have tq : (nI nx = 0) = True := eq_true (by rw [q]; rfl)
      simp only [en4, e4_0, e4_1, e4_4, e4_7, e4_9, e4_12, e4_13, e4_16, e4_17, e4_18, e4_19, e4_20, e4_23, e4_26, e4_27, e4_30, e4_31, e4_32, e4_35, e4_36, e4_39, e4_40, e4_41, e4_42, e4_43, e4_46, e4_47, e4_48, e4_51, e4_52, e4_53, e4_56, e4_57, e4_58, e4_61, e4_62, e4_63, e4_66, e4_67, g19_1, h3, tq, if_true, g19_2, h4, t0, z_b_ok0]
      rfl
    · have tq : (nI nx = 0) = False := eq_false (nz (by omega) q)
      simp only [en4, e4_0, e4_1, e4_4, e4_7, e4_9, e4_12, e4_13, e4_16, e4_17, e4_18, e4_19, e4_20, e4_23, e4_26, e4_27, e4_30, e4_31, e4_32, e4_35, e4_36, e4_39, e4_40, e4_41, e4_42, e4_43, e4_46, e4_47, e4_48, e4_51, e4_52, e4_53, e4_56, e4_57, e4_58, e4_61, e4_62, e4_63, e4_66, e4_67, g19_1, h3, tq, if_false, g19_2, h4, t0, if_true, z_b_ok0]
      rfl
  · have hp : ∃ pv, pv < 10 ∧ pv = (nx + 9) % 10 ∧ (if nI nx = 0 then (9 : Int32) else nI nx - 1) = nI pv := by
      by_cases q : nx = 0
      · refine ⟨9, by decide, by omega, ?_⟩
        rw [if_pos (by rw [q]; rfl)]
        rfl
      · refine ⟨nx - 1, by omega, by omega, ?_⟩
        rw [if_neg (nz (by omega) q), show (1 : Int32) = nI 1 from rfl, pk_sub (by omega)]
    obtain ⟨pv, q1, q2, q3⟩ := hp
    have hM := isM_h pv q1
    have hat : M_at σ (21 + 4 * pv) (hist 0) := by
      have := h5 0 (by omega)
      rw [Nat.sub_zero, ← q2] at this
      exact this
    have tc : (nI hc = 0) = False := eq_false (nz (by omega) hc0)
    have t1 : (nI pv < 0) = False := eq_false (nI_pos (by omega))
    have t2 : (nI pv < nI 10) = True := eq_true (nI_lt q1 (by decide))
    have hm1 : nI hc - 1 = nI (hc - 1) := by rw [show (1 : Int32) = nI 1 from rfl, pk_sub (by omega)]
    have zb1 : z_b (¬ hc = 0) = 1 := by unfold z_b; rw [if_pos hc0]
    have e2 : ∀ x, (z_ui (M_set σ 11 (hist 0)) 19 1 x).1 19 2 = nI hc := fun x => (z_ui_ne (by omega)).trans ((M_set_out (by unfold M_in; omega)).trans h4)
    refine ⟨z_ui (z_ui (M_set σ 11 (hist 0)) 19 1 (nI pv)) 19 2 (nI (hc - 1)), pv, ?_, ⟨q1, by omega, by rw [z_ui_ne (by omega), z_ui_eq], by rw [z_ui_eq], fun j hj => ?_⟩, fun _ => M_at_ui (M_at_ui (M_at_set _ _ _) (by omega)) (by omega), (sm_M (by omega)).tr ((sm_ui (by omega)).tr (sm_ui (by omega))), fun e => absurd e hc0⟩
    · by_cases q : nx = 0
      · have tq : (nI nx = 0) = True := eq_true (by rw [q]; rfl)
        rw [if_pos (by rw [q]; rfl)] at q3
        simp only [en4, e4_0, e4_1, e4_4, e4_7, e4_9, e4_12, e4_13, e4_16, e4_17, e4_18, e4_19, e4_20, e4_23, e4_26, e4_27, e4_30, e4_31, e4_32, e4_35, e4_36, e4_39, e4_40, e4_41, e4_42, e4_43, e4_46, e4_47, e4_48, e4_51, e4_52, e4_53, e4_56, e4_57, e4_58, e4_61, e4_62, e4_63, e4_66, e4_67, g19_1, h3, tq, if_true, q3, g19_2, h4, tc, if_false, t1, g19_0, g_ln20, t2, g_al20 σ q1, vM isM_11, s21 isM_11 hM (show M_ap 11 (21 + 4 * pv) by unfold M_ap; omega) hat, z_bd_i, z_bd_l, z_bd_v, List.cons_append, List.nil_append, z_nk_i, z_nk_r, z_nk_n, p19_1, p19_2, e2]
        rw [if_pos (by decide), hm1, zb1]
      · have tq : (nI nx = 0) = False := eq_false (nz (by omega) q)
        rw [if_neg (nz (by omega) q)] at q3
        simp only [en4, e4_0, e4_1, e4_4, e4_7, e4_9, e4_12, e4_13, e4_16, e4_17, e4_18, e4_19, e4_20, e4_23, e4_26, e4_27, e4_30, e4_31, e4_32, e4_35, e4_36, e4_39, e4_40, e4_41, e4_42, e4_43, e4_46, e4_47, e4_48, e4_51, e4_52, e4_53, e4_56, e4_57, e4_58, e4_61, e4_62, e4_63, e4_66, e4_67, g19_1, h3, tq, if_false, q3, g19_2, h4, tc, t1, g19_0, g_ln20, t2, if_true, g_al20 σ q1, vM isM_11, s21 isM_11 hM (show M_ap 11 (21 + 4 * pv) by unfold M_ap; omega) hat, z_bd_i, z_bd_l, z_bd_v, List.cons_append, List.nil_append, z_nk_i, z_nk_r, z_nk_n, p19_1, p19_2, e2]
        rw [if_pos (by decide), hm1, zb1]
    · have e3 : (pv + 9 - j) % 10 = (nx + 9 - (j + 1)) % 10 := by omega
      rw [e3]
      refine M_at_ui (M_at_ui (M_at_ne ?_ (h5 (j + 1) (by omega))) (by omega)) (by omega)
      unfold M_ap
      omega
theorem s2 : z_call 2 [.ref 19] (z_enc σ) = some (none, z_enc (z_ui σ 19 2 0)) := by
  simp only [en2, e2_0, e2_1, e2_2, e2_5, p19_2]
-- Images
def I_at (σ : z_G) (kept : Nat) (img : Nat → t_S) : Prop := kept < 4 ∧ σ.1 61 1 = nI kept ∧ ∀ i, i < 2 → kept.testBit i = true → M_at σ (63 + 4 * i) (img i)
theorem s6 : z_call 6 [.ref 61] (z_enc σ) = some (none, z_enc (z_ui σ 61 1 0)) := by
  simp only [en6, e6_0, e6_1, e6_2, e6_5, p61_1]
theorem setb : ∀ k, k < 4 → ∀ i, i < 2 → k ||| 2 ^ i < 4 := by decide
theorem setb2 : ∀ k, k < 4 → ∀ i, i < 2 → ∀ j, j < 2 → (k ||| 2 ^ i).testBit j = true → j = i ∨ k.testBit j = true := by decide
theorem bit2 : ∀ d, d < 4 → ∀ g, g < 2 → nI d >>> (nI g &&& 31) &&& 1 = z_b (d.testBit g = true) := by decide +kernel
theorem s7 {kept i : Nat} {img : Nat → t_S} (hI : I_at σ kept img) (h : M_at σ 11 S) (hi : i < 2) : ∃ τ, z_call 7 [.ref 61, .int (nI i), .ref 11] (z_enc σ) = some (some (.int 1), z_enc τ) ∧ I_at τ (kept ||| 2 ^ i) (fun j => if j = i then S else img j) ∧ z_sm (fun p => p < 61 ∨ 71 ≤ p) σ τ := by
  obtain ⟨h1, h2, h3⟩ := hI
  have hM := isM_i i hi
  have t1 : (nI i < 0) = False := eq_false (nI_pos (by omega))
  have t2 : (nI i < nI 2) = True := eq_true (nI_lt hi (by decide))
  have e1 : (M_set σ (63 + 4 * i) S).1 61 1 = nI kept := (M_set_out (by unfold M_in; omega)).trans h2
  refine ⟨z_ui (M_set σ (63 + 4 * i) S) 61 1 (nI (kept ||| 2 ^ i)), ?_, ⟨setb _ h1 i hi, z_ui_eq, fun j hj hb => ?_⟩, (sm_M (by omega)).tr (sm_ui (by omega))⟩
  · simp only [en7, e7_0, e7_1, e7_4, e7_5, e7_6, e7_9, e7_10, e7_13, e7_14, e7_15, e7_16, e7_19, e7_20, e7_21, e7_22, e7_25, e7_26, e7_27, e7_30, e7_31, e7_32, e7_33, e7_34, e7_37, e7_38, t1, if_false, g61_0, g_ln62, t2, if_true, g_al62 σ hi, vM hM, s21 hM isM_11 (show M_ap (63 + 4 * i) 11 by unfold M_ap; omega) h, z_bd_i, z_bd_l, z_bd_v, List.cons_append, List.nil_append, z_nk_i, z_nk_r, z_nk_n, g61_1, e1, sh1 i (by omega), z_orI, p61_1, z_b_ok1]
  · refine M_at_ui ?_ (by omega)
    by_cases hji : j = i
    · subst hji
      dsimp only
      rw [if_pos rfl]
      exact M_at_set _ _ _
    · dsimp only
      rw [if_neg hji]
      rcases setb2 _ h1 i hi j hj hb with q | q
      · exact absurd q hji
      · exact M_at_ne (by unfold M_ap; omega) (h3 j hj q)
theorem s8 {kept i : Nat} {img : Nat → t_S} (hI : I_at σ kept img) (hi : i < 2) : z_call 8 [.ref 61, .int (nI i), .ref 11] (z_enc σ) = if kept.testBit i = true then some (some (.int 1), z_enc (M_set σ 11 (img i))) else some (some (.int 0), z_enc σ) := by
  obtain ⟨h1, h2, h3⟩ := hI
  have hM := isM_i i hi
  have t1 : (nI i < 0) = False := eq_false (nI_pos (by omega))
  have t2 : (nI i < nI 2) = True := eq_true (nI_lt hi (by decide))
  by_cases q : kept.testBit i = true
  · have hat := h3 i hi q
    simp only [en8, e8_0, e8_1, e8_4, e8_5, e8_6, e8_9, e8_10, e8_13, e8_14, e8_17, e8_18, e8_21, e8_24, e8_25, e8_26, e8_27, e8_28, e8_31, e8_32, e8_33, e8_36, e8_37, t1, if_false, g61_0, g_ln62, t2, if_true, g61_1, h2, s91, bit2 _ h1 i hi, z_bd_i, z_bd_l, z_bd_v, List.cons_append, List.nil_append, z_nk_i, z_nk_r, z_nk_n, z_b_0, q, not_true, g_al62 σ hi, vM isM_11, s21 isM_11 hM (show M_ap 11 (63 + 4 * i) by unfold M_ap; omega) hat, z_b_ok1]
  · simp only [en8, e8_0, e8_1, e8_4, e8_5, e8_6, e8_9, e8_10, e8_13, e8_14, e8_17, e8_18, e8_21, e8_24, e8_25, e8_26, e8_27, e8_28, e8_31, e8_32, e8_33, e8_36, e8_37, t1, if_false, g61_0, g_ln62, t2, if_true, g61_1, h2, s91, bit2 _ h1 i hi, z_bd_i, z_bd_l, z_bd_v, List.cons_append, List.nil_append, z_nk_i, z_nk_r, z_nk_n, z_b_0, q, Bool.false_eq_true, not_false_iff, z_b_ok0]
-- Watches
def W_at (σ : z_G) (wn : Nat) (w : Nat → Nat × Nat × Nat) : Prop := wn ≤ 6 ∧ σ.1 71 3 = nI wn ∧ ∀ k, k < wn → σ.1 72 k = nI (w k).1 ∧ σ.1 73 k = nI (w k).2.1 ∧ σ.1 74 k = nI (tn (w k).2.2) ∧ (w k).1 < 4 ∧ (w k).2.1 ≤ 20 ∧ (w k).2.2 < 64
theorem s55 : z_call 55 [.ref 71] (z_enc σ) = some (none, z_enc (z_ui σ 71 3 0)) := by
  simp only [en55, e55_0, e55_1, e55_2, e55_5, p71_3]
theorem an72 : z_an 72 = 6 := by decide +kernel
theorem an73 : z_an 73 = 6 := by decide +kernel
theorem an74 : z_an 74 = 6 := by decide +kernel
theorem s56 {wn g n c : Nat} {w : Nat → Nat × Nat × Nat} (hw : W_at σ wn w) (hg : g < 4) (hn : n ≤ 20) (hc : c < 64) : ∃ τ, z_call 56 [.ref 71, .int (nI g), .int (nI n), .int (nI (tn c))] (z_enc σ) = some (some (.int (z_b (wn < 6))), z_enc τ) ∧ W_at τ (if wn < 6 then wn + 1 else wn) (fun k => if k = wn then (g, n, c) else w k) ∧ z_sm (fun p => p < 71 ∨ 75 ≤ p) σ τ := by
  obtain ⟨h1, h2, h3⟩ := hw
  by_cases q : wn < 6
  · have t1 : (nI wn < 6) = True := eq_true (nI_lt q (by decide))
    refine ⟨z_ui (z_ui (z_ui (z_ui σ 72 wn (nI g)) 73 wn (nI n)) 74 wn (nI (tn c))) 71 3 (nI (wn + 1)), ?_, ?_, (sm_ui (by omega)).tr ((sm_ui (by omega)).tr ((sm_ui (by omega)).tr (sm_ui (by omega))))⟩
    · simp (disch := omega) only [en56, e56_0, e56_1, e56_4, e56_6, e56_9, e56_10, e56_11, e56_12, e56_15, e56_16, e56_19, e56_20, e56_23, e56_24, e56_27, e56_28, e56_31, e56_32, e56_35, e56_36, e56_39, e56_40, e56_43, e56_44, e56_47, e56_48, e56_49, e56_52, e56_53, e56_54, e56_57, e56_58, g71_3, h2, t1, if_true, g71_0, g71_1, g71_2, s96 an72, s96 an73, s96 an74, z_bd_i, z_bd_l, z_bd_v, List.cons_append, List.nil_append, z_nk_i, z_nk_r, z_nk_n, z_ui_ne, p71_3, nI_1, z_b_ok1, z_b, q]
    · rw [if_pos q]
      refine ⟨by omega, z_ui_eq, fun k hk => ?_⟩
      by_cases e : k = wn
      · subst e
        dsimp only
        rw [if_pos rfl]
        refine ⟨?_, ?_, ?_, hg, hn, hc⟩ <;> simp (disch := omega) only [z_ui_ne, z_ui_eq]
      · dsimp only
        rw [if_neg e]
        obtain ⟨a1, a2, a3, a4⟩ := h3 k (by omega)
        refine ⟨?_, ?_, ?_, a4⟩ <;> simp (disch := omega) only [z_ui_ne] <;> assumption
  · have t1 : (nI wn < 6) = False := eq_false (nI_nlt (a := wn) (b := 6) (by omega) (by omega))
    refine ⟨σ, ?_, ?_, z_sm.rf⟩
    · simp only [en56, e56_0, e56_1, e56_4, e56_6, e56_9, e56_10, e56_11, e56_12, e56_15, e56_16, e56_19, e56_20, e56_23, e56_24, e56_27, e56_28, e56_31, e56_32, e56_35, e56_36, e56_39, e56_40, e56_43, e56_44, e56_47, e56_48, e56_49, e56_52, e56_53, e56_54, e56_57, e56_58, g71_3, h2, t1, if_false, z_b_ok0, if_true, z_b, q]
    · rw [if_neg q]
      refine ⟨h1, h2, fun k hk => ?_⟩
      dsimp only
      rw [if_neg (by omega)]
      exact h3 k hk
def allowF (wn : Nat) (w : Nat → Nat × Nat × Nat) (g n c : Nat) : Bool := (List.range wn).all fun k => !(decide ((w k).1 = g) && decide ((w k).2.1 = n)) || decide ((w k).2.2 = c)
end HIST
