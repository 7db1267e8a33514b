/-! the class's March: so many steps, copies, how far; Land.make -/
theorem z_ui_ne {σ : z_G} {a k p j : Nat} {x : Int32} (h : ¬ (p = a ∧ j = k)) : (z_ui σ a k x).1 p j = σ.1 p j := by simp only [z_ui, h, if_false]
theorem z_ui_eq {σ : z_G} {a k : Nat} {x : Int32} : (z_ui σ a k x).1 a k = x := by simp [z_ui]
theorem z_ui_L {σ : z_G} {a k p j : Nat} {x : Int32} : (z_ui σ a k x).2 p j = σ.2 p j := rfl
theorem z_ul_I {σ : z_G} {a k p j : Nat} {x : Int64} : (z_ul σ a k x).1 p j = σ.1 p j := rfl
theorem z_ul_ne {σ : z_G} {a k p j : Nat} {x : Int64} (h : ¬ (p = a ∧ j = k)) : (z_ul σ a k x).2 p j = σ.2 p j := by simp only [z_ul, h, if_false]
def S_0 : t_S := (fun _ => 0, fun _ => 0, fun _ => 9, 0, 0, 0)
def dsF (c d : Nat) : Nat := (c / 8 - d / 8) + (d / 8 - c / 8) + ((c % 8 - d % 8) + (d % 8 - c % 8))
def distF (S : t_S) (g : Nat) : Nat := if S.2.2.1 g = 9 then 0 else dsF (S.2.1 g) (S.1 (S.2.2.1 g))
theorem ds_ok : ∀ c, c < 64 → ∀ d, d < 64 → (if 0 ≤ nI (c / 8) - nI (d / 8) then nI (c / 8) - nI (d / 8) else 0 - (nI (c / 8) - nI (d / 8))) + (if 0 ≤ nI (c % 8) - nI (d % 8) then nI (c % 8) - nI (d % 8) else 0 - (nI (c % 8) - nI (d % 8))) = nI (dsF c d) := by decide +kernel
section COPY
variable {σ : z_G} {a : Nat} {L : t_L} {S : t_S}
theorem steps_ok (ok : L_ok L) (sk : S_ok S) : ∀ n, S_ok (stepsF L S n)
  | 0 => sk
  | n + 1 => step_ok ok (steps_ok ok sk n)
theorem l35 (hM : z_isM a) (hL : L_at σ (z_rf a 0) L) (hd : z_rf a 0 < a ∨ a + 4 ≤ z_rf a 0) (ok : L_ok L) (sk : S_ok S) {n : Nat} (hn : n ≤ 40) : ∀ d k, k + d = n →
    z_r [] 0 0 35 4 [some (.ref a), some (.int (nI n)), some (.int (nI (fallF L S k))), some (.int (nI k))] [] (z_enc (M_set σ a (stepsF L S k))) = some (some (.int (nI (fallF L S n))), z_enc (M_set σ a (stepsF L S n))) := by
  intro d
  induction d with
  | zero =>
    intro k hk
    have e : k = n := by omega
    subst e
    rw [e35_4]
    simp (disch := omega) only [e35_0, e35_1, e35_2, e35_3, e35_5, e35_6, e35_9, e35_10, e35_13, e35_14, e35_15, e35_16, e35_19, e35_22, e35_23, e35_24, e35_27, e35_30, e35_31, nI_ltI, Nat.lt_irrefl, if_false]
  | succ d ih =>
    intro k hk
    have hkn : k < n := by omega
    have hL2 := L_at_ne (S := stepsF L S k) (show a + 4 ≤ z_rf a 0 ∨ z_rf a 0 < a by omega) hL
    have hat := M_at_set σ a (stepsF L S k)
    have sk2 := steps_ok ok sk k
    have sk3 := steps_ok ok sk (k + 1)
    have hat3 := M_at_set σ a (stepsF L S (k + 1))
    have e := ih (k + 1) (by omega)
    rw [fallF] at e
    rw [e35_4]
    simp (disch := omega) only [e35_0, e35_1, e35_2, e35_3, e35_5, e35_6, e35_9, e35_10, e35_13, e35_14, e35_15, e35_16, e35_19, e35_22, e35_23, e35_24, e35_27, e35_30, e35_31, nI_ltI, hkn, if_true, vM hM, s36 hM hL2 hd hat ok sk2, z_bd_i, z_bd_l, z_bd_v, List.cons_append, List.nil_append, z_nk_i, z_nk_r, z_nk_n, M_set_set, gM_5 hM]
    rw [show stepF L (stepsF L S k) = stepsF L S (k + 1) from rfl]
    simp (disch := omega) only [e35_0, e35_1, e35_2, e35_3, e35_5, e35_6, e35_9, e35_10, e35_13, e35_14, e35_15, e35_16, e35_19, e35_22, e35_23, e35_24, e35_27, e35_30, e35_31, hat3.2.2.2.2.1, ones_ok _ sk3.2.2.2.2.1, z_bd_i, z_bd_l, z_bd_v, List.cons_append, List.nil_append, z_nk_i, z_nk_r, z_nk_n, nI_add, nI_1]
    exact e
theorem s35 (hM : z_isM a) (hL : L_at σ (z_rf a 0) L) (hd : z_rf a 0 < a ∨ a + 4 ≤ z_rf a 0) (h : M_at σ a S) (ok : L_ok L) (sk : S_ok S) {n : Nat} (hn : n ≤ 40) : z_call 35 [.ref a, .int (nI n)] (z_enc σ) = some (some (.int (nI (fallF L S n))), z_enc (M_set σ a (stepsF L S n))) := by
  have e := l35 hM hL hd ok sk hn n 0 (by omega)
  rw [show stepsF L S 0 = S from rfl, M_set_self h] at e
  simp only [en35, e35_0, e35_1, e35_2, e35_3]
  exact e
theorem s21 {b : Nat} (hM : z_isM a) (hB : z_isM b) (hab : M_ap a b) (h : M_at σ b S) : z_call 21 [.ref a, .ref b] (z_enc σ) = some (none, z_enc (M_set σ a S)) := by
  unfold M_ap at hab
  obtain ⟨a0, a1, a2, a3, a4, a5⟩ := h
  have t4 : (nI 4 < nI 4) = False := by decide
  have t0 : (nI 0 < nI 4) = True := by decide
  have t1 : (nI 1 < nI 4) = True := by decide
  have t2 : (nI 2 < nI 4) = True := by decide
  have t3 : (nI 3 < nI 4) = True := by decide
  simp (disch := omega) only [en21, e21_0, e21_1, e21_2, e21_3, e21_4, e21_7, e21_8, e21_11, e21_12, e21_13, e21_16, e21_17, e21_20, e21_23, e21_24, e21_27, e21_28, e21_29, e21_32, e21_33, e21_36, e21_39, e21_40, e21_43, e21_44, e21_45, e21_48, e21_49, e21_52, e21_55, e21_58, e21_61, e21_62, e21_63, e21_66, e21_69, e21_70, e21_71, e21_74, e21_77, e21_78, e21_79, e21_82, e21_85, gM_1 hM, gM_2 hM, gM_3 hM, gM_1 hB, gM_2 hB, gM_3 hB, s95 hB.2.2.1, s95 hB.2.2.2.1, s95 hB.2.2.2.2.1, s96 hM.2.2.1, s96 hM.2.2.2.1, s96 hM.2.2.2.2.1, z_bd_i, z_bd_l, z_bd_v, List.cons_append, List.nil_append, z_nk_i, z_nk_r, z_nk_n, l_0, l_4, nI_1, Nat.reduceAdd, t0, t1, t2, t3, t4, if_true, if_false, gM_4 hB, gM_5 hB, gM_6 hB, pM_4 hM, pM_5 hM, pM_6 hM, z_ui_ne, z_ui_L, z_ul_ne, z_ul_I, a0, a1, a2, a3, a4, a5]
  refine congrArg (fun τ => some (none, z_enc τ)) (M_set_ext ⟨fun k hk => ?_, fun k hk => ?_, fun k hk => ?_, ?_, ?_, ?_⟩ (fun p k hp => ?_) (fun p k hp => ?_))
  · have : k = 0 ∨ k = 1 ∨ k = 2 ∨ k = 3 := by omega
    rcases this with rfl | rfl | rfl | rfl <;> simp (disch := omega) only [z_ul_I, z_ui_ne, z_ui_eq]
  · have : k = 0 ∨ k = 1 ∨ k = 2 ∨ k = 3 := by omega
    rcases this with rfl | rfl | rfl | rfl <;> simp (disch := omega) only [z_ul_I, z_ui_ne, z_ui_eq]
  · have : k = 0 ∨ k = 1 ∨ k = 2 ∨ k = 3 := by omega
    rcases this with rfl | rfl | rfl | rfl <;> simp (disch := omega) only [z_ul_I, z_ui_ne, z_ui_eq]
  · simp (disch := omega) only [z_ul_I, z_ui_ne, z_ui_eq]
  · simp (disch := omega) only [z_ul_I, z_ui_ne, z_ui_eq]
  · simp [z_ul]
  · unfold M_in at hp
    simp (disch := omega) only [z_ul_I, z_ui_ne]
  · unfold M_inL at hp
    simp only [z_ul, hp, if_false, z_ui_L]
theorem s20 (hM : z_isM a) : z_call 20 [.ref a] (z_enc σ) = some (none, z_enc (M_set σ a S_0)) := by
  have t4 : (nI 4 < nI 4) = False := by decide
  have t0 : (nI 0 < nI 4) = True := by decide
  have t1 : (nI 1 < nI 4) = True := by decide
  have t2 : (nI 2 < nI 4) = True := by decide
  have t3 : (nI 3 < nI 4) = True := by decide
  simp (disch := omega) only [en20, e20_0, e20_1, e20_2, e20_3, e20_4, e20_7, e20_8, e20_11, e20_12, e20_13, e20_16, e20_17, e20_20, e20_21, e20_22, e20_25, e20_26, e20_29, e20_30, e20_32, e20_35, e20_38, e20_41, e20_42, e20_43, e20_46, e20_47, e20_48, e20_51, e20_52, e20_53, e20_56, gM_1 hM, gM_2 hM, gM_3 hM, s96 hM.2.2.1, s96 hM.2.2.2.1, s96 hM.2.2.2.2.1, z_bd_i, z_bd_l, z_bd_v, List.cons_append, List.nil_append, z_nk_i, z_nk_r, z_nk_n, l_0, l_4, nI_1, Nat.reduceAdd, t0, t1, t2, t3, t4, if_true, if_false, pM_4 hM, pM_5 hM, pM_6 hM]
  refine congrArg (fun τ => some (none, z_enc τ)) (M_set_ext ⟨fun k hk => ?_, fun k hk => ?_, fun k hk => ?_, ?_, ?_, ?_⟩ (fun p k hp => ?_) (fun p k hp => ?_))
  · have : k = 0 ∨ k = 1 ∨ k = 2 ∨ k = 3 := by omega
    rcases this with rfl | rfl | rfl | rfl <;> simp (disch := omega) only [z_ul_I, z_ui_ne, z_ui_eq] <;> rfl
  · have : k = 0 ∨ k = 1 ∨ k = 2 ∨ k = 3 := by omega
    rcases this with rfl | rfl | rfl | rfl <;> simp (disch := omega) only [z_ul_I, z_ui_ne, z_ui_eq] <;> rfl
  · have : k = 0 ∨ k = 1 ∨ k = 2 ∨ k = 3 := by omega
    rcases this with rfl | rfl | rfl | rfl <;> simp (disch := omega) only [z_ul_I, z_ui_ne, z_ui_eq] <;> rfl
  · simp (disch := omega) only [z_ul_I, z_ui_ne, z_ui_eq]
    rfl
  · simp (disch := omega) only [z_ul_I, z_ui_ne, z_ui_eq]
    rfl
  · simp [z_ul]
    rfl
  · unfold M_in at hp
    simp (disch := omega) only [z_ul_I, z_ui_ne]
  · unfold M_inL at hp
    simp only [z_ul, hp, if_false, z_ui_L]
theorem s31 (hM : z_isM a) (h : M_at σ a S) (sk : S_ok S) {g : Nat} (hg : g < 4) : z_call 31 [.ref a, .int (nI g)] (z_enc σ) = some (some (.int (nI (distF S g))), z_enc σ) := by
  have hm := sk.2.2.1 g hg
  have hc := sk.2.1 g hg
  have h9 : (nI (S.2.2.1 g) = 9) = (S.2.2.1 g = 9) := propext (nI_eq (by omega) (by decide))
  by_cases g9 : S.2.2.1 g = 9
  · simp only [en31, e31_0, e31_1, e31_2, e31_5, e31_6, e31_7, e31_9, e31_12, e31_13, e31_14, e31_15, e31_16, e31_19, e31_20, e31_21, e31_22, e31_25, e31_27, e31_28, e31_31, e31_33, e31_36, e31_37, e31_40, e31_41, e31_44, e31_46, e31_49, e31_50, e31_53, e31_54, vM hM, s24 hM h hg, z_bd_i, z_bd_l, z_bd_v, List.cons_append, List.nil_append, z_nk_i, z_nk_r, z_nk_n, h9, g9, if_true, distF]
    rfl
  · have hm4 : S.2.2.1 g < 4 := by omega
    have hd := sk.1 _ hm4
    have e1 : nI (tn (S.2.1 g)) / 10 = nI (S.2.1 g / 8) := t_div hc
    have e2 : nI (tn (S.2.1 g)) - nI (S.2.1 g / 8) * 10 = nI (S.2.1 g % 8) := t_mod hc
    have e3 : nI (tn (S.1 (S.2.2.1 g))) / 10 = nI (S.1 (S.2.2.1 g) / 8) := t_div hd
    have e4 : nI (tn (S.1 (S.2.2.1 g))) - nI (S.1 (S.2.2.1 g) / 8) * 10 = nI (S.1 (S.2.2.1 g) % 8) := t_mod hd
    simp only [en31, e31_0, e31_1, e31_2, e31_5, e31_6, e31_7, e31_9, e31_12, e31_13, e31_14, e31_15, e31_16, e31_19, e31_20, e31_21, e31_22, e31_25, e31_27, e31_28, e31_31, e31_33, e31_36, e31_37, e31_40, e31_41, e31_44, e31_46, e31_49, e31_50, e31_53, e31_54, vM hM, s24 hM h hg, s23 hM h hg, s22 hM h hm4, z_bd_i, z_bd_l, z_bd_v, List.cons_append, List.nil_append, z_nk_i, z_nk_r, z_nk_n, h9, g9, if_false, s93, s94, e1, e2, e3, e4, distF, ds_ok _ hc _ hd]
-- Land.make
def mkF (L : t_L) (c k : Nat) : t_L := if k = 0 then (L.1, L.2.1, L.2.2.1 ||| 2 ^ c, (if L.2.2.2.1.testBit c = true then L.2.2.2.1 - 2 ^ c else L.2.2.2.1), L.2.2.2.2) else (L.1, L.2.1, (if L.2.2.1.testBit c = true then L.2.2.1 - 2 ^ c else L.2.2.1), L.2.2.2.1 ||| 2 ^ c, L.2.2.2.2)
end COPY
