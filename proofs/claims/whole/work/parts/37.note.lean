/-! the reference: what is done -/
def B_at (σ : z_G) (N hc : Nat) (hist : Nat → t_S) : Prop := hc ≤ 10 ∧ σ.1 76 8 = nI hc ∧ ∀ j, j < hc → R_at σ 83 (16 * (hc - 1 - j)) N (hist j)
def Q83 (p k : Nat) : Prop := p ≠ 83 ∧ ¬ (p = 76 ∧ k = 8)
def Qdo (p k : Nat) : Prop := p ≠ 81 ∧ p ≠ 82 ∧ p ≠ 83 ∧ ¬ (p = 76 ∧ (k = 8 ∨ k = 19))
theorem B_sf {Q : Nat → Nat → Prop} {σ τ : z_G} {N hc : Nat} {hist : Nat → t_S} (h : B_at σ N hc hist) (hs : z_sf Q σ τ) (hQ : Q 76 8 ∧ ∀ k, Q 83 k) (hN : N ≤ 4) : B_at τ N hc hist := by
  obtain ⟨h1, h2, h3⟩ := h
  exact ⟨h1, ((hs _ _ hQ.1).1).trans h2, fun j hj => R_sf (h3 j hj) hs (fun k _ => hQ.2 _) hN⟩
theorem cp_out {σ : z_G} {p o q r n a i : Nat} (h : a ≠ p) : (cpF σ p o q r n).1 a i = σ.1 a i := by
  unfold cpF
  exact if_neg (fun e => h e.1)
/-- the rows of what can be undone, one down -/
def shF (σ : z_G) (n : Nat) : z_G := (fun a j => if a = 83 ∧ j < n then σ.1 83 (16 + j) else σ.1 a j, σ.2)
theorem sh_0 (σ : z_G) : shF σ 0 = σ := by
  unfold shF
  refine Prod.ext (funext fun a => funext fun j => ?_) rfl
  exact if_neg (by omega)
theorem sh_succ {σ : z_G} {n : Nat} : z_ui (shF σ n) 83 n ((shF σ n).1 83 (16 + n)) = shF σ (n + 1) := by
  unfold shF z_ui
  refine Prod.ext (funext fun a => funext fun k => ?_) rfl
  dsimp only
  rw [if_neg (show ¬ (83 = 83 ∧ 16 + n < n) by omega)]
  by_cases e : a = 83 ∧ k = n
  · rw [if_pos e, if_pos (by omega), e.2]
  · rw [if_neg e]
    by_cases g : a = 83 ∧ k < n
    · rw [if_pos g, if_pos (by omega)]
    · rw [if_neg g, if_neg (by omega)]
theorem R_sh {σ : z_G} {i N : Nat} {S : t_S} (h : R_at σ 83 (16 * (i + 1)) N S) (hi : i < 9) (hN : N ≤ 4) : R_at (shF σ 144) 83 (16 * i) N S := by
  have key : ∀ k, k < 16 → (shF σ 144).1 83 (16 * i + k) = σ.1 83 (16 * (i + 1) + k) := fun k hk => by
    unfold shF
    dsimp only
    rw [if_pos (by omega), show 16 + (16 * i + k) = 16 * (i + 1) + k by omega]
  obtain ⟨h1, h2, h3, h4, ⟨h5, h6⟩, h7⟩ := h
  refine ⟨fun k hk => ?_, fun k hk => ?_, ?_, ?_, ⟨?_, ?_⟩, fun k hk => ?_⟩
  · rw [key _ (by omega)]; exact h1 k hk
  · rw [Nat.add_assoc, key _ (by omega), ← Nat.add_assoc]; exact h2 k hk
  · rw [key _ (by omega)]; exact h3
  · rw [key _ (by omega)]; exact h4
  · rw [key _ (by omega)]; exact h5
  · rw [key _ (by omega)]; exact h6
  · rw [Nat.add_assoc, key _ (by omega), ← Nat.add_assoc]; exact h7 k hk
theorem sf_sh {Q : Nat → Nat → Prop} {σ : z_G} {n : Nat} (h : ∀ k, ¬ Q 83 k) : z_sf Q σ (shF σ n) := fun a k hp => ⟨by
  unfold shF
  exact if_neg (fun e => h k (by rw [e.1] at hp; exact hp)), rfl⟩
theorem i34 {x : Int32} : (¬ (3 : Int32) < x) = (x < 4) := by
  apply propext
  have h1 : ∀ a b : Int32, a < b ↔ a.toInt < b.toInt := fun a b => Int32.lt_iff_toInt_lt
  have e3 : (3 : Int32).toInt = 3 := rfl
  have e4 : (4 : Int32).toInt = 4 := rfl
  rw [h1, h1, e3, e4]
  omega
section NOTE
variable {σ : z_G} {L : t_L} {S : t_S} {N hc : Nat} {hist : Nat → t_S}
theorem l155a {K : Option z_O} : ∀ d k (l1 : Option Value), d + k = 144 → (∀ l1 : Option Value, z_r [] 0 0 155 39 [some (.ref 76), l1] [] (z_enc (shF σ 144)) = K) → z_r [] 0 0 155 11 [some (.ref 76), some (.int (nI k))] [] (z_enc (shF σ k)) = K := by
  intro d
  induction d with
  | zero =>
    intro k l1 hk hK
    obtain rfl : k = 144 := by omega
    have b1 : (nI 144 < 144) = False := by decide
    rw [e155_11]
    simp only [e155_0, e155_1, e155_4, e155_6, e155_9, e155_10, e155_12, e155_15, e155_18, e155_19, e155_22, e155_23, e155_24, e155_27, e155_29, e155_30, e155_31, e155_32, e155_33, e155_36, e155_40, e155_41, e155_44, e155_45, e155_46, e155_49, e155_50, e155_52, e155_54, e155_57, e155_58, e155_61, e155_63, e155_64, e155_67, e155_68, e155_69, e155_70, e155_71, e155_74, e155_75, e155_76, e155_77, e155_80, e155_83, e155_84, e155_85, e155_88, e155_89, e155_90, e155_93, b1, if_false]
    exact hK _
  | succ d ih =>
    intro k l1 hk hK
    have b1 : (nI k < 144) = True := eq_true (nI_lt (a := k) (b := 144) (by omega) (by decide))
    have e1 : (16 : Int32) + nI k = nI (16 + k) := by rw [show (16 : Int32) = nI 16 from rfl, nI_add]
    rw [e155_11]
    simp only [e155_0, e155_1, e155_4, e155_6, e155_9, e155_10, e155_12, e155_15, e155_18, e155_19, e155_22, e155_23, e155_24, e155_27, e155_29, e155_30, e155_31, e155_32, e155_33, e155_36, e155_40, e155_41, e155_44, e155_45, e155_46, e155_49, e155_50, e155_52, e155_54, e155_57, e155_58, e155_61, e155_63, e155_64, e155_67, e155_68, e155_69, e155_70, e155_71, e155_74, e155_75, e155_76, e155_77, e155_80, e155_83, e155_84, e155_85, e155_88, e155_89, e155_90, e155_93, b1, if_true, g76_7, e1, g_iln an83 (show 16 + k < 160 by omega) (by decide), g_isn an83 (show k < 160 by omega) (by decide), sh_succ, nI_1]
    exact ih (k + 1) l1 (by omega) hK
theorem l155b {u : Nat} (hu : u < 10) : ∀ d k (σ : z_G), d + k = 16 → σ.1 76 8 = nI u → z_r [] 0 0 155 51 [some (.ref 76), some (.int (nI k))] [] (z_enc (cpF σ 83 (16 * u) 81 0 k)) = some (none, z_enc (z_ui (cpF σ 83 (16 * u) 81 0 16) 76 8 (nI (u + 1)))) := by
  intro d
  induction d with
  | zero =>
    intro k σ hk h8
    obtain rfl : k = 16 := by omega
    have b1 : (nI 16 < 16) = False := by decide
    have e8 : (cpF σ 83 (16 * u) 81 0 16).1 76 8 = nI u := h8
    rw [e155_51]
    simp only [e155_0, e155_1, e155_4, e155_6, e155_9, e155_10, e155_12, e155_15, e155_18, e155_19, e155_22, e155_23, e155_24, e155_27, e155_29, e155_30, e155_31, e155_32, e155_33, e155_36, e155_39, e155_40, e155_41, e155_44, e155_45, e155_46, e155_49, e155_50, e155_52, e155_54, e155_57, e155_58, e155_61, e155_63, e155_64, e155_67, e155_68, e155_69, e155_70, e155_71, e155_74, e155_75, e155_76, e155_77, e155_80, e155_83, e155_84, e155_85, e155_88, e155_89, e155_90, e155_93, b1, if_false, g76_8, e8, p76_8, nI_1]
  | succ d ih =>
    intro k σ hk h8
    have b1 : (nI k < 16) = True := eq_true (nI_lt (a := k) (b := 16) (by omega) (by decide))
    have e8 : (cpF σ 83 (16 * u) 81 0 k).1 76 8 = nI u := (cp_out (by decide)).trans h8
    have e1 : (16 : Int32) * nI u + nI k = nI (16 * u + k) := by rw [show (16 : Int32) = nI 16 from rfl, pk_mul, nI_add]
    rw [e155_51]
    simp only [e155_0, e155_1, e155_4, e155_6, e155_9, e155_10, e155_12, e155_15, e155_18, e155_19, e155_22, e155_23, e155_24, e155_27, e155_29, e155_30, e155_31, e155_32, e155_33, e155_36, e155_39, e155_40, e155_41, e155_44, e155_45, e155_46, e155_49, e155_50, e155_52, e155_54, e155_57, e155_58, e155_61, e155_63, e155_64, e155_67, e155_68, e155_69, e155_70, e155_71, e155_74, e155_75, e155_76, e155_77, e155_80, e155_83, e155_84, e155_85, e155_88, e155_89, e155_90, e155_93, b1, if_true, g76_7, g76_8, e8, e1, g76_5, g_iln an81 (show k < 16 by omega) (by decide), g_isn an83 (show 16 * u + k < 160 by omega) (by decide), cp_succ (show (81 : Nat) ≠ 83 by decide) (show 16 * u + k = 16 * u + k from rfl) (show k = 0 + k by omega), nI_1]
    exact ih (k + 1) σ (by omega) h8
theorem s155 (hB : B_at σ N hc hist) (hR : R_at σ 81 0 N S) (hN : N ≤ 4) : ∃ τ, z_call 155 [.ref 76] (z_enc σ) = some (none, z_enc τ) ∧ B_at τ N (pushN hc) (pushH S hist) ∧ z_sf Q83 σ τ := by
  obtain ⟨h1, h2, h3⟩ := hB
  have e10 : (nI hc = 10) = (hc = 10) := propext (nI_eq (b := 10) (by omega) (by decide))
  by_cases q : hc = 10
  · have hR2 : R_at (z_ui (shF σ 144) 76 8 (nI 9)) 81 0 N S := R_sf (Q := fun p _ => p ≠ 83 ∧ p ≠ 76) hR (z_sf.tr (sf_sh (fun k => by simp)) (sf_ui (by simp))) (fun k _ => by decide) hN
    refine ⟨z_ui (cpF (z_ui (shF σ 144) 76 8 (nI 9)) 83 (16 * 9) 81 0 16) 76 8 (nI (9 + 1)), ?_, ?_, ?_⟩
    · have e := l155b (u := 9) (by decide) 16 0 (z_ui (shF σ 144) 76 8 (nI 9)) rfl z_ui_eq
      rw [cp_0] at e
      have e2 := l155a (σ := σ) 144 0 none rfl (K := some (none, z_enc (z_ui (cpF (z_ui (shF σ 144) 76 8 (nI 9)) 83 (16 * 9) 81 0 16) 76 8 (nI (9 + 1))))) (fun l1 => by
        have e8 : (shF σ 144).1 76 8 = nI 10 := by rw [q] at h2; exact h2
        have m1 : nI 10 - 1 = nI 9 := by decide
        simp only [e155_0, e155_1, e155_4, e155_6, e155_9, e155_10, e155_12, e155_15, e155_18, e155_19, e155_22, e155_23, e155_24, e155_27, e155_29, e155_30, e155_31, e155_32, e155_33, e155_36, e155_39, e155_40, e155_41, e155_44, e155_45, e155_46, e155_49, e155_50, e155_52, e155_54, e155_57, e155_58, e155_61, e155_63, e155_64, e155_67, e155_68, e155_69, e155_70, e155_71, e155_74, e155_75, e155_76, e155_77, e155_80, e155_83, e155_84, e155_85, e155_88, e155_89, e155_90, e155_93, g76_8, e8, p76_8, m1]
        exact e)
      rw [sh_0] at e2
      simp only [en155, e155_0, e155_1, e155_4, e155_6, e155_9, e155_10, e155_12, e155_15, e155_18, e155_19, e155_22, e155_23, e155_24, e155_27, e155_29, e155_30, e155_31, e155_32, e155_33, e155_36, e155_40, e155_41, e155_44, e155_45, e155_46, e155_49, e155_50, e155_52, e155_54, e155_57, e155_58, e155_61, e155_63, e155_64, e155_67, e155_68, e155_69, e155_70, e155_71, e155_74, e155_75, e155_76, e155_77, e155_80, e155_83, e155_84, e155_85, e155_88, e155_89, e155_90, e155_93, g76_8, h2, e10, eq_true q, not_true, if_false]
      exact e2
    · subst q
      refine ⟨by decide, z_ui_eq, fun j hj => ?_⟩
      have hj10 : j < 10 := hj
      refine R_sf (Q := fun p _ => p ≠ 76) ?_ (sf_ui (fun q => q rfl)) (fun k _ => by decide) hN
      by_cases e : j = 0
      · subst e
        exact R_cp hR2 hN
      · have hh : pushH S hist j = hist (j - 1) := if_neg e
        rw [hh]
        have hr := h3 (j - 1) (by omega)
        rw [show 10 - 1 - (j - 1) = (9 - j) + 1 by omega] at hr
        have hr2 := R_sh hr (by omega) hN
        refine R_sf (Q := fun p k => ¬ (p = 83 ∧ 144 ≤ k) ∧ p ≠ 76) hr2 ?_ (fun k hk => ?_) hN
        · exact z_sf.tr (sf_ui (by simp)) (sf_cp (fun i h1 h2 => by simp; omega))
        · show ¬ (83 = 83 ∧ 144 ≤ 16 * (9 - j) + k) ∧ 83 ≠ 76
          omega
    · exact z_sf.tr (sf_sh (fun k q => q.1 rfl)) (z_sf.tr (sf_ui (fun q => q.2 ⟨rfl, rfl⟩)) (z_sf.tr (sf_cp (fun k _ _ q => q.1 rfl)) (sf_ui (fun q => q.2 ⟨rfl, rfl⟩))))
  · have hp : pushN hc = hc + 1 := if_neg q
    rw [hp]
    refine ⟨z_ui (cpF σ 83 (16 * hc) 81 0 16) 76 8 (nI (hc + 1)), ?_, ⟨by omega, z_ui_eq, fun j hj => ?_⟩, z_sf.tr (sf_cp (fun k _ _ q => q.1 rfl)) (sf_ui (fun q => q.2 ⟨rfl, rfl⟩))⟩
    · have e := l155b (u := hc) (by omega) 16 0 σ rfl h2
      rw [cp_0] at e
      simp only [en155, e155_0, e155_1, e155_4, e155_6, e155_9, e155_10, e155_12, e155_15, e155_18, e155_19, e155_22, e155_23, e155_24, e155_27, e155_29, e155_30, e155_31, e155_32, e155_33, e155_36, e155_39, e155_40, e155_41, e155_44, e155_45, e155_46, e155_49, e155_50, e155_52, e155_54, e155_57, e155_58, e155_61, e155_63, e155_64, e155_67, e155_68, e155_69, e155_70, e155_71, e155_74, e155_75, e155_76, e155_77, e155_80, e155_83, e155_84, e155_85, e155_88, e155_89, e155_90, e155_93, g76_8, h2, e10, eq_false q, not_false_iff, if_true]
      exact e
    · refine R_sf (Q := fun p _ => p ≠ 76) ?_ (sf_ui (fun q => q rfl)) (fun k _ => by decide) hN
      by_cases e : j = 0
      · subst e
        exact R_cp hR hN
      · have hh : pushH S hist j = hist (j - 1) := if_neg e
        rw [hh]
        have hr := h3 (j - 1) (by omega)
        rw [show hc - 1 - (j - 1) = hc + 1 - 1 - j by omega] at hr
        refine R_sf (Q := fun p k => ¬ (p = 83 ∧ 16 * hc ≤ k)) hr (sf_cp (fun i h1 h2 => by simp; omega)) (fun k hk => ?_) hN
        show ¬ (83 = 83 ∧ 16 * hc ≤ 16 * (hc + 1 - 1 - j) + k)
        omega
end NOTE
