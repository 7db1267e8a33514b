/-! the reference: steps of all, and who fell -/
def felF (L : t_L) (S : t_S) : Nat → Nat
  | 0 => 0
  | k + 1 => felF L S k + fellF L (stpF L S k).1 k
/-- whoever is down is one of them -/
def DN (L : t_L) (S : t_S) : Prop := S.2.2.2.2.1 < 2 ^ L.2.2.2.2.2
theorem dn_c1 : ∀ d, d < 16 → ∀ k, k < 4 → ones4 (clrF d k % 2 ^ (k + 1)) = ones4 (d % 2 ^ k) := by decide +kernel
theorem dn_c2 : ∀ d, d < 16 → ∀ k, k < 4 → d.testBit k = false → ones4 (d % 2 ^ (k + 1)) = ones4 (d % 2 ^ k) := by decide +kernel
theorem dn_c3 : ∀ d, d < 16 → ∀ k, k < 4 → d.testBit k = false → ones4 ((d ||| 2 ^ k) % 2 ^ (k + 1)) = ones4 (d % 2 ^ k) + 1 := by decide +kernel
theorem dn_b1 : ∀ n, n < 5 → ∀ d, d < 2 ^ n → ∀ k, k < n → clrF d k < 2 ^ n ∧ d ||| 2 ^ k < 2 ^ n := by decide +kernel
section STEPS
variable {σ : z_G} {L : t_L} {S : t_S}
theorem goal_in {g d : Nat} (ok : L_ok L) (sk : S_ok S) (hg : g < 4) (h : goalF L S g = some d) : insF L d = true := by
  have hc := sk.2.1 g hg
  have hb : ∀ t e, besF L (S.2.1 g) t = some e → insF L e = true := fun t e q => (bes_lt hc ok q).2
  unfold goalF at h
  split at h
  · cases h
  · repeat' split at h
    all_goals first
      | (cases h; done)
      | exact hb _ _ h
theorem fel_1 (ok : L_ok L) (sk : S_ok S) {k : Nat} (hk : k < 4) : ones4 ((oneF L S k).1.2.2.2.2.1 % 2 ^ (k + 1)) = ones4 (S.2.2.2.2.1 % 2 ^ k) + fellF L S k := by
  have hd := sk.2.2.2.2.1
  unfold oneF fellF
  by_cases q : S.2.2.2.2.1.testBit k = true
  · rw [if_pos q, if_pos q]
    exact dn_c1 _ hd k hk
  · have qf : S.2.2.2.2.1.testBit k = false := by simpa using q
    rw [if_neg q, if_neg q]
    cases hg : goalF L S k with
    | none => exact dn_c2 _ hd k hk qf
    | some c =>
      have hi := goal_in ok sk hk hg
      simp only [entF, hi, true_and]
      by_cases q2 : foldF L c = true ∧ S.2.2.2.1.testBit k = false
      · rw [if_pos q2, if_pos q2]
        exact dn_c3 _ hd k hk qf
      · rw [if_neg q2, if_neg q2]
        exact dn_c2 _ hd k hk qf
theorem one_DN (ok : L_ok L) (h : DN L S) {k : Nat} (hk : k < L.2.2.2.2.2) : DN L (oneF L S k).1 := by
  have hb := dn_b1 _ (show L.2.2.2.2.2 < 5 by have := ok.2.2.2.2; omega) _ h k hk
  unfold DN oneF at *
  by_cases q : S.2.2.2.2.1.testBit k = true
  · rw [if_pos q]; exact hb.1
  · rw [if_neg q]
    cases goalF L S k with
    | none => exact h
    | some c =>
      dsimp only [entF]
      split
      · exact hb.2
      · exact h
theorem stp_DN (ok : L_ok L) (h : DN L S) : ∀ k, k ≤ L.2.2.2.2.2 → DN L (stpF L S k).1
  | 0, _ => h
  | k + 1, hk => one_DN ok (stp_DN ok h k (by omega)) (by omega)
theorem step_DN (ok : L_ok L) (h : DN L S) : DN L (stepF L S) := stp_DN ok h _ (Nat.le_refl _)
theorem steps_DN (ok : L_ok L) (h : DN L S) : ∀ n, DN L (stepsF L S n)
  | 0 => h
  | n + 1 => step_DN ok (steps_DN ok h n)
theorem fel_k (ok : L_ok L) (sk : S_ok S) : ∀ k, k ≤ 4 → ones4 ((stpF L S k).1.2.2.2.2.1 % 2 ^ k) = felF L S k
  | 0, _ => by simp [Nat.mod_one, felF]; rfl
  | k + 1, hk => by
    have h := fel_k ok sk k (by omega)
    have h2 := fel_1 ok (stp_ok ok sk k (by omega)).1 (show k < 4 by omega)
    rw [h] at h2
    exact h2
theorem fel_N (ok : L_ok L) (sk : S_ok S) (h : DN L S) : felF L S L.2.2.2.2.2 = ones4 (stepF L S).2.2.2.2.1 := by
  rw [← fel_k ok sk _ ok.2.2.2.2]
  have := step_DN ok h
  unfold DN stepF at *
  rw [Nat.mod_eq_of_lt this]
theorem l148 (ok : L_ok L) (sk : S_ok S) (f0 : Int32) : ∀ d k (σ : z_G), d + k = L.2.2.2.2.2 → D_at σ L → R_at σ 82 0 L.2.2.2.2.2 (stpF L S k).1 → σ.1 76 19 = f0 + nI (felF L S k) →
    ∃ τ, z_r [] 0 0 148 4 [some (.ref 76), some (.int (nI (stpF L S k).2)), some (.int (nI k))] [] (z_enc σ) = some (some (.int (nI (goneF L S))), z_enc τ) ∧ R_at τ 82 0 L.2.2.2.2.2 (stepF L S) ∧ τ.1 76 19 = f0 + nI (felF L S L.2.2.2.2.2) ∧ z_sf Q82 σ τ := by
  have h4 := ok.2.2.2.2
  intro d
  induction d with
  | zero =>
    intro k σ hk hD hR hf
    obtain rfl : k = L.2.2.2.2.2 := by omega
    have i3 : ∀ K : Int32 → Option z_O, z_il1 (z_enc σ) 78 3 K = K (σ.1 78 3) := fun K => g_iln (k := 3) an78 (by decide) (by decide)
    have b1 : (nI L.2.2.2.2.2 < nI L.2.2.2.2.2) = False := eq_false (nI_nlt (by omega) (by omega))
    refine ⟨σ, ?_, hR, hf, z_sf.rf⟩
    rw [e148_4]
    simp only [e148_0, e148_1, e148_2, e148_3, e148_5, e148_6, e148_9, e148_10, e148_11, e148_14, e148_15, e148_16, e148_17, e148_20, e148_23, e148_24, e148_27, e148_28, e148_29, e148_30, e148_33, e148_36, e148_37, g76_2, i3, hD.2.2.2.1, b1, if_false]
    rfl
  | succ d ih =>
    intro k σ hk hD hR hf
    have i3 : ∀ K : Int32 → Option z_O, z_il1 (z_enc σ) 78 3 K = K (σ.1 78 3) := fun K => g_iln (k := 3) an78 (by decide) (by decide)
    have hkN : k < L.2.2.2.2.2 := by omega
    have b1 : (nI k < nI L.2.2.2.2.2) = True := eq_true (nI_lt hkN (by omega))
    obtain ⟨τ, e1, e2, e3, e4⟩ := s147 hD hR ok (stp_ok ok sk k (by omega)).1 hkN
    obtain ⟨τ2, g1, g2, g3, g4⟩ := ih (k + 1) τ (by omega) (D_sf hD e4 (fun k => by unfold Q82; omega)) e2 (by rw [e3, hf, Int32.add_assoc, nI_add]; rfl)
    refine ⟨τ2, ?_, g2, g3, e4.tr g4⟩
    have hle := one_le L (stpF L S k).1 k
    have h01 : (oneF L (stpF L S k).1 k).2 = 0 ∨ (oneF L (stpF L S k).1 k).2 = 1 := by omega
    have hn : (stpF L S (k + 1)).2 = (stpF L S k).2 + (oneF L (stpF L S k).1 k).2 := rfl
    rw [hn] at g1
    rw [e148_4]
    simp only [e148_0, e148_1, e148_2, e148_3, e148_5, e148_6, e148_9, e148_10, e148_11, e148_14, e148_15, e148_16, e148_17, e148_20, e148_23, e148_24, e148_27, e148_28, e148_29, e148_30, e148_33, e148_36, e148_37, g76_2, i3, hD.2.2.2.1, b1, if_true, v76, e1, z_bd_i, z_bd_l, z_bd_v, List.cons_append, List.nil_append, z_nk_i, z_nk_r, z_nk_n, v0, v1, v3, v19, v61, v71, v76]
    rcases h01 with h01 | h01
    · rw [h01] at g1 ⊢
      simp only [show (nI 0 = 0) = True from by decide, if_true, nI_1]
      rw [show nI (stpF L S k).2 + 0 = nI ((stpF L S k).2 + 0) from Int32.add_zero _]
      exact g1
    · rw [h01] at g1 ⊢
      simp only [show (nI 1 = 0) = False from by decide, if_false, nI_1]
      exact g1
theorem s148 (hD : D_at σ L) (hR : R_at σ 82 0 L.2.2.2.2.2 S) (ok : L_ok L) (sk : S_ok S) : ∃ τ, z_call 148 [.ref 76] (z_enc σ) = some (some (.int (nI (goneF L S))), z_enc τ) ∧ R_at τ 82 0 L.2.2.2.2.2 (stepF L S) ∧ τ.1 76 19 = σ.1 76 19 + nI (felF L S L.2.2.2.2.2) ∧ z_sf Q82 σ τ := by
  obtain ⟨τ, e, f⟩ := l148 ok sk (σ.1 76 19) L.2.2.2.2.2 0 σ rfl hD hR (Int32.add_zero _).symm
  refine ⟨τ, ?_, f⟩
  simp only [en148, e148_0, e148_1, e148_2, e148_3, e148_5, e148_6, e148_9, e148_10, e148_11, e148_14, e148_15, e148_16, e148_17, e148_20, e148_23, e148_24, e148_27, e148_28, e148_29, e148_30, e148_33, e148_36, e148_37]
  exact e
theorem l149 (ok : L_ok L) (sk : S_ok S) (dk : DN L S) (f0 : Int32) {n : Nat} (hn : n ≤ 40) : ∀ d k (σ : z_G), d + k = n → D_at σ L → R_at σ 82 0 L.2.2.2.2.2 (stepsF L S k) → σ.1 76 19 = f0 + nI (fallF L S k) →
    ∃ τ, z_r [] 0 0 149 2 [some (.ref 76), some (.int (nI n)), some (.int (nI k))] [] (z_enc σ) = some (none, z_enc τ) ∧ R_at τ 82 0 L.2.2.2.2.2 (stepsF L S n) ∧ τ.1 76 19 = f0 + nI (fallF L S n) ∧ z_sf Q82 σ τ := by
  intro d
  induction d with
  | zero =>
    intro k σ hk hD hR hf
    obtain rfl : k = n := by omega
    have b1 : (nI k < nI k) = False := eq_false (nI_nlt (by omega) (by omega))
    refine ⟨σ, ?_, hR, hf, z_sf.rf⟩
    rw [e149_2]
    simp only [e149_0, e149_1, e149_3, e149_4, e149_7, e149_8, e149_11, e149_12, e149_15, e149_18, b1, if_false]
  | succ d ih =>
    intro k σ hk hD hR hf
    have b1 : (nI k < nI n) = True := eq_true (nI_lt (by omega) (by omega))
    have skk := steps_ok ok sk k
    obtain ⟨τ, e1, e2, e3, e4⟩ := s148 hD hR ok skk
    rw [fel_N ok skk (steps_DN ok dk k)] at e3
    obtain ⟨τ2, g1, g2, g3, g4⟩ := ih (k + 1) τ (by omega) (D_sf hD e4 (fun k => by unfold Q82; omega)) e2 (by rw [e3, hf, Int32.add_assoc, nI_add]; rfl)
    refine ⟨τ2, ?_, g2, g3, e4.tr g4⟩
    rw [e149_2]
    simp only [e149_0, e149_1, e149_3, e149_4, e149_7, e149_8, e149_11, e149_12, e149_15, e149_18, b1, if_true, v76, e1, z_bd_i, z_bd_l, z_bd_v, List.cons_append, List.nil_append, z_nk_i, z_nk_r, z_nk_n, v0, v1, v3, v19, v61, v71, v76, nI_1]
    exact g1
theorem s149 (hD : D_at σ L) (hR : R_at σ 82 0 L.2.2.2.2.2 S) (ok : L_ok L) (sk : S_ok S) (dk : DN L S) {n : Nat} (hn : n ≤ 40) : ∃ τ, z_call 149 [.ref 76, .int (nI n)] (z_enc σ) = some (none, z_enc τ) ∧ R_at τ 82 0 L.2.2.2.2.2 (stepsF L S n) ∧ τ.1 76 19 = σ.1 76 19 + nI (fallF L S n) ∧ z_sf Q82 σ τ := by
  obtain ⟨τ, e, f⟩ := l149 ok sk dk (σ.1 76 19) hn n 0 σ rfl hD hR (Int32.add_zero _).symm
  refine ⟨τ, ?_, f⟩
  simp only [en149, e149_0, e149_1, e149_3, e149_4, e149_7, e149_8, e149_11, e149_12, e149_15, e149_18]
  exact e
end STEPS
