/-! the reference: whether a cell is free, a step of one -/
theorem kind_2 (L : t_L) (c : Nat) : (kindF L c = 2) = (wallF L c = true) := by
  unfold kindF
  by_cases h1 : wallF L c = true <;> by_cases h2 : foldF L c = true <;> simp [h1, h2]
theorem kind_1 (L : t_L) (c : Nat) : (kindF L c = 1) = (wallF L c = false ∧ foldF L c = true) := by
  unfold kindF
  by_cases h1 : wallF L c = true <;> by_cases h2 : foldF L c = true <;> simp [h1, h2]
theorem k2 (L : t_L) (c : Nat) : (nI (kindF L c) = 2) = (wallF L c = true) := by
  rw [← kind_2]
  exact propext (nI_eq (b := 2) (by have := kind_le L c; omega) (by decide))
theorem k1 (L : t_L) (c : Nat) : (nI (kindF L c) = 1) = (wallF L c = false ∧ foldF L c = true) := by
  rw [← kind_1]
  exact propext (nI_eq (b := 1) (by have := kind_le L c; omega) (by decide))
theorem at_s (rc : Nat → Nat) (c k : Nat) : (atF rc c (k + 1) = 0) = (atF rc c k = 0 ∧ ¬ rc k = c) := by
  have h := Nat.two_pow_pos k
  rw [atF]
  apply propext
  by_cases q : rc k = c
  · rw [if_pos q]
    constructor
    · intro e; omega
    · intro e; exact absurd q e.2
  · rw [if_neg q]
    constructor
    · intro e; exact ⟨e, q⟩
    · intro e; exact e.1
theorem zn_9 (o : Option Nat) (ho : ∀ c, o = some c → c < 64) : (z_n o = -9) = (o = none) := by
  cases o with
  | none => exact propext ⟨fun _ => rfl, fun _ => rfl⟩
  | some c =>
    have := ho c rfl
    exact propext ⟨fun e => absurd e (by show ¬ nI c = -9; rw [m_9 (by omega)]; exact id), fun e => by cases e⟩
theorem z_b_t {p : Prop} [Decidable p] (h : p) : z_b p = 1 := if_pos h
theorem z_b_f {p : Prop} [Decidable p] (h : ¬ p) : z_b p = 0 := if_neg h
section FREE
variable {σ : z_G} {L : t_L} {S : t_S}
theorem l143n (hD : D_at σ L) (ok : L_ok L) (x : Int32) : ∀ d k, d + k = L.2.2.2.2.2 → z_r [] 0 0 143 23 [some (.ref 76), some (.int x), some (.int 0), some (.int (nI k))] [] (z_enc σ) = some (some (.int 0), z_enc σ) := by
  have h3 : σ.1 78 3 = nI L.2.2.2.2.2 := hD.2.2.2.1
  have i3 : ∀ K : Int32 → Option z_O, z_il1 (z_enc σ) 78 3 K = K (σ.1 78 3) := fun K => g_iln (k := 3) an78 (by decide) (by decide)
  have h4 := ok.2.2.2.2
  intro d
  induction d with
  | zero =>
    intro k hk
    have b1 : (nI k < nI L.2.2.2.2.2) = False := eq_false (nI_nlt (by omega) (by omega))
    rw [e143_23]
    simp only [e143_0, e143_1, e143_3, e143_6, e143_7, e143_8, e143_11, e143_12, e143_15, e143_16, e143_19, e143_20, e143_21, e143_22, e143_24, e143_25, e143_28, e143_29, e143_30, e143_33, e143_34, e143_37, e143_38, e143_41, e143_42, e143_43, e143_44, e143_47, e143_48, e143_51, e143_52, e143_53, e143_56, e143_59, e143_60, g76_2, i3, h3, b1, if_false, z_b_ok0, if_true]
  | succ d ih =>
    intro k hk
    have b1 : (nI k < nI L.2.2.2.2.2) = True := eq_true (nI_lt (by omega) (by omega))
    rw [e143_23]
    simp only [e143_0, e143_1, e143_3, e143_6, e143_7, e143_8, e143_11, e143_12, e143_15, e143_16, e143_19, e143_20, e143_21, e143_22, e143_24, e143_25, e143_28, e143_29, e143_30, e143_33, e143_34, e143_37, e143_38, e143_41, e143_42, e143_43, e143_44, e143_47, e143_48, e143_51, e143_52, e143_53, e143_56, e143_59, e143_60, g76_2, i3, h3, b1, if_true, nI_1]
    exact ih (k + 1) (by omega)
theorem l143 (hD : D_at σ L) (hR : R_at σ 82 0 L.2.2.2.2.2 S) (ok : L_ok L) (sk : S_ok S) {c : Nat} (hc : c < 64) : ∀ d k, d + k = L.2.2.2.2.2 →
    z_r [] 0 0 143 23 [some (.ref 76), some (.int (nI c)), some (.int (z_b (wallF L c = false ∧ atF S.2.1 c k = 0))), some (.int (nI k))] [] (z_enc σ) = some (some (.int (z_b (wallF L c = false ∧ atF S.2.1 c L.2.2.2.2.2 = 0))), z_enc σ) := by
  have h3 : σ.1 78 3 = nI L.2.2.2.2.2 := hD.2.2.2.1
  have i3 : ∀ K : Int32 → Option z_O, z_il1 (z_enc σ) 78 3 K = K (σ.1 78 3) := fun K => g_iln (k := 3) an78 (by decide) (by decide)
  have h4 := ok.2.2.2.2
  intro d
  induction d with
  | zero =>
    intro k hk
    obtain rfl : k = L.2.2.2.2.2 := by omega
    have b1 : (nI L.2.2.2.2.2 < nI L.2.2.2.2.2) = False := eq_false (nI_nlt (by omega) (by omega))
    rw [e143_23]
    simp only [e143_0, e143_1, e143_3, e143_6, e143_7, e143_8, e143_11, e143_12, e143_15, e143_16, e143_19, e143_20, e143_21, e143_22, e143_24, e143_25, e143_28, e143_29, e143_30, e143_33, e143_34, e143_37, e143_38, e143_41, e143_42, e143_43, e143_44, e143_47, e143_48, e143_51, e143_52, e143_53, e143_56, e143_59, e143_60, g76_2, i3, h3, b1, if_false, z_b_ok, if_true]
  | succ d ih =>
    intro k hk
    have hk4 : k < 4 := by omega
    have b1 : (nI k < nI L.2.2.2.2.2) = True := eq_true (nI_lt (by omega) (by omega))
    have hr := sk.2.1 k hk4
    have e2 : (nI (S.2.1 k) = nI c) = (S.2.1 k = c) := propext (nI_eq (by omega) (by omega))
    have e := ih (k + 1) (by omega)
    simp only [at_s] at e
    rw [e143_23]
    simp only [e143_0, e143_1, e143_3, e143_6, e143_7, e143_8, e143_11, e143_12, e143_15, e143_16, e143_19, e143_20, e143_21, e143_22, e143_24, e143_25, e143_28, e143_29, e143_30, e143_33, e143_34, e143_37, e143_38, e143_41, e143_42, e143_43, e143_44, e143_47, e143_48, e143_51, e143_52, e143_53, e143_56, e143_59, e143_60, g76_2, i3, h3, b1, if_true, nI_1, z_b_0, g76_6, g_iln an82 (show k < 16 by omega) (by decide), r0_rc hR hk4, e2]
    by_cases q1 : wallF L c = false ∧ atF S.2.1 c k = 0
    · by_cases q2 : S.2.1 k = c
      · simp only [eq_true q1, eq_true q2, not_true, not_false_iff, if_true, if_false, and_true, true_and, and_false, false_and, and_self, Classical.not_not]
        rw [z_b_f (fun q => q.2.2 q2)] at e
        exact e
      · simp only [eq_true q1, eq_false q2, not_true, not_false_iff, if_true, if_false, and_true, true_and, and_false, false_and, and_self, Classical.not_not]
        rw [z_b_t ⟨q1.1, q1.2, q2⟩] at e
        exact e
    · simp only [eq_false q1, not_true, not_false_iff, if_true, if_false, and_true, true_and, and_false, false_and, and_self, Classical.not_not]
      rw [z_b_f (fun q => q1 ⟨q.1, q.2.1⟩)] at e
      exact e
theorem s143 (hD : D_at σ L) (hR : R_at σ 82 0 L.2.2.2.2.2 S) (ok : L_ok L) (sk : S_ok S) {o : Option Nat} (ho : ∀ c, o = some c → c < 64 ∧ insF L c = true) : z_call 143 [.ref 76, .int (z_n o)] (z_enc σ) = some (some (.int (z_b (mayO L S o true = true))), z_enc σ) := by
  cases o with
  | none =>
    have e := l143n hD ok (-9) L.2.2.2.2.2 0 rfl
    simp only [en143, e143_0, e143_1, e143_3, e143_6, e143_7, e143_8, e143_11, e143_12, e143_15, e143_16, e143_19, e143_20, e143_21, e143_22, e143_24, e143_25, e143_28, e143_29, e143_30, e143_33, e143_34, e143_37, e143_38, e143_41, e143_42, e143_43, e143_44, e143_47, e143_48, e143_51, e143_52, e143_53, e143_56, e143_59, e143_60, z_n, if_true]
    exact e
  | some c =>
    obtain ⟨hc, hi⟩ := ho c rfl
    have e := l143 hD hR ok sk hc L.2.2.2.2.2 0 rfl
    have hz : mayO L S (some c) true = true ↔ wallF L c = false ∧ atF S.2.1 c L.2.2.2.2.2 = 0 := by
      show mayF L S c true = true ↔ _
      unfold mayF
      rw [hi]
      cases wallF L c <;> simp
    rw [show z_b (mayO L S (some c) true = true) = z_b (wallF L c = false ∧ atF S.2.1 c L.2.2.2.2.2 = 0) by unfold z_b; simp only [hz]]
    simp only [en143, e143_0, e143_1, e143_3, e143_6, e143_7, e143_8, e143_11, e143_12, e143_15, e143_16, e143_19, e143_20, e143_21, e143_22, e143_24, e143_25, e143_28, e143_29, e143_30, e143_33, e143_34, e143_37, e143_38, e143_41, e143_42, e143_43, e143_44, e143_47, e143_48, e143_51, e143_52, e143_53, e143_56, e143_59, e143_60, z_n, m_9 (show c < 2147483648 by omega), if_false, v76, s137 hD hc, z_bd_i, z_bd_l, z_bd_v, List.cons_append, List.nil_append, z_nk_i, z_nk_r, z_nk_n, v0, v1, v3, v19, v61, v71, v76, k2]
    by_cases hw : wallF L c = true
    · rw [z_b_f (p := wallF L c = false ∧ atF S.2.1 c 0 = 0) (fun q => by rw [hw] at q; cases q.1)] at e
      simp only [eq_true hw, if_true, e143_0, e143_1, e143_3, e143_6, e143_7, e143_8, e143_11, e143_12, e143_15, e143_16, e143_19, e143_20, e143_21, e143_22, e143_24, e143_25, e143_28, e143_29, e143_30, e143_33, e143_34, e143_37, e143_38, e143_41, e143_42, e143_43, e143_44, e143_47, e143_48, e143_51, e143_52, e143_53, e143_56, e143_59, e143_60]
      exact e
    · rw [z_b_t (p := wallF L c = false ∧ atF S.2.1 c 0 = 0) ⟨by simpa using hw, rfl⟩] at e
      simp only [eq_false hw, if_false, e143_0, e143_1, e143_3, e143_6, e143_7, e143_8, e143_11, e143_12, e143_15, e143_16, e143_19, e143_20, e143_21, e143_22, e143_24, e143_25, e143_28, e143_29, e143_30, e143_33, e143_34, e143_37, e143_38, e143_41, e143_42, e143_43, e143_44, e143_47, e143_48, e143_51, e143_52, e143_53, e143_56, e143_59, e143_60]
      exact e
theorem s144 (hD : D_at σ L) (hR : R_at σ 82 0 L.2.2.2.2.2 S) (ok : L_ok L) (sk : S_ok S) {o : Option Nat} (ho : ∀ c, o = some c → c < 64 ∧ insF L c = true) : z_call 144 [.ref 76, .int (z_n o)] (z_enc σ) = some (some (.int (z_b (mayO L S o false = true))), z_enc σ) := by
  cases o with
  | none =>
    have e := s143 hD hR ok sk ho
    simp only [en144, e144_0, e144_1, e144_2, e144_5, e144_8, e144_9, e144_10, e144_13, e144_14, e144_17, e144_18, e144_21, e144_22, v76, e, z_bd_i, z_bd_l, z_bd_v, List.cons_append, List.nil_append, z_nk_i, z_nk_r, z_nk_n, v0, v1, v3, v19, v61, v71, v76, z_b_0, mayO, Bool.false_eq_true, not_false_iff, if_true, z_b_ok0]
    rfl
  | some c =>
    obtain ⟨hc, hi⟩ := ho c rfl
    have e := s143 hD hR ok sk ho
    simp only [z_n] at e
    simp only [en144, e144_0, e144_1, e144_2, e144_5, e144_8, e144_9, e144_10, e144_13, e144_14, e144_17, e144_18, e144_21, e144_22, v76, z_n, e, z_bd_i, z_bd_l, z_bd_v, List.cons_append, List.nil_append, z_nk_i, z_nk_r, z_nk_n, v0, v1, v3, v19, v61, v71, v76, z_b_0, s137 hD hc, k1, z_b_ok0, z_b_ok1, if_true]
    have key : ∀ ft, mayO L S (some c) ft = (insF L c && !wallF L c && (ft || !foldF L c) && decide (atF S.2.1 c L.2.2.2.2.2 = 0)) := fun ft => rfl
    simp only [key, hi]
    cases g2 : wallF L c <;> cases g4 : foldF L c <;> by_cases g5 : atF S.2.1 c L.2.2.2.2.2 = 0 <;> simp [g5, z_b]
end FREE
