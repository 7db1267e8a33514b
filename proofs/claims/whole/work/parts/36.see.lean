/-! the reference: what is seen -/
theorem z_shr {w k : Nat} (hw : w < 2 ^ 32) (hk : k < 32) : ((nI w).toUInt32 >>> ((nI k).toUInt32 &&& Int32.toUInt32 31)).toInt32 &&& 1 = z_b (w.testBit k = true) := by
  rw [pk_ushrN hw (nI k) k (s_u k hk), show (1 : Int32) = nI 1 from rfl, z_andI, Nat.and_one_is_mod]
  have h := Nat.testBit_eq_decide_div_mod_eq (x := w) (i := k)
  rw [h]
  have h2 : w / 2 ^ k % 2 = 0 ∨ w / 2 ^ k % 2 = 1 := by omega
  rcases h2 with h2 | h2 <;> rw [h2] <;> rfl
theorem told_m {m k : Nat} (hm : m < 10) (hk : k < 9) : (toldF m = nI k) = (m = k) := by
  unfold toldF
  by_cases h : m = 9
  · rw [if_pos h]
    have := m_9 (a := k) (by omega)
    exact propext ⟨fun q => by rw [← q] at this; exact absurd rfl (of_eq_false this), fun q => by omega⟩
  · rw [if_neg h]
    exact propext (nI_eq (by omega) (by omega))
theorem kn_lo {n c : Nat} (h : c < 32) : (n % 4294967296).testBit c = n.testBit c := by
  rw [show 4294967296 = 2 ^ 32 from rfl, Nat.testBit_mod_two_pow]
  simp [h]
theorem kn_hi {n c : Nat} (h : 32 ≤ c) : (n / 4294967296).testBit (c - 32) = n.testBit c := by
  rw [show 4294967296 = 2 ^ 32 from rfl, Nat.testBit_div_two_pow, show c - 32 + 32 = c by omega]
section SEE
variable {σ : z_G} {L : t_L} {S : t_S}
theorem l151 (hD : D_at σ L) (hR : R_at σ 81 0 L.2.2.2.2.2 S) (ok : L_ok L) (sk : S_ok S) {c : Nat} (hc : c < 64) {a b : Int32} {K : Option z_O} (hK : z_r [] 0 0 151 71 [some (.ref 76), some (.int a), some (.int b), some (.int (nI c)), some (.int (nI (atF S.2.1 c L.2.2.2.2.2))), some (.int (nI L.2.2.2.2.2))] [] (z_enc σ) = K) : ∀ d k, d + k = L.2.2.2.2.2 →
    z_r [] 0 0 151 30 [some (.ref 76), some (.int a), some (.int b), some (.int (nI c)), some (.int (nI (atF S.2.1 c k))), some (.int (nI k))] [] (z_enc σ) = K := by
  have h3 : σ.1 78 3 = nI L.2.2.2.2.2 := hD.2.2.2.1
  have i3 : ∀ K : Int32 → Option z_O, z_il1 (z_enc σ) 78 3 K = K (σ.1 78 3) := fun K => g_iln (k := 3) an78 (by decide) (by decide)
  have h4 := ok.2.2.2.2
  intro d
  induction d with
  | zero =>
    intro k hk
    obtain rfl : k = L.2.2.2.2.2 := by omega
    have b1 : (nI L.2.2.2.2.2 < nI L.2.2.2.2.2) = False := eq_false (nI_nlt (by omega) (by omega))
    rw [e151_30]
    simp only [e151_0, e151_1, e151_2, e151_5, e151_8, e151_9, e151_10, e151_11, e151_14, e151_17, e151_18, e151_19, e151_20, e151_23, e151_24, e151_25, e151_27, e151_28, e151_32, e151_33, e151_36, e151_37, e151_38, e151_41, e151_43, e151_44, e151_47, e151_49, e151_50, e151_51, e151_54, e151_55, e151_57, e151_58, e151_61, e151_62, e151_63, e151_65, e151_68, e151_72, e151_75, e151_76, e151_77, e151_80, e151_83, e151_84, e151_85, e151_88, e151_89, e151_92, e151_94, e151_95, e151_97, e151_98, e151_99, e151_100, e151_101, e151_103, e151_104, e151_105, e151_106, e151_107, e151_110, e151_112, g76_2, i3, h3, b1, if_false]
    exact hK
  | succ d ih =>
    intro k hk
    have hk4 : k < 4 := by omega
    have b1 : (nI k < nI L.2.2.2.2.2) = True := eq_true (nI_lt (by omega) (by omega))
    have hr := sk.2.1 k hk4
    have e := ih (k + 1) (by omega)
    rw [atF] at e
    rw [e151_30]
    simp only [e151_0, e151_1, e151_2, e151_5, e151_8, e151_9, e151_10, e151_11, e151_14, e151_17, e151_18, e151_19, e151_20, e151_23, e151_24, e151_25, e151_27, e151_28, e151_32, e151_33, e151_36, e151_37, e151_38, e151_41, e151_43, e151_44, e151_47, e151_49, e151_50, e151_51, e151_54, e151_55, e151_57, e151_58, e151_61, e151_62, e151_63, e151_65, e151_68, e151_72, e151_75, e151_76, e151_77, e151_80, e151_83, e151_84, e151_85, e151_88, e151_89, e151_92, e151_94, e151_95, e151_97, e151_98, e151_99, e151_100, e151_101, e151_103, e151_104, e151_105, e151_106, e151_107, e151_110, e151_112, g76_2, i3, h3, b1, if_true, g76_5, g_iln an81 (show k < 16 by omega) (by decide), r0_rc hR hk4, propext (nI_eq (show S.2.1 k < 2147483648 by omega) (show c < 2147483648 by omega)), sh1 k (by omega), nI_1]
    by_cases q : S.2.1 k = c
    · simp only [eq_true q, if_true, z_orI, or_add (atF_lt S.2.1 c k)] at e ⊢
      exact e
    · simp only [eq_false q, if_false] at e ⊢
      rw [show nI (atF S.2.1 c k) ||| (0 : Int32) = nI (atF S.2.1 c k + 0) by rw [show (0 : Int32) = nI 0 from rfl, z_orI, Nat.or_zero, Nat.add_zero]]
      exact e
theorem s151 (hD : D_at σ L) (hR : R_at σ 81 0 L.2.2.2.2.2 S) (ok : L_ok L) (sk : S_ok S) (x what : Int32) : z_call 151 [.ref 76, .int x, .int what] (z_enc σ) = some (some (.int (cellR L S x what)), z_enc σ) := by
  have o1 : ((1 : Int32) = 0) = False := by decide
  have o2 : ((0 : Int32) = 1) = False := by decide
  unfold cellR
  rcases hasV_of (x := x) ok with ⟨h1, c, hc, rfl, hi⟩ | ⟨h1, -⟩
  · simp only [en151, e151_0, e151_1, e151_2, e151_5, e151_8, e151_9, e151_10, e151_11, e151_14, e151_17, e151_18, e151_19, e151_20, e151_23, e151_24, e151_25, e151_27, e151_28, e151_32, e151_33, e151_36, e151_37, e151_38, e151_41, e151_43, e151_44, e151_47, e151_49, e151_50, e151_51, e151_54, e151_55, e151_57, e151_58, e151_61, e151_62, e151_63, e151_65, e151_68, e151_72, e151_75, e151_76, e151_77, e151_80, e151_83, e151_84, e151_85, e151_88, e151_89, e151_92, e151_94, e151_95, e151_97, e151_98, e151_99, e151_100, e151_101, e151_103, e151_104, e151_105, e151_106, e151_107, e151_110, e151_112, v76, s133 hD ok, h1, z_bd_i, z_bd_l, z_bd_v, List.cons_append, List.nil_append, z_nk_i, z_nk_r, z_nk_n, v0, v1, v3, v19, v61, v71, v76, o1, if_false, s115, z_b_0, s134 hc, cN_tn hc]
    by_cases h2 : what < 0 ∨ 2 < what
    · have h3 : (¬ what < 0 ∧ ¬ 2 < what) = False := eq_false (fun q => h2.elim q.1 q.2)
      simp only [h3, not_false_iff, if_true, and_false, if_false]
    · have h3 : (¬ what < 0 ∧ ¬ 2 < what) = True := eq_true ⟨fun q => h2 (Or.inl q), fun q => h2 (Or.inr q)⟩
      simp only [h3, not_true, if_false, and_self, if_true]
      have e := fun K hK => l151 hD hR ok sk hc (a := nI (tn c)) (b := what) (K := K) hK L.2.2.2.2.2 0 rfl
      refine e _ ?_
      rw [e151_71]
      by_cases h4 : what = 0
      · simp only [e151_0, e151_1, e151_2, e151_5, e151_8, e151_9, e151_10, e151_11, e151_14, e151_17, e151_18, e151_19, e151_20, e151_23, e151_24, e151_25, e151_27, e151_28, e151_32, e151_33, e151_36, e151_37, e151_38, e151_41, e151_43, e151_44, e151_47, e151_49, e151_50, e151_51, e151_54, e151_55, e151_57, e151_58, e151_61, e151_62, e151_63, e151_65, e151_68, e151_72, e151_75, e151_76, e151_77, e151_80, e151_83, e151_84, e151_85, e151_88, e151_89, e151_92, e151_94, e151_95, e151_97, e151_98, e151_99, e151_100, e151_101, e151_103, e151_104, e151_105, e151_106, e151_107, e151_110, e151_112, eq_true h4, not_true, if_false, if_true, v76, s137 hD hc, z_bd_i, z_bd_l, z_bd_v, List.cons_append, List.nil_append, z_nk_i, z_nk_r, z_nk_n, v0, v1, v3, v19, v61, v71, v76]
      · by_cases h5 : what = 1
        · have e1 : (10 : Int32) + nI c / 32 = nI (10 + c / 32) := by
            rw [show (32 : Int32) = nI 32 from rfl, show (10 : Int32) = nI 10 from rfl, pk_div (by omega) (by decide) (by decide), nI_add]
          have e2 : nI c - nI c / 32 * 32 = nI (c % 32) := by
            rw [show (32 : Int32) = nI 32 from rfl]
            exact pk_rem (by omega) (by decide) (by decide)
          have e3 : ((σ.1 81 (10 + c / 32)).toUInt32 >>> ((nI (c % 32)).toUInt32 &&& Int32.toUInt32 31)).toInt32 &&& 1 = z_b (S.2.2.2.2.2.testBit c = true) := by
            by_cases q : c < 32
            · rw [show c / 32 = 0 by omega, show c % 32 = c by omega, r0_k0 hR, z_shr (by omega) q, kn_lo q]
            · have hk := sk.2.2.2.2.2
              rw [show c / 32 = 1 by omega, show c % 32 = c - 32 by omega, r0_k1 hR, z_shr (by omega) (by omega), kn_hi (by omega)]
          simp only [e151_0, e151_1, e151_2, e151_5, e151_8, e151_9, e151_10, e151_11, e151_14, e151_17, e151_18, e151_19, e151_20, e151_23, e151_24, e151_25, e151_27, e151_28, e151_32, e151_33, e151_36, e151_37, e151_38, e151_41, e151_43, e151_44, e151_47, e151_49, e151_50, e151_51, e151_54, e151_55, e151_57, e151_58, e151_61, e151_62, e151_63, e151_65, e151_68, e151_72, e151_75, e151_76, e151_77, e151_80, e151_83, e151_84, e151_85, e151_88, e151_89, e151_92, e151_94, e151_95, e151_97, e151_98, e151_99, e151_100, e151_101, e151_103, e151_104, e151_105, e151_106, e151_107, e151_110, e151_112, eq_false h4, not_false_iff, if_true, eq_true h5, not_true, if_false, g76_5, d_32, e1, e2, g_iln an81 (show 10 + c / 32 < 16 by omega) (by decide), e3]
        · simp only [e151_0, e151_1, e151_2, e151_5, e151_8, e151_9, e151_10, e151_11, e151_14, e151_17, e151_18, e151_19, e151_20, e151_23, e151_24, e151_25, e151_27, e151_28, e151_32, e151_33, e151_36, e151_37, e151_38, e151_41, e151_43, e151_44, e151_47, e151_49, e151_50, e151_51, e151_54, e151_55, e151_57, e151_58, e151_61, e151_62, e151_63, e151_65, e151_68, e151_72, e151_75, e151_76, e151_77, e151_80, e151_83, e151_84, e151_85, e151_88, e151_89, e151_92, e151_94, e151_95, e151_97, e151_98, e151_99, e151_100, e151_101, e151_103, e151_104, e151_105, e151_106, e151_107, e151_110, e151_112, eq_false h4, eq_false h5, not_false_iff, if_true, if_false]
  · simp only [en151, e151_0, e151_1, e151_2, e151_5, e151_8, e151_9, e151_10, e151_11, e151_14, e151_17, e151_18, e151_19, e151_20, e151_23, e151_24, e151_25, e151_27, e151_28, e151_32, e151_33, e151_36, e151_37, e151_38, e151_41, e151_43, e151_44, e151_47, e151_49, e151_50, e151_51, e151_54, e151_55, e151_57, e151_58, e151_61, e151_62, e151_63, e151_65, e151_68, e151_72, e151_75, e151_76, e151_77, e151_80, e151_83, e151_84, e151_85, e151_88, e151_89, e151_92, e151_94, e151_95, e151_97, e151_98, e151_99, e151_100, e151_101, e151_103, e151_104, e151_105, e151_106, e151_107, e151_110, e151_112, v76, s133 hD ok, h1, z_bd_i, z_bd_l, z_bd_v, List.cons_append, List.nil_append, z_nk_i, z_nk_r, z_nk_n, v0, v1, v3, v19, v61, v71, v76, if_true, o2, false_and, if_false]
theorem l152 (hD : D_at σ L) (hR : R_at σ 81 0 L.2.2.2.2.2 S) (ok : L_ok L) (sk : S_ok S) {m : Nat} (hm : m < 4) {b : Int32} {K : Option z_O} (hK : z_r [] 0 0 152 65 [some (.ref 76), some (.int (nI m)), some (.int b), some (.int (nI (atF S.2.2.1 m L.2.2.2.2.2))), some (.int (nI L.2.2.2.2.2))] [] (z_enc σ) = K) : ∀ d k, d + k = L.2.2.2.2.2 →
    z_r [] 0 0 152 24 [some (.ref 76), some (.int (nI m)), some (.int b), some (.int (nI (atF S.2.2.1 m k))), some (.int (nI k))] [] (z_enc σ) = K := by
  have h3 : σ.1 78 3 = nI L.2.2.2.2.2 := hD.2.2.2.1
  have i3 : ∀ K : Int32 → Option z_O, z_il1 (z_enc σ) 78 3 K = K (σ.1 78 3) := fun K => g_iln (k := 3) an78 (by decide) (by decide)
  have h4 := ok.2.2.2.2
  intro d
  induction d with
  | zero =>
    intro k hk
    obtain rfl : k = L.2.2.2.2.2 := by omega
    have b1 : (nI L.2.2.2.2.2 < nI L.2.2.2.2.2) = False := eq_false (nI_nlt (by omega) (by omega))
    rw [e152_24]
    simp only [e152_0, e152_1, e152_2, e152_5, e152_8, e152_9, e152_10, e152_11, e152_14, e152_17, e152_18, e152_19, e152_20, e152_21, e152_22, e152_26, e152_27, e152_30, e152_31, e152_32, e152_35, e152_36, e152_37, e152_40, e152_41, e152_43, e152_44, e152_45, e152_46, e152_49, e152_50, e152_52, e152_53, e152_56, e152_57, e152_58, e152_59, e152_62, e152_66, e152_69, e152_70, e152_73, e152_75, e152_76, e152_77, e152_78, e152_81, e152_84, e152_85, g76_2, i3, h3, b1, if_false]
    exact hK
  | succ d ih =>
    intro k hk
    have hk4 : k < 4 := by omega
    have b1 : (nI k < nI L.2.2.2.2.2) = True := eq_true (nI_lt (by omega) (by omega))
    have hr : S.2.2.1 k < 10 := by have := sk.2.2.1 k hk4; omega
    have e := ih (k + 1) (by omega)
    rw [atF] at e
    rw [e152_24]
    simp only [e152_0, e152_1, e152_2, e152_5, e152_8, e152_9, e152_10, e152_11, e152_14, e152_17, e152_18, e152_19, e152_20, e152_21, e152_22, e152_26, e152_27, e152_30, e152_31, e152_32, e152_35, e152_36, e152_37, e152_40, e152_41, e152_43, e152_44, e152_45, e152_46, e152_49, e152_50, e152_52, e152_53, e152_56, e152_57, e152_58, e152_59, e152_62, e152_66, e152_69, e152_70, e152_73, e152_75, e152_76, e152_77, e152_78, e152_81, e152_84, e152_85, g76_2, i3, h3, b1, if_true, g76_5, z4, g_iln an81 (show 4 + k < 16 by omega) (by decide), r0_mi hR (show k < L.2.2.2.2.2 by omega), told_m hr (show m < 9 by omega), sh1 k (by omega), nI_1]
    by_cases q : S.2.2.1 k = m
    · simp only [eq_true q, if_true, z_orI, or_add (atF_lt S.2.2.1 m k)] at e ⊢
      exact e
    · simp only [eq_false q, if_false] at e ⊢
      rw [show nI (atF S.2.2.1 m k) ||| (0 : Int32) = nI (atF S.2.2.1 m k + 0) by rw [show (0 : Int32) = nI 0 from rfl, z_orI, Nat.or_zero, Nat.add_zero]]
      exact e
theorem s152 (hD : D_at σ L) (hR : R_at σ 81 0 L.2.2.2.2.2 S) (ok : L_ok L) (sk : S_ok S) (m what : Int32) : z_call 152 [.ref 76, .int m, .int what] (z_enc σ) = some (some (.int (motherR L S m what)), z_enc σ) := by
  unfold motherR
  by_cases h1 : ¬ m < 0 ∧ m < nI L.2.2.2.2.1
  · obtain ⟨k, hk, rfl⟩ := inN_of h1 (by have := ok.2.2.2.1; omega)
    have hk4 : k < 4 := by have := ok.2.2.2.1; omega
    simp only [en152, e152_0, e152_1, e152_2, e152_5, e152_8, e152_9, e152_10, e152_11, e152_14, e152_17, e152_18, e152_19, e152_20, e152_21, e152_22, e152_26, e152_27, e152_30, e152_31, e152_32, e152_35, e152_36, e152_37, e152_40, e152_41, e152_43, e152_44, e152_45, e152_46, e152_49, e152_50, e152_52, e152_53, e152_56, e152_57, e152_58, e152_59, e152_62, e152_66, e152_69, e152_70, e152_73, e152_75, e152_76, e152_77, e152_78, e152_81, e152_84, e152_85, v76, s139 hD ok, z_bd_i, z_bd_l, z_bd_v, List.cons_append, List.nil_append, z_nk_i, z_nk_r, z_nk_n, v0, v1, v3, v19, v61, v71, v76, z_b_0, s115, eq_true h1, not_true, if_false]
    by_cases h2 : what < 0 ∨ 1 < what
    · have h3 : (¬ what < 0 ∧ ¬ 1 < what) = False := eq_false (fun q => h2.elim q.1 q.2)
      simp only [h3, not_false_iff, if_true, and_false, if_false]
    · have h3 : (¬ what < 0 ∧ ¬ 1 < what) = True := eq_true ⟨fun q => h2 (Or.inl q), fun q => h2 (Or.inr q)⟩
      simp only [h3, not_true, if_false, h1, and_self, true_and, not_false_iff, if_true, iN_nI (show k < 2147483648 by omega)]
      have e := fun K hK => l152 hD hR ok sk hk4 (b := what) (K := K) hK L.2.2.2.2.2 0 rfl
      refine e _ ?_
      rw [e152_65]
      by_cases h4 : what = 0
      · simp only [e152_0, e152_1, e152_2, e152_5, e152_8, e152_9, e152_10, e152_11, e152_14, e152_17, e152_18, e152_19, e152_20, e152_21, e152_22, e152_26, e152_27, e152_30, e152_31, e152_32, e152_35, e152_36, e152_37, e152_40, e152_41, e152_43, e152_44, e152_45, e152_46, e152_49, e152_50, e152_52, e152_53, e152_56, e152_57, e152_58, e152_59, e152_62, e152_66, e152_69, e152_70, e152_73, e152_75, e152_76, e152_77, e152_78, e152_81, e152_84, e152_85, eq_true h4, not_true, if_false, if_true, g76_5, z12, g_iln an81 (show 12 + k < 16 by omega) (by decide), r0_mc hR hk4, s132 (sk.1 k hk4), z_bd_i, z_bd_l, z_bd_v, List.cons_append, List.nil_append, z_nk_i, z_nk_r, z_nk_n, v0, v1, v3, v19, v61, v71, v76]
      · simp only [e152_0, e152_1, e152_2, e152_5, e152_8, e152_9, e152_10, e152_11, e152_14, e152_17, e152_18, e152_19, e152_20, e152_21, e152_22, e152_26, e152_27, e152_30, e152_31, e152_32, e152_35, e152_36, e152_37, e152_40, e152_41, e152_43, e152_44, e152_45, e152_46, e152_49, e152_50, e152_52, e152_53, e152_56, e152_57, e152_58, e152_59, e152_62, e152_66, e152_69, e152_70, e152_73, e152_75, e152_76, e152_77, e152_78, e152_81, e152_84, e152_85, eq_false h4, not_false_iff, if_true, if_false]
  · have h5 : ¬ (¬ m < 0 ∧ m < nI L.2.2.2.2.1 ∧ ¬ what < 0 ∧ ¬ 1 < what) := fun q => h1 ⟨q.1, q.2.1⟩
    simp only [en152, e152_0, e152_1, e152_2, e152_5, e152_8, e152_9, e152_10, e152_11, e152_14, e152_17, e152_18, e152_19, e152_20, e152_21, e152_22, e152_26, e152_27, e152_30, e152_31, e152_32, e152_35, e152_36, e152_37, e152_40, e152_41, e152_43, e152_44, e152_45, e152_46, e152_49, e152_50, e152_52, e152_53, e152_56, e152_57, e152_58, e152_59, e152_62, e152_66, e152_69, e152_70, e152_73, e152_75, e152_76, e152_77, e152_78, e152_81, e152_84, e152_85, v76, s139 hD ok, z_bd_i, z_bd_l, z_bd_v, List.cons_append, List.nil_append, z_nk_i, z_nk_r, z_nk_n, v0, v1, v3, v19, v61, v71, v76, z_b_0, eq_false h1, not_false_iff, if_true, eq_false h5, if_false]
theorem s153 (hD : D_at σ L) (hR : R_at σ 81 0 L.2.2.2.2.2 S) (ok : L_ok L) (sk : S_ok S) (g what : Int32) : z_call 153 [.ref 76, .int g, .int what] (z_enc σ) = some (some (.int (regR L S g what)), z_enc σ) := by
  unfold regR
  have i8 : ∀ K : Int32 → Option z_O, z_il1 (z_enc σ) 81 8 K = K (σ.1 81 8) := fun K => g_iln (k := 8) an81 (by decide) (by decide)
  have i9 : ∀ K : Int32 → Option z_O, z_il1 (z_enc σ) 81 9 K = K (σ.1 81 9) := fun K => g_iln (k := 9) an81 (by decide) (by decide)
  by_cases h1 : ¬ g < 0 ∧ g < nI L.2.2.2.2.2
  · obtain ⟨k, hk, rfl⟩ := inN_of h1 (by have := ok.2.2.2.2; omega)
    have hk4 : k < 4 := by have := ok.2.2.2.2; omega
    simp only [en153, e153_0, e153_1, e153_2, e153_5, e153_8, e153_9, e153_10, e153_11, e153_14, e153_17, e153_18, e153_19, e153_20, e153_23, e153_24, e153_27, e153_28, e153_29, e153_32, e153_35, e153_36, e153_37, e153_40, e153_41, e153_44, e153_45, e153_46, e153_47, e153_48, e153_51, e153_52, e153_55, e153_56, e153_57, e153_60, e153_62, e153_65, e153_67, e153_68, e153_69, e153_70, e153_71, e153_72, v76, s138 hD ok, z_bd_i, z_bd_l, z_bd_v, List.cons_append, List.nil_append, z_nk_i, z_nk_r, z_nk_n, v0, v1, v3, v19, v61, v71, v76, z_b_0, s115, eq_true h1, not_true, if_false]
    by_cases h2 : what < 0 ∨ 3 < what
    · have h3 : (¬ what < 0 ∧ ¬ 3 < what) = False := eq_false (fun q => h2.elim q.1 q.2)
      simp only [h3, not_false_iff, if_true, and_false, if_false]
    · have h3 : (¬ what < 0 ∧ ¬ 3 < what) = True := eq_true ⟨fun q => h2 (Or.inl q), fun q => h2 (Or.inr q)⟩
      simp only [h3, not_true, if_false, h1, and_self, true_and, not_false_iff, if_true, iN_nI (show k < 2147483648 by omega)]
      by_cases h4 : what = 0
      · simp only [e153_0, e153_1, e153_2, e153_5, e153_8, e153_9, e153_10, e153_11, e153_14, e153_17, e153_18, e153_19, e153_20, e153_23, e153_24, e153_27, e153_28, e153_29, e153_32, e153_35, e153_36, e153_37, e153_40, e153_41, e153_44, e153_45, e153_46, e153_47, e153_48, e153_51, e153_52, e153_55, e153_56, e153_57, e153_60, e153_62, e153_65, e153_67, e153_68, e153_69, e153_70, e153_71, e153_72, eq_true h4, not_true, if_false, if_true, g76_5, g_iln an81 (show k < 16 by omega) (by decide), r0_rc hR hk4, s132 (sk.2.1 k hk4), z_bd_i, z_bd_l, z_bd_v, List.cons_append, List.nil_append, z_nk_i, z_nk_r, z_nk_n, v0, v1, v3, v19, v61, v71, v76]
      · by_cases h5 : what = 1
        · simp only [e153_0, e153_1, e153_2, e153_5, e153_8, e153_9, e153_10, e153_11, e153_14, e153_17, e153_18, e153_19, e153_20, e153_23, e153_24, e153_27, e153_28, e153_29, e153_32, e153_35, e153_36, e153_37, e153_40, e153_41, e153_44, e153_45, e153_46, e153_47, e153_48, e153_51, e153_52, e153_55, e153_56, e153_57, e153_60, e153_62, e153_65, e153_67, e153_68, e153_69, e153_70, e153_71, e153_72, eq_false h4, eq_true h5, not_true, not_false_iff, if_false, if_true, g76_5, z4, g_iln an81 (show 4 + k < 16 by omega) (by decide), r0_mi hR hk]
        · by_cases h6 : what = 2
          · simp only [e153_0, e153_1, e153_2, e153_5, e153_8, e153_9, e153_10, e153_11, e153_14, e153_17, e153_18, e153_19, e153_20, e153_23, e153_24, e153_27, e153_28, e153_29, e153_32, e153_35, e153_36, e153_37, e153_40, e153_41, e153_44, e153_45, e153_46, e153_47, e153_48, e153_51, e153_52, e153_55, e153_56, e153_57, e153_60, e153_62, e153_65, e153_67, e153_68, e153_69, e153_70, e153_71, e153_72, eq_false h4, eq_false h5, eq_true h6, not_true, not_false_iff, if_false, if_true, g76_5, i8, r0_mir hR, bit4 _ sk.2.2.2.1 k hk4]
          · simp only [e153_0, e153_1, e153_2, e153_5, e153_8, e153_9, e153_10, e153_11, e153_14, e153_17, e153_18, e153_19, e153_20, e153_23, e153_24, e153_27, e153_28, e153_29, e153_32, e153_35, e153_36, e153_37, e153_40, e153_41, e153_44, e153_45, e153_46, e153_47, e153_48, e153_51, e153_52, e153_55, e153_56, e153_57, e153_60, e153_62, e153_65, e153_67, e153_68, e153_69, e153_70, e153_71, e153_72, eq_false h4, eq_false h5, eq_false h6, not_true, not_false_iff, if_false, if_true, g76_5, i9, r0_dn hR, bit4 _ sk.2.2.2.2.1 k hk4]
  · have h5 : ¬ (¬ g < 0 ∧ g < nI L.2.2.2.2.2 ∧ ¬ what < 0 ∧ ¬ 3 < what) := fun q => h1 ⟨q.1, q.2.1⟩
    simp only [en153, e153_0, e153_1, e153_2, e153_5, e153_8, e153_9, e153_10, e153_11, e153_14, e153_17, e153_18, e153_19, e153_20, e153_23, e153_24, e153_27, e153_28, e153_29, e153_32, e153_35, e153_36, e153_37, e153_40, e153_41, e153_44, e153_45, e153_46, e153_47, e153_48, e153_51, e153_52, e153_55, e153_56, e153_57, e153_60, e153_62, e153_65, e153_67, e153_68, e153_69, e153_70, e153_71, e153_72, v76, s138 hD ok, z_bd_i, z_bd_l, z_bd_v, List.cons_append, List.nil_append, z_nk_i, z_nk_r, z_nk_n, v0, v1, v3, v19, v61, v71, v76, z_b_0, eq_false h1, not_false_iff, if_true, eq_false h5, if_false]
theorem s154 (hR : R_at σ 81 0 L.2.2.2.2.2 S) (sk : S_ok S) {hc : Nat} (hh : σ.1 76 8 = nI hc) (x : Int32) : z_call 154 [.ref 76, .int x] (z_enc σ) = some (some (.int (nowR S hc x)), z_enc σ) := by
  have i8 : ∀ K : Int32 → Option z_O, z_il1 (z_enc σ) 81 8 K = K (σ.1 81 8) := fun K => g_iln (k := 8) an81 (by decide) (by decide)
  have i9 : ∀ K : Int32 → Option z_O, z_il1 (z_enc σ) 81 9 K = K (σ.1 81 9) := fun K => g_iln (k := 9) an81 (by decide) (by decide)
  unfold nowR
  simp only [en154, e154_0, e154_1, e154_32, e154_33, e154_36, e154_37, e154_38, e154_41, e154_43, e154_44, e154_45, e154_46, e154_49, e154_51, e154_52, e154_53, e154_54, e154_57, e154_58, e154_59, v76, s150 hR sk, z_bd_i, z_bd_l, z_bd_v, List.cons_append, List.nil_append, z_nk_i, z_nk_r, z_nk_n, v0, v1, v3, v19, v61, v71, v76, g76_5, g76_8, hh, i8, i9, r0_mir hR, r0_dn hR]
  by_cases h0 : x = 0
  · simp [h0]
  · by_cases h1 : x = 1
    · simp [h1]
    · by_cases h2 : x = 2
      · simp [h2]
      · by_cases h3 : x = 3
        · simp [h3]
        · simp [h0, h1, h2, h3]
end SEE
