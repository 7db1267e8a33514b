/-! the class reads THE TEXT -/
def mbF (L : t_L) (k it : Nat) : Bool := if k = 113 then decide (it = 0) else if k = 114 then true else if k = 112 then decide (L.2.2.2.2.1 < 4) else if k = 106 then decide (L.2.2.2.2.2 < 4) else false
def prF (n : Nat) (txt : Nat → Nat) : Nat → Nat → t_L → t_S → Nat → Nat ⊕ (Nat × t_L × t_S)
  | 0, _, _, _, _ => .inl 0
  | d + 1, it, L, S, s => if (tkF n txt s).1 = 0 then .inr (it, L, S) else if mbF L (tkF n txt s).1 it = true then (match itemF n txt L S ((tkF n txt s).1 - 3) (tkF n txt s).2.2.2 with
    | .inl f => .inl f
    | .inr q => prF n txt d (it + 1) q.2.1 q.2.2 q.1) else .inl (tkF n txt s).2.2.1
def knO (rc : Nat → Nat) : Nat → Nat
  | 0 => 0
  | k + 1 => knO rc k ||| 2 ^ (rc k)
def G_ok (L : t_L) (S : t_S) : Prop := L_ok L ∧ S_ok S ∧ S.2.2.2.1 = 0 ∧ S.2.2.2.2.1 = 0 ∧ S.2.2.2.2.2 = knO S.2.1 L.2.2.2.2.2
theorem knO_cong {rc rd : Nat → Nat} : ∀ N, (∀ k, k < N → rc k = rd k) → knO rc N = knO rd N
  | 0, _ => rfl
  | N + 1, h => by
    unfold knO
    rw [knO_cong N (fun k hk => h k (by omega)), h N (by omega)]
theorem num_inr {n : Nat} {txt : Nat → Nat} {L : t_L} {sg i s : Nat} {q : Nat × Nat} (hs : s ≤ n) (h : numF n txt L sg i s = .inr q) : msF L sg i q.1 = true ∧ q.1 < 100 ∧ s < q.2 ∧ q.2 ≤ n := by
  obtain ⟨-, t2, -, -, t5⟩ := tk_ok (txt := txt) hs
  unfold numF at h
  split at h
  · rename_i h1
    cases h
    have h2 := t2 (by omega)
    exact ⟨h1.2, t5 h1.1, h2.1, h2.2⟩
  · cases h
theorem num_inl {n : Nat} {txt : Nat → Nat} {L : t_L} {sg i s f : Nat} (hs : s ≤ n) (h : numF n txt L sg i s = .inl f) : f ≤ n := by
  obtain ⟨t1, -⟩ := tk_ok (txt := txt) hs
  unfold numF at h
  split at h
  · cases h
  · cases h
    exact t1.2
theorem ms_110 {L : t_L} {i v : Nat} (h : msF L 110 i v = true) : 1 ≤ v ∧ v ≤ 8 := by
  unfold msF at h
  simpa using h
theorem ms_0 {L : t_L} {sg v : Nat} (h0 : sg ≠ 110) (h : msF L sg 0 v = true) : v < L.1 := by
  unfold msF at h
  simpa [h0] using h
theorem ms_1 {L : t_L} {sg v : Nat} (h0 : sg ≠ 110) (h : msF L sg 1 v = true) : v < L.2.1 := by
  unfold msF at h
  simpa [h0] using h
theorem ms_2o {L : t_L} {v : Nat} (h : msF L 111 2 v = true) : v < 2 := by
  unfold msF at h
  have h1 : v ≤ 1 := by simpa using h
  omega
theorem ms_2g {L : t_L} {v : Nat} (h : msF L 103 2 v = true) : v = 9 ∨ v < L.2.2.2.2.1 := by
  unfold msF at h
  simpa using h
theorem tak_ok {L : t_L} {S : t_S} {sg x y z : Nat} (h : G_ok L S) (hsg : sg = 110 ∨ sg = 111 ∨ sg = 109 ∨ sg = 103) (hm : sg = 109 → L.2.2.2.2.1 < 4) (hg : sg = 103 → L.2.2.2.2.2 < 4) (hx : msF L sg 0 x = true) (hy : msF L sg 1 y = true) (hz : sg = 103 → msF L sg 2 z = true) : G_ok (takF L S sg x y z).1 (takF L S sg x y z).2 := by
  obtain ⟨ok, sk, m0, d0, kn⟩ := h
  obtain ⟨⟨w1, w2⟩, ⟨w3, w4⟩, ⟨f1, f2⟩, w5, w6⟩ := id ok
  rcases hsg with rfl | rfl | rfl | rfl
  · have hx := ms_110 hx
    have hy := ms_110 hy
    exact ⟨⟨hx, hy, ⟨f1, f2⟩, w5, w6⟩, sk, m0, d0, kn⟩
  · have hx := ms_0 (by decide) hx
    have hy := ms_1 (by decide) hy
    refine ⟨mk2_ok ok (by omega), sk, m0, d0, ?_⟩
    rw [show (takF L S 111 x y z).1.2.2.2.2.2 = L.2.2.2.2.2 by unfold takF mk2; split <;> simp <;> split <;> rfl]
    exact kn
  · have hx := ms_0 (by decide) hx
    have hy := ms_1 (by decide) hy
    have hm := hm rfl
    have hc : 8 * x + y < 64 := by omega
    obtain ⟨k1, k2, k3, k4, k5, k6⟩ := sk
    refine ⟨⟨⟨w1, w2⟩, ⟨w3, w4⟩, ⟨f1, f2⟩, hm, w6⟩, ⟨fun k hk => ?_, k2, k3, k4, k5, k6⟩, m0, d0, kn⟩
    show (if k = L.2.2.2.2.1 then 8 * x + y else S.1 k) < 64
    split
    · exact hc
    · exact k1 k hk
  · have hx := ms_0 (by decide) hx
    have hy := ms_1 (by decide) hy
    have hg := hg rfl
    have hz := ms_2g (hz rfl)
    have hc : 8 * x + y < 64 := by omega
    obtain ⟨k1, k2, k3, k4, k5, k6⟩ := sk
    refine ⟨⟨⟨w1, w2⟩, ⟨w3, w4⟩, ⟨f1, f2⟩, w5, hg⟩, ⟨k1, fun k hk => ?_, fun k hk => ?_, k4, k5, kn_ok k6 hc⟩, m0, d0, ?_⟩
    · show (if k = L.2.2.2.2.2 then 8 * x + y else S.2.1 k) < 64
      split
      · exact hc
      · exact k2 k hk
    · show (if k = L.2.2.2.2.2 then z else S.2.2.1 k) < 4 ∨ (if k = L.2.2.2.2.2 then z else S.2.2.1 k) = 9
      split
      · omega
      · exact k3 k hk
    · show S.2.2.2.2.2 ||| 2 ^ (8 * x + y) = knO (fun k => if k = L.2.2.2.2.2 then 8 * x + y else S.2.1 k) (L.2.2.2.2.2 + 1)
      rw [knO, if_pos rfl, kn]
      congr 1
      exact knO_cong _ (fun k hk => by rw [if_neg (by omega)])
theorem item_ok {n : Nat} {txt : Nat → Nat} {L : t_L} {S : t_S} {sg s : Nat} {q : Nat × t_L × t_S} (h : G_ok L S) (hsg : sg = 110 ∨ sg = 111 ∨ sg = 109 ∨ sg = 103) (hm : sg = 109 → L.2.2.2.2.1 < 4) (hg : sg = 103 → L.2.2.2.2.2 < 4) (hs : s ≤ n) (e : itemF n txt L S sg s = .inr q) : G_ok q.2.1 q.2.2 ∧ s < q.1 ∧ q.1 ≤ n := by
  have fin : ∀ {s2 x y z : Nat}, s < s2 → s2 ≤ n → msF L sg 0 x = true → msF L sg 1 y = true → (sg = 103 → msF L sg 2 z = true) → finF n txt L S sg s2 x y z = .inr q → G_ok q.2.1 q.2.2 ∧ s < q.1 ∧ q.1 ≤ n := by
    intro s2 x y z h1 h2 hx hy hz e
    obtain ⟨-, t2, -⟩ := tk_ok (txt := txt) h2
    unfold finF at e
    split at e
    · rename_i h3
      cases e
      have h4 := t2 (by omega)
      refine ⟨tak_ok h hsg hm hg hx hy hz, ?_, h4.2⟩
      show s < (tkF n txt s2).2.2.2
      omega
    · cases e
  unfold itemF at e
  cases h1 : numF n txt L sg 0 s with
  | inl f => rw [h1] at e; cases e
  | inr q1 =>
    obtain ⟨x, s1⟩ := q1
    obtain ⟨m1, -, l1, u1⟩ := num_inr hs h1
    rw [h1] at e
    dsimp only at e m1 l1 u1
    cases h2 : numF n txt L sg 1 s1 with
    | inl f => rw [h2] at e; cases e
    | inr q2 =>
      obtain ⟨y, s2⟩ := q2
      obtain ⟨m2, -, l2, u2⟩ := num_inr u1 h2
      rw [h2] at e
      dsimp only at e m2 l2 u2
      split at e
      · cases h3 : numF n txt L sg 2 s2 with
        | inl f => rw [h3] at e; cases e
        | inr q3 =>
          obtain ⟨z, s3⟩ := q3
          obtain ⟨m3, -, l3, u3⟩ := num_inr u2 h3
          rw [h3] at e
          dsimp only at e m3 l3 u3
          exact fin (by omega) u3 m1 m2 (fun _ => m3) e
      · rename_i hn
        exact fin (by omega) u2 m1 m2 (fun q => absurd (Or.inr q) hn) e
section LANDR
variable {σ : z_G} {n : Nat} {txt : Nat → Nat} {L : t_L} {S : t_S}
theorem l42f (hT : T_at σ n txt) (hL : L_at σ 4 L) (hS : M_at σ 5 S) (ok : L_ok L) (sk : S_ok S) {sg due s x y z : Nat} (hsg : sg = 110 ∨ sg = 111 ∨ sg = 109 ∨ sg = 103) (hd : due ≤ 3) (hxy : sg ≠ 110 → x < 8 ∧ y < 8) (hz2 : sg = 111 → z < 2) (hm : sg = 109 → L.2.2.2.2.1 < 4) (hg : sg = 103 → L.2.2.2.2.2 < 4) (h0 : σ.1 9 0 = nI x) (h1 : σ.1 9 1 = nI y) (hz : sg = 111 ∨ sg = 103 → σ.1 9 2 = nI z) (hs : s ≤ n) (ha : σ.1 1 2 = nI s) :
    match finF n txt L S sg s x y z with
    | .inl f => ∃ τ, z_r [] 0 0 42 20 [some (.ref 3), some (.int (nI sg)), some (.int (nI due)), some (.int (nI due))] [] (z_enc σ) = some (some (.int 0), z_enc τ) ∧ τ.1 1 3 = nI f ∧ f ≤ n ∧ z_sf Qr σ τ
    | .inr q => ∃ τ, z_r [] 0 0 42 20 [some (.ref 3), some (.int (nI sg)), some (.int (nI due)), some (.int (nI due))] [] (z_enc σ) = some (some (.int 1), z_enc τ) ∧ τ.1 1 2 = nI q.1 ∧ L_at τ 4 q.2.1 ∧ M_at τ 5 q.2.2 ∧ z_sf Qr σ τ := by
  obtain ⟨τ, e, e2, e3, e4, -, hf⟩ := r50 hT hs ha
  obtain ⟨t1, -⟩ := tk_ok (txt := txt) hs
  have b1 : (nI due < nI due) = False := eq_false (nI_nlt (by omega) (by omega))
  have hfr : z_sf Qr σ τ := hf.mono (fun p k h => h.1)
  unfold finF
  by_cases q1 : (tkF n txt s).1 = 62
  · rw [if_pos q1]
    have hk : τ.1 1 4 = 59 := by rw [e4, q1]; rfl
    have ht : τ.1 1 2 = nI (tkF n txt s).2.2.2 := by rw [e2, if_neg (by omega)]
    have r9 : ∀ j, τ.1 9 j = σ.1 9 j := fun j => (hf 9 j (by unfold Qt; omega)).1
    have hL2 : L_at τ 4 L := L_sf hL hf (fun k => by unfold Qt; omega)
    have hS2 : M_at τ 5 S := M_sf hS hf (fun k => by unfold Qt; omega)
    obtain ⟨υ, u1, u2, u3, u4⟩ := s44 hL2 hS2 ok sk (Z := τ.1 9 2) hsg hxy (fun q => (r9 2).trans (hz q)) hz2 hm hg
    refine ⟨υ, ?_, ?_, u2, u3, hfr.tr (u4.mono (fun p k h => by unfold Qr at h; unfold Q45; omega))⟩
    · have s90 := s95 (k := 0) an9 (by decide) (by decide) τ
      have s91' := s95 (k := 1) an9 (by decide) (by decide) τ
      have s92' := s95 (k := 2) an9 (by decide) (by decide) τ
      rw [r9, h0] at s90
      rw [r9, h1] at s91'
      have l0 : (0 : Int32) = nI 0 := rfl
      rw [e42_20]
      simp only [e42_0, e42_1, e42_3, e42_6, e42_7, e42_9, e42_12, e42_13, e42_16, e42_17, e42_18, e42_19, e42_21, e42_22, e42_25, e42_26, e42_29, e42_32, e42_33, e42_36, e42_39, e42_41, e42_44, e42_45, e42_46, e42_47, e42_48, e42_51, e42_54, e42_57, e42_60, e42_61, e42_62, e42_63, e42_66, e42_67, e42_68, e42_71, e42_74, e42_77, e42_80, e42_83, e42_84, e42_87, e42_90, e42_91, e42_94, e42_97, e42_99, e42_102, e42_103, e42_104, e42_105, e42_106, e42_107, e42_111, e42_114, e42_115, e42_119, e42_122, e42_123, e42_127, e42_130, e42_133, e42_134, b1, if_false, g3_0, v1, e, z_bd_i, z_bd_l, z_bd_v, List.cons_append, List.nil_append, z_nk_i, z_nk_r, z_nk_n, v0, v1, v3, v19, v61, v71, v76, g1_4, hk, if_true, g3_3]
      simp only [e42_110, e42_111, e42_118, e42_119, e42_126, e42_127, e42_114, e42_115, e42_122, e42_123, e42_130, e42_133, e42_134, g3_3, l_0, l_1, l_2, s90, s91', s92', z_bd_i, z_bd_l, z_bd_v, List.cons_append, List.nil_append, z_nk_i, z_nk_r, z_nk_n, v0, v1, v3, v19, v61, v71, v76, u1]
      simp only [← l_1, z_b_ok1, if_true]
    · exact ((u4 1 2 (by unfold Q45; omega)).1).trans ht
  · rw [if_neg q1]
    refine ⟨τ, ?_, e3, t1.2, hfr⟩
    rw [e42_20]
    simp only [e42_0, e42_1, e42_3, e42_6, e42_7, e42_9, e42_12, e42_13, e42_16, e42_17, e42_18, e42_19, e42_21, e42_22, e42_25, e42_26, e42_29, e42_32, e42_33, e42_36, e42_39, e42_41, e42_44, e42_45, e42_46, e42_47, e42_48, e42_51, e42_54, e42_57, e42_60, e42_61, e42_62, e42_63, e42_66, e42_67, e42_68, e42_71, e42_74, e42_77, e42_80, e42_83, e42_84, e42_87, e42_90, e42_91, e42_94, e42_97, e42_99, e42_102, e42_103, e42_104, e42_105, e42_106, e42_107, e42_110, e42_111, e42_114, e42_115, e42_118, e42_119, e42_122, e42_123, e42_126, e42_127, e42_130, e42_133, e42_134, b1, if_false, g3_0, v1, e, z_bd_i, z_bd_l, z_bd_v, List.cons_append, List.nil_append, z_nk_i, z_nk_r, z_nk_n, v0, v1, v3, v19, v61, v71, v76, g1_4, e4, kc_59, eq_false q1, z_b_ok0, if_true]
theorem s42 (hT : T_at σ n txt) (hL : L_at σ 4 L) (hS : M_at σ 5 S) (ok : L_ok L) (sk : S_ok S) {sg s : Nat} (hsg : sg = 110 ∨ sg = 111 ∨ sg = 109 ∨ sg = 103) (hm : sg = 109 → L.2.2.2.2.1 < 4) (hg : sg = 103 → L.2.2.2.2.2 < 4) (hs : s ≤ n) (ha : σ.1 1 2 = nI s) :
    match itemF n txt L S sg s with
    | .inl f => ∃ τ, z_call 42 [.ref 3, .int (nI sg)] (z_enc σ) = some (some (.int 0), z_enc τ) ∧ τ.1 1 3 = nI f ∧ f ≤ n ∧ z_sf Qr σ τ
    | .inr q => ∃ τ, z_call 42 [.ref 3, .int (nI sg)] (z_enc σ) = some (some (.int 1), z_enc τ) ∧ τ.1 1 2 = nI q.1 ∧ L_at τ 4 q.2.1 ∧ M_at τ 5 q.2.2 ∧ z_sf Qr σ τ := by
  have hsg2 : sg < 256 := by omega
  have w2 := ok.1.2
  have w4 := ok.2.1.2
  have Q1 : ∀ p k, Qr p k → Q9 p k := fun p k h => by unfold Qr at h; unfold Q9; omega
  have entry : z_call 42 [.ref 3, .int (nI sg)] (z_enc σ) = z_r [] 0 0 42 20 [some (.ref 3), some (.int (nI sg)), some (.int (nI (if sg = 111 ∨ sg = 103 then 3 else 2))), some (.int (nI 0))] [] (z_enc σ) := by
    rcases hsg with rfl | rfl | rfl | rfl
    · simp only [en42, e42_0, e42_1, e42_3, e42_6, e42_7, e42_9, e42_12, e42_13, e42_16, e42_17, e42_18, e42_19, e42_21, e42_22, e42_25, e42_26, e42_29, e42_32, e42_33, e42_36, e42_39, e42_41, e42_44, e42_45, e42_46, e42_47, e42_48, e42_51, e42_54, e42_57, e42_60, e42_61, e42_62, e42_63, e42_66, e42_67, e42_68, e42_71, e42_74, e42_77, e42_80, e42_83, e42_84, e42_87, e42_90, e42_91, e42_94, e42_97, e42_99, e42_102, e42_103, e42_104, e42_105, e42_106, e42_107, e42_110, e42_111, e42_114, e42_115, e42_118, e42_119, e42_122, e42_123, e42_126, e42_127, e42_130, e42_133, e42_134, show ((nI 110 : Int32) = 111) = False from by decide, show ((nI 110 : Int32) = 103) = False from by decide, if_false]
      rfl
    · simp only [en42, e42_0, e42_1, e42_3, e42_6, e42_7, e42_9, e42_12, e42_13, e42_16, e42_17, e42_18, e42_19, e42_21, e42_22, e42_25, e42_26, e42_29, e42_32, e42_33, e42_36, e42_39, e42_41, e42_44, e42_45, e42_46, e42_47, e42_48, e42_51, e42_54, e42_57, e42_60, e42_61, e42_62, e42_63, e42_66, e42_67, e42_68, e42_71, e42_74, e42_77, e42_80, e42_83, e42_84, e42_87, e42_90, e42_91, e42_94, e42_97, e42_99, e42_102, e42_103, e42_104, e42_105, e42_106, e42_107, e42_110, e42_111, e42_114, e42_115, e42_118, e42_119, e42_122, e42_123, e42_126, e42_127, e42_130, e42_133, e42_134, show ((nI 111 : Int32) = 111) = True from by decide, if_true]
      rfl
    · simp only [en42, e42_0, e42_1, e42_3, e42_6, e42_7, e42_9, e42_12, e42_13, e42_16, e42_17, e42_18, e42_19, e42_21, e42_22, e42_25, e42_26, e42_29, e42_32, e42_33, e42_36, e42_39, e42_41, e42_44, e42_45, e42_46, e42_47, e42_48, e42_51, e42_54, e42_57, e42_60, e42_61, e42_62, e42_63, e42_66, e42_67, e42_68, e42_71, e42_74, e42_77, e42_80, e42_83, e42_84, e42_87, e42_90, e42_91, e42_94, e42_97, e42_99, e42_102, e42_103, e42_104, e42_105, e42_106, e42_107, e42_110, e42_111, e42_114, e42_115, e42_118, e42_119, e42_122, e42_123, e42_126, e42_127, e42_130, e42_133, e42_134, show ((nI 109 : Int32) = 111) = False from by decide, show ((nI 109 : Int32) = 103) = False from by decide, if_false]
      rfl
    · simp only [en42, e42_0, e42_1, e42_3, e42_6, e42_7, e42_9, e42_12, e42_13, e42_16, e42_17, e42_18, e42_19, e42_21, e42_22, e42_25, e42_26, e42_29, e42_32, e42_33, e42_36, e42_39, e42_41, e42_44, e42_45, e42_46, e42_47, e42_48, e42_51, e42_54, e42_57, e42_60, e42_61, e42_62, e42_63, e42_66, e42_67, e42_68, e42_71, e42_74, e42_77, e42_80, e42_83, e42_84, e42_87, e42_90, e42_91, e42_94, e42_97, e42_99, e42_102, e42_103, e42_104, e42_105, e42_106, e42_107, e42_110, e42_111, e42_114, e42_115, e42_118, e42_119, e42_122, e42_123, e42_126, e42_127, e42_130, e42_133, e42_134, show ((nI 103 : Int32) = 111) = False from by decide, show ((nI 103 : Int32) = 103) = True from by decide, if_false, if_true]
      rfl
  rw [entry]
  have hd : (if sg = 111 ∨ sg = 103 then 3 else 2) ≤ 3 := by split <;> omega
  have hd2 : 2 ≤ (if sg = 111 ∨ sg = 103 then 3 else 2) := by split <;> omega
  have hd3 : sg = 111 ∨ sg = 103 → (if sg = 111 ∨ sg = 103 then 3 else 2) = 3 := fun q => if_pos q
  have hd4 : ¬ (sg = 111 ∨ sg = 103) → (if sg = 111 ∨ sg = 103 then 3 else 2) = 2 := fun q => if_neg q
  generalize (if sg = 111 ∨ sg = 103 then 3 else 2) = due at *
  have a1 := l42 hT hL ok hsg2 (show 0 < due by omega) hd hs ha
  unfold itemF
  cases h1 : numF n txt L sg 0 s with
  | inl f =>
    rw [h1] at a1
    obtain ⟨τ, c1, c2, c3⟩ := a1
    exact ⟨τ, c1, c2, num_inl hs h1, c3.mono Q1⟩
  | inr q1 =>
    obtain ⟨x, s1⟩ := q1
    obtain ⟨m1, -, l1, u1⟩ := num_inr hs h1
    rw [h1] at a1
    obtain ⟨τ, c1, c2, -, c4, c5, c6⟩ := a1
    dsimp only at m1 l1 u1 c2 c4 ⊢
    have hT2 := T_sf hT c6 ⟨by unfold Q9; omega, fun k => by unfold Q9; omega⟩
    have hL2 := L_sf hL c6 (fun k => by unfold Q9; omega)
    have hS2 := M_sf hS c6 (fun k => by unfold Q9; omega)
    have a2 := l42 hT2 hL2 ok hsg2 (show 1 < due by omega) hd u1 c2
    rw [c1]
    cases h2 : numF n txt L sg 1 s1 with
    | inl f =>
      rw [h2] at a2
      obtain ⟨τ2, d1, d2, d3⟩ := a2
      exact ⟨τ2, d1, d2, num_inl u1 h2, (c6.tr d3).mono Q1⟩
    | inr q2 =>
      obtain ⟨y, s2⟩ := q2
      obtain ⟨m2, -, l2, u2⟩ := num_inr u1 h2
      rw [h2] at a2
      obtain ⟨τ2, d1, d2, -, d4, d5, d6⟩ := a2
      dsimp only at m2 l2 u2 d2 d4 ⊢
      have hT3 := T_sf hT2 d6 ⟨by unfold Q9; omega, fun k => by unfold Q9; omega⟩
      have hL3 := L_sf hL2 d6 (fun k => by unfold Q9; omega)
      have hS3 := M_sf hS2 d6 (fun k => by unfold Q9; omega)
      have x0 : τ2.1 9 0 = nI x := (d5 0 (by decide)).trans c4
      have hxy : sg ≠ 110 → x < 8 ∧ y < 8 := fun q => by
        have := ms_0 q m1
        have := ms_1 q m2
        omega
      rw [d1]
      by_cases q3 : sg = 111 ∨ sg = 103
      · rw [if_pos q3]
        have a3 := l42 hT3 hL3 ok hsg2 (show 2 < due by have := hd3 q3; omega) hd u2 d2
        cases h3 : numF n txt L sg 2 s2 with
        | inl f =>
          rw [h3] at a3
          obtain ⟨τ3, f1, f2, f3⟩ := a3
          exact ⟨τ3, f1, f2, num_inl u2 h3, ((c6.tr d6).tr f3).mono Q1⟩
        | inr q4 =>
          obtain ⟨z, s3⟩ := q4
          obtain ⟨m3, -, l3, u3⟩ := num_inr u2 h3
          rw [h3] at a3
          obtain ⟨τ3, f1, f2, -, f4, f5, f6⟩ := a3
          dsimp only at m3 l3 u3 f2 f4 ⊢
          have hT4 := T_sf hT3 f6 ⟨by unfold Q9; omega, fun k => by unfold Q9; omega⟩
          have hL4 := L_sf hL3 f6 (fun k => by unfold Q9; omega)
          have hS4 := M_sf hS3 f6 (fun k => by unfold Q9; omega)
          have hd3 := hd3 q3
          subst hd3
          have z2 : sg = 111 → z < 2 := fun q => by subst q; exact ms_2o m3
          have fi := l42f hT4 hL4 hS4 ok sk (due := 3) (z := z) hsg (by omega) hxy z2 hm hg ((f5 0 (by decide)).trans x0) ((f5 1 (by decide)).trans d4) (fun _ => f4) u3 f2
          rw [f1]
          cases hF : finF n txt L S sg s3 x y z with
          | inl f =>
            rw [hF] at fi
            obtain ⟨τ4, g1, g2, g3, g4⟩ := fi
            exact ⟨τ4, g1, g2, g3, (((c6.tr d6).tr f6).mono Q1).tr g4⟩
          | inr q5 =>
            rw [hF] at fi
            obtain ⟨τ4, g1, g2, g3, g4, g5⟩ := fi
            exact ⟨τ4, g1, g2, g3, g4, (((c6.tr d6).tr f6).mono Q1).tr g5⟩
      · rw [if_neg q3]
        have hd4 := hd4 q3
        subst hd4
        have fi := l42f hT3 hL3 hS3 ok sk (due := 2) (z := 0) hsg (by omega) hxy (fun q => absurd (Or.inl q) q3) hm hg x0 d4 (fun q => absurd q q3) u2 d2
        cases hF : finF n txt L S sg s2 x y 0 with
        | inl f =>
          rw [hF] at fi
          obtain ⟨τ4, g1, g2, g3, g4⟩ := fi
          exact ⟨τ4, g1, g2, g3, ((c6.tr d6).mono Q1).tr g4⟩
        | inr q5 =>
          rw [hF] at fi
          obtain ⟨τ4, g1, g2, g3, g4, g5⟩ := fi
          exact ⟨τ4, g1, g2, g3, g4, ((c6.tr d6).mono Q1).tr g5⟩
theorem s41 (hL : L_at σ 4 L) (ok : L_ok L) (k : Nat) {it : Nat} (hi : it < 1000) : z_call 41 [.ref 3, .int (kcF k), .int (nI it)] (z_enc σ) = some (some (.int (z_b (mbF L k it = true))), z_enc σ) := by
  obtain ⟨-, -, -, w5, w6⟩ := id ok
  have e1 : (nI it = 0) = (it = 0) := propext (nI_eq (b := 0) (by omega) (by decide))
  have e2 : (nI L.2.2.2.2.1 < 4) = (L.2.2.2.2.1 < 4) := propext (nI_ltI (b := 4) (by omega) (by decide))
  have e3 : (nI L.2.2.2.2.2 < 4) = (L.2.2.2.2.2 < 4) := propext (nI_ltI (b := 4) (by omega) (by decide))
  rcases kc_case k with ⟨h, e⟩ | ⟨h, e⟩ | ⟨h, e⟩ | ⟨h, e⟩ | ⟨h, e⟩ | ⟨h, e⟩ | ⟨h, e⟩ | ⟨h, e⟩
  · subst h
    rw [e]
    simp only [en41, e41_0, e41_1, e41_52, e41_53, e41_56, e41_57, e41_60, e41_61, e41_62, e41_63, e41_64, e41_65, e41_68, e41_71, e41_72, e41_75, e41_76, e41_79, e41_80, e41_81, e41_82, e41_85, e41_88, e41_89, e41_92, e41_93, e41_96, e41_97, e41_98, e41_99, show ((-1 : Int32) = 103) = False from by decide, show ((-1 : Int32) = 104) = False from by decide, show ((-1 : Int32) = 105) = False from by decide, show ((-1 : Int32) = 106) = False from by decide, show ((-1 : Int32) = 107) = False from by decide, show ((-1 : Int32) = 108) = False from by decide, show ((-1 : Int32) = 109) = False from by decide, show ((-1 : Int32) = 110) = False from by decide, show ((-1 : Int32) = 111) = False from by decide, if_false, z_b_ok0, if_true]
    rfl
  · subst h
    rw [e]
    simp only [en41, e41_0, e41_1, e41_52, e41_53, e41_56, e41_57, e41_60, e41_61, e41_62, e41_63, e41_64, e41_65, e41_68, e41_71, e41_72, e41_75, e41_76, e41_79, e41_80, e41_81, e41_82, e41_85, e41_88, e41_89, e41_92, e41_93, e41_96, e41_97, e41_98, e41_99, show ((-2 : Int32) = 103) = False from by decide, show ((-2 : Int32) = 104) = False from by decide, show ((-2 : Int32) = 105) = False from by decide, show ((-2 : Int32) = 106) = False from by decide, show ((-2 : Int32) = 107) = False from by decide, show ((-2 : Int32) = 108) = False from by decide, show ((-2 : Int32) = 109) = False from by decide, show ((-2 : Int32) = 110) = False from by decide, show ((-2 : Int32) = 111) = False from by decide, if_false, z_b_ok0, if_true]
    rfl
  · obtain ⟨h0, h1, h2, h3, h4, h5, h6⟩ := h
    have hm : mbF L k it = false := by
      unfold mbF
      rw [if_neg h2, if_neg h3, if_neg h4, if_neg h5]
    rw [e, hm]
    simp only [en41, e41_0, e41_1, e41_52, e41_53, e41_56, e41_57, e41_60, e41_61, e41_62, e41_63, e41_64, e41_65, e41_68, e41_71, e41_72, e41_75, e41_76, e41_79, e41_80, e41_81, e41_82, e41_85, e41_88, e41_89, e41_92, e41_93, e41_96, e41_97, e41_98, e41_99, show ((-3 : Int32) = 103) = False from by decide, show ((-3 : Int32) = 104) = False from by decide, show ((-3 : Int32) = 105) = False from by decide, show ((-3 : Int32) = 106) = False from by decide, show ((-3 : Int32) = 107) = False from by decide, show ((-3 : Int32) = 108) = False from by decide, show ((-3 : Int32) = 109) = False from by decide, show ((-3 : Int32) = 110) = False from by decide, show ((-3 : Int32) = 111) = False from by decide, if_false, z_b_ok0, if_true]
    rfl
  · subst h
    have hm : mbF L 113 it = decide (it = 0) := rfl
    rw [e, hm]
    by_cases q : it = 0
    · simp only [en41, e41_0, e41_1, e41_52, e41_53, e41_56, e41_57, e41_60, e41_61, e41_62, e41_63, e41_64, e41_65, e41_68, e41_71, e41_72, e41_75, e41_76, e41_79, e41_80, e41_81, e41_82, e41_85, e41_88, e41_89, e41_92, e41_93, e41_96, e41_97, e41_98, e41_99, show ((110 : Int32) = 103) = False from by decide, show ((110 : Int32) = 104) = False from by decide, show ((110 : Int32) = 105) = False from by decide, show ((110 : Int32) = 106) = False from by decide, show ((110 : Int32) = 107) = False from by decide, show ((110 : Int32) = 108) = False from by decide, show ((110 : Int32) = 109) = False from by decide, show ((110 : Int32) = 110) = True from by decide, show ((110 : Int32) = 111) = False from by decide, if_false, if_true, e1, eq_true q, z_b_ok1, decide_true, z_b]
    · simp only [en41, e41_0, e41_1, e41_52, e41_53, e41_56, e41_57, e41_60, e41_61, e41_62, e41_63, e41_64, e41_65, e41_68, e41_71, e41_72, e41_75, e41_76, e41_79, e41_80, e41_81, e41_82, e41_85, e41_88, e41_89, e41_92, e41_93, e41_96, e41_97, e41_98, e41_99, show ((110 : Int32) = 103) = False from by decide, show ((110 : Int32) = 104) = False from by decide, show ((110 : Int32) = 105) = False from by decide, show ((110 : Int32) = 106) = False from by decide, show ((110 : Int32) = 107) = False from by decide, show ((110 : Int32) = 108) = False from by decide, show ((110 : Int32) = 109) = False from by decide, show ((110 : Int32) = 110) = True from by decide, show ((110 : Int32) = 111) = False from by decide, if_false, if_true, e1, eq_false q, z_b_ok0, decide_false, z_b, Bool.false_eq_true]
  · subst h
    have hm : mbF L 114 it = true := rfl
    rw [e, hm]
    simp only [en41, e41_0, e41_1, e41_52, e41_53, e41_56, e41_57, e41_60, e41_61, e41_62, e41_63, e41_64, e41_65, e41_68, e41_71, e41_72, e41_75, e41_76, e41_79, e41_80, e41_81, e41_82, e41_85, e41_88, e41_89, e41_92, e41_93, e41_96, e41_97, e41_98, e41_99, show ((111 : Int32) = 103) = False from by decide, show ((111 : Int32) = 104) = False from by decide, show ((111 : Int32) = 105) = False from by decide, show ((111 : Int32) = 106) = False from by decide, show ((111 : Int32) = 107) = False from by decide, show ((111 : Int32) = 108) = False from by decide, show ((111 : Int32) = 109) = False from by decide, show ((111 : Int32) = 110) = False from by decide, show ((111 : Int32) = 111) = True from by decide, if_false, if_true, z_b_ok1, z_b]
  · subst h
    have hm : mbF L 112 it = decide (L.2.2.2.2.1 < 4) := rfl
    rw [e, hm]
    by_cases q : L.2.2.2.2.1 < 4
    · simp only [en41, e41_0, e41_1, e41_52, e41_53, e41_56, e41_57, e41_60, e41_61, e41_62, e41_63, e41_64, e41_65, e41_68, e41_71, e41_72, e41_75, e41_76, e41_79, e41_80, e41_81, e41_82, e41_85, e41_88, e41_89, e41_92, e41_93, e41_96, e41_97, e41_98, e41_99, show ((109 : Int32) = 103) = False from by decide, show ((109 : Int32) = 104) = False from by decide, show ((109 : Int32) = 105) = False from by decide, show ((109 : Int32) = 106) = False from by decide, show ((109 : Int32) = 107) = False from by decide, show ((109 : Int32) = 108) = False from by decide, show ((109 : Int32) = 109) = True from by decide, show ((109 : Int32) = 110) = False from by decide, show ((109 : Int32) = 111) = False from by decide, if_false, if_true, g3_1, gL_4 isL_4, hL.2.2.2.2.1, e2, eq_true q, z_b_ok1, decide_true, z_b]
    · simp only [en41, e41_0, e41_1, e41_52, e41_53, e41_56, e41_57, e41_60, e41_61, e41_62, e41_63, e41_64, e41_65, e41_68, e41_71, e41_72, e41_75, e41_76, e41_79, e41_80, e41_81, e41_82, e41_85, e41_88, e41_89, e41_92, e41_93, e41_96, e41_97, e41_98, e41_99, show ((109 : Int32) = 103) = False from by decide, show ((109 : Int32) = 104) = False from by decide, show ((109 : Int32) = 105) = False from by decide, show ((109 : Int32) = 106) = False from by decide, show ((109 : Int32) = 107) = False from by decide, show ((109 : Int32) = 108) = False from by decide, show ((109 : Int32) = 109) = True from by decide, show ((109 : Int32) = 110) = False from by decide, show ((109 : Int32) = 111) = False from by decide, if_false, if_true, g3_1, gL_4 isL_4, hL.2.2.2.2.1, e2, eq_false q, z_b_ok0, decide_false, z_b, Bool.false_eq_true]
  · subst h
    have hm : mbF L 106 it = decide (L.2.2.2.2.2 < 4) := rfl
    rw [e, hm]
    by_cases q : L.2.2.2.2.2 < 4
    · simp only [en41, e41_0, e41_1, e41_52, e41_53, e41_56, e41_57, e41_60, e41_61, e41_62, e41_63, e41_64, e41_65, e41_68, e41_71, e41_72, e41_75, e41_76, e41_79, e41_80, e41_81, e41_82, e41_85, e41_88, e41_89, e41_92, e41_93, e41_96, e41_97, e41_98, e41_99, show ((103 : Int32) = 103) = True from by decide, show ((103 : Int32) = 104) = False from by decide, show ((103 : Int32) = 105) = False from by decide, show ((103 : Int32) = 106) = False from by decide, show ((103 : Int32) = 107) = False from by decide, show ((103 : Int32) = 108) = False from by decide, show ((103 : Int32) = 109) = False from by decide, show ((103 : Int32) = 110) = False from by decide, show ((103 : Int32) = 111) = False from by decide, if_false, if_true, g3_1, gL_5 isL_4, hL.2.2.2.2.2, e3, eq_true q, z_b_ok1, decide_true, z_b]
    · simp only [en41, e41_0, e41_1, e41_52, e41_53, e41_56, e41_57, e41_60, e41_61, e41_62, e41_63, e41_64, e41_65, e41_68, e41_71, e41_72, e41_75, e41_76, e41_79, e41_80, e41_81, e41_82, e41_85, e41_88, e41_89, e41_92, e41_93, e41_96, e41_97, e41_98, e41_99, show ((103 : Int32) = 103) = True from by decide, show ((103 : Int32) = 104) = False from by decide, show ((103 : Int32) = 105) = False from by decide, show ((103 : Int32) = 106) = False from by decide, show ((103 : Int32) = 107) = False from by decide, show ((103 : Int32) = 108) = False from by decide, show ((103 : Int32) = 109) = False from by decide, show ((103 : Int32) = 110) = False from by decide, show ((103 : Int32) = 111) = False from by decide, if_false, if_true, g3_1, gL_5 isL_4, hL.2.2.2.2.2, e3, eq_false q, z_b_ok0, decide_false, z_b, Bool.false_eq_true]
  · subst h
    rw [e]
    simp only [en41, e41_0, e41_1, e41_52, e41_53, e41_56, e41_57, e41_60, e41_61, e41_62, e41_63, e41_64, e41_65, e41_68, e41_71, e41_72, e41_75, e41_76, e41_79, e41_80, e41_81, e41_82, e41_85, e41_88, e41_89, e41_92, e41_93, e41_96, e41_97, e41_98, e41_99, show ((59 : Int32) = 103) = False from by decide, show ((59 : Int32) = 104) = False from by decide, show ((59 : Int32) = 105) = False from by decide, show ((59 : Int32) = 106) = False from by decide, show ((59 : Int32) = 107) = False from by decide, show ((59 : Int32) = 108) = False from by decide, show ((59 : Int32) = 109) = False from by decide, show ((59 : Int32) = 110) = False from by decide, show ((59 : Int32) = 111) = False from by decide, if_false, z_b_ok0, if_true]
    rfl
theorem mb_sg {k it : Nat} (h : mbF L k it = true) : (k - 3 = 110 ∨ k - 3 = 111 ∨ k - 3 = 109 ∨ k - 3 = 103) ∧ (k - 3 = 109 → L.2.2.2.2.1 < 4) ∧ (k - 3 = 103 → L.2.2.2.2.2 < 4) ∧ kcF k = nI (k - 3) ∧ 3 ≤ k := by
  unfold mbF at h
  by_cases h0 : k = 113
  · subst h0; exact ⟨by omega, by omega, by omega, by decide, by omega⟩
  by_cases h1 : k = 114
  · subst h1; exact ⟨by omega, by omega, by omega, by decide, by omega⟩
  by_cases h2 : k = 112
  · subst h2
    have h3 : L.2.2.2.2.1 < 4 := by simpa using h
    exact ⟨by omega, fun _ => h3, by omega, by decide, by omega⟩
  by_cases h3 : k = 106
  · subst h3
    have h4 : L.2.2.2.2.2 < 4 := by simpa using h
    exact ⟨by omega, by omega, fun _ => h4, by decide, by omega⟩
  rw [if_neg h0, if_neg h1, if_neg h2, if_neg h3] at h
  cases h
theorem l40 : ∀ d (σ : z_G) (L : t_L) (S : t_S) it s, d + it = 121 → it ≤ s → s ≤ n → T_at σ n txt → L_at σ 4 L → M_at σ 5 S → G_ok L S → σ.1 1 2 = nI s →
    match prF n txt d it L S s with
    | .inl f => ∃ τ, z_r [] 0 0 40 23 [some (.ref 3), some (.int (nI it))] [] (z_enc σ) = some (some (.int (-10 - nI f)), z_enc τ) ∧ f ≤ n ∧ z_sf Qr σ τ
    | .inr q => ∃ τ, z_r [] 0 0 40 23 [some (.ref 3), some (.int (nI it))] [] (z_enc σ) = some (some (.int (nI q.1)), z_enc τ) ∧ q.1 ≤ 120 ∧ L_at τ 4 q.2.1 ∧ M_at τ 5 q.2.2 ∧ G_ok q.2.1 q.2.2 ∧ z_sf Qr σ τ := by
  intro d
  induction d with
  | zero =>
    intro σ L S it s h1 h2 h3 hT
    have := hT.1
    omega
  | succ d ih =>
    intro σ L S it s h1 h2 h3 hT hL hS hG ha
    have hn := hT.1
    obtain ⟨τ, e, e2, e3, e4, -, hf⟩ := r50 hT h3 ha
    obtain ⟨t1, t2, -, -, -⟩ := tk_ok (txt := txt) h3
    have b1 : ((120 : Int32) < nI it) = False := eq_false (nI_nlt (a := 120) (b := it) (by omega) (by decide))
    have hfr : z_sf Qr σ τ := hf.mono (fun p k h => h.1)
    have hT2 : T_at τ n txt := T_sf hT hf ⟨by unfold Qt; omega, fun k => by unfold Qt; omega⟩
    have hL2 : L_at τ 4 L := L_sf hL hf (fun k => by unfold Qt; omega)
    have hS2 : M_at τ 5 S := M_sf hS hf (fun k => by unfold Qt; omega)
    unfold prF
    by_cases q0 : (tkF n txt s).1 = 0
    · rw [if_pos q0]
      refine ⟨τ, ?_, by show it ≤ 120; omega, hL2, hS2, hG, hfr⟩
      rw [e40_23]
      simp only [e40_0, e40_1, e40_4, e40_7, e40_8, e40_11, e40_14, e40_15, e40_18, e40_21, e40_22, e40_24, e40_26, e40_29, e40_30, e40_33, e40_36, e40_37, e40_40, e40_43, e40_44, e40_47, e40_48, e40_49, e40_50, e40_51, e40_54, e40_57, e40_58, e40_61, e40_64, e40_65, e40_66, e40_69, e40_72, e40_75, e40_78, e40_81, e40_84, e40_87, e40_89, e40_90, e40_93, e40_96, e40_97, b1, if_false, g3_0, v1, e, z_bd_i, z_bd_l, z_bd_v, List.cons_append, List.nil_append, z_nk_i, z_nk_r, z_nk_n, v0, v1, v3, v19, v61, v71, v76, g1_4, e4, kc_0, eq_true q0, if_true]
    · rw [if_neg q0]
      obtain ⟨u1, u2⟩ := t2 q0
      by_cases q1 : mbF L (tkF n txt s).1 it = true
      · rw [if_pos q1]
        obtain ⟨g1, g2, g3, g4, g5⟩ := mb_sg q1
        have ht : τ.1 1 2 = nI (tkF n txt s).2.2.2 := by rw [e2, if_neg q0]
        have a := s42 hT2 hL2 hS2 hG.1 hG.2.1 g1 g2 g3 u2 ht
        have hk := s41 hL2 hG.1 (tkF n txt s).1 (show it < 1000 by omega)
        have hk0 := kc_0 (tkF n txt s).1
        rw [g4] at hk hk0 e4
        cases hI : itemF n txt L S ((tkF n txt s).1 - 3) (tkF n txt s).2.2.2 with
        | inl f =>
          rw [hI] at a
          obtain ⟨υ, c1, c2, c3, c4⟩ := a
          refine ⟨υ, ?_, c3, hfr.tr c4⟩
          rw [e40_23]
          simp only [e40_0, e40_1, e40_4, e40_7, e40_8, e40_11, e40_14, e40_15, e40_18, e40_21, e40_22, e40_24, e40_26, e40_29, e40_30, e40_33, e40_36, e40_37, e40_40, e40_43, e40_44, e40_47, e40_48, e40_49, e40_50, e40_51, e40_54, e40_57, e40_58, e40_61, e40_64, e40_65, e40_66, e40_69, e40_72, e40_75, e40_78, e40_81, e40_84, e40_87, e40_89, e40_90, e40_93, e40_96, e40_97, b1, if_false, g3_0, v1, v3, e, z_bd_i, z_bd_l, z_bd_v, List.cons_append, List.nil_append, z_nk_i, z_nk_r, z_nk_n, v0, v1, v3, v19, v61, v71, v76, g1_4, e4, hk0, eq_false q0, hk, z_b_0, eq_true q1, not_true, c1, if_true, g1_3, c2]
        | inr q =>
          rw [hI] at a
          obtain ⟨υ, c1, c2, c3, c4, c5⟩ := a
          obtain ⟨k1, k2, k3⟩ := item_ok hG g1 g2 g3 u2 hI
          have hT3 : T_at υ n txt := T_sf hT2 c5 ⟨by unfold Qr; omega, fun k => by unfold Qr; omega⟩
          have r := ih υ q.2.1 q.2.2 (it + 1) q.1 (by omega) (by omega) k3 hT3 c3 c4 k1 c2
          have o1 : ((1 : Int32) = 0) = False := by decide
          have adv : z_r [] 0 0 40 23 [some (.ref 3), some (.int (nI it))] [] (z_enc σ) = z_r [] 0 0 40 23 [some (.ref 3), some (.int (nI (it + 1)))] [] (z_enc υ) := by
            rw [e40_23]
            simp only [e40_0, e40_1, e40_4, e40_7, e40_8, e40_11, e40_14, e40_15, e40_18, e40_21, e40_22, e40_24, e40_26, e40_29, e40_30, e40_33, e40_36, e40_37, e40_40, e40_43, e40_44, e40_47, e40_48, e40_49, e40_50, e40_51, e40_54, e40_57, e40_58, e40_61, e40_64, e40_65, e40_66, e40_69, e40_72, e40_75, e40_78, e40_81, e40_84, e40_87, e40_89, e40_90, e40_93, e40_96, e40_97, b1, if_false, g3_0, v1, v3, e, z_bd_i, z_bd_l, z_bd_v, List.cons_append, List.nil_append, z_nk_i, z_nk_r, z_nk_n, v0, v1, v3, v19, v61, v71, v76, g1_4, e4, hk0, eq_false q0, hk, z_b_0, eq_true q1, not_true, c1, o1, nI_1]
          rw [adv]
          dsimp only
          cases hP : prF n txt d (it + 1) q.2.1 q.2.2 q.1 with
          | inl f =>
            rw [hP] at r
            obtain ⟨ω, r1, r2, r3⟩ := r
            exact ⟨ω, r1, r2, (hfr.tr c5).tr r3⟩
          | inr q2 =>
            rw [hP] at r
            obtain ⟨ω, r1, r2, r3, r4, r5, r6⟩ := r
            exact ⟨ω, r1, r2, r3, r4, r5, (hfr.tr c5).tr r6⟩
      · rw [if_neg q1]
        refine ⟨τ, ?_, t1.2, hfr⟩
        rw [e40_23]
        simp only [e40_0, e40_1, e40_4, e40_7, e40_8, e40_11, e40_14, e40_15, e40_18, e40_21, e40_22, e40_24, e40_26, e40_29, e40_30, e40_33, e40_36, e40_37, e40_40, e40_43, e40_44, e40_47, e40_48, e40_49, e40_50, e40_51, e40_54, e40_57, e40_58, e40_61, e40_64, e40_65, e40_66, e40_69, e40_72, e40_75, e40_78, e40_81, e40_84, e40_87, e40_89, e40_90, e40_93, e40_96, e40_97, b1, if_false, g3_0, v1, v3, e, z_bd_i, z_bd_l, z_bd_v, List.cons_append, List.nil_append, z_nk_i, z_nk_r, z_nk_n, v0, v1, v3, v19, v61, v71, v76, g1_4, e4, kc_0, eq_false q0, s41 hL2 hG.1 (tkF n txt s).1 (show it < 1000 by omega), z_b_0, eq_false q1, not_false_iff, if_true, g1_3, e3]
def landF (n : Nat) (txt : Nat → Nat) : Nat ⊕ (Nat × t_L × t_S) := prF n txt 121 0 L_0 S_0 0
theorem G_0 : G_ok L_0 S_0 := by
  refine ⟨⟨by decide, by decide, by decide, by decide, by decide⟩, ⟨fun k _ => ?_, fun k _ => ?_, fun k _ => ?_, ?_, ?_, ?_⟩, rfl, rfl, rfl⟩
  · show 0 < 64; omega
  · show 0 < 64; omega
  · exact Or.inr rfl
  · show 0 < 16; omega
  · show 0 < 16; omega
  · show 0 < 2 ^ 64; decide
theorem s48 : z_call 48 [.ref 1] (z_enc σ) = some (none, z_enc (z_ui σ 1 2 0)) := by
  simp only [en48, e48_0, e48_1, e48_2, e48_5, p1_2]
theorem s40 (hT : T_at σ n txt) : match landF n txt with
    | .inl f => ∃ τ, z_call 40 [.ref 3] (z_enc σ) = some (some (.int (-10 - nI f)), z_enc τ) ∧ f ≤ n ∧ z_sf Qr σ τ
    | .inr q => ∃ τ, z_call 40 [.ref 3] (z_enc σ) = some (some (.int (nI q.1)), z_enc τ) ∧ q.1 ≤ 120 ∧ L_at τ 4 q.2.1 ∧ M_at τ 5 q.2.2 ∧ G_ok q.2.1 q.2.2 ∧ z_sf Qr σ τ := by
  have f1 : z_sf Qr σ (z_ui (M_set (L_set σ 4 L_0) 5 S_0) 1 2 0) := by
    refine z_sf.tr (sf_L (fun p k h => by unfold Qr at h; omega)) (z_sf.tr (sf_M (fun p k h => by unfold Qr at h; omega)) (sf_ui (by unfold Qr; omega)))
  have hT2 : T_at (z_ui (M_set (L_set σ 4 L_0) 5 S_0) 1 2 0) n txt := T_sf hT f1 ⟨by unfold Qr; omega, fun k => by unfold Qr; omega⟩
  have hS2 : M_at (z_ui (M_set (L_set σ 4 L_0) 5 S_0) 1 2 0) 5 S_0 := M_at_ui (M_at_set _ _ _) (by omega)
  have hL2 : L_at (z_ui (M_set (L_set σ 4 L_0) 5 S_0) 1 2 0) 4 L_0 := by
    have h := L_at_ne (σ := L_set σ 4 L_0) (a := 5) (S := S_0) (Or.inr (by decide)) (L_at_set σ 4 L_0)
    exact L_sf (Q := fun p _ => p ≠ 1) h (sf_ui (fun q => q rfl)) (by simp)
  have r := l40 121 _ L_0 S_0 0 0 (by omega) (by omega) (by omega) hT2 hL2 hS2 G_0 z_ui_eq
  have entry : z_call 40 [.ref 3] (z_enc σ) = z_r [] 0 0 40 23 [some (.ref 3), some (.int (nI 0))] [] (z_enc (z_ui (M_set (L_set σ 4 L_0) 5 S_0) 1 2 0)) := by
    simp only [en40, e40_0, e40_1, e40_4, e40_7, e40_8, e40_11, e40_14, e40_15, e40_18, e40_21, e40_22, e40_24, e40_26, e40_29, e40_30, e40_33, e40_36, e40_37, e40_40, e40_43, e40_44, e40_47, e40_48, e40_49, e40_50, e40_51, e40_54, e40_57, e40_58, e40_61, e40_64, e40_65, e40_66, e40_69, e40_72, e40_75, e40_78, e40_81, e40_84, e40_87, e40_89, e40_90, e40_93, e40_96, e40_97, g3_1, g3_2, g3_0, vL isL_4, s10 isL_4, vM isM_5, s20 isM_5, v1, s48, z_bd_i, z_bd_l, z_bd_v, List.cons_append, List.nil_append, z_nk_i, z_nk_r, z_nk_n, v0, v1, v3, v19, v61, v71, v76]
    rfl
  rw [entry]
  unfold landF
  cases hP : prF n txt 121 0 L_0 S_0 0 with
  | inl f =>
    rw [hP] at r
    obtain ⟨ω, r1, r2, r3⟩ := r
    exact ⟨ω, r1, r2, f1.tr r3⟩
  | inr q2 =>
    rw [hP] at r
    obtain ⟨ω, r1, r2, r3, r4, r5, r6⟩ := r
    exact ⟨ω, r1, r2, r3, r4, r5, f1.tr r6⟩
theorem neg_10 : ∀ f, f < 121 → (-10 - nI f < 0) = True := fun f h => eq_true (by
  have : ∀ f, f < 121 → -10 - nI f < 0 := by decide +kernel
  exact this f h)
theorem s61 (hT : T_at σ n txt) : match landF n txt with
    | .inl f => ∃ τ, z_call 61 [.ref 0] (z_enc σ) = some (some (.int (-10 - nI f)), z_enc τ) ∧ f ≤ n ∧ z_sf Qr σ τ
    | .inr q => ∃ τ, z_call 61 [.ref 0] (z_enc σ) = some (some (.int (nI q.1)), z_enc τ) ∧ L_at τ 10 q.2.1 ∧ M_at τ 11 q.2.2 ∧ G_ok q.2.1 q.2.2 ∧ τ.1 1 1 = 0 ∧ τ.1 71 3 = 0 ∧ τ.1 61 1 = 0 ∧ τ.1 19 2 = 0 ∧ τ.1 19 1 = σ.1 19 1 ∧ z_sf (fun p _ => p = 0 ∨ 76 ≤ p) σ τ := by
  have hn := hT.1
  have r := s40 hT
  cases hP : landF n txt with
  | inl f =>
    rw [hP] at r
    obtain ⟨τ, r1, r2, r3⟩ := r
    refine ⟨τ, ?_, r2, r3⟩
    simp only [en61, e61_0, e61_1, e61_4, e61_7, e61_8, e61_9, e61_12, e61_13, e61_14, e61_15, e61_18, e61_19, e61_22, e61_25, e61_28, e61_29, e61_32, e61_33, e61_36, e61_39, e61_42, e61_43, e61_46, e61_49, e61_50, e61_53, e61_56, e61_57, e61_60, e61_63, e61_64, e61_67, e61_70, e61_71, g0_1, v3, r1, z_bd_i, z_bd_l, z_bd_v, List.cons_append, List.nil_append, z_nk_i, z_nk_r, z_nk_n, v0, v1, v3, v19, v61, v71, v76, neg_10 f (by omega), if_true]
  | inr q =>
    rw [hP] at r
    obtain ⟨τ, r1, r2, r3, r4, r5, r6⟩ := r
    have b1 : (nI q.1 < 0) = False := eq_false (nI_pos (by omega))
    have hS2 : M_at (L_set τ 10 q.2.1) 5 q.2.2 := M_at_sm r4 (sm_L (P := fun p => p ≠ 10) (fun p h => h)) (by omega)
    have hL3 : L_at (M_set (L_set τ 10 q.2.1) 11 q.2.2) 10 q.2.1 := L_at_ne (Or.inr (by decide)) (L_at_set _ _ _)
    have e0 : ∀ υ : z_G, (z_ui υ 1 1 0).1 1 1 = 0 := fun υ => z_ui_eq
    refine ⟨z_ui (z_ui (z_ui (z_ui (M_set (L_set τ 10 q.2.1) 11 q.2.2) 1 1 0) 71 3 0) 61 1 0) 19 2 0, ?_, ?_, ?_, r5, ?_, ?_, ?_, z_ui_eq, ?_, ?_⟩
    · simp only [en61, e61_0, e61_1, e61_4, e61_7, e61_8, e61_9, e61_12, e61_13, e61_14, e61_15, e61_18, e61_19, e61_22, e61_25, e61_28, e61_29, e61_32, e61_33, e61_36, e61_39, e61_42, e61_43, e61_46, e61_49, e61_50, e61_53, e61_56, e61_57, e61_60, e61_63, e61_64, e61_67, e61_70, e61_71, g0_1, v3, r1, z_bd_i, z_bd_l, z_bd_v, List.cons_append, List.nil_append, z_nk_i, z_nk_r, z_nk_n, v0, v1, v3, v19, v61, v71, v76, b1, if_false, g0_2, g3_1, vL isL_10, s11 (L2 := q.2.1) isL_10 isL_4 r3 (by decide), g0_3, g3_2, vM isM_11, s21 isM_11 isM_5 (show M_ap 11 5 by unfold M_ap; omega) hS2, g0_0, s46, g0_7, s55, g0_6, s6, g0_5, s2]
    · exact L_sf (Q := fun p _ => p = 10) hL3 (z_sf.tr (sf_ui (by omega)) (z_sf.tr (sf_ui (by omega)) (z_sf.tr (sf_ui (by omega)) (sf_ui (by omega))))) (fun _ => rfl)
    · exact M_at_ui (M_at_ui (M_at_ui (M_at_ui (M_at_set _ _ _) (by omega)) (by omega)) (by omega)) (by omega)
    · rw [z_ui_ne (by omega), z_ui_ne (by omega), z_ui_ne (by omega), z_ui_eq]
    · rw [z_ui_ne (by omega), z_ui_ne (by omega), z_ui_eq]
    · rw [z_ui_ne (by omega), z_ui_eq]
    · rw [z_ui_ne (by omega), z_ui_ne (by omega), z_ui_ne (by omega), z_ui_ne (by omega), M_set_out (by unfold M_in; omega)]
      exact ((sf_L (Q := fun p _ => p ≠ 10) (L := q.2.1) (σ := τ) (fun p k h => h) 19 1 (by decide)).1).trans (r6 19 1 (by unfold Qr; omega)).1
    · refine (r6.mono (fun p k h => by unfold Qr; omega)).tr (z_sf.tr (sf_L (fun p k h => by omega)) (z_sf.tr (sf_M (fun p k h => by omega)) (z_sf.tr (sf_ui (by omega)) (z_sf.tr (sf_ui (by omega)) (z_sf.tr (sf_ui (by omega)) (sf_ui (by omega)))))))
end LANDR
