/-! class and reference, side by side -/
def DI (σ : z_G) (n : Nat) (txt : Nat → Nat) (L : t_L) (S : t_S) (hc : Nat) (hist : Nat → t_S) (kp : Nat) (img : Nat → t_S) (wn : Nat) (w : Nat → Nat × Nat × Nat) (tr : Int64) : Prop :=
  TM_at σ n txt ∧ MF σ L S hc hist ∧ J_at σ L.2.2.2.2.2 kp img ∧ V_at σ wn w ∧ σ.2 76 13 = tr
def XD (L : t_L) (S : t_S) (hc : Nat) (hist : Nat → t_S) (kp : Nat) (img : Nat → t_S) : Prop := L_ok L ∧ (S_ok S ∧ DN L S) ∧ (∀ j, j < hc → S_ok (hist j) ∧ DN L (hist j)) ∧ ∀ i, i < 2 → kp.testBit i = true → S_ok (img i) ∧ DN L (img i)
def INV (σ : z_G) : Prop := ∃ (n : Nat) (txt : Nat → Nat) (L : t_L) (S : t_S) (hc : Nat) (hist : Nat → t_S) (kp : Nat) (img : Nat → t_S) (wn : Nat) (w : Nat → Nat × Nat × Nat) (tr : Int64), CI σ n txt L S hc hist kp img wn w tr ∧ DI σ n txt L S hc hist kp img wn w tr ∧ XD L S hc hist kp img
/-- two calls, the same answer -/
def two (a b : Nat) (args : List Value) (σ : z_G) : Prop := ∃ (x : Int32) (τ1 τ2 : z_G), z_call a (.ref 0 :: args) (z_enc σ) = some (some (.int x), z_enc τ1) ∧ z_call b (.ref 76 :: args) (z_enc τ1) = some (some (.int x), z_enc τ2) ∧ INV τ2
theorem nat_lt {x : Int32} {N : Nat} (hN : N < 1000) (h : ¬ x < 0 ∧ x < nI N) : ∃ j, j < N ∧ x = nI j := by
  obtain ⟨j, hj, rfl⟩ := nI_of h.1
  exact ⟨j, (nI_ltI hj (by omega)).mp h.2, rfl⟩
theorem nat_le {x : Int32} {N : Nat} (hN : N < 1000) (h : ¬ x < 0 ∧ ¬ nI N < x) : ∃ j, j ≤ N ∧ x = nI j := by
  obtain ⟨j, hj, rfl⟩ := nI_of h.1
  have h2 := mt (nI_ltI (a := N) (b := j) (by omega) hj).mpr h.2
  exact ⟨j, by omega, rfl⟩
theorem sm_sf {P : Nat → Prop} {σ τ : z_G} (hs : z_sm P σ τ) : z_sf (fun p _ => P p) σ τ := fun p k h => hs p h k
theorem I_sm {P : Nat → Prop} {σ τ : z_G} {kp : Nat} {img : Nat → t_S} (h : I_at σ kp img) (hs : z_sm P σ τ) (hP : ∀ p, 61 ≤ p → p < 71 → P p) : I_at τ kp img := by
  obtain ⟨h1, h2, h3⟩ := h
  exact ⟨h1, ((hs 61 (hP _ (by omega) (by omega)) 1).1).trans h2, fun i hi hb => M_at_sm (h3 i hi hb) hs ⟨hP _ (by omega) (by omega), hP _ (by omega) (by omega), hP _ (by omega) (by omega), hP _ (by omega) (by omega)⟩⟩
theorem mc_okK {S : t_S} (sk : S_ok S) {m d : Nat} (hd : d < 64) : S_ok (mcS S m d) := by
  obtain ⟨k1, k2, k3, k4, k5, k6⟩ := sk
  refine ⟨fun k hk => ?_, k2, k3, k4, k5, k6⟩
  show (if k = m then d else S.1 k) < 64
  split
  · exact hd
  · exact k1 k hk
theorem mi_okK {S : t_S} (sk : S_ok S) {g m : Nat} (hm : m < 4 ∨ m = 9) : S_ok (miS S g m) := by
  obtain ⟨k1, k2, k3, k4, k5, k6⟩ := sk
  refine ⟨k1, k2, fun k hk => ?_, k4, k5, k6⟩
  show (if k = g then m else S.2.2.1 k) < 4 ∨ (if k = g then m else S.2.2.1 k) = 9
  split
  · exact hm
  · exact k3 k hk
theorem mir_okK {S : t_S} (sk : S_ok S) {x : Nat} (hx : x < 16) : S_ok (mirS S x) := by
  obtain ⟨k1, k2, k3, k4, k5, k6⟩ := sk
  exact ⟨k1, k2, k3, hx, k5, k6⟩
theorem ent_DN {L : t_L} {S : t_S} (ok : L_ok L) (dk : DN L S) {g c : Nat} (hg : g < L.2.2.2.2.2) : DN L (entF L S g c) := by
  have h := (dn_b1 L.2.2.2.2.2 (by have := ok.2.2.2.2; omega) _ dk g hg).2
  unfold entF
  dsimp only
  split
  · exact h
  · exact dk
section INV
variable {σ τ : z_G} {n : Nat} {txt : Nat → Nat} {L : t_L} {S : t_S} {hc : Nat} {hist : Nat → t_S} {kp : Nat} {img : Nat → t_S} {wn : Nat} {w : Nat → Nat × Nat × Nat} {tr : Int64}
theorem CI_sm {P : Nat → Prop} (h : CI σ n txt L S hc hist kp img wn w tr) (hs : z_sm P σ τ) (hP : ∀ p, p < 75 → p < 15 ∨ 19 ≤ p → P p) : CI τ n txt L S hc hist kp img wn w tr := by
  obtain ⟨h1, h2, h3, ⟨nx, h4⟩, h5, h6, h7⟩ := h
  have H : ∀ p, p < 15 ∨ (19 ≤ p ∧ p < 75) → P p := fun p hp => hP p (by omega) (by omega)
  exact ⟨T_sf h1 (sm_sf hs) ⟨H 1 (by omega), fun _ => H 2 (by omega)⟩, L_at_sm h2 hs (H 10 (by omega)), M_at_sm h3 hs ⟨H _ (by omega), H _ (by omega), H _ (by omega), H _ (by omega)⟩, ⟨nx, H_at_sm h4 hs (fun p a b => H p (by omega))⟩, I_sm h5 hs (fun p a b => H p (by omega)), W_at_sm h6 hs ⟨H _ (by omega), H _ (by omega), H _ (by omega), H _ (by omega)⟩, ((hs 0 (H 0 (by omega)) 9).2).trans h7⟩
theorem DI_sf {Q : Nat → Nat → Prop} (h : DI σ n txt L S hc hist kp img wn w tr) (hN : L.2.2.2.2.2 ≤ 4) (hs : z_sf Q σ τ) (hQ : ∀ p k, 76 ≤ p → p ≠ 79 → p ≠ 80 → p ≠ 82 → p ≠ 86 → ¬ (p = 76 ∧ 14 ≤ k) → Q p k) : DI τ n txt L S hc hist kp img wn w tr := by
  obtain ⟨h1, h2, h3, h4, h5⟩ := h
  have H : ∀ p k, p = 77 ∨ p = 78 ∨ p = 81 ∨ p = 83 ∨ p = 84 ∨ p = 85 ∨ (p = 76 ∧ k < 14) → Q p k := fun p k hp => hQ p k (by omega) (by omega) (by omega) (by omega) (by omega) (by omega)
  exact ⟨TM_sf h1 hs ⟨H _ _ (by omega), fun _ => H _ _ (by omega)⟩, MF_sf h2 hs ⟨fun _ => H _ _ (by omega), fun _ => H _ _ (by omega), H _ _ (by omega), fun _ => H _ _ (by omega)⟩ hN, J_sf h3 hs ⟨H _ _ (by omega), fun _ => H _ _ (by omega)⟩ hN, V_sf h4 hs ⟨H _ _ (by omega), fun _ => H _ _ (by omega)⟩, ((hs 76 13 (H _ _ (by omega))).2).trans h5⟩
theorem DI_P {P : Nat → Prop} (h : DI σ n txt L S hc hist kp img wn w tr) (hN : L.2.2.2.2.2 ≤ 4) (hs : z_sm P σ τ) (hP : ∀ p, 76 ≤ p → P p) : DI τ n txt L S hc hist kp img wn w tr := DI_sf h hN (sm_sf hs) (fun p k h1 _ _ _ _ _ => hP p h1)
theorem CI_Q {Q : Nat → Nat → Prop} (h : CI σ n txt L S hc hist kp img wn w tr) (hs : z_sf Q σ τ) (hQ : ∀ p k, p < 75 → Q p k) : CI τ n txt L S hc hist kp img wn w tr := CI_sm (P := fun p => p < 75) h (fun p hp k => hs p k (hQ p k hp)) (fun p hp _ => hp)
theorem CI_do {L2 : t_L} {S2 : t_S} {hc2 : Nat} {hist2 : Nat → t_S} (h : CI σ n txt L S hc hist kp img wn w tr) (f : CF τ L2 S2 hc2 hist2) (hs : z_sm P_do σ τ) : CI τ n txt L2 S2 hc2 hist2 kp img wn w tr := by
  obtain ⟨h1, -, -, -, h5, h6, h7⟩ := h
  have H : ∀ p, p < 11 ∨ 61 ≤ p → P_do p := fun p hp => by unfold P_do; omega
  exact ⟨T_sf h1 (sm_sf hs) ⟨H 1 (by omega), fun _ => H 2 (by omega)⟩, f.1, f.2.1, f.2.2, I_sm h5 hs (fun p a b => H p (by omega)), W_at_sm h6 hs ⟨H _ (by omega), H _ (by omega), H _ (by omega), H _ (by omega)⟩, ((hs 0 (H 0 (by omega)) 9).2).trans h7⟩
theorem DI_do {S2 : t_S} {hc2 : Nat} {hist2 : Nat → t_S} (h : DI σ n txt L S hc hist kp img wn w tr) (hN : L.2.2.2.2.2 ≤ 4) (f : MF τ L S2 hc2 hist2) (hs : z_sf Qdo σ τ) : DI τ n txt L S2 hc2 hist2 kp img wn w tr := by
  obtain ⟨h1, -, h3, h4, h5⟩ := h
  have H : ∀ p k, p = 77 ∨ p = 84 ∨ p = 85 ∨ (p = 76 ∧ (k = 0 ∨ k = 10 ∨ k = 12 ∨ k = 13)) → Qdo p k := fun p k hp => by unfold Qdo; omega
  exact ⟨TM_sf h1 hs ⟨H _ _ (by omega), fun _ => H _ _ (by omega)⟩, f, J_sf h3 hs ⟨H _ _ (by omega), fun _ => H _ _ (by omega)⟩ hN, V_sf h4 hs ⟨H _ _ (by omega), fun _ => H _ _ (by omega)⟩, ((hs 76 13 (H _ _ (by omega))).2).trans h5⟩
theorem XD_push (h : XD L S hc hist kp img) {S2 : t_S} (sk : S_ok S2) (dk : DN L S2) : XD L S2 (pushN hc) (pushH S hist) kp img := by
  obtain ⟨h1, h2, h3, h4⟩ := h
  refine ⟨h1, ⟨sk, dk⟩, fun j hj => ?_, h4⟩
  unfold pushH
  by_cases e : j = 0
  · rw [if_pos e]
    exact h2
  · rw [if_neg e]
    refine h3 _ ?_
    unfold pushN at hj
    split at hj <;> omega
theorem inv_do (hC : CI σ n txt L S hc hist kp img wn w tr) (hD : DI σ n txt L S hc hist kp img wn w tr) (hN : L.2.2.2.2.2 ≤ 4) {τ2 : z_G} {S2 : t_S} {hc2 : Nat} {hist2 : Nat → t_S} (f1 : CF τ L S2 hc2 hist2) (g1 : z_sm P_do σ τ) (f2 : MF τ2 L S2 hc2 hist2) (g2 : z_sf Qdo τ τ2) (hX : XD L S2 hc2 hist2 kp img) : INV τ2 :=
  ⟨n, txt, L, S2, hc2, hist2, kp, img, wn, w, tr, CI_Q (CI_do hC f1 g1) g2 (fun p k hp => by unfold Qdo; omega), DI_do (DI_P hD hN g1 (fun p hp => by unfold P_do; omega)) hN f2 g2, hX⟩
theorem two_same {a b : Nat} {args : List Value} {x : Int32} (hI : INV σ) (h1 : z_call a (.ref 0 :: args) (z_enc σ) = some (some (.int x), z_enc σ)) (h2 : z_call b (.ref 76 :: args) (z_enc σ) = some (some (.int x), z_enc σ)) : two a b args σ := ⟨x, σ, σ, h1, h2, hI⟩
/-- what is foretold changes nothing -/
theorem two_fore {a b : Nat} {args : List Value} {x : Int32} {P : Nat → Prop} {Q : Nat → Nat → Prop} (hC : CI σ n txt L S hc hist kp img wn w tr) (hD : DI σ n txt L S hc hist kp img wn w tr) (hX : XD L S hc hist kp img) (h1 : z_call a (.ref 0 :: args) (z_enc σ) = some (some (.int x), z_enc τ)) (g1 : z_sm P σ τ) (hP : ∀ p, p < 15 ∨ (19 ≤ p ∧ p ≠ 75) → P p) (h2 : DI τ n txt L S hc hist kp img wn w tr → ∃ τ2, z_call b (.ref 76 :: args) (z_enc τ) = some (some (.int x), z_enc τ2) ∧ z_sf Q τ τ2) (hQ : ∀ p k, p ≠ 82 → p ≠ 86 → ¬ (p = 76 ∧ k = 19) → Q p k) : two a b args σ := by
  have hD1 := DI_P hD hX.1.2.2.2.2 g1 (fun p hp => hP p (by omega))
  obtain ⟨τ2, e2, g2⟩ := h2 hD1
  refine ⟨x, τ, τ2, h1, e2, n, txt, L, S, hc, hist, kp, img, wn, w, tr, CI_Q (CI_sm hC g1 (fun p h1 h2 => hP p (by omega))) g2 (fun p k hp => hQ p k (by omega) (by omega) (by omega)), DI_sf hD1 hX.1.2.2.2.2 g2 (fun p k h1 h2 h3 h4 h5 h6 => hQ p k (by omega) (by omega) (by omega)), hX⟩
theorem P15_ok : ∀ p, p < 15 ∨ (19 ≤ p ∧ p ≠ 75) → P15 p := fun p h => by unfold P15; omega
theorem P75_ok : ∀ p, p < 15 ∨ (19 ≤ p ∧ p ≠ 75) → P75 p := fun p h => by unfold P75; omega
theorem Q82_ok : ∀ p k, p ≠ 82 → p ≠ 86 → ¬ (p = 76 ∧ k = 19) → Q82 p k := fun p k h1 h2 h3 => by unfold Q82; omega
theorem Q86_ok : ∀ p k, p ≠ 82 → p ≠ 86 → ¬ (p = 76 ∧ k = 19) → Q86 p k := fun p k h1 h2 h3 => by unfold Q86; omega
theorem sm_15 {S2 : t_S} : z_sm P15 σ (M_set σ 15 S2) := sm_M (fun p h => by unfold P15 at h; omega)
end INV
section STEPS
variable {σ : z_G}
theorem st0 (hI : INV σ) (x : Int32) : two 59 120 [.int x] σ := by
  obtain ⟨n, txt, L, S, hc, hist, kp, img, wn, w, tr, hC, hD, hX⟩ := id hI
  have hN := hX.1.2.2.2.2
  by_cases hb : ¬ x < 0 ∧ ¬ 255 < x
  · obtain ⟨j, hj, rfl⟩ := nat_le (N := 255) (by decide) hb
    have e1 := s59 hC.1 (show j < 256 by omega)
    by_cases q : n < 120
    · rw [if_pos q] at e1
      have f1 : z_sf (fun p _ => p ≠ 1 ∧ p ≠ 2) σ (z_ui (z_ui σ 2 n (nI j)) 1 1 (nI (n + 1))) := (sf_ui (fun h => h.2 rfl)).tr (sf_ui (fun h => h.1 rfl))
      have hD1 := DI_sf hD hN f1 (fun p k h1 _ _ _ _ _ => ⟨by omega, by omega⟩)
      have e2 := s120 hD1.1 (show j < 256 by omega)
      rw [if_pos q] at e2
      have f2 : z_sf (fun p k => p ≠ 77 ∧ ¬ (p = 76 ∧ k = 0)) (z_ui (z_ui σ 2 n (nI j)) 1 1 (nI (n + 1))) (z_ui (z_ui (z_ui (z_ui σ 2 n (nI j)) 1 1 (nI (n + 1))) 77 n (nI j)) 76 0 (nI (n + 1))) := (sf_ui (fun h => h.1 rfl)).tr (sf_ui (fun h => h.2 ⟨rfl, rfl⟩))
      have hT1 : T_at (z_ui (z_ui σ 2 n (nI j)) 1 1 (nI (n + 1))) (n + 1) (tyF txt n j) := by
        refine ⟨by omega, z_ui_eq, fun k hk => ?_⟩
        unfold tyF
        rw [z_ui_ne (by omega)]
        by_cases e : k = n
        · subst e
          rw [z_ui_eq, if_pos rfl]
          exact ⟨rfl, by omega⟩
        · rw [z_ui_ne (by omega), if_neg e]
          exact hC.1.2.2 k (by omega)
      have hT2 : TM_at (z_ui (z_ui (z_ui (z_ui σ 2 n (nI j)) 1 1 (nI (n + 1))) 77 n (nI j)) 76 0 (nI (n + 1))) (n + 1) (tyF txt n j) := by
        refine ⟨by omega, z_ui_eq, fun k hk => ?_⟩
        unfold tyF
        rw [z_ui_ne (by omega)]
        by_cases e : k = n
        · subst e
          rw [z_ui_eq, if_pos rfl]
          exact ⟨rfl, by omega⟩
        · rw [z_ui_ne (by omega), if_neg e]
          exact hD1.1.2.2 k (by omega)
      obtain ⟨-, c2, c3, ⟨nx, c4⟩, c5, c6, c7⟩ := id hC
      obtain ⟨-, d2, d3, d4, d5⟩ := id hD1
      have P1 : z_sm (fun p => p ≠ 1 ∧ p ≠ 2) σ (z_ui (z_ui σ 2 n (nI j)) 1 1 (nI (n + 1))) := sf_sm f1
      have hC1 : CI (z_ui (z_ui σ 2 n (nI j)) 1 1 (nI (n + 1))) (n + 1) (tyF txt n j) L S hc hist kp img wn w tr :=
        ⟨hT1, L_at_sm c2 P1 (by omega), M_at_sm c3 P1 (by omega), ⟨nx, H_at_sm c4 P1 (fun p a b => by omega)⟩, I_sm c5 P1 (fun p a b => by omega), W_at_sm c6 P1 (by omega), ((P1 0 (by omega) 9).2).trans c7⟩
      refine ⟨_, _, _, e1, e2, n + 1, tyF txt n j, L, S, hc, hist, kp, img, wn, w, tr, CI_Q hC1 f2 (fun p k hp => by omega), ⟨hT2, MF_sf d2 f2 (by simp) hN, J_sf d3 f2 (by simp) hN, V_sf d4 f2 (by simp), ((f2 76 13 (by simp)).2).trans d5⟩, hX⟩
    · rw [if_neg q] at e1
      have e2 := s120 hD.1 (show j < 256 by omega)
      rw [if_neg q] at e2
      exact two_same hI e1 e2
  · exact two_same hI (s59b hb) (s120b hb)
theorem st1 (hI : INV σ) : two 60 121 [] σ := by
  obtain ⟨n, txt, L, S, hc, hist, kp, img, wn, w, tr, hC, hD, hX⟩ := id hI
  have hN := hX.1.2.2.2.2
  have f1 : z_sf (fun p _ => p ≠ 1) σ (z_ui σ 1 1 0) := sf_ui (fun h => h rfl)
  have hD1 := DI_sf hD hN f1 (fun p k h1 _ _ _ _ _ => by omega)
  have f2 : z_sf (fun p k => ¬ (p = 76 ∧ k = 0)) (z_ui σ 1 1 0) (z_ui (z_ui σ 1 1 0) 76 0 0) := sf_ui (fun h => h ⟨rfl, rfl⟩)
  obtain ⟨-, c2, c3, ⟨nx, c4⟩, c5, c6, c7⟩ := id hC
  obtain ⟨-, d2, d3, d4, d5⟩ := id hD1
  have P1 : z_sm (fun p => p ≠ 1) σ (z_ui σ 1 1 0) := sf_sm f1
  have hC1 : CI (z_ui σ 1 1 0) 0 txt L S hc hist kp img wn w tr :=
    ⟨⟨by omega, z_ui_eq, fun k hk => absurd hk (by omega)⟩, L_at_sm c2 P1 (by omega), M_at_sm c3 P1 (by omega), ⟨nx, H_at_sm c4 P1 (fun p a b => by omega)⟩, I_sm c5 P1 (fun p a b => by omega), W_at_sm c6 P1 (by omega), ((P1 0 (by omega) 9).2).trans c7⟩
  exact ⟨_, _, _, s60 hC.1, s121 hD1.1, 0, txt, L, S, hc, hist, kp, img, wn, w, tr, CI_Q hC1 f2 (fun p k hp => by omega), ⟨⟨by omega, z_ui_eq, fun k hk => absurd hk (by omega)⟩, MF_sf d2 f2 (by simp) hN, J_sf d3 f2 (by simp) hN, V_sf d4 f2 (by simp), ((f2 76 13 (by simp)).2).trans d5⟩, hX⟩
theorem st2 (hI : INV σ) : two 61 131 [] σ := by
  obtain ⟨n, txt, L, S, hc, hist, kp, img, wn, w, tr, hC, hD, hX⟩ := id hI
  have hN := hX.1.2.2.2.2
  have a := s61 hC.1
  cases hP : landF n txt with
  | inl f =>
    rw [hP] at a
    obtain ⟨τ1, e1, -, f1⟩ := a
    have hD1 := DI_sf hD hN f1 (fun p k h1 _ _ _ _ _ => by unfold Qr; omega)
    have b := s131 hD1.1
    rw [hP] at b
    obtain ⟨τ2, e2, f2⟩ := b
    obtain ⟨c1, c2, c3, ⟨nx, c4⟩, c5, c6, c7⟩ := id hC
    have P1 : z_sm (fun p => p = 0 ∨ p = 2 ∨ 10 ≤ p) σ τ1 := fun p hp k => f1 p k (by unfold Qr; omega)
    have hC1 : CI τ1 n txt L S hc hist kp img wn w tr :=
      ⟨T_sf c1 f1 ⟨by unfold Qr; omega, fun k => by unfold Qr; omega⟩, L_at_sm c2 P1 (by omega), M_at_sm c3 P1 (by omega), ⟨nx, H_at_sm c4 P1 (fun p a b => by omega)⟩, I_sm c5 P1 (fun p a b => by omega), W_at_sm c6 P1 (by omega), ((P1 0 (by omega) 9).2).trans c7⟩
    exact ⟨_, τ1, τ2, e1, e2, n, txt, L, S, hc, hist, kp, img, wn, w, tr, CI_Q hC1 f2 (fun p k hp => by unfold Qm; omega), DI_sf hD1 hN f2 (fun p k h1 h2 h3 h4 h5 h6 => by unfold Qm; omega), hX⟩
  | inr q =>
    rw [hP] at a
    obtain ⟨τ1, e1, a1, a2, a3, a4, a5, a6, a7, a8, f1⟩ := a
    have hD1 := DI_sf hD hN f1 (fun p k h1 _ _ _ _ _ => by omega)
    have b := s131 hD1.1
    rw [hP] at b
    obtain ⟨τ2, e2, b1, b2, b3, b4, b5, b6, f2⟩ := b
    obtain ⟨c1, c2, c3, ⟨nx, c4⟩, c5, c6, c7⟩ := id hC
    have hC1 : CI τ1 0 txt q.2.1 q.2.2 0 hist 0 img 0 w tr :=
      ⟨⟨by omega, a4, fun k hk => absurd hk (by omega)⟩, a1, a2, ⟨nx, c4.1, by omega, a8.trans c4.2.2.1, a7, fun j hj => absurd hj (by omega)⟩, ⟨by omega, a6, fun i _ hb => absurd hb (by simp)⟩, ⟨by omega, a5, fun k hk => absurd hk (by omega)⟩, ((f1 0 9 (Or.inl rfl)).2).trans c7⟩
    have hG := a3
    refine ⟨_, τ1, τ2, e1, e2, 0, txt, q.2.1, q.2.2, 0, hist, 0, img, 0, w, tr, CI_Q hC1 f2 (fun p k hp => by unfold Ql; omega), ⟨⟨by omega, b3, fun k hk => absurd hk (by omega)⟩, ⟨b1, b2, by omega, b4, fun j hj => absurd hj (by omega)⟩, ⟨by omega, b5, fun i _ hb => absurd hb (by simp)⟩, ⟨by omega, b6, fun k hk => absurd hk (by omega)⟩, ((f2 76 13 (by unfold Ql; omega)).2).trans hD1.2.2.2.2⟩, ⟨hG.1, ⟨hG.2.1, ?_⟩, fun j hj => absurd hj (by omega), fun i _ hb => absurd hb (by simp)⟩⟩
    show q.2.2.2.2.2.2.1 < 2 ^ q.2.1.2.2.2.2.2
    rw [hG.2.2.2.1]
    exact Nat.two_pow_pos _
theorem st3 (hI : INV σ) (x y : Int32) : two 62 151 [.int x, .int y] σ := by
  obtain ⟨n, txt, L, S, hc, hist, kp, img, wn, w, tr, hC, hD, hX⟩ := id hI
  exact two_same hI (s62 hC.2.1 hC.2.2.1 hX.1 hX.2.1.1 x y) (s151 hD.2.1.1 hD.2.1.2.1 hX.1 hX.2.1.1 x y)
theorem st4 (hI : INV σ) (x y : Int32) : two 63 152 [.int x, .int y] σ := by
  obtain ⟨n, txt, L, S, hc, hist, kp, img, wn, w, tr, hC, hD, hX⟩ := id hI
  exact two_same hI (s63 hC.2.1 hC.2.2.1 hX.1 hX.2.1.1 x y) (s152 hD.2.1.1 hD.2.1.2.1 hX.1 hX.2.1.1 x y)
theorem st5 (hI : INV σ) (x y : Int32) : two 64 153 [.int x, .int y] σ := by
  obtain ⟨n, txt, L, S, hc, hist, kp, img, wn, w, tr, hC, hD, hX⟩ := id hI
  exact two_same hI (s64 hC.2.1 hC.2.2.1 hX.1 hX.2.1.1 x y) (s153 hD.2.1.1 hD.2.1.2.1 hX.1 hX.2.1.1 x y)
theorem st6 (hI : INV σ) (x : Int32) : two 65 154 [.int x] σ := by
  obtain ⟨n, txt, L, S, hc, hist, kp, img, wn, w, tr, hC, hD, hX⟩ := id hI
  obtain ⟨nx, h4⟩ := hC.2.2.2.1
  exact two_same hI (s65 hC.2.2.1 h4.2.2.2.1 hX.2.1.1 x) (s154 hD.2.1.2.1 hX.2.1.1 hD.2.1.2.2.2.1 x)
theorem st7 (hI : INV σ) : two 66 156 [] σ := by
  obtain ⟨n, txt, L, S, hc, hist, kp, img, wn, w, tr, hC, hD, hX⟩ := id hI
  have hN := hX.1.2.2.2.2
  obtain ⟨τ1, e1, f1, g1⟩ := s66 ⟨hC.2.1, hC.2.2.1, hC.2.2.2.1⟩ hX.1 hX.2.1.1
  have hD1 := DI_P hD hN g1 (fun p hp => by unfold P_do; omega)
  obtain ⟨τ2, e2, f2, g2⟩ := s156 hD1.2.1 hX.1 hX.2.1.1
  exact ⟨_, τ1, τ2, e1, e2, inv_do hC hD hN f1 g1 f2 g2 (XD_push hX (step_ok hX.1 hX.2.1.1) (step_DN hX.1 hX.2.1.2))⟩
theorem st8 (hI : INV σ) (x y : Int32) : two 67 157 [.int x, .int y] σ := by
  obtain ⟨n, txt, L, S, hc, hist, kp, img, wn, w, tr, hC, hD, hX⟩ := id hI
  have hN := hX.1.2.2.2.2
  have hM := hX.1.2.2.2.1
  by_cases hb : (¬ x < 0 ∧ x < nI L.2.2.2.2.1) ∧ (¬ y < 0 ∧ y < 4)
  · obtain ⟨m, hm, rfl⟩ := nat_lt (by omega) hb.1
    obtain ⟨s, hs, rfl⟩ := nat_lt (N := 4) (by decide) hb.2
    have a := s67 ⟨hC.2.1, hC.2.2.1, hC.2.2.2.1⟩ hX.1 hX.2.1.1 hm hs
    cases e : walkR L S m s with
    | none =>
      rw [e] at a
      have b := s157 hD.2.1 hX.1 hX.2.1.1 hm hs
      rw [e] at b
      exact two_same hI a b
    | some d =>
      rw [e] at a
      obtain ⟨τ1, e1, f1, g1⟩ := a
      have hD1 := DI_P hD hN g1 (fun p hp => by unfold P_do; omega)
      have b := s157 hD1.2.1 hX.1 hX.2.1.1 hm hs
      rw [e] at b
      obtain ⟨τ2, e2, f2, g2⟩ := b
      have hd : d < 64 := by
        unfold walkR at e
        cases hb : besF L (S.1 m) s with
        | none => rw [hb] at e; cases e
        | some d2 =>
          rw [hb] at e
          dsimp only at e
          split at e
          · cases e
          · cases e
            exact (bes_lt (hX.2.1.1.1 m (by omega)) hX.1 hb).1
      exact ⟨_, τ1, τ2, e1, e2, inv_do hC hD hN f1 g1 f2 g2 (XD_push hX (mc_okK hX.2.1.1 hd) hX.2.1.2)⟩
  · exact two_same hI (s67b hC.2.1 hb) (s157b hD.2.1.1 hX.1 hb)
theorem st9 (hI : INV σ) (x y : Int32) : two 68 158 [.int x, .int y] σ := by
  obtain ⟨n, txt, L, S, hc, hist, kp, img, wn, w, tr, hC, hD, hX⟩ := id hI
  have hN := hX.1.2.2.2.2
  have hM := hX.1.2.2.2.1
  by_cases hb : (¬ x < 0 ∧ x < nI L.2.2.2.2.2) ∧ (y = 9 ∨ (¬ y < 0 ∧ y < nI L.2.2.2.2.1))
  · obtain ⟨g, hg, rfl⟩ := nat_lt (by omega) hb.1
    have hm : ∃ m, (m = 9 ∨ m < L.2.2.2.2.1) ∧ y = nI m := by
      rcases hb.2 with h | h
      · exact ⟨9, Or.inl rfl, h⟩
      · obtain ⟨m, h1, h2⟩ := nat_lt (by omega) h
        exact ⟨m, Or.inr h1, h2⟩
    obtain ⟨m, hm, rfl⟩ := hm
    have a := s68 ⟨hC.2.1, hC.2.2.1, hC.2.2.2.1⟩ hX.1 hX.2.1.1 hg hm
    by_cases q : S.2.2.1 g = m
    · rw [if_pos q] at a
      have b := s158 hD.2.1 hX.1 hX.2.1.1 hg hm
      rw [if_pos q] at b
      exact two_same hI a b
    · rw [if_neg q] at a
      obtain ⟨τ1, e1, f1, g1⟩ := a
      have hD1 := DI_P hD hN g1 (fun p hp => by unfold P_do; omega)
      have b := s158 hD1.2.1 hX.1 hX.2.1.1 hg hm
      rw [if_neg q] at b
      obtain ⟨τ2, e2, f2, g2⟩ := b
      exact ⟨_, τ1, τ2, e1, e2, inv_do hC hD hN f1 g1 f2 g2 (XD_push hX (mi_okK hX.2.1.1 (by omega)) hX.2.1.2)⟩
  · exact two_same hI (s68b hC.2.1 hb) (s158b hD.2.1.1 hX.1 hb)
theorem st10 (hI : INV σ) (x y : Int32) : two 69 159 [.int x, .int y] σ := by
  obtain ⟨n, txt, L, S, hc, hist, kp, img, wn, w, tr, hC, hD, hX⟩ := id hI
  have hN := hX.1.2.2.2.2
  by_cases hb : (¬ x < 0 ∧ x < nI L.2.2.2.2.2) ∧ ¬ y < 0 ∧ ¬ 1 < y
  · obtain ⟨g, hg, rfl⟩ := nat_lt (by omega) hb.1
    obtain ⟨v, hv, rfl⟩ := nat_le (N := 1) (by decide) hb.2
    have a := s69 ⟨hC.2.1, hC.2.2.1, hC.2.2.2.1⟩ hX.1 hX.2.1.1 hg (show v < 2 by omega)
    by_cases q : (if S.2.2.2.1.testBit g = true then 1 else 0) = v
    · rw [if_pos q] at a
      have b := s159 hD.2.1 hX.1 hX.2.1.1 hg (show v < 2 by omega)
      rw [if_pos q] at b
      exact two_same hI a b
    · rw [if_neg q] at a
      obtain ⟨τ1, e1, f1, g1⟩ := a
      have hD1 := DI_P hD hN g1 (fun p hp => by unfold P_do; omega)
      have b := s159 hD1.2.1 hX.1 hX.2.1.1 hg (show v < 2 by omega)
      rw [if_neg q] at b
      obtain ⟨τ2, e2, f2, g2⟩ := b
      exact ⟨_, τ1, τ2, e1, e2, inv_do hC hD hN f1 g1 f2 g2 (XD_push hX (mir_okK hX.2.1.1 (xor_ok _ hX.2.1.1.2.2.2.1 g (by omega)).2) hX.2.1.2)⟩
  · exact two_same hI (s69b hC.2.1 hb) (s159b hD.2.1.1 hX.1 hb)
theorem st11 (hI : INV σ) (x y : Int32) : two 70 160 [.int x, .int y] σ := by
  obtain ⟨n, txt, L, S, hc, hist, kp, img, wn, w, tr, hC, hD, hX⟩ := id hI
  have hN := hX.1.2.2.2.2
  by_cases hb : (¬ x < 0 ∧ x < nI L.2.2.2.2.2) ∧ (¬ y < 0 ∧ y < 4)
  · obtain ⟨g, hg, rfl⟩ := nat_lt (by omega) hb.1
    obtain ⟨s, hs, rfl⟩ := nat_lt (N := 4) (by decide) hb.2
    have a := s70 ⟨hC.2.1, hC.2.2.1, hC.2.2.2.1⟩ hX.1 hX.2.1.1 hg hs
    cases e : leadR L S g s with
    | none =>
      rw [e] at a
      have b := s160 hD.2.1 hX.1 hX.2.1.1 hg hs
      rw [e] at b
      obtain ⟨τ2, e2, f2, g2⟩ := b
      exact ⟨_, σ, τ2, a, e2, inv_do hC hD hN ⟨hC.2.1, hC.2.2.1, hC.2.2.2.1⟩ z_sm.rf f2 g2 hX⟩
    | some d =>
      rw [e] at a
      obtain ⟨τ1, e1, f1, g1⟩ := a
      have hD1 := DI_P hD hN g1 (fun p hp => by unfold P_do; omega)
      have b := s160 hD1.2.1 hX.1 hX.2.1.1 hg hs
      rw [e] at b
      obtain ⟨τ2, e2, f2, g2⟩ := b
      have hd : d < 64 := by
        unfold leadR at e
        split at e
        · exact (bes_lt (hX.2.1.1.2.1 g (by omega)) hX.1 e).1
        · cases e
      exact ⟨_, τ1, τ2, e1, e2, inv_do hC hD hN f1 g1 f2 g2 (XD_push hX (ent_ok hX.2.1.1 (by omega) hd) (ent_DN hX.1 hX.2.1.2 hg))⟩
  · exact two_same hI (s70b hC.2.1 hb) (s160b hD.2.1.1 hX.1 hb)
theorem st12 (hI : INV σ) : two 71 161 [] σ := by
  obtain ⟨n, txt, L, S, hc, hist, kp, img, wn, w, tr, hC, hD, hX⟩ := id hI
  have hN := hX.1.2.2.2.2
  have a := s71 ⟨hC.2.1, hC.2.2.1, hC.2.2.2.1⟩
  by_cases q : hc = 0
  · rw [if_pos q] at a
    have b := s161 hD.2.1 hX.1
    rw [if_pos q] at b
    exact two_same hI a b
  · rw [if_neg q] at a
    obtain ⟨τ1, e1, f1, g1⟩ := a
    have hD1 := DI_P hD hN g1 (fun p hp => by unfold P_do; omega)
    have b := s161 hD1.2.1 hX.1
    rw [if_neg q] at b
    obtain ⟨τ2, e2, f2, g2⟩ := b
    obtain ⟨x1, x2, x3, x4⟩ := hX
    exact ⟨_, τ1, τ2, e1, e2, inv_do hC hD hN f1 g1 f2 g2 ⟨x1, x3 0 (by omega), fun j hj => x3 (j + 1) (by omega), x4⟩⟩
theorem st13 (hI : INV σ) (x y : Int32) : two 72 162 [.int x, .int y] σ := by
  obtain ⟨n, txt, L, S, hc, hist, kp, img, wn, w, tr, hC, hD, hX⟩ := id hI
  have hN := hX.1.2.2.2.2
  by_cases hb : (¬ x < 0 ∧ x < nI L.2.2.2.2.2) ∧ ¬ y < 0 ∧ ¬ 40 < y
  · obtain ⟨g, hg, rfl⟩ := nat_lt (by omega) hb.1
    obtain ⟨v, hv, rfl⟩ := nat_le (N := 40) (by decide) hb.2
    exact two_fore hC hD hX (s72 hC.2.1 hC.2.2.1 hX.1 hX.2.1.1 hg hv) sm_15 P15_ok (fun h => s162 h.2.1.1 h.2.1.2.1 hX.1 hX.2.1.1 hX.2.1.2 hg hv) Q82_ok
  · exact two_same hI (s72b hC.2.1 hb) (s162b hD.2.1.1 hX.1 hb)
theorem st14 (hI : INV σ) (y : Int32) : two 73 163 [.int y] σ := by
  obtain ⟨n, txt, L, S, hc, hist, kp, img, wn, w, tr, hC, hD, hX⟩ := id hI
  by_cases hb : ¬ y < 0 ∧ ¬ 40 < y
  · obtain ⟨v, hv, rfl⟩ := nat_le (N := 40) (by decide) hb
    exact two_fore hC hD hX (s73 hC.2.1 hC.2.2.1 hX.1 hX.2.1.1 hv) sm_15 P15_ok (fun h => s163 h.2.1.1 h.2.1.2.1 hX.1 hX.2.1.1 hX.2.1.2 hv) Q82_ok
  · exact two_same hI (s73b hb) (s163b hb)
theorem has_c {L : t_L} {x : Int32} (ok : L_ok L) (h : ¬ hasV L x = 0) : ∃ c, c < 64 ∧ x = nI (tn c) ∧ insF L c = true := by
  rcases hasV_of (x := x) ok with ⟨-, h2⟩ | ⟨h2, -⟩
  · exact h2
  · exact absurd h2 h
theorem st15 (hI : INV σ) (x y : Int32) : two 74 164 [.int x, .int y] σ := by
  obtain ⟨n, txt, L, S, hc, hist, kp, img, wn, w, tr, hC, hD, hX⟩ := id hI
  have hN := hX.1.2.2.2.2
  by_cases hb : (¬ x < 0 ∧ x < nI L.2.2.2.2.2) ∧ ¬ hasV L y = 0
  · obtain ⟨g, hg, rfl⟩ := nat_lt (by omega) hb.1
    obtain ⟨c, hc6, rfl, hi⟩ := has_c hX.1 hb.2
    obtain ⟨S2, e1⟩ := s74 hC.2.1 hC.2.2.1 hX.1 hX.2.1.1 hg hc6 hi
    exact two_fore hC hD hX e1 sm_15 P15_ok (fun h => s164 h.2.1.1 h.2.1.2.1 hX.1 hX.2.1.1 hg hc6 hi) Q82_ok
  · exact two_same hI (s74b hC.2.1 hb) (s164b hD.2.1.1 hX.1 hb)
theorem st16 (hI : INV σ) (x y z : Int32) : two 75 165 [.int x, .int y, .int z] σ := by
  obtain ⟨n, txt, L, S, hc, hist, kp, img, wn, w, tr, hC, hD, hX⟩ := id hI
  have hN := hX.1.2.2.2.2
  by_cases hb : (¬ x < 0 ∧ x < nI L.2.2.2.2.2) ∧ ¬ hasV L y = 0 ∧ ¬ z < 0 ∧ ¬ 20 < z
  · obtain ⟨g, hg, rfl⟩ := nat_lt (by omega) hb.1
    obtain ⟨c, hc6, rfl, hi⟩ := has_c hX.1 hb.2.1
    obtain ⟨v, hv, rfl⟩ := nat_le (N := 20) (by decide) hb.2.2
    obtain ⟨τ1, e1, g1⟩ := s75 hC.2.1 hC.2.2.1 hX.1 hX.2.1.1 hg hc6 hi hv
    exact two_fore hC hD hX e1 g1 P15_ok (fun h => s165 h.2.1.1 h.2.1.2.1 hX.1 hX.2.1.1 hX.2.1.2 hg hc6 hi hv) Q82_ok
  · exact two_same hI (s75b hC.2.1 hb) (s165b hD.2.1.1 hX.1 hb)
theorem st17 (hI : INV σ) (x y : Int32) : two 76 166 [.int x, .int y] σ := by
  obtain ⟨n, txt, L, S, hc, hist, kp, img, wn, w, tr, hC, hD, hX⟩ := id hI
  by_cases hb : ¬ x < 0 ∧ ¬ 4 < x ∧ ¬ y < 0 ∧ ¬ 20 < y
  · obtain ⟨k, hk, rfl⟩ := nat_le (x := x) (N := 4) (by decide) ⟨hb.1, hb.2.1⟩
    obtain ⟨v, hv, rfl⟩ := nat_le (x := y) (N := 20) (by decide) hb.2.2
    obtain ⟨τ1, e1, g1⟩ := s76 hC.2.1 hC.2.2.1 hX.1 hX.2.1.1 hk hv
    exact two_fore hC hD hX e1 g1 P15_ok (fun h => s166 h.2.1.1 h.2.1.2.1 hX.1 hX.2.1.1 hX.2.1.2 hk hv) Q82_ok
  · exact two_same hI (s76b hb) (s166b hb)
theorem st18 (hI : INV σ) (x y z : Int32) : two 77 167 [.int x, .int y, .int z] σ := by
  obtain ⟨n, txt, L, S, hc, hist, kp, img, wn, w, tr, hC, hD, hX⟩ := id hI
  by_cases hb : ¬ x < 0 ∧ ¬ 10 < x ∧ ¬ y < 0 ∧ ¬ 4 < y ∧ ¬ z < 0 ∧ ¬ 1 < z
  · obtain ⟨a, ha, rfl⟩ := nat_le (x := x) (N := 10) (by decide) ⟨hb.1, hb.2.1⟩
    obtain ⟨k, hk, rfl⟩ := nat_le (x := y) (N := 4) (by decide) ⟨hb.2.2.1, hb.2.2.2.1⟩
    obtain ⟨v, hv, rfl⟩ := nat_le (x := z) (N := 1) (by decide) hb.2.2.2.2
    exact two_same hI (s77 hC.2.1 hX.1 ha hk hv) (s167 hD.2.1.1 hX.1 ha hk hv)
  · exact two_same hI (s77b hb) (s167b hb)
theorem st19 (hI : INV σ) (x y z : Int32) : two 78 168 [.int x, .int y, .int z] σ := by
  obtain ⟨n, txt, L, S, hc, hist, kp, img, wn, w, tr, hC, hD, hX⟩ := id hI
  have hN := hX.1.2.2.2.2
  by_cases hb : (¬ x < 0 ∧ x < nI L.2.2.2.2.2) ∧ ¬ y < 0 ∧ ¬ 20 < y ∧ ¬ hasV L z = 0
  · obtain ⟨g, hg, rfl⟩ := nat_lt (by omega) hb.1
    obtain ⟨v, hv, rfl⟩ := nat_le (x := y) (N := 20) (by decide) ⟨hb.2.1, hb.2.2.1⟩
    obtain ⟨c, hc6, rfl, hi⟩ := has_c hX.1 hb.2.2.2
    obtain ⟨c1, c2, c3, ⟨nx, c4⟩, c5, c6, c7⟩ := id hC
    obtain ⟨τ1, e1, w1, g1⟩ := s78 c2 c6 hX.1 hg hv hc6 hi
    have hD1 := DI_P hD hN g1 (fun p hp => by omega)
    obtain ⟨d1, d2, d3, d4, d5⟩ := id hD1
    obtain ⟨τ2, e2, w2, g2⟩ := s168 d2.1 d4 hX.1 hg hv hc6 hi
    have hC1 : CI τ1 n txt L S hc hist kp img (if wn < 6 then wn + 1 else wn) (fun k => if k = wn then (g, v, c) else w k) tr :=
      ⟨T_sf c1 (sm_sf g1) ⟨by omega, fun _ => by omega⟩, L_at_sm c2 g1 (by omega), M_at_sm c3 g1 (by omega), ⟨nx, H_at_sm c4 g1 (fun p a b => by omega)⟩, I_sm c5 g1 (fun p a b => by omega), w1, ((g1 0 (by omega) 9).2).trans c7⟩
    refine ⟨_, τ1, τ2, e1, e2, n, txt, L, S, hc, hist, kp, img, _, _, tr, CI_Q hC1 g2 (fun p k hp => by unfold Q85; omega), ⟨TM_sf d1 g2 ⟨by unfold Q85; omega, fun k => by unfold Q85; omega⟩, MF_sf d2 g2 ⟨fun k => by unfold Q85; omega, fun k => by unfold Q85; omega, by unfold Q85; omega, fun k => by unfold Q85; omega⟩ hN, J_sf d3 g2 ⟨by unfold Q85; omega, fun k => by unfold Q85; omega⟩ hN, w2, ((g2 76 13 (by unfold Q85; omega)).2).trans d5⟩, hX⟩
  · exact two_same hI (s78b hC.2.1 hb) (s168b hD.2.1.1 hX.1 hb)
theorem st20 (hI : INV σ) : two 79 169 [] σ := by
  obtain ⟨n, txt, L, S, hc, hist, kp, img, wn, w, tr, hC, hD, hX⟩ := id hI
  have hN := hX.1.2.2.2.2
  obtain ⟨c1, c2, c3, ⟨nx, c4⟩, c5, c6, c7⟩ := id hC
  have g1 : z_sm (fun p => p ≠ 71) σ (z_ui σ 71 3 0) := sm_ui (fun p h => h)
  have hD1 := DI_P hD hN g1 (fun p hp => by omega)
  obtain ⟨d1, d2, d3, d4, d5⟩ := id hD1
  have g2 : z_sf (fun p k => ¬ (p = 76 ∧ k = 12)) (z_ui σ 71 3 0) (z_ui (z_ui σ 71 3 0) 76 12 0) := sf_ui (fun h => h ⟨rfl, rfl⟩)
  have hC1 : CI (z_ui σ 71 3 0) n txt L S hc hist kp img 0 w tr :=
    ⟨T_sf c1 (sm_sf g1) (by simp), L_at_sm c2 g1 (by omega), M_at_sm c3 g1 (by omega), ⟨nx, H_at_sm c4 g1 (fun p a b => by omega)⟩, I_sm c5 g1 (fun p a b => by omega), ⟨by omega, z_ui_eq, fun k hk => absurd hk (by omega)⟩, ((g1 0 (by omega) 9).2).trans c7⟩
  exact ⟨_, _, _, s79 c6, s169 d4, n, txt, L, S, hc, hist, kp, img, 0, w, tr, CI_Q hC1 g2 (fun p k hp => by omega), ⟨TM_sf d1 g2 (by simp), MF_sf d2 g2 (by simp) hN, J_sf d3 g2 (by simp) hN, ⟨by omega, z_ui_eq, fun k hk => absurd hk (by omega)⟩, ((g2 76 13 (by simp)).2).trans d5⟩, hX⟩
theorem st21 (hI : INV σ) (x : Int32) : two 80 171 [.int x] σ := by
  obtain ⟨n, txt, L, S, hc, hist, kp, img, wn, w, tr, hC, hD, hX⟩ := id hI
  have hN := hX.1.2.2.2.2
  by_cases hb : ¬ x < 0 ∧ x < nI L.2.2.2.2.2
  · obtain ⟨g, hg, rfl⟩ := nat_lt (by omega) hb
    obtain ⟨τ1, e1, g1⟩ := s80 hC.2.1 hC.2.2.1 hC.2.2.2.2.2.1 hX.1 hX.2.1.1 hg
    exact two_fore hC hD hX e1 g1 P15_ok (fun h => s171 h.2.1.1 h.2.2.2.1 h.2.1.2.1 hX.1 hX.2.1.1 hg) Q82_ok
  · exact two_same hI (s80b hC.2.1 hb) (s171b hD.2.1.1 hX.1 hb)
theorem st22 (hI : INV σ) (x : Int32) : two 81 173 [.int x] σ := by
  obtain ⟨n, txt, L, S, hc, hist, kp, img, wn, w, tr, hC, hD, hX⟩ := id hI
  have hN := hX.1.2.2.2.2
  by_cases hb : ¬ x < 0 ∧ x < nI L.2.2.2.2.2
  · obtain ⟨g, hg, rfl⟩ := nat_lt (by omega) hb
    obtain ⟨τ1, e1, g1⟩ := s81 hC.2.1 hC.2.2.1 hC.2.2.2.2.2.1 hX.1 hX.2.1.1 hg
    exact two_fore hC hD hX e1 g1 P75_ok (fun h => s173 h.2.1.1 h.2.2.2.1 h.2.1.2.1 hX.1 hX.2.1.1 hX.2.1.2 hg) Q86_ok
  · exact two_same hI (s81b hC.2.1 hb) (s173b hD.2.1.1 hX.1 hb)
theorem st23 (hI : INV σ) (x y : Int32) : two 82 177 [.int x, .int y] σ := by
  obtain ⟨n, txt, L, S, hc, hist, kp, img, wn, w, tr, hC, hD, hX⟩ := id hI
  have hN := hX.1.2.2.2.2
  by_cases hb : (¬ y < 0 ∧ y < nI L.2.2.2.2.2) ∧ (x = 0 ∨ x = 1 ∨ x = 2 ∨ x = 3 ∨ x = 4 ∨ x = 5)
  · obtain ⟨g, hg, rfl⟩ := nat_lt (by omega) hb.1
    have hk : ∃ k, k < 6 ∧ x = nI k := by
      rcases hb.2 with h | h | h | h | h | h
      · exact ⟨0, by omega, h⟩
      · exact ⟨1, by omega, h⟩
      · exact ⟨2, by omega, h⟩
      · exact ⟨3, by omega, h⟩
      · exact ⟨4, by omega, h⟩
      · exact ⟨5, by omega, h⟩
    obtain ⟨k, hk, rfl⟩ := hk
    obtain ⟨c1, c2, c3, ⟨nx, c4⟩, c5, c6, c7⟩ := id hC
    have e1 := s82 c2 c3 hX.1 hX.2.1.1 hg hk
    have g1 : z_sf (fun p k => ¬ (p = 0 ∧ k = 9)) σ (z_ul σ 0 9 (grow k (σ.2 0 9))) := sf_ul (fun h => h ⟨rfl, rfl⟩)
    have P1 : z_sm (fun p => p ≠ 0) σ (z_ul σ 0 9 (grow k (σ.2 0 9))) := fun p hp j => g1 p j (by omega)
    have hD1 := DI_P hD hN P1 (fun p hp => by omega)
    obtain ⟨d1, d2, d3, d4, d5⟩ := id hD1
    have e2 := s177 d2.1 d2.2.1 hX.1 hX.2.1.1 hg hk
    have g2 : z_sf (fun p k => ¬ (p = 76 ∧ k = 13)) (z_ul σ 0 9 (grow k (σ.2 0 9))) (z_ul (z_ul σ 0 9 (grow k (σ.2 0 9))) 76 13 (grow k ((z_ul σ 0 9 (grow k (σ.2 0 9))).2 76 13))) := sf_ul (fun h => h ⟨rfl, rfl⟩)
    have hC1 : CI (z_ul σ 0 9 (grow k (σ.2 0 9))) n txt L S hc hist kp img wn w (grow k tr) :=
      ⟨T_sf c1 (sm_sf P1) (by simp), L_at_sm c2 P1 (by omega), M_at_sm c3 P1 (by omega), ⟨nx, H_at_sm c4 P1 (fun p a b => by omega)⟩, I_sm c5 P1 (fun p a b => by omega), W_at_sm c6 P1 (by omega), by rw [c7]; simp [z_ul]⟩
    refine ⟨_, _, _, e1, e2, n, txt, L, S, hc, hist, kp, img, wn, w, grow k tr, CI_Q hC1 g2 (fun p k hp => by omega), ⟨TM_sf d1 g2 (by simp), MF_sf d2 g2 (by simp) hN, J_sf d3 g2 (by simp) hN, V_sf d4 g2 (by simp), ?_⟩, hX⟩
    rw [d5]
    simp [z_ul]
  · exact two_same hI (s82b hC.2.1 hb) (s177b hD.2.1.1 hX.1 hb)
theorem st24 (hI : INV σ) (x : Int32) : two 83 178 [.int x] σ := by
  obtain ⟨n, txt, L, S, hc, hist, kp, img, wn, w, tr, hC, hD, hX⟩ := id hI
  have hN := hX.1.2.2.2.2
  by_cases hb : ¬ x < 0 ∧ x < nI 2
  · obtain ⟨i, hi, rfl⟩ := nat_lt (by decide) hb
    obtain ⟨c1, c2, c3, ⟨nx, c4⟩, c5, c6, c7⟩ := id hC
    obtain ⟨τ1, e1, i1, g1⟩ := s83 c5 c3 hX.2.1.1 hi
    have hD1 := DI_P hD hN g1 (fun p hp => by omega)
    obtain ⟨d1, d2, d3, d4, d5⟩ := id hD1
    obtain ⟨τ2, e2, j2, g2⟩ := s178 d3 d2.2.1 hX.1 hX.2.1.1 hi
    have hC1 : CI τ1 n txt L S hc hist (kp ||| 2 ^ i) (fun j => if j = i then S else img j) wn w tr :=
      ⟨T_sf c1 (sm_sf g1) ⟨by omega, fun _ => by omega⟩, L_at_sm c2 g1 (by omega), M_at_sm c3 g1 (by omega), ⟨nx, H_at_sm c4 g1 (fun p a b => by omega)⟩, i1, W_at_sm c6 g1 (by omega), ((g1 0 (by omega) 9).2).trans c7⟩
    obtain ⟨x1, x2, x3, x4⟩ := hX
    refine ⟨_, τ1, τ2, e1, e2, n, txt, L, S, hc, hist, _, _, wn, w, tr, CI_Q hC1 g2 (fun p k hp => by unfold Q84; omega), ⟨TM_sf d1 g2 ⟨by unfold Q84; omega, fun k => by unfold Q84; omega⟩, MF_sf d2 g2 ⟨fun k => by unfold Q84; omega, fun k => by unfold Q84; omega, by unfold Q84; omega, fun k => by unfold Q84; omega⟩ hN, j2, V_sf d4 g2 ⟨by unfold Q84; omega, fun k => by unfold Q84; omega⟩, ((g2 76 13 (by unfold Q84; omega)).2).trans d5⟩, ⟨x1, x2, x3, fun j hj hb2 => ?_⟩⟩
    dsimp only
    rcases setb2 _ c5.1 i hi j hj hb2 with q | q
    · rw [if_pos q]; exact x2
    · by_cases e : j = i
      · rw [if_pos e]; exact x2
      · rw [if_neg e]; exact x4 j hj q
  · exact two_same hI (s83b hb) (s178b hb)
theorem st25 (hI : INV σ) (x : Int32) : two 84 179 [.int x] σ := by
  obtain ⟨n, txt, L, S, hc, hist, kp, img, wn, w, tr, hC, hD, hX⟩ := id hI
  have hN := hX.1.2.2.2.2
  by_cases hb : ¬ x < 0 ∧ x < 2
  · obtain ⟨i, hi, rfl⟩ := nat_lt (N := 2) (by decide) hb
    obtain ⟨c1, c2, c3, ⟨nx, c4⟩, c5, c6, c7⟩ := id hC
    have a := s84 c5 c4 (fun i hi hb => (hX.2.2.2 i hi hb).1) hi
    by_cases q : kp.testBit i = true
    · rw [if_pos q] at a
      obtain ⟨τ1, e1, m1, h1, g1⟩ := a
      have g1d : z_sm P_do σ τ1 := g1.mono (fun p hp => by unfold P_do at hp; omega)
      have hD1 := DI_P hD hN g1d (fun p hp => by unfold P_do; omega)
      have b := s179 hD1.2.1 hD1.2.2.1 hX.1 (fun i hi hb => (hX.2.2.2 i hi hb).1) hi
      rw [if_pos q] at b
      obtain ⟨τ2, e2, f2, g2⟩ := b
      have f1 : CF τ1 L (img i) 0 hist := ⟨L_at_sm c2 g1 (by omega), m1, nx, h1⟩
      obtain ⟨x1, x2, x3, x4⟩ := id hX
      exact ⟨_, τ1, τ2, e1, e2, inv_do hC hD hN f1 g1d f2 g2 ⟨x1, x4 i hi q, fun j hj => absurd hj (by omega), x4⟩⟩
    · rw [if_neg q] at a
      have b := s179 hD.2.1 hD.2.2.1 hX.1 (fun i hi hb => (hX.2.2.2 i hi hb).1) hi
      rw [if_neg q] at b
      exact two_same hI a b
  · exact two_same hI (s84b hb) (s179b hb)
theorem st26 (hI : INV σ) (x : Int32) : two 85 180 [.int x] σ := by
  obtain ⟨n, txt, L, S, hc, hist, kp, img, wn, w, tr, hC, hD, hX⟩ := id hI
  exact two_same hI (s85 hC.2.1 hC.2.2.2.2.2.1 hC.1.2.1 x) (s180 hD.2.1.1 hD.2.2.2.1 hD.1.2.1 x)
theorem st27 (hI : INV σ) : ∃ x : Int64, z_call 86 [.ref 0] (z_enc σ) = some (some (.long x), z_enc σ) ∧ z_call 181 [.ref 76] (z_enc σ) = some (some (.long x), z_enc σ) := by
  obtain ⟨n, txt, L, S, hc, hist, kp, img, wn, w, tr, hC, hD, hX⟩ := id hI
  have h1 := hC.2.2.2.2.2.2
  have h2 := hD.2.2.2.2
  have e2 := s181 (σ := σ)
  rw [h2, ← h1] at e2
  exact ⟨_, s86, e2⟩
end STEPS
