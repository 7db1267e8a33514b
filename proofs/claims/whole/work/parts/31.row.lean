/-! the reference: its rows -/
def z_sf (Q : Nat → Nat → Prop) (σ τ : z_G) : Prop := ∀ p k, Q p k → τ.1 p k = σ.1 p k ∧ τ.2 p k = σ.2 p k
theorem z_sf.rf {Q : Nat → Nat → Prop} {σ : z_G} : z_sf Q σ σ := fun _ _ _ => ⟨rfl, rfl⟩
theorem z_sf.tr {Q : Nat → Nat → Prop} {σ τ υ : z_G} (h1 : z_sf Q σ τ) (h2 : z_sf Q τ υ) : z_sf Q σ υ := fun p k hp => ⟨(h2 p k hp).1.trans (h1 p k hp).1, (h2 p k hp).2.trans (h1 p k hp).2⟩
theorem z_sf.mono {Q Q2 : Nat → Nat → Prop} {σ τ : z_G} (h : z_sf Q σ τ) (hp : ∀ p k, Q2 p k → Q p k) : z_sf Q2 σ τ := fun p k h2 => h p k (hp p k h2)
theorem sf_ui {Q : Nat → Nat → Prop} {σ : z_G} {a j : Nat} {x : Int32} (h : ¬ Q a j) : z_sf Q σ (z_ui σ a j x) := fun p k hp => ⟨z_ui_ne (fun q => h (by rw [q.1, q.2] at hp; exact hp)), rfl⟩
theorem sf_ul {Q : Nat → Nat → Prop} {σ : z_G} {a j : Nat} {x : Int64} (h : ¬ Q a j) : z_sf Q σ (z_ul σ a j x) := fun p k hp => ⟨rfl, z_ul_ne (fun q => h (by rw [q.1, q.2] at hp; exact hp))⟩
theorem sf_sm {P : Nat → Prop} {σ τ : z_G} (h : z_sf (fun p _ => P p) σ τ) : z_sm P σ τ := fun p hp k => h p k hp
/-- a row copied -/
def cpF (σ : z_G) (p o q r n : Nat) : z_G := (fun a j => if a = p ∧ o ≤ j ∧ j < o + n then σ.1 q (r + (j - o)) else σ.1 a j, σ.2)
theorem cp_0 (σ : z_G) (p o q r : Nat) : cpF σ p o q r 0 = σ := by
  unfold cpF
  refine Prod.ext (funext fun a => funext fun j => ?_) rfl
  exact if_neg (by omega)
theorem cp_src {σ : z_G} {p o q r n i : Nat} (h : q ≠ p) : (cpF σ p o q r n).1 q i = σ.1 q i := by
  unfold cpF
  exact if_neg (fun e => h e.1)
theorem cp_succ {σ : z_G} {p o q r n i j : Nat} (h : q ≠ p) (hj : j = o + n) (hi : i = r + n) : z_ui (cpF σ p o q r n) p j ((cpF σ p o q r n).1 q i) = cpF σ p o q r (n + 1) := by
  rw [cp_src h]
  subst hj hi
  unfold cpF z_ui
  refine Prod.ext (funext fun a => funext fun k => ?_) rfl
  dsimp only
  by_cases e : a = p ∧ k = o + n
  · rw [if_pos e, if_pos (by omega), show k - o = n by omega]
  · rw [if_neg e]
    by_cases g : a = p ∧ o ≤ k ∧ k < o + n
    · rw [if_pos g, if_pos (by omega)]
    · rw [if_neg g, if_neg (by omega)]
theorem cp_in {σ : z_G} {p o q r n i : Nat} (h : i < n) : (cpF σ p o q r n).1 p (o + i) = σ.1 q (r + i) := by
  unfold cpF
  dsimp only
  rw [if_pos (by omega), show o + i - o = i by omega]
theorem sf_cp {Q : Nat → Nat → Prop} {σ : z_G} {p o q r n : Nat} (h : ∀ j, o ≤ j → j < o + n → ¬ Q p j) : z_sf Q σ (cpF σ p o q r n) := fun a k hp => ⟨by
  unfold cpF
  exact if_neg (fun e => h k e.2.1 e.2.2 (by rw [e.1] at hp; exact hp)), rfl⟩
theorem R_cp {σ : z_G} {p o q r N : Nat} {S : t_S} (h : R_at σ q r N S) (hN : N ≤ 4) : R_at (cpF σ p o q r 16) p o N S := by
  obtain ⟨h1, h2, h3, h4, ⟨h5, h6⟩, h7⟩ := h
  refine ⟨fun k hk => ?_, fun k hk => ?_, ?_, ?_, ⟨?_, ?_⟩, fun k hk => ?_⟩
  · rw [cp_in (by omega)]; exact h1 k hk
  · rw [Nat.add_assoc, cp_in (by omega), ← Nat.add_assoc]; exact h2 k hk
  · rw [cp_in (by omega)]; exact h3
  · rw [cp_in (by omega)]; exact h4
  · rw [cp_in (by omega)]; exact h5
  · rw [cp_in (by omega)]; exact h6
  · rw [Nat.add_assoc, cp_in (by omega), ← Nat.add_assoc]; exact h7 k hk
theorem R_sf {Q : Nat → Nat → Prop} {σ τ : z_G} {p o N : Nat} {S : t_S} (h : R_at σ p o N S) (hs : z_sf Q σ τ) (hQ : ∀ k, k < 16 → Q p (o + k)) (hN : N ≤ 4) : R_at τ p o N S := by
  obtain ⟨h1, h2, h3, h4, ⟨h5, h6⟩, h7⟩ := h
  refine ⟨fun k hk => ?_, fun k hk => ?_, ?_, ?_, ⟨?_, ?_⟩, fun k hk => ?_⟩
  · rw [(hs _ _ (hQ k (by omega))).1]; exact h1 k hk
  · rw [Nat.add_assoc, (hs _ _ (hQ (4 + k) (by omega))).1, ← Nat.add_assoc]; exact h2 k hk
  · rw [(hs _ _ (hQ 8 (by omega))).1]; exact h3
  · rw [(hs _ _ (hQ 9 (by omega))).1]; exact h4
  · rw [(hs _ _ (hQ 10 (by omega))).1]; exact h5
  · rw [(hs _ _ (hQ 11 (by omega))).1]; exact h6
  · rw [Nat.add_assoc, (hs _ _ (hQ (12 + k) (by omega))).1, ← Nat.add_assoc]; exact h7 k hk
theorem D_sf {Q : Nat → Nat → Prop} {σ τ : z_G} {L : t_L} (h : D_at σ L) (hs : z_sf Q σ τ) (hQ : ∀ k, Q 78 k) : D_at τ L := by
  obtain ⟨h1, h2, h3, h4, h5⟩ := h
  refine ⟨?_, ?_, ?_, ?_, fun c hc => ?_⟩
  · rw [(hs _ _ (hQ _)).1]; exact h1
  · rw [(hs _ _ (hQ _)).1]; exact h2
  · rw [(hs _ _ (hQ _)).1]; exact h3
  · rw [(hs _ _ (hQ _)).1]; exact h4
  · rw [(hs _ _ (hQ _)).1]; exact h5 c hc
section ROW
variable {σ : z_G} {p N : Nat} {S : t_S}
theorem r0_rc (h : R_at σ p 0 N S) {k : Nat} (hk : k < 4) : σ.1 p k = nI (S.2.1 k) := by have := h.1 k hk; rwa [Nat.zero_add] at this
theorem r0_mi (h : R_at σ p 0 N S) {k : Nat} (hk : k < N) : σ.1 p (4 + k) = toldF (S.2.2.1 k) := by have := h.2.1 k hk; rwa [Nat.zero_add] at this
theorem r0_mir (h : R_at σ p 0 N S) : σ.1 p 8 = nI S.2.2.2.1 := by have := h.2.2.1; rwa [Nat.zero_add] at this
theorem r0_dn (h : R_at σ p 0 N S) : σ.1 p 9 = nI S.2.2.2.2.1 := by have := h.2.2.2.1; rwa [Nat.zero_add] at this
theorem r0_k0 (h : R_at σ p 0 N S) : σ.1 p 10 = nI (S.2.2.2.2.2 % 4294967296) := by have := h.2.2.2.2.1.1; rwa [Nat.zero_add] at this
theorem r0_k1 (h : R_at σ p 0 N S) : σ.1 p 11 = nI (S.2.2.2.2.2 / 4294967296) := by have := h.2.2.2.2.1.2; rwa [Nat.zero_add] at this
theorem r0_mc (h : R_at σ p 0 N S) {k : Nat} (hk : k < 4) : σ.1 p (12 + k) = nI (S.1 k) := by have := h.2.2.2.2.2 k hk; rwa [Nat.zero_add] at this
theorem R0_mk (h1 : ∀ k, k < 4 → σ.1 p k = nI (S.2.1 k)) (h2 : ∀ k, k < N → σ.1 p (4 + k) = toldF (S.2.2.1 k)) (h3 : σ.1 p 8 = nI S.2.2.2.1) (h4 : σ.1 p 9 = nI S.2.2.2.2.1) (h5 : σ.1 p 10 = nI (S.2.2.2.2.2 % 4294967296)) (h6 : σ.1 p 11 = nI (S.2.2.2.2.2 / 4294967296)) (h7 : ∀ k, k < 4 → σ.1 p (12 + k) = nI (S.1 k)) : R_at σ p 0 N S := by
  refine ⟨fun k hk => ?_, fun k hk => ?_, ?_, ?_, ⟨?_, ?_⟩, fun k hk => ?_⟩
  all_goals rw [Nat.zero_add]
  · exact h1 k hk
  · exact h2 k hk
  · exact h3
  · exact h4
  · exact h5
  · exact h6
  · exact h7 k hk
theorem r_rc (h : R_at σ p 0 N S) (hN : N ≤ 4) {g c : Nat} (hg : g < 4) : R_at (z_ui σ p g (nI c)) p 0 N (rcS S g c) := by
  refine R0_mk (fun k hk => ?_) (fun k hk => ?_) ?_ ?_ ?_ ?_ (fun k hk => ?_)
  · by_cases e : k = g
    · subst e; simp [z_ui, rcS]
    · rw [z_ui_ne (by omega), r0_rc h hk]; simp [rcS, e]
  all_goals rw [z_ui_ne (by omega)]
  · (have e := r0_mi h hk; exact e)
  · (have e := r0_mir h; exact e)
  · (have e := r0_dn h; exact e)
  · (have e := r0_k0 h; exact e)
  · (have e := r0_k1 h; exact e)
  · (have e := r0_mc h hk; exact e)
theorem r_mi (h : R_at σ p 0 N S) (hN : N ≤ 4) {g m : Nat} (hg : g < N) {x : Int32} (hx : x = toldF m) : R_at (z_ui σ p (4 + g) x) p 0 N (miS S g m) := by
  subst hx
  refine R0_mk (fun k hk => ?_) (fun k hk => ?_) ?_ ?_ ?_ ?_ (fun k hk => ?_)
  · rw [z_ui_ne (by omega)]; (have e := r0_rc h hk; exact e)
  · by_cases e : k = g
    · subst e; simp [z_ui, miS]
    · rw [z_ui_ne (by omega), r0_mi h hk]; simp [miS, e]
  all_goals rw [z_ui_ne (by omega)]
  · (have e := r0_mir h; exact e)
  · (have e := r0_dn h; exact e)
  · (have e := r0_k0 h; exact e)
  · (have e := r0_k1 h; exact e)
  · (have e := r0_mc h hk; exact e)
theorem r_mc (h : R_at σ p 0 N S) (hN : N ≤ 4) {g c : Nat} (hg : g < 4) : R_at (z_ui σ p (12 + g) (nI c)) p 0 N (mcS S g c) := by
  refine R0_mk (fun k hk => ?_) (fun k hk => ?_) ?_ ?_ ?_ ?_ (fun k hk => ?_)
  case refine_7 =>
    by_cases e : k = g
    · subst e; simp [z_ui, mcS]
    · rw [z_ui_ne (by omega), r0_mc h hk]; simp [mcS, e]
  all_goals rw [z_ui_ne (by omega)]
  · (have e := r0_rc h hk; exact e)
  · (have e := r0_mi h hk; exact e)
  · (have e := r0_mir h; exact e)
  · (have e := r0_dn h; exact e)
  · (have e := r0_k0 h; exact e)
  · (have e := r0_k1 h; exact e)
theorem r_mir (h : R_at σ p 0 N S) (hN : N ≤ 4) {x : Nat} : R_at (z_ui σ p 8 (nI x)) p 0 N (mirS S x) := by
  refine R0_mk (fun k hk => ?_) (fun k hk => ?_) ?_ ?_ ?_ ?_ (fun k hk => ?_)
  case refine_3 => simp [z_ui, mirS]
  all_goals rw [z_ui_ne (by omega)]
  · (have e := r0_rc h hk; exact e)
  · (have e := r0_mi h hk; exact e)
  · (have e := r0_dn h; exact e)
  · (have e := r0_k0 h; exact e)
  · (have e := r0_k1 h; exact e)
  · (have e := r0_mc h hk; exact e)
theorem r_dn (h : R_at σ p 0 N S) (hN : N ≤ 4) {x : Nat} : R_at (z_ui σ p 9 (nI x)) p 0 N (dnS S x) := by
  refine R0_mk (fun k hk => ?_) (fun k hk => ?_) ?_ ?_ ?_ ?_ (fun k hk => ?_)
  case refine_4 => simp [z_ui, dnS]
  all_goals rw [z_ui_ne (by omega)]
  · (have e := r0_rc h hk; exact e)
  · (have e := r0_mi h hk; exact e)
  · (have e := r0_mir h; exact e)
  · (have e := r0_k0 h; exact e)
  · (have e := r0_k1 h; exact e)
  · (have e := r0_mc h hk; exact e)
theorem or_lo {n c : Nat} (hc : c < 32) : (n ||| 2 ^ c) % 4294967296 = n % 4294967296 ||| 2 ^ c ∧ (n ||| 2 ^ c) / 4294967296 = n / 4294967296 := by
  have e : 4294967296 = 2 ^ 32 := rfl
  rw [e]
  constructor
  · apply Nat.eq_of_testBit_eq
    intro i
    rw [Nat.testBit_mod_two_pow, Nat.testBit_or, Nat.testBit_or, Nat.testBit_mod_two_pow, Nat.testBit_two_pow]
    by_cases h : i < 32
    · simp [h]
    · have : ¬ c = i := by omega
      simp [h, this]
  · apply Nat.eq_of_testBit_eq
    intro i
    rw [Nat.testBit_div_two_pow, Nat.testBit_or, Nat.testBit_div_two_pow, Nat.testBit_two_pow]
    have : ¬ c = i + 32 := by omega
    simp [this]
theorem or_hi {n c : Nat} (hc : 32 ≤ c) : (n ||| 2 ^ c) % 4294967296 = n % 4294967296 ∧ (n ||| 2 ^ c) / 4294967296 = n / 4294967296 ||| 2 ^ (c - 32) := by
  have e : 4294967296 = 2 ^ 32 := rfl
  rw [e]
  constructor
  · apply Nat.eq_of_testBit_eq
    intro i
    rw [Nat.testBit_mod_two_pow, Nat.testBit_or, Nat.testBit_mod_two_pow, Nat.testBit_two_pow]
    by_cases h : i < 32
    · have : ¬ c = i := by omega
      simp [h, this]
    · simp [h]
  · apply Nat.eq_of_testBit_eq
    intro i
    rw [Nat.testBit_div_two_pow, Nat.testBit_or, Nat.testBit_or, Nat.testBit_div_two_pow, Nat.testBit_two_pow, Nat.testBit_two_pow]
    by_cases h : c = i + 32
    · have : c - 32 = i := by omega
      simp [h]
    · have : ¬ c - 32 = i := by omega
      simp [h, this]
theorem r_kn (h : R_at σ p 0 N S) (hN : N ≤ 4) {c : Nat} (hc : c < 64) : R_at (z_ui σ p (10 + c / 32) (σ.1 p (10 + c / 32) ||| nI (2 ^ (c % 32)))) p 0 N (knS S (S.2.2.2.2.2 ||| 2 ^ c)) := by
  have hk : S.2.2.2.2.2 = (knS S (S.2.2.2.2.2 ||| 2 ^ c)).2.2.2.2.2 → True := fun _ => trivial
  by_cases q : c < 32
  · rw [show c / 32 = 0 by omega, show c % 32 = c by omega, Nat.add_zero, r0_k0 h, z_orI]
    obtain ⟨o1, o2⟩ := or_lo (n := S.2.2.2.2.2) q
    refine R0_mk (fun k hk => ?_) (fun k hk => ?_) ?_ ?_ ?_ ?_ (fun k hk => ?_)
    case refine_5 => rw [z_ui_eq, ← o1]; rfl
    all_goals rw [z_ui_ne (by omega)]
    · (have e := r0_rc h hk; exact e)
    · (have e := r0_mi h hk; exact e)
    · (have e := r0_mir h; exact e)
    · (have e := r0_dn h; exact e)
    · rw [r0_k1 h]; show _ = nI ((S.2.2.2.2.2 ||| 2 ^ c) / 4294967296); rw [o2]
    · (have e := r0_mc h hk; exact e)
  · rw [show c / 32 = 1 by omega, show c % 32 = c - 32 by omega, r0_k1 h, z_orI]
    obtain ⟨o1, o2⟩ := or_hi (n := S.2.2.2.2.2) (show 32 ≤ c by omega)
    refine R0_mk (fun k hk => ?_) (fun k hk => ?_) ?_ ?_ ?_ ?_ (fun k hk => ?_)
    case refine_6 => rw [show 10 + 1 = 11 from rfl, z_ui_eq, ← o2]; rfl
    all_goals rw [z_ui_ne (by omega)]
    · (have e := r0_rc h hk; exact e)
    · (have e := r0_mi h hk; exact e)
    · (have e := r0_mir h; exact e)
    · (have e := r0_dn h; exact e)
    · rw [r0_k0 h]; show _ = nI ((S.2.2.2.2.2 ||| 2 ^ c) % 4294967296); rw [o1]
    · (have e := r0_mc h hk; exact e)
end ROW
