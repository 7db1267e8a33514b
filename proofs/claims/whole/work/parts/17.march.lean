/-! a march: mothers' cells, regiments' cells, whom they mind (9: nobody), mirrors, down, known (bits); the class's March -/
abbrev t_S : Type := (Nat → Nat) × (Nat → Nat) × (Nat → Nat) × Nat × Nat × Nat
def S_ok (S : t_S) : Prop := (∀ k, k < 4 → S.1 k < 64) ∧ (∀ k, k < 4 → S.2.1 k < 64) ∧ (∀ k, k < 4 → S.2.2.1 k < 4 ∨ S.2.2.1 k = 9) ∧ S.2.2.2.1 < 16 ∧ S.2.2.2.2.1 < 16 ∧ S.2.2.2.2.2 < 2 ^ 64
def M_at (σ : z_G) (a : Nat) (S : t_S) : Prop := (∀ k, k < 4 → σ.1 (a + 1) k = nI (tn (S.1 k))) ∧ (∀ k, k < 4 → σ.1 (a + 2) k = nI (tn (S.2.1 k))) ∧ (∀ k, k < 4 → σ.1 (a + 3) k = nI (S.2.2.1 k)) ∧ σ.1 a 4 = nI S.2.2.2.1 ∧ σ.1 a 5 = nI S.2.2.2.2.1 ∧ σ.2 a 6 = lN S.2.2.2.2.2
def M_set (σ : z_G) (a : Nat) (S : t_S) : z_G :=
  (fun p k => if p = a + 1 ∧ k < 4 then nI (tn (S.1 k)) else if p = a + 2 ∧ k < 4 then nI (tn (S.2.1 k)) else if p = a + 3 ∧ k < 4 then nI (S.2.2.1 k) else if p = a ∧ k = 4 then nI S.2.2.2.1 else if p = a ∧ k = 5 then nI S.2.2.2.2.1 else σ.1 p k,
   fun p k => if p = a ∧ k = 6 then lN S.2.2.2.2.2 else σ.2 p k)
/-- the places of a march -/
def M_in (a p k : Nat) : Prop := (p = a + 1 ∧ k < 4) ∨ (p = a + 2 ∧ k < 4) ∨ (p = a + 3 ∧ k < 4) ∨ (p = a ∧ k = 4) ∨ (p = a ∧ k = 5)
def M_inL (a p k : Nat) : Prop := p = a ∧ k = 6
theorem M_at_set (σ : z_G) (a : Nat) (S : t_S) : M_at (M_set σ a S) a S := by
  unfold M_at M_set
  refine ⟨fun k hk => ?_, fun k hk => ?_, fun k hk => ?_, ?_, ?_, ?_⟩ <;> simp [*]
theorem M_set_out {σ : z_G} {a : Nat} {S : t_S} {p k : Nat} (h : ¬ M_in a p k) : (M_set σ a S).1 p k = σ.1 p k := by
  unfold M_in at h
  unfold M_set
  dsimp only
  rw [if_neg (fun q => h (Or.inl q)), if_neg (fun q => h (Or.inr (Or.inl q))), if_neg (fun q => h (Or.inr (Or.inr (Or.inl q)))), if_neg (fun q => h (Or.inr (Or.inr (Or.inr (Or.inl q))))), if_neg (fun q => h (Or.inr (Or.inr (Or.inr (Or.inr q)))))]
theorem M_set_outL {σ : z_G} {a : Nat} {S : t_S} {p k : Nat} (h : ¬ M_inL a p k) : (M_set σ a S).2 p k = σ.2 p k := by
  unfold M_inL at h
  unfold M_set
  dsimp only
  rw [if_neg h]
theorem M_set_ext {σ τ : z_G} {a : Nat} {S : t_S} (h : M_at τ a S) (h1 : ∀ p k, ¬ M_in a p k → τ.1 p k = σ.1 p k) (h2 : ∀ p k, ¬ M_inL a p k → τ.2 p k = σ.2 p k) : τ = M_set σ a S := by
  obtain ⟨a0, a1, a2, a3, a4, a5⟩ := h
  refine Prod.ext (funext fun p => funext fun k => ?_) (funext fun p => funext fun k => ?_)
  · by_cases hp : M_in a p k
    · unfold M_set
      dsimp only
      unfold M_in at hp
      rcases hp with ⟨rfl, hk⟩ | ⟨rfl, hk⟩ | ⟨rfl, hk⟩ | ⟨rfl, rfl⟩ | ⟨rfl, rfl⟩
      · simp [hk, a0 k hk]
      · simp [hk, a1 k hk]
      · simp [hk, a2 k hk]
      · simp [a3]
      · simp [a4]
    · rw [M_set_out hp, h1 p k hp]
  · by_cases hp : M_inL a p k
    · unfold M_set
      dsimp only
      unfold M_inL at hp
      obtain ⟨rfl, rfl⟩ := hp
      simp [a5]
    · rw [M_set_outL hp, h2 p k hp]
theorem M_set_set (σ : z_G) (a : Nat) (S S2 : t_S) : M_set (M_set σ a S) a S2 = M_set σ a S2 :=
  M_set_ext (M_at_set _ _ _) (fun p k h => by rw [M_set_out h, M_set_out h]) (fun p k h => by rw [M_set_outL h, M_set_outL h])
theorem M_set_self {σ : z_G} {a : Nat} {S : t_S} (h : M_at σ a S) : M_set σ a S = σ := (M_set_ext h (fun _ _ _ => rfl) (fun _ _ _ => rfl)).symm
/-- marches apart: b is neither a nor among its cells -/
def M_ap (a b : Nat) : Prop := a + 4 ≤ b ∨ b + 4 ≤ a
theorem M_at_ne {σ : z_G} {a b : Nat} {S S2 : t_S} (hab : M_ap a b) (h : M_at σ b S2) : M_at (M_set σ a S) b S2 := by
  unfold M_ap at hab
  obtain ⟨a0, a1, a2, a3, a4, a5⟩ := h
  refine ⟨fun k hk => ?_, fun k hk => ?_, fun k hk => ?_, ?_, ?_, ?_⟩
  · rw [M_set_out (by unfold M_in; omega)]; exact a0 k hk
  · rw [M_set_out (by unfold M_in; omega)]; exact a1 k hk
  · rw [M_set_out (by unfold M_in; omega)]; exact a2 k hk
  · rw [M_set_out (by unfold M_in; omega)]; exact a3
  · rw [M_set_out (by unfold M_in; omega)]; exact a4
  · rw [M_set_outL (by unfold M_inL; omega)]; exact a5
theorem L_at_ne {σ : z_G} {a b : Nat} {S : t_S} {L : t_L} (hab : a + 4 ≤ b ∨ b < a) (h : L_at σ b L) : L_at (M_set σ a S) b L := by
  obtain ⟨a0, a1, a2, a3, a4, a5⟩ := h
  refine ⟨?_, ?_, ?_, ?_, ?_, ?_⟩
  · rw [M_set_out (by unfold M_in; omega)]; exact a0
  · rw [M_set_out (by unfold M_in; omega)]; exact a1
  · rw [M_set_outL (by unfold M_inL; omega)]; exact a2
  · rw [M_set_outL (by unfold M_inL; omega)]; exact a3
  · rw [M_set_out (by unfold M_in; omega)]; exact a4
  · rw [M_set_out (by unfold M_in; omega)]; exact a5
-- one number of a march changed
def mcS (S : t_S) (m c : Nat) : t_S := (fun k => if k = m then c else S.1 k, S.2)
def rcS (S : t_S) (g c : Nat) : t_S := (S.1, fun k => if k = g then c else S.2.1 k, S.2.2)
def miS (S : t_S) (g m : Nat) : t_S := (S.1, S.2.1, fun k => if k = g then m else S.2.2.1 k, S.2.2.2)
def mirS (S : t_S) (x : Nat) : t_S := (S.1, S.2.1, S.2.2.1, x, S.2.2.2.2)
def dnS (S : t_S) (x : Nat) : t_S := (S.1, S.2.1, S.2.2.1, S.2.2.2.1, x, S.2.2.2.2.2)
def knS (S : t_S) (x : Nat) : t_S := (S.1, S.2.1, S.2.2.1, S.2.2.2.1, S.2.2.2.2.1, x)
section SETS
variable {σ : z_G} {a : Nat} {S : t_S}
theorem u_mc (h : M_at σ a S) {m c : Nat} (hm : m < 4) : z_ui σ (a + 1) m (nI (tn c)) = M_set σ a (mcS S m c) := by
  obtain ⟨a0, a1, a2, a3, a4, a5⟩ := h
  refine M_set_ext ⟨fun k hk => ?_, fun k hk => ?_, fun k hk => ?_, ?_, ?_, ?_⟩ (fun p k hp => ?_) (fun p k hp => rfl)
  · simp only [z_ui, mcS, true_and]; split <;> simp [a0 k hk]
  · simp [z_ui, mcS, a1 k hk]
  · simp [z_ui, mcS, a2 k hk]
  · simp [z_ui, mcS, a3]
  · simp [z_ui, mcS, a4]
  · simp [z_ui, mcS, a5]
  · unfold M_in at hp; simp only [z_ui]; rw [if_neg (fun q => hp (by omega))]
theorem u_rc (h : M_at σ a S) {g c : Nat} (hm : g < 4) : z_ui σ (a + 2) g (nI (tn c)) = M_set σ a (rcS S g c) := by
  obtain ⟨a0, a1, a2, a3, a4, a5⟩ := h
  refine M_set_ext ⟨fun k hk => ?_, fun k hk => ?_, fun k hk => ?_, ?_, ?_, ?_⟩ (fun p k hp => ?_) (fun p k hp => rfl)
  · simp [z_ui, rcS, a0 k hk]
  · simp only [z_ui, rcS, true_and]; split <;> simp [a1 k hk]
  · simp [z_ui, rcS, a2 k hk]
  · simp [z_ui, rcS, a3]
  · simp [z_ui, rcS, a4]
  · simp [z_ui, rcS, a5]
  · unfold M_in at hp; simp only [z_ui]; rw [if_neg (fun q => hp (by omega))]
theorem u_mi (h : M_at σ a S) {g c : Nat} (hm : g < 4) : z_ui σ (a + 3) g (nI c) = M_set σ a (miS S g c) := by
  obtain ⟨a0, a1, a2, a3, a4, a5⟩ := h
  refine M_set_ext ⟨fun k hk => ?_, fun k hk => ?_, fun k hk => ?_, ?_, ?_, ?_⟩ (fun p k hp => ?_) (fun p k hp => rfl)
  · simp [z_ui, miS, a0 k hk]
  · simp [z_ui, miS, a1 k hk]
  · simp only [z_ui, miS, true_and]; split <;> simp [a2 k hk]
  · simp [z_ui, miS, a3]
  · simp [z_ui, miS, a4]
  · simp [z_ui, miS, a5]
  · unfold M_in at hp; simp only [z_ui]; rw [if_neg (fun q => hp (by omega))]
theorem u_mir (h : M_at σ a S) {x : Nat} : z_ui σ a 4 (nI x) = M_set σ a (mirS S x) := by
  obtain ⟨a0, a1, a2, a3, a4, a5⟩ := h
  refine M_set_ext ⟨fun k hk => ?_, fun k hk => ?_, fun k hk => ?_, ?_, ?_, ?_⟩ (fun p k hp => ?_) (fun p k hp => rfl)
  · simp [z_ui, mirS, a0 k hk]
  · simp [z_ui, mirS, a1 k hk]
  · simp [z_ui, mirS, a2 k hk]
  · simp [z_ui, mirS]
  · simp [z_ui, mirS, a4]
  · simp [z_ui, mirS, a5]
  · unfold M_in at hp; simp only [z_ui]; rw [if_neg (fun q => hp (by omega))]
theorem u_dn (h : M_at σ a S) {x : Nat} : z_ui σ a 5 (nI x) = M_set σ a (dnS S x) := by
  obtain ⟨a0, a1, a2, a3, a4, a5⟩ := h
  refine M_set_ext ⟨fun k hk => ?_, fun k hk => ?_, fun k hk => ?_, ?_, ?_, ?_⟩ (fun p k hp => ?_) (fun p k hp => rfl)
  · simp [z_ui, dnS, a0 k hk]
  · simp [z_ui, dnS, a1 k hk]
  · simp [z_ui, dnS, a2 k hk]
  · simp [z_ui, dnS, a3]
  · simp [z_ui, dnS]
  · simp [z_ui, dnS, a5]
  · unfold M_in at hp; simp only [z_ui]; rw [if_neg (fun q => hp (by omega))]
theorem u_kn (h : M_at σ a S) {x : Nat} : z_ul σ a 6 (lN x) = M_set σ a (knS S x) := by
  obtain ⟨a0, a1, a2, a3, a4, a5⟩ := h
  refine M_set_ext ⟨fun k hk => ?_, fun k hk => ?_, fun k hk => ?_, ?_, ?_, ?_⟩ (fun p k hp => rfl) (fun p k hp => ?_)
  · simp [z_ul, knS, a0 k hk]
  · simp [z_ul, knS, a1 k hk]
  · simp [z_ul, knS, a2 k hk]
  · simp [z_ul, knS, a3]
  · simp [z_ul, knS, a4]
  · simp [z_ul, knS]
  · unfold M_inL at hp; simp only [z_ul]; rw [if_neg hp]
end SETS
-- mathematics of a step
def atF (rc : Nat → Nat) (c : Nat) : Nat → Nat
  | 0 => 0
  | k + 1 => atF rc c k + (if rc k = c then 2 ^ k else 0)
def mayF (L : t_L) (S : t_S) (c : Nat) (ft : Bool) : Bool := insF L c && !wallF L c && (ft || !foldF L c) && decide (atF S.2.1 c L.2.2.2.2.2 = 0)
def mayO (L : t_L) (S : t_S) (o : Option Nat) (ft : Bool) : Bool := match o with
  | some c => mayF L S c ft
  | none => false
def sdF (c d : Nat) : Option Nat :=
  if c = d then none else if (c % 8 - d % 8) + (d % 8 - c % 8) ≤ (c / 8 - d / 8) + (d / 8 - c / 8) then (if c / 8 < d / 8 then some 0 else some 1) else (if c % 8 < d % 8 then some 2 else some 3)
def sideF (S : t_S) (g : Nat) : Option Nat := if S.2.2.1 g = 9 then none else sdF (S.2.1 g) (S.1 (S.2.2.1 g))
def goalF (L : t_L) (S : t_S) (g : Nat) : Option Nat := match sideF S g with
  | none => none
  | some s =>
    if S.2.2.2.1.testBit g = false then (if mayO L S (besF L (S.2.1 g) s) true = true then besF L (S.2.1 g) s else none)
    else if mayO L S (besF L (S.2.1 g) s) false = true then besF L (S.2.1 g) s
    else if mayO L S (besF L (S.2.1 g) (if s < 2 then 2 else 0)) false = true then besF L (S.2.1 g) (if s < 2 then 2 else 0)
    else if mayO L S (besF L (S.2.1 g) (if s < 2 then 3 else 1)) false = true then besF L (S.2.1 g) (if s < 2 then 3 else 1)
    else none
def entF (L : t_L) (S : t_S) (g c : Nat) : t_S :=
  let S1 := knS (rcS S g c) (S.2.2.2.2.2 ||| 2 ^ c)
  if insF L c = true ∧ foldF L c = true ∧ S.2.2.2.1.testBit g = false then dnS S1 (S.2.2.2.2.1 ||| 2 ^ g) else S1
def clrF (d g : Nat) : Nat := if d.testBit g = true then d - 2 ^ g else d
def oneF (L : t_L) (S : t_S) (g : Nat) : t_S × Nat :=
  if S.2.2.2.2.1.testBit g = true then (dnS S (clrF S.2.2.2.2.1 g), 0) else match goalF L S g with
    | none => (S, 0)
    | some c => (entF L S g c, 1)
def stpF (L : t_L) (S : t_S) : Nat → t_S × Nat
  | 0 => (S, 0)
  | k + 1 => ((oneF L (stpF L S k).1 k).1, (stpF L S k).2 + (oneF L (stpF L S k).1 k).2)
def stepF (L : t_L) (S : t_S) : t_S := (stpF L S L.2.2.2.2.2).1
def goneF (L : t_L) (S : t_S) : Nat := (stpF L S L.2.2.2.2.2).2
def ones4 (d : Nat) : Nat := (d % 2) + (d / 2 % 2) + (d / 4 % 2) + (d / 8 % 2)
def stepsF (L : t_L) (S : t_S) : Nat → t_S
  | 0 => S
  | n + 1 => stepF L (stepsF L S n)
def fallF (L : t_L) (S : t_S) : Nat → Nat
  | 0 => 0
  | n + 1 => fallF L S n + ones4 (stepsF L S (n + 1)).2.2.2.2.1
def z_s (o : Option Nat) : Int32 := match o with
  | some d => nI d
  | none => -1
