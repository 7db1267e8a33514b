/-! THE HEAP behind both constructors, and memory: what numbers its cells hold -/
def z_T : z_H := [
  .inl (7, [.ref 1, .ref 3, .ref 10, .ref 11, .ref 15, .ref 19, .ref 61, .ref 71, .ref 75, .long 0]),
  .inl (5, [.ref 2, .int 0, .int 0, .int 0, .int 0, .int 0]),
  .inr (.inl (List.replicate 120 0)),
  .inl (4, [.ref 1, .ref 4, .ref 5, .ref 9]),
  .inl (2, [.int 8, .int 8, .long 0, .long 0, .int 0, .int 0]),
  .inl (3, [.ref 4, .ref 6, .ref 7, .ref 8, .int 0, .int 0, .long 0]),
  .inr (.inl (List.replicate 4 0)),
  .inr (.inl (List.replicate 4 0)),
  .inr (.inl (List.replicate 4 0)),
  .inr (.inl (List.replicate 3 0)),
  .inl (2, [.int 8, .int 8, .long 0, .long 0, .int 0, .int 0]),
  .inl (3, [.ref 10, .ref 12, .ref 13, .ref 14, .int 0, .int 0, .long 0]),
  .inr (.inl (List.replicate 4 0)),
  .inr (.inl (List.replicate 4 0)),
  .inr (.inl (List.replicate 4 0)),
  .inl (3, [.ref 10, .ref 16, .ref 17, .ref 18, .int 0, .int 0, .long 0]),
  .inr (.inl (List.replicate 4 0)),
  .inr (.inl (List.replicate 4 0)),
  .inr (.inl (List.replicate 4 0)),
  .inl (0, [.ref 20, .int 0, .int 0]),
  .inr (.inr [some 21, some 25, some 29, some 33, some 37, some 41, some 45, some 49, some 53, some 57]),
  .inl (3, [.ref 10, .ref 22, .ref 23, .ref 24, .int 0, .int 0, .long 0]),
  .inr (.inl (List.replicate 4 0)),
  .inr (.inl (List.replicate 4 0)),
  .inr (.inl (List.replicate 4 0)),
  .inl (3, [.ref 10, .ref 26, .ref 27, .ref 28, .int 0, .int 0, .long 0]),
  .inr (.inl (List.replicate 4 0)),
  .inr (.inl (List.replicate 4 0)),
  .inr (.inl (List.replicate 4 0)),
  .inl (3, [.ref 10, .ref 30, .ref 31, .ref 32, .int 0, .int 0, .long 0]),
  .inr (.inl (List.replicate 4 0)),
  .inr (.inl (List.replicate 4 0)),
  .inr (.inl (List.replicate 4 0)),
  .inl (3, [.ref 10, .ref 34, .ref 35, .ref 36, .int 0, .int 0, .long 0]),
  .inr (.inl (List.replicate 4 0)),
  .inr (.inl (List.replicate 4 0)),
  .inr (.inl (List.replicate 4 0)),
  .inl (3, [.ref 10, .ref 38, .ref 39, .ref 40, .int 0, .int 0, .long 0]),
  .inr (.inl (List.replicate 4 0)),
  .inr (.inl (List.replicate 4 0)),
  .inr (.inl (List.replicate 4 0)),
  .inl (3, [.ref 10, .ref 42, .ref 43, .ref 44, .int 0, .int 0, .long 0]),
  .inr (.inl (List.replicate 4 0)),
  .inr (.inl (List.replicate 4 0)),
  .inr (.inl (List.replicate 4 0)),
  .inl (3, [.ref 10, .ref 46, .ref 47, .ref 48, .int 0, .int 0, .long 0]),
  .inr (.inl (List.replicate 4 0)),
  .inr (.inl (List.replicate 4 0)),
  .inr (.inl (List.replicate 4 0)),
  .inl (3, [.ref 10, .ref 50, .ref 51, .ref 52, .int 0, .int 0, .long 0]),
  .inr (.inl (List.replicate 4 0)),
  .inr (.inl (List.replicate 4 0)),
  .inr (.inl (List.replicate 4 0)),
  .inl (3, [.ref 10, .ref 54, .ref 55, .ref 56, .int 0, .int 0, .long 0]),
  .inr (.inl (List.replicate 4 0)),
  .inr (.inl (List.replicate 4 0)),
  .inr (.inl (List.replicate 4 0)),
  .inl (3, [.ref 10, .ref 58, .ref 59, .ref 60, .int 0, .int 0, .long 0]),
  .inr (.inl (List.replicate 4 0)),
  .inr (.inl (List.replicate 4 0)),
  .inr (.inl (List.replicate 4 0)),
  .inl (1, [.ref 62, .int 0]),
  .inr (.inr [some 63, some 67]),
  .inl (3, [.ref 10, .ref 64, .ref 65, .ref 66, .int 0, .int 0, .long 0]),
  .inr (.inl (List.replicate 4 0)),
  .inr (.inl (List.replicate 4 0)),
  .inr (.inl (List.replicate 4 0)),
  .inl (3, [.ref 10, .ref 68, .ref 69, .ref 70, .int 0, .int 0, .long 0]),
  .inr (.inl (List.replicate 4 0)),
  .inr (.inl (List.replicate 4 0)),
  .inr (.inl (List.replicate 4 0)),
  .inl (6, [.ref 72, .ref 73, .ref 74, .int 0]),
  .inr (.inl (List.replicate 6 0)),
  .inr (.inl (List.replicate 6 0)),
  .inr (.inl (List.replicate 6 0)),
  .inr (.inl (List.replicate 84 0)),
  .inl (8, [.int 0, .ref 77, .ref 78, .ref 79, .ref 80, .ref 81, .ref 82, .ref 83, .int 0, .ref 84, .int 0, .ref 85, .int 0, .long 0, .int 0, .int 0, .int 0, .int 0, .int 0, .int 0, .ref 86]),
  .inr (.inl (List.replicate 120 0)),
  .inr (.inl (8 :: 8 :: List.replicate 66 0)),
  .inr (.inl (8 :: 8 :: List.replicate 66 0)),
  .inr (.inl (List.replicate 16 0)),
  .inr (.inl (List.replicate 16 0)),
  .inr (.inl (List.replicate 16 0)),
  .inr (.inl (List.replicate 160 0)),
  .inr (.inl (List.replicate 32 0)),
  .inr (.inl (List.replicate 18 0)),
  .inr (.inl (List.replicate 4 0))]
def z_T1 : z_H := z_T.take 76
abbrev z_G : Type := (Nat → Nat → Int32) × (Nat → Nat → Int64)
def z_fill (σ : z_G) (a : Nat) : z_C → z_C
  | .inl o => .inl (o.1, o.2.mapIdx fun k v => match v with
    | .int _ => .int (σ.1 a k)
    | .long _ => .long (σ.2 a k)
    | v => v)
  | .inr (.inl l) => .inr (.inl ((List.range l.length).map (σ.1 a)))
  | .inr (.inr l) => .inr (.inr l)
def z_enc (σ : z_G) : z_H := z_T.mapIdx fun a c => z_fill σ a c
/-- what the numbers are at first -/
def z_σ0 : z_G := (fun a k => if (a = 4 ∨ a = 10 ∨ a = 78 ∨ a = 79) ∧ (k = 0 ∨ k = 1) then 8 else 0, fun _ _ => 0)
theorem z_enc0 : z_enc z_σ0 = z_T := by decide +kernel
theorem z_enc_at (σ : z_G) (a : Nat) : (z_enc σ)[a]? = (z_T[a]?).map (z_fill σ a) := List.getElem?_mapIdx
def z_ui (σ : z_G) (a k : Nat) (x : Int32) : z_G := (fun p j => if p = a ∧ j = k then x else σ.1 p j, σ.2)
def z_ul (σ : z_G) (a k : Nat) (x : Int64) : z_G := (σ.1, fun p j => if p = a ∧ j = k then x else σ.2 p j)
theorem z_fill_ne {σ τ : z_G} {a : Nat} (h1 : ∀ k, σ.1 a k = τ.1 a k) (h2 : ∀ k, σ.2 a k = τ.2 a k) (c : z_C) : z_fill σ a c = z_fill τ a c := by
  rcases c with o | l | l
  · simp only [z_fill, h1, h2]
  · simp only [z_fill]
    congr 2
    exact List.map_congr_left fun k _ => h1 k
  · rfl
theorem z_enc_set {σ τ : z_G} {a : Nat} {c c1 : z_C} (hc : z_T[a]? = some c) (hs : z_fill τ a c = c1) (h1 : ∀ p k, p ≠ a → σ.1 p k = τ.1 p k) (h2 : ∀ p k, p ≠ a → σ.2 p k = τ.2 p k) : (z_enc σ).set a c1 = z_enc τ := by
  apply List.ext_getElem?
  intro i
  by_cases hi : i = a
  · subst hi
    have hl : i < (z_enc σ).length := by
      unfold z_enc
      rw [List.length_mapIdx]
      exact (List.getElem?_eq_some_iff.mp hc).1
    rw [List.getElem?_set_self hl, z_enc_at, hc, ← hs]
    rfl
  · rw [List.getElem?_set_ne (Ne.symm hi), z_enc_at, z_enc_at]
    cases z_T[i]? with
    | none => rfl
    | some c2 => exact congrArg some (z_fill_ne (fun k => h1 i k hi) (fun k => h2 i k hi) c2)
/-- the kind of a field: 1 an int, 2 a long, 3 a reference -/
def z_fk (a ci k : Nat) : Nat := match z_T[a]? with
  | some (.inl o) => if o.1 = ci then match o.2[k]? with
    | some (.int _) => 1
    | some (.long _) => 2
    | some (.ref _) => 3
    | _ => 0
    else 0
  | _ => 0
def z_rf (a k : Nat) : Nat := match z_T[a]? with
  | some (.inl o) => match o.2[k]? with
    | some (.ref b) => b
    | _ => 0
  | _ => 0
def z_an (a : Nat) : Nat := match z_T[a]? with
  | some (.inr (.inl l)) => l.length
  | _ => 0
theorem z_fk_spec {a ci k n : Nat} (h : z_fk a ci k = n) (hn : 0 < n) : ∃ fs v, z_T[a]? = some (.inl (ci, fs)) ∧ fs[k]? = some v ∧ ((n = 1 ∧ ∃ x, v = .int x) ∨ (n = 2 ∧ ∃ x, v = .long x) ∨ (n = 3 ∧ v = .ref (z_rf a k))) := by
  unfold z_fk at h
  split at h
  · rename_i o ho
    obtain ⟨c, fs⟩ := o
    split at h
    · rename_i hc
      dsimp only at hc
      subst hc
      split at h
      · rename_i x hx; exact ⟨fs, _, ho, hx, Or.inl ⟨h.symm, x, rfl⟩⟩
      · rename_i x hx; exact ⟨fs, _, ho, hx, Or.inr (Or.inl ⟨h.symm, x, rfl⟩)⟩
      · rename_i x hx
        refine ⟨fs, _, ho, hx, Or.inr (Or.inr ⟨h.symm, ?_⟩)⟩
        unfold z_rf
        rw [ho]
        dsimp only at hx ⊢
        rw [hx]
      · omega
    · omega
  · omega
theorem g_i {σ : z_G} {a ci k : Nat} {K : Value → Option z_O} (h : z_fk a ci k = 1) : z_gf (z_enc σ) a ci k K = K (.int (σ.1 a k)) := by
  obtain ⟨fs, v, h1, h2, ⟨-, x, rfl⟩ | ⟨q, -⟩ | ⟨q, -⟩⟩ := z_fk_spec h (by decide)
  · simp only [z_gf, z_enc_at, h1, Option.map_some, z_fill, if_true, List.getElem?_mapIdx, h2]
  · omega
  · omega
theorem g_l {σ : z_G} {a ci k : Nat} {K : Value → Option z_O} (h : z_fk a ci k = 2) : z_gf (z_enc σ) a ci k K = K (.long (σ.2 a k)) := by
  obtain ⟨fs, v, h1, h2, ⟨q, -⟩ | ⟨-, x, rfl⟩ | ⟨q, -⟩⟩ := z_fk_spec h (by decide)
  · omega
  · simp only [z_gf, z_enc_at, h1, Option.map_some, z_fill, if_true, List.getElem?_mapIdx, h2]
  · omega
theorem g_r {σ : z_G} {a ci k : Nat} {K : Value → Option z_O} (h : z_fk a ci k = 3) : z_gf (z_enc σ) a ci k K = K (.ref (z_rf a k)) := by
  obtain ⟨fs, v, h1, h2, ⟨q, -⟩ | ⟨q, -⟩ | ⟨-, h3⟩⟩ := z_fk_spec h (by decide)
  · omega
  · omega
  · simp only [z_gf, z_enc_at, h1, Option.map_some, z_fill, if_true, List.getElem?_mapIdx, h2, h3]
theorem g_vc {σ : z_G} {a ci k n : Nat} {X : Option z_O} (h : z_fk a ci k = n) (hn : 0 < n) : z_vc (z_enc σ) ci a X = X := by
  obtain ⟨fs, v, h1, -⟩ := z_fk_spec h hn
  simp only [z_vc, z_enc_at, h1, Option.map_some, z_fill, if_true]
theorem g_pi {σ : z_G} {a ci k : Nat} {x : Int32} {K : z_H → Option z_O} (h : z_fk a ci k = 1) (hf : (z_F ci k).2.2.1 = "I") : z_pf (z_enc σ) a ci k (.int x) K = K (z_enc (z_ui σ a k x)) := by
  obtain ⟨fs, v, h1, h2, ⟨-, x0, rfl⟩ | ⟨q, -⟩ | ⟨q, -⟩⟩ := z_fk_spec h (by decide)
  · have hl : k < fs.length := (List.getElem?_eq_some_iff.mp h2).1
    simp only [z_pf, z_enc_at, h1, Option.map_some, z_fill, List.length_mapIdx, hl, z_fv, hf, decide_true, and_self, if_true]
    refine congrArg K ?_
    refine z_enc_set h1 ?_ (fun p k hp => by simp [z_ui, hp]) (fun p k hp => rfl)
    simp only [z_fill]
    congr 2
    apply List.ext_getElem?
    intro i
    by_cases hi : i = k
    · subst hi
      rw [List.getElem?_mapIdx, List.getElem?_set_self (by rw [List.length_mapIdx]; exact hl), h2]
      simp [z_ui]
    · rw [List.getElem?_set_ne (Ne.symm hi), List.getElem?_mapIdx, List.getElem?_mapIdx]
      simp [z_ui, hi]
  · omega
  · omega
theorem g_pl {σ : z_G} {a ci k : Nat} {x : Int64} {K : z_H → Option z_O} (h : z_fk a ci k = 2) (hf : (z_F ci k).2.2.1 = "J") : z_pf (z_enc σ) a ci k (.long x) K = K (z_enc (z_ul σ a k x)) := by
  obtain ⟨fs, v, h1, h2, ⟨q, -⟩ | ⟨-, x0, rfl⟩ | ⟨q, -⟩⟩ := z_fk_spec h (by decide)
  · omega
  · have hl : k < fs.length := (List.getElem?_eq_some_iff.mp h2).1
    simp only [z_pf, z_enc_at, h1, Option.map_some, z_fill, List.length_mapIdx, hl, z_fv, hf, decide_true, and_self, if_true]
    refine congrArg K ?_
    refine z_enc_set h1 ?_ (fun p k hp => rfl) (fun p k hp => by simp [z_ul, hp])
    simp only [z_fill]
    congr 2
    apply List.ext_getElem?
    intro i
    by_cases hi : i = k
    · subst hi
      rw [List.getElem?_mapIdx, List.getElem?_set_self (by rw [List.length_mapIdx]; exact hl), h2]
      simp [z_ul]
    · rw [List.getElem?_set_ne (Ne.symm hi), List.getElem?_mapIdx, List.getElem?_mapIdx]
      simp [z_ul, hi]
  · omega
theorem z_an_spec {a n : Nat} (h : z_an a = n) (hn : 0 < n) : ∃ l : List Int32, z_T[a]? = some (.inr (.inl l)) ∧ l.length = n := by
  unfold z_an at h
  split at h
  · rename_i l hl
    exact ⟨l, hl, h⟩
  · omega
theorem g_il {σ : z_G} {a n : Nat} {j : Int32} {K : Int32 → Option z_O} (h : z_an a = n) (hn : 0 < n) (hj : z_in j n = true) : z_il1 (z_enc σ) a j K = K (σ.1 a j.toNatClampNeg) := by
  obtain ⟨l, h1, h2⟩ := z_an_spec h hn
  have h3 := (z_in_spec hj).2
  simp only [z_il1, z_enc_at, h1, Option.map_some, z_fill, List.length_map, List.length_range, h2, hj, if_true]
  refine congrArg K ?_
  simp [List.getD, h3]
theorem g_is {σ : z_G} {a n : Nat} {j x : Int32} {K : z_H → Option z_O} (h : z_an a = n) (hn : 0 < n) (hj : z_in j n = true) : z_is1 (z_enc σ) a j x K = K (z_enc (z_ui σ a j.toNatClampNeg x)) := by
  obtain ⟨l, h1, h2⟩ := z_an_spec h hn
  have h3 := (z_in_spec hj).2
  simp only [z_is1, z_enc_at, h1, Option.map_some, z_fill, List.length_map, List.length_range, h2, hj, if_true]
  refine congrArg K ?_
  refine z_enc_set h1 ?_ (fun p k hp => by simp [z_ui, hp]) (fun p k hp => rfl)
  simp only [z_fill, h2]
  congr 2
  apply List.ext_getElem?
  intro i
  by_cases hi : i = j.toNatClampNeg
  · subst hi
    rw [List.getElem?_set_self (by simpa using h3), List.getElem?_map, List.getElem?_range h3]
    simp [z_ui]
  · rw [List.getElem?_set_ne (Ne.symm hi), List.getElem?_map, List.getElem?_map]
    rcases Nat.lt_or_ge i n with hin | hin
    · rw [List.getElem?_range hin]
      simp only [Option.map_some, z_ui, hi, and_false, if_false]
    · rw [List.getElem?_eq_none (by rw [List.length_range]; exact hin)]
      rfl
theorem g_ln {σ : z_G} {a n : Nat} {K : Int32 → Option z_O} (h : z_an a = n) (hn : 0 < n) : z_ln (z_enc σ) a K = K (Int32.ofNat n) := by
  obtain ⟨l, h1, h2⟩ := z_an_spec h hn
  simp only [z_ln, z_enc_at, h1, Option.map_some, z_fill, List.length_map, List.length_range, h2]
theorem z_in_nI {k n : Nat} (h : k < n) (hn : n ≤ 65536) : z_in (nI k) n = true := by
  unfold z_in
  rw [nI_clamp (by omega)]
  simp only [Bool.and_eq_true, decide_eq_true_eq]
  exact ⟨nI_pos (by omega), h⟩
theorem g0_0 (σ : z_G) (K : Value → Option z_O) : z_gf (z_enc σ) 0 7 0 K = K (.ref 1) := g_r (by decide +kernel)
theorem g0_1 (σ : z_G) (K : Value → Option z_O) : z_gf (z_enc σ) 0 7 1 K = K (.ref 3) := g_r (by decide +kernel)
theorem g0_2 (σ : z_G) (K : Value → Option z_O) : z_gf (z_enc σ) 0 7 2 K = K (.ref 10) := g_r (by decide +kernel)
theorem g0_3 (σ : z_G) (K : Value → Option z_O) : z_gf (z_enc σ) 0 7 3 K = K (.ref 11) := g_r (by decide +kernel)
theorem g0_4 (σ : z_G) (K : Value → Option z_O) : z_gf (z_enc σ) 0 7 4 K = K (.ref 15) := g_r (by decide +kernel)
theorem g0_5 (σ : z_G) (K : Value → Option z_O) : z_gf (z_enc σ) 0 7 5 K = K (.ref 19) := g_r (by decide +kernel)
theorem g0_6 (σ : z_G) (K : Value → Option z_O) : z_gf (z_enc σ) 0 7 6 K = K (.ref 61) := g_r (by decide +kernel)
theorem g0_7 (σ : z_G) (K : Value → Option z_O) : z_gf (z_enc σ) 0 7 7 K = K (.ref 71) := g_r (by decide +kernel)
theorem g0_8 (σ : z_G) (K : Value → Option z_O) : z_gf (z_enc σ) 0 7 8 K = K (.ref 75) := g_r (by decide +kernel)
theorem g0_9 (σ : z_G) (K : Value → Option z_O) : z_gf (z_enc σ) 0 7 9 K = K (.long (σ.2 0 9)) := g_l (by decide +kernel)
theorem p0_9 (σ : z_G) (x : Int64) (K : z_H → Option z_O) : z_pf (z_enc σ) 0 7 9 (.long x) K = K (z_enc (z_ul σ 0 9 x)) := g_pl (by decide +kernel) (by decide +kernel)
theorem v0 (σ : z_G) (X : Option z_O) : z_vc (z_enc σ) 7 0 X = X := g_vc (k := 0) (n := 3) (by decide +kernel) (by decide)
theorem g1_0 (σ : z_G) (K : Value → Option z_O) : z_gf (z_enc σ) 1 5 0 K = K (.ref 2) := g_r (by decide +kernel)
theorem g1_1 (σ : z_G) (K : Value → Option z_O) : z_gf (z_enc σ) 1 5 1 K = K (.int (σ.1 1 1)) := g_i (by decide +kernel)
theorem p1_1 (σ : z_G) (x : Int32) (K : z_H → Option z_O) : z_pf (z_enc σ) 1 5 1 (.int x) K = K (z_enc (z_ui σ 1 1 x)) := g_pi (by decide +kernel) (by decide +kernel)
theorem g1_2 (σ : z_G) (K : Value → Option z_O) : z_gf (z_enc σ) 1 5 2 K = K (.int (σ.1 1 2)) := g_i (by decide +kernel)
theorem p1_2 (σ : z_G) (x : Int32) (K : z_H → Option z_O) : z_pf (z_enc σ) 1 5 2 (.int x) K = K (z_enc (z_ui σ 1 2 x)) := g_pi (by decide +kernel) (by decide +kernel)
theorem g1_3 (σ : z_G) (K : Value → Option z_O) : z_gf (z_enc σ) 1 5 3 K = K (.int (σ.1 1 3)) := g_i (by decide +kernel)
theorem p1_3 (σ : z_G) (x : Int32) (K : z_H → Option z_O) : z_pf (z_enc σ) 1 5 3 (.int x) K = K (z_enc (z_ui σ 1 3 x)) := g_pi (by decide +kernel) (by decide +kernel)
theorem g1_4 (σ : z_G) (K : Value → Option z_O) : z_gf (z_enc σ) 1 5 4 K = K (.int (σ.1 1 4)) := g_i (by decide +kernel)
theorem p1_4 (σ : z_G) (x : Int32) (K : z_H → Option z_O) : z_pf (z_enc σ) 1 5 4 (.int x) K = K (z_enc (z_ui σ 1 4 x)) := g_pi (by decide +kernel) (by decide +kernel)
theorem g1_5 (σ : z_G) (K : Value → Option z_O) : z_gf (z_enc σ) 1 5 5 K = K (.int (σ.1 1 5)) := g_i (by decide +kernel)
theorem p1_5 (σ : z_G) (x : Int32) (K : z_H → Option z_O) : z_pf (z_enc σ) 1 5 5 (.int x) K = K (z_enc (z_ui σ 1 5 x)) := g_pi (by decide +kernel) (by decide +kernel)
theorem v1 (σ : z_G) (X : Option z_O) : z_vc (z_enc σ) 5 1 X = X := g_vc (k := 0) (n := 3) (by decide +kernel) (by decide)
theorem g3_0 (σ : z_G) (K : Value → Option z_O) : z_gf (z_enc σ) 3 4 0 K = K (.ref 1) := g_r (by decide +kernel)
theorem g3_1 (σ : z_G) (K : Value → Option z_O) : z_gf (z_enc σ) 3 4 1 K = K (.ref 4) := g_r (by decide +kernel)
theorem g3_2 (σ : z_G) (K : Value → Option z_O) : z_gf (z_enc σ) 3 4 2 K = K (.ref 5) := g_r (by decide +kernel)
theorem g3_3 (σ : z_G) (K : Value → Option z_O) : z_gf (z_enc σ) 3 4 3 K = K (.ref 9) := g_r (by decide +kernel)
theorem v3 (σ : z_G) (X : Option z_O) : z_vc (z_enc σ) 4 3 X = X := g_vc (k := 0) (n := 3) (by decide +kernel) (by decide)
theorem g19_0 (σ : z_G) (K : Value → Option z_O) : z_gf (z_enc σ) 19 0 0 K = K (.ref 20) := g_r (by decide +kernel)
theorem g19_1 (σ : z_G) (K : Value → Option z_O) : z_gf (z_enc σ) 19 0 1 K = K (.int (σ.1 19 1)) := g_i (by decide +kernel)
theorem p19_1 (σ : z_G) (x : Int32) (K : z_H → Option z_O) : z_pf (z_enc σ) 19 0 1 (.int x) K = K (z_enc (z_ui σ 19 1 x)) := g_pi (by decide +kernel) (by decide +kernel)
theorem g19_2 (σ : z_G) (K : Value → Option z_O) : z_gf (z_enc σ) 19 0 2 K = K (.int (σ.1 19 2)) := g_i (by decide +kernel)
theorem p19_2 (σ : z_G) (x : Int32) (K : z_H → Option z_O) : z_pf (z_enc σ) 19 0 2 (.int x) K = K (z_enc (z_ui σ 19 2 x)) := g_pi (by decide +kernel) (by decide +kernel)
theorem v19 (σ : z_G) (X : Option z_O) : z_vc (z_enc σ) 0 19 X = X := g_vc (k := 0) (n := 3) (by decide +kernel) (by decide)
theorem g61_0 (σ : z_G) (K : Value → Option z_O) : z_gf (z_enc σ) 61 1 0 K = K (.ref 62) := g_r (by decide +kernel)
theorem g61_1 (σ : z_G) (K : Value → Option z_O) : z_gf (z_enc σ) 61 1 1 K = K (.int (σ.1 61 1)) := g_i (by decide +kernel)
theorem p61_1 (σ : z_G) (x : Int32) (K : z_H → Option z_O) : z_pf (z_enc σ) 61 1 1 (.int x) K = K (z_enc (z_ui σ 61 1 x)) := g_pi (by decide +kernel) (by decide +kernel)
theorem v61 (σ : z_G) (X : Option z_O) : z_vc (z_enc σ) 1 61 X = X := g_vc (k := 0) (n := 3) (by decide +kernel) (by decide)
theorem g71_0 (σ : z_G) (K : Value → Option z_O) : z_gf (z_enc σ) 71 6 0 K = K (.ref 72) := g_r (by decide +kernel)
theorem g71_1 (σ : z_G) (K : Value → Option z_O) : z_gf (z_enc σ) 71 6 1 K = K (.ref 73) := g_r (by decide +kernel)
theorem g71_2 (σ : z_G) (K : Value → Option z_O) : z_gf (z_enc σ) 71 6 2 K = K (.ref 74) := g_r (by decide +kernel)
theorem g71_3 (σ : z_G) (K : Value → Option z_O) : z_gf (z_enc σ) 71 6 3 K = K (.int (σ.1 71 3)) := g_i (by decide +kernel)
theorem p71_3 (σ : z_G) (x : Int32) (K : z_H → Option z_O) : z_pf (z_enc σ) 71 6 3 (.int x) K = K (z_enc (z_ui σ 71 3 x)) := g_pi (by decide +kernel) (by decide +kernel)
theorem v71 (σ : z_G) (X : Option z_O) : z_vc (z_enc σ) 6 71 X = X := g_vc (k := 0) (n := 3) (by decide +kernel) (by decide)
theorem g76_0 (σ : z_G) (K : Value → Option z_O) : z_gf (z_enc σ) 76 8 0 K = K (.int (σ.1 76 0)) := g_i (by decide +kernel)
theorem p76_0 (σ : z_G) (x : Int32) (K : z_H → Option z_O) : z_pf (z_enc σ) 76 8 0 (.int x) K = K (z_enc (z_ui σ 76 0 x)) := g_pi (by decide +kernel) (by decide +kernel)
theorem g76_1 (σ : z_G) (K : Value → Option z_O) : z_gf (z_enc σ) 76 8 1 K = K (.ref 77) := g_r (by decide +kernel)
theorem g76_2 (σ : z_G) (K : Value → Option z_O) : z_gf (z_enc σ) 76 8 2 K = K (.ref 78) := g_r (by decide +kernel)
theorem g76_3 (σ : z_G) (K : Value → Option z_O) : z_gf (z_enc σ) 76 8 3 K = K (.ref 79) := g_r (by decide +kernel)
theorem g76_4 (σ : z_G) (K : Value → Option z_O) : z_gf (z_enc σ) 76 8 4 K = K (.ref 80) := g_r (by decide +kernel)
theorem g76_5 (σ : z_G) (K : Value → Option z_O) : z_gf (z_enc σ) 76 8 5 K = K (.ref 81) := g_r (by decide +kernel)
theorem g76_6 (σ : z_G) (K : Value → Option z_O) : z_gf (z_enc σ) 76 8 6 K = K (.ref 82) := g_r (by decide +kernel)
theorem g76_7 (σ : z_G) (K : Value → Option z_O) : z_gf (z_enc σ) 76 8 7 K = K (.ref 83) := g_r (by decide +kernel)
theorem g76_8 (σ : z_G) (K : Value → Option z_O) : z_gf (z_enc σ) 76 8 8 K = K (.int (σ.1 76 8)) := g_i (by decide +kernel)
theorem p76_8 (σ : z_G) (x : Int32) (K : z_H → Option z_O) : z_pf (z_enc σ) 76 8 8 (.int x) K = K (z_enc (z_ui σ 76 8 x)) := g_pi (by decide +kernel) (by decide +kernel)
theorem g76_9 (σ : z_G) (K : Value → Option z_O) : z_gf (z_enc σ) 76 8 9 K = K (.ref 84) := g_r (by decide +kernel)
theorem g76_10 (σ : z_G) (K : Value → Option z_O) : z_gf (z_enc σ) 76 8 10 K = K (.int (σ.1 76 10)) := g_i (by decide +kernel)
theorem p76_10 (σ : z_G) (x : Int32) (K : z_H → Option z_O) : z_pf (z_enc σ) 76 8 10 (.int x) K = K (z_enc (z_ui σ 76 10 x)) := g_pi (by decide +kernel) (by decide +kernel)
theorem g76_11 (σ : z_G) (K : Value → Option z_O) : z_gf (z_enc σ) 76 8 11 K = K (.ref 85) := g_r (by decide +kernel)
theorem g76_12 (σ : z_G) (K : Value → Option z_O) : z_gf (z_enc σ) 76 8 12 K = K (.int (σ.1 76 12)) := g_i (by decide +kernel)
theorem p76_12 (σ : z_G) (x : Int32) (K : z_H → Option z_O) : z_pf (z_enc σ) 76 8 12 (.int x) K = K (z_enc (z_ui σ 76 12 x)) := g_pi (by decide +kernel) (by decide +kernel)
theorem g76_13 (σ : z_G) (K : Value → Option z_O) : z_gf (z_enc σ) 76 8 13 K = K (.long (σ.2 76 13)) := g_l (by decide +kernel)
theorem p76_13 (σ : z_G) (x : Int64) (K : z_H → Option z_O) : z_pf (z_enc σ) 76 8 13 (.long x) K = K (z_enc (z_ul σ 76 13 x)) := g_pl (by decide +kernel) (by decide +kernel)
theorem g76_14 (σ : z_G) (K : Value → Option z_O) : z_gf (z_enc σ) 76 8 14 K = K (.int (σ.1 76 14)) := g_i (by decide +kernel)
theorem p76_14 (σ : z_G) (x : Int32) (K : z_H → Option z_O) : z_pf (z_enc σ) 76 8 14 (.int x) K = K (z_enc (z_ui σ 76 14 x)) := g_pi (by decide +kernel) (by decide +kernel)
theorem g76_15 (σ : z_G) (K : Value → Option z_O) : z_gf (z_enc σ) 76 8 15 K = K (.int (σ.1 76 15)) := g_i (by decide +kernel)
theorem p76_15 (σ : z_G) (x : Int32) (K : z_H → Option z_O) : z_pf (z_enc σ) 76 8 15 (.int x) K = K (z_enc (z_ui σ 76 15 x)) := g_pi (by decide +kernel) (by decide +kernel)
theorem g76_16 (σ : z_G) (K : Value → Option z_O) : z_gf (z_enc σ) 76 8 16 K = K (.int (σ.1 76 16)) := g_i (by decide +kernel)
theorem p76_16 (σ : z_G) (x : Int32) (K : z_H → Option z_O) : z_pf (z_enc σ) 76 8 16 (.int x) K = K (z_enc (z_ui σ 76 16 x)) := g_pi (by decide +kernel) (by decide +kernel)
theorem g76_17 (σ : z_G) (K : Value → Option z_O) : z_gf (z_enc σ) 76 8 17 K = K (.int (σ.1 76 17)) := g_i (by decide +kernel)
theorem p76_17 (σ : z_G) (x : Int32) (K : z_H → Option z_O) : z_pf (z_enc σ) 76 8 17 (.int x) K = K (z_enc (z_ui σ 76 17 x)) := g_pi (by decide +kernel) (by decide +kernel)
theorem g76_18 (σ : z_G) (K : Value → Option z_O) : z_gf (z_enc σ) 76 8 18 K = K (.int (σ.1 76 18)) := g_i (by decide +kernel)
theorem p76_18 (σ : z_G) (x : Int32) (K : z_H → Option z_O) : z_pf (z_enc σ) 76 8 18 (.int x) K = K (z_enc (z_ui σ 76 18 x)) := g_pi (by decide +kernel) (by decide +kernel)
theorem g76_19 (σ : z_G) (K : Value → Option z_O) : z_gf (z_enc σ) 76 8 19 K = K (.int (σ.1 76 19)) := g_i (by decide +kernel)
theorem p76_19 (σ : z_G) (x : Int32) (K : z_H → Option z_O) : z_pf (z_enc σ) 76 8 19 (.int x) K = K (z_enc (z_ui σ 76 19 x)) := g_pi (by decide +kernel) (by decide +kernel)
theorem g76_20 (σ : z_G) (K : Value → Option z_O) : z_gf (z_enc σ) 76 8 20 K = K (.ref 86) := g_r (by decide +kernel)
theorem v76 (σ : z_G) (X : Option z_O) : z_vc (z_enc σ) 8 76 X = X := g_vc (k := 0) (n := 1) (by decide +kernel) (by decide)
/-- a land, a march by their place -/
def z_isL (a : Nat) : Prop := z_fk a 2 0 = 1 ∧ z_fk a 2 1 = 1 ∧ z_fk a 2 2 = 2 ∧ z_fk a 2 3 = 2 ∧ z_fk a 2 4 = 1 ∧ z_fk a 2 5 = 1
def z_isM (a : Nat) : Prop := (z_fk a 3 0 = 3 ∧ z_fk a 3 1 = 3 ∧ z_fk a 3 2 = 3 ∧ z_fk a 3 3 = 3 ∧ z_fk a 3 4 = 1 ∧ z_fk a 3 5 = 1 ∧ z_fk a 3 6 = 2) ∧ (z_rf a 1 = a + 1 ∧ z_rf a 2 = a + 2 ∧ z_rf a 3 = a + 3) ∧ z_an (a + 1) = 4 ∧ z_an (a + 2) = 4 ∧ z_an (a + 3) = 4 ∧ z_isL (z_rf a 0)
theorem gL_0 {a : Nat} (h : z_isL a) (σ : z_G) (K : Value → Option z_O) : z_gf (z_enc σ) a 2 0 K = K (.int (σ.1 a 0)) := g_i h.1
theorem pL_0 {a : Nat} (h : z_isL a) (σ : z_G) (x : Int32) (K : z_H → Option z_O) : z_pf (z_enc σ) a 2 0 (.int x) K = K (z_enc (z_ui σ a 0 x)) := g_pi h.1 (by decide +kernel)
theorem gL_1 {a : Nat} (h : z_isL a) (σ : z_G) (K : Value → Option z_O) : z_gf (z_enc σ) a 2 1 K = K (.int (σ.1 a 1)) := g_i h.2.1
theorem pL_1 {a : Nat} (h : z_isL a) (σ : z_G) (x : Int32) (K : z_H → Option z_O) : z_pf (z_enc σ) a 2 1 (.int x) K = K (z_enc (z_ui σ a 1 x)) := g_pi h.2.1 (by decide +kernel)
theorem gL_2 {a : Nat} (h : z_isL a) (σ : z_G) (K : Value → Option z_O) : z_gf (z_enc σ) a 2 2 K = K (.long (σ.2 a 2)) := g_l h.2.2.1
theorem pL_2 {a : Nat} (h : z_isL a) (σ : z_G) (x : Int64) (K : z_H → Option z_O) : z_pf (z_enc σ) a 2 2 (.long x) K = K (z_enc (z_ul σ a 2 x)) := g_pl h.2.2.1 (by decide +kernel)
theorem gL_3 {a : Nat} (h : z_isL a) (σ : z_G) (K : Value → Option z_O) : z_gf (z_enc σ) a 2 3 K = K (.long (σ.2 a 3)) := g_l h.2.2.2.1
theorem pL_3 {a : Nat} (h : z_isL a) (σ : z_G) (x : Int64) (K : z_H → Option z_O) : z_pf (z_enc σ) a 2 3 (.long x) K = K (z_enc (z_ul σ a 3 x)) := g_pl h.2.2.2.1 (by decide +kernel)
theorem gL_4 {a : Nat} (h : z_isL a) (σ : z_G) (K : Value → Option z_O) : z_gf (z_enc σ) a 2 4 K = K (.int (σ.1 a 4)) := g_i h.2.2.2.2.1
theorem pL_4 {a : Nat} (h : z_isL a) (σ : z_G) (x : Int32) (K : z_H → Option z_O) : z_pf (z_enc σ) a 2 4 (.int x) K = K (z_enc (z_ui σ a 4 x)) := g_pi h.2.2.2.2.1 (by decide +kernel)
theorem gL_5 {a : Nat} (h : z_isL a) (σ : z_G) (K : Value → Option z_O) : z_gf (z_enc σ) a 2 5 K = K (.int (σ.1 a 5)) := g_i h.2.2.2.2.2
theorem pL_5 {a : Nat} (h : z_isL a) (σ : z_G) (x : Int32) (K : z_H → Option z_O) : z_pf (z_enc σ) a 2 5 (.int x) K = K (z_enc (z_ui σ a 5 x)) := g_pi h.2.2.2.2.2 (by decide +kernel)
theorem vL {a : Nat} (h : z_isL a) (σ : z_G) (X : Option z_O) : z_vc (z_enc σ) 2 a X = X := g_vc h.1 (by decide)
theorem gM_0 {a : Nat} (h : z_isM a) (σ : z_G) (K : Value → Option z_O) : z_gf (z_enc σ) a 3 0 K = K (.ref (z_rf a 0)) := g_r h.1.1
theorem gM_1 {a : Nat} (h : z_isM a) (σ : z_G) (K : Value → Option z_O) : z_gf (z_enc σ) a 3 1 K = K (.ref (a + 1)) := by rw [g_r h.1.2.1, h.2.1.1]
theorem gM_2 {a : Nat} (h : z_isM a) (σ : z_G) (K : Value → Option z_O) : z_gf (z_enc σ) a 3 2 K = K (.ref (a + 2)) := by rw [g_r h.1.2.2.1, h.2.1.2.1]
theorem gM_3 {a : Nat} (h : z_isM a) (σ : z_G) (K : Value → Option z_O) : z_gf (z_enc σ) a 3 3 K = K (.ref (a + 3)) := by rw [g_r h.1.2.2.2.1, h.2.1.2.2]
theorem gM_4 {a : Nat} (h : z_isM a) (σ : z_G) (K : Value → Option z_O) : z_gf (z_enc σ) a 3 4 K = K (.int (σ.1 a 4)) := g_i h.1.2.2.2.2.1
theorem pM_4 {a : Nat} (h : z_isM a) (σ : z_G) (x : Int32) (K : z_H → Option z_O) : z_pf (z_enc σ) a 3 4 (.int x) K = K (z_enc (z_ui σ a 4 x)) := g_pi h.1.2.2.2.2.1 (by decide +kernel)
theorem gM_5 {a : Nat} (h : z_isM a) (σ : z_G) (K : Value → Option z_O) : z_gf (z_enc σ) a 3 5 K = K (.int (σ.1 a 5)) := g_i h.1.2.2.2.2.2.1
theorem pM_5 {a : Nat} (h : z_isM a) (σ : z_G) (x : Int32) (K : z_H → Option z_O) : z_pf (z_enc σ) a 3 5 (.int x) K = K (z_enc (z_ui σ a 5 x)) := g_pi h.1.2.2.2.2.2.1 (by decide +kernel)
theorem gM_6 {a : Nat} (h : z_isM a) (σ : z_G) (K : Value → Option z_O) : z_gf (z_enc σ) a 3 6 K = K (.long (σ.2 a 6)) := g_l h.1.2.2.2.2.2.2
theorem pM_6 {a : Nat} (h : z_isM a) (σ : z_G) (x : Int64) (K : z_H → Option z_O) : z_pf (z_enc σ) a 3 6 (.long x) K = K (z_enc (z_ul σ a 6 x)) := g_pl h.1.2.2.2.2.2.2 (by decide +kernel)
theorem vM {a : Nat} (h : z_isM a) (σ : z_G) (X : Option z_O) : z_vc (z_enc σ) 3 a X = X := g_vc h.1.1 (by decide)
theorem isL_4 : z_isL 4 := by unfold z_isL; decide +kernel
theorem isL_10 : z_isL 10 := by unfold z_isL; decide +kernel
theorem isM_5 : z_isM 5 := by unfold z_isM z_isL; decide +kernel
theorem rf_5 : z_rf 5 0 = 4 := by decide +kernel
theorem isM_11 : z_isM 11 := by unfold z_isM z_isL; decide +kernel
theorem rf_11 : z_rf 11 0 = 10 := by decide +kernel
theorem isM_15 : z_isM 15 := by unfold z_isM z_isL; decide +kernel
theorem rf_15 : z_rf 15 0 = 10 := by decide +kernel
theorem isM_63 : z_isM 63 := by unfold z_isM z_isL; decide +kernel
theorem rf_63 : z_rf 63 0 = 10 := by decide +kernel
theorem isM_67 : z_isM 67 := by unfold z_isM z_isL; decide +kernel
theorem rf_67 : z_rf 67 0 = 10 := by decide +kernel
theorem isM_21 : z_isM 21 := by unfold z_isM z_isL; decide +kernel
theorem rf_21 : z_rf 21 0 = 10 := by decide +kernel
theorem isM_25 : z_isM 25 := by unfold z_isM z_isL; decide +kernel
theorem rf_25 : z_rf 25 0 = 10 := by decide +kernel
theorem isM_29 : z_isM 29 := by unfold z_isM z_isL; decide +kernel
theorem rf_29 : z_rf 29 0 = 10 := by decide +kernel
theorem isM_33 : z_isM 33 := by unfold z_isM z_isL; decide +kernel
theorem rf_33 : z_rf 33 0 = 10 := by decide +kernel
theorem isM_37 : z_isM 37 := by unfold z_isM z_isL; decide +kernel
theorem rf_37 : z_rf 37 0 = 10 := by decide +kernel
theorem isM_41 : z_isM 41 := by unfold z_isM z_isL; decide +kernel
theorem rf_41 : z_rf 41 0 = 10 := by decide +kernel
theorem isM_45 : z_isM 45 := by unfold z_isM z_isL; decide +kernel
theorem rf_45 : z_rf 45 0 = 10 := by decide +kernel
theorem isM_49 : z_isM 49 := by unfold z_isM z_isL; decide +kernel
theorem rf_49 : z_rf 49 0 = 10 := by decide +kernel
theorem isM_53 : z_isM 53 := by unfold z_isM z_isL; decide +kernel
theorem rf_53 : z_rf 53 0 = 10 := by decide +kernel
theorem isM_57 : z_isM 57 := by unfold z_isM z_isL; decide +kernel
theorem rf_57 : z_rf 57 0 = 10 := by decide +kernel
def z_is (r : Option z_O) (h : z_H) : Bool := match r with
  | some (none, h1) => decide (h1 = h)
  | _ => false
theorem z_is_spec {r : Option z_O} {h : z_H} (e : z_is r h = true) : r = some (none, h) := by
  unfold z_is at e
  split at e
  · rw [of_decide_eq_true e]
  · cases e
theorem z_new1 : z_ex [] 400 58 0 (z_init 58 [.ref 0]) [] [.inl (7, z_f0 7)] 0 0 = some (none, z_T1) := z_is_spec (by decide +kernel)
theorem z_new2 : z_ex [] 4000 114 0 (z_init 114 [.ref 76]) [] (z_T1 ++ [.inl (8, z_f0 8)]) 0 0 = some (none, z_T) := z_is_spec (by decide +kernel)
theorem z_prefix (sc : List Int32) : z_r sc 0 0 0 0 (z_init 0 [.retAddr 0]) [] [] = z_r sc 87 1102 0 18 [some (.retAddr 0), some (.ref 0), some (.ref 76), some (.int 0)] [] (z_enc z_σ0) := by
  have c1 : z_r sc 0 0 58 0 (z_init 58 [.ref 0]) [] [.inl (7, z_f0 7)] = some (none, z_T1) := by rw [z_r_sc (by decide)]; exact z_r_some.mpr ⟨_, z_new1⟩
  have c2 : z_r sc 0 0 114 0 (z_init 114 [.ref 76]) [] (z_T1 ++ [.inl (8, z_f0 8)]) = some (none, z_T) := by rw [z_r_sc (by decide)]; exact z_r_some.mpr ⟨_, z_new2⟩
  have i0 : z_init 0 [.retAddr 0] = [some (.retAddr 0), none, none, none] := by decide +kernel
  rw [i0]
  have s1 : z_r sc 0 0 0 0 [some (.retAddr 0), none, none, none] [] [] = z_r sc 1 10 0 3 [some (.retAddr 0), none, none, none] [.ref 0] [.inl (7, z_f0 7)] := by
    rw [z_r_step (show decode (z_co 0) 0 = .ok (.new 7, 3) by decide +kernel) rfl rfl, show z_step sc 0 (.new 7) 0 [some (.retAddr 0), none, none, none] [] [] 0 0 = some (.inl (3, [some (.retAddr 0), none, none, none], [.ref 0], [.inl (7, z_f0 7)], 1, 10)) from rfl]
  have s2 : z_r sc 1 10 0 3 [some (.retAddr 0), none, none, none] [.ref 0] [.inl (7, z_f0 7)] = z_r sc 1 10 0 4 [some (.retAddr 0), none, none, none] [.ref 0, .ref 0] [.inl (7, z_f0 7)] := q_dupa (hd := show decode (z_co 0) 3 = .ok (.dup, 1) by decide +kernel)
  have s3 : z_r sc 1 10 0 4 [some (.retAddr 0), none, none, none] [.ref 0, .ref 0] [.inl (7, z_f0 7)] = z_r sc 76 563 0 7 [some (.retAddr 0), none, none, none] [.ref 0] z_T1 := by
    rw [z_r_call (k := 2) (y := 58) (show decode (z_co 0) 4 = .ok (.invokespecial 9, 3) by decide +kernel) rfl rfl (by decide +kernel) (by decide +kernel) (by decide), show z_na 2 58 = 1 by decide +kernel]
    show (if z_okc 0 2 58 [.ref 0] [.ref 0] [.inl (7, z_f0 7)] 1 10 = true then z_bd (z_r sc 0 0 58 0 (z_init 58 [.ref 0]) [] [.inl (7, z_f0 7)]) (fun r ph1 => z_r sc (1 + z_mc 58) (10 + z_ms 58) 0 (4 + 3) [some (.retAddr 0), none, none, none] (r ++ [.ref 0]) ph1) else none) = _
    rw [if_pos (by decide +kernel), c1, z_bd_v, show z_mc 58 = 75 by decide +kernel, show z_ms 58 = 553 by decide +kernel]
    rfl
  have s4 : z_r sc 76 563 0 7 [some (.retAddr 0), none, none, none] [.ref 0] z_T1 = z_r sc 76 563 0 8 [some (.retAddr 0), some (.ref 0), none, none] [] z_T1 := q_astore_n (hd := show decode (z_co 0) 7 = .ok (.astore_n 1, 1) by decide +kernel) (by decide +kernel) rfl
  have s5 : z_r sc 76 563 0 8 [some (.retAddr 0), some (.ref 0), none, none] [] z_T1 = z_r sc 77 584 0 11 [some (.retAddr 0), some (.ref 0), none, none] [.ref 76] (z_T1 ++ [.inl (8, z_f0 8)]) := by
    rw [z_r_step (show decode (z_co 0) 8 = .ok (.new 10, 3) by decide +kernel) rfl rfl, show z_step sc 0 (.new 10) 8 [some (.retAddr 0), some (.ref 0), none, none] [] z_T1 76 563 = some (.inl (11, [some (.retAddr 0), some (.ref 0), none, none], [.ref 76], z_T1 ++ [.inl (8, z_f0 8)], 77, 584)) from rfl]
  have s6 : z_r sc 77 584 0 11 [some (.retAddr 0), some (.ref 0), none, none] [.ref 76] (z_T1 ++ [.inl (8, z_f0 8)]) = z_r sc 77 584 0 12 [some (.retAddr 0), some (.ref 0), none, none] [.ref 76, .ref 76] (z_T1 ++ [.inl (8, z_f0 8)]) := q_dupa (hd := show decode (z_co 0) 11 = .ok (.dup, 1) by decide +kernel)
  have s7 : z_r sc 77 584 0 12 [some (.retAddr 0), some (.ref 0), none, none] [.ref 76, .ref 76] (z_T1 ++ [.inl (8, z_f0 8)]) = z_r sc 87 1102 0 15 [some (.retAddr 0), some (.ref 0), none, none] [.ref 76] z_T := by
    rw [z_r_call (k := 2) (y := 114) (show decode (z_co 0) 12 = .ok (.invokespecial 12, 3) by decide +kernel) rfl rfl (by decide +kernel) (by decide +kernel) (by decide), show z_na 2 114 = 1 by decide +kernel]
    show (if z_okc 0 2 114 [.ref 76] [.ref 76] (z_T1 ++ [.inl (8, z_f0 8)]) 77 584 = true then z_bd (z_r sc 0 0 114 0 (z_init 114 [.ref 76]) [] (z_T1 ++ [.inl (8, z_f0 8)])) (fun r ph1 => z_r sc (77 + z_mc 114) (584 + z_ms 114) 0 (12 + 3) [some (.retAddr 0), some (.ref 0), none, none] (r ++ [.ref 76]) ph1) else none) = _
    rw [if_pos (by decide +kernel), c2, z_bd_v, show z_mc 114 = 10 by decide +kernel, show z_ms 114 = 518 by decide +kernel]
    rfl
  have s8 : z_r sc 87 1102 0 15 [some (.retAddr 0), some (.ref 0), none, none] [.ref 76] z_T = z_r sc 87 1102 0 16 [some (.retAddr 0), some (.ref 0), some (.ref 76), none] [] z_T := q_astore_n (hd := show decode (z_co 0) 15 = .ok (.astore_n 2, 1) by decide +kernel) (by decide +kernel) rfl
  have s9 : z_r sc 87 1102 0 16 [some (.retAddr 0), some (.ref 0), some (.ref 76), none] [] z_T = z_r sc 87 1102 0 17 [some (.retAddr 0), some (.ref 0), some (.ref 76), none] [.int 0] z_T := q_iconst (hd := show decode (z_co 0) 16 = .ok (.iconst 0, 1) by decide +kernel) (by decide +kernel)
  have s10 : z_r sc 87 1102 0 17 [some (.retAddr 0), some (.ref 0), some (.ref 76), none] [.int 0] z_T = z_r sc 87 1102 0 18 [some (.retAddr 0), some (.ref 0), some (.ref 76), some (.int 0)] [] z_T := q_istore_n (hd := show decode (z_co 0) 17 = .ok (.istore_n 3, 1) by decide +kernel) (by decide +kernel) rfl
  rw [s1, s2, s3, s4, s5, s6, s7, s8, s9, s10, z_enc0]
