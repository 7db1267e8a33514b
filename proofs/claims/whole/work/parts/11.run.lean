/-! the machine without its fuel: z_r, and a rewriting row for each kind of instruction -/
theorem z_mono (sc : List Int32) : ∀ (n m pc : Nat) (lv : List (Option Value)) (st : List Value) (ph : z_H) (kc ks : Nat) (o : z_O), z_ex sc n m pc lv st ph kc ks = some o → z_ex sc (n + 1) m pc lv st ph kc ks = some o := by
  intro n
  induction n with
  | zero => intro m pc lv st ph kc ks o h; unfold z_ex at h; cases h
  | succ n ih =>
    intro m pc lv st ph kc ks o h
    rw [z_ex] at h
    rw [z_ex]
    split at h
    · cases h
    · rename_i i len hdg
      split at h
      · rename_i hlen
        simp only [hdg, hlen, if_true]
        split at h
        · rename_i hi
          try simp only [hi]
          split at h
          · cases h
          · rename_i r hst
            try simp only [hst]
            exact h
          · rename_i pc' lv' st' ph' kc' ks' hst
            try simp only [hst]
            exact ih _ _ _ _ _ _ _ _ h
        · rename_i w idx hi
          try simp only [hi]
          split at h
          · cases h
          · rename_i k y hc
            try simp only [hc]
            split at h
            · rename_i hk
              try simp only [hk, if_true]
              split at h
              · rename_i h4
                try simp only [h4, if_true]
                split at h
                · cases h
                · rename_i st' hl
                  try simp only [hl]
                  split at h
                  · rename_i hb
                    try simp only [hb]
                    exact ih _ _ _ _ _ _ _ _ h
                  · cases h
              · rename_i h4
                try simp only [h4, if_false]
                split at h
                · rename_i hok
                  try simp only [hok, if_true]
                  split at h
                  · cases h
                  · rename_i r ph' hex
                    simp only [ih _ _ _ _ _ _ _ _ hex]
                    split at h
                    · rename_i ho
                      try simp only [ho, if_true]
                      exact ih _ _ _ _ _ _ _ _ h
                    · cases h
                · cases h
            · cases h
      · cases h
theorem z_mono_le {sc : List Int32} {n n' m pc : Nat} {lv : List (Option Value)} {st : List Value} {ph : z_H} {kc ks : Nat} {o : z_O} (hn : n ≤ n') (h : z_ex sc n m pc lv st ph kc ks = some o) : z_ex sc n' m pc lv st ph kc ks = some o := by
  induction hn with
  | refl => exact h
  | step _ ih => exact z_mono _ _ _ _ _ _ _ _ _ _ ih
noncomputable def z_r (sc : List Int32) (kc ks m pc : Nat) (lv : List (Option Value)) (st : List Value) (ph : z_H) : Option z_O :=
  @dite _ (∃ o n, z_ex sc n m pc lv st ph kc ks = some o) (Classical.propDecidable _) (fun h => some (Classical.choose h)) (fun _ => none)
theorem z_r_some {sc : List Int32} {kc ks m pc : Nat} {lv : List (Option Value)} {st : List Value} {ph : z_H} {o : z_O} : z_r sc kc ks m pc lv st ph = some o ↔ ∃ n, z_ex sc n m pc lv st ph kc ks = some o := by
  unfold z_r
  by_cases h : ∃ o n, z_ex sc n m pc lv st ph kc ks = some o
  · rw [dif_pos h]
    obtain ⟨n, hn⟩ := Classical.choose_spec h
    constructor
    · intro e
      rw [Option.some.inj e] at hn
      exact ⟨n, hn⟩
    · rintro ⟨n', hn'⟩
      have h1 := z_mono_le (Nat.le_max_left n n') hn
      have h2 := z_mono_le (Nat.le_max_right n n') hn'
      rw [h1] at h2
      exact h2
  · rw [dif_neg h]
    constructor
    · intro e; cases e
    · rintro ⟨n, hn⟩
      exact absurd ⟨o, n, hn⟩ h
theorem z_r_ext {A B : Option z_O} (h : ∀ o, A = some o ↔ B = some o) : A = B := by
  cases A with
  | none =>
    cases B with
    | none => rfl
    | some b => exact ((h b).mpr rfl)
  | some a => exact ((h a).mp rfl).symm
theorem z_r_step {sc : List Int32} {kc ks m pc : Nat} {lv : List (Option Value)} {st : List Value} {ph : z_H} {i : Instr} {len : Nat} (hdg : decode (z_co m) pc = .ok (i, len)) (hl : z_len i len = true) (hi : z_idx i = none) :
    z_r sc kc ks m pc lv st ph = match z_step sc m i pc lv st ph kc ks with
      | none => none
      | some (.inr r) => if kc ≤ z_mc m ∧ ks ≤ z_ms m then some r else none
      | some (.inl (pc', lv', st', ph', kc', ks')) => z_r sc kc' ks' m pc' lv' st' ph' := by
  apply z_r_ext
  intro o
  rw [z_r_some]
  constructor
  · rintro ⟨n, hn⟩
    cases n with
    | zero => unfold z_ex at hn; cases hn
    | succ n =>
      rw [z_ex] at hn
      simp only [hdg, hl, hi, if_true] at hn
      split at hn
      · cases hn
      · rename_i r hst
        simp only [hst]
        exact hn
      · rename_i pc' lv' st' ph' kc' ks' hst
        simp only [hst]
        exact z_r_some.mpr ⟨n, hn⟩
  · intro h
    split at h
    · cases h
    · rename_i r hst
      refine ⟨1, ?_⟩
      rw [z_ex]
      simp only [hdg, hl, hi, if_true, hst]
      exact h
    · rename_i pc' lv' st' ph' kc' ks' hst
      obtain ⟨n, hn⟩ := z_r_some.mp h
      refine ⟨n + 1, ?_⟩
      rw [z_ex]
      simp only [hdg, hl, hi, if_true, hst]
      exact hn
/-- behind a call -/
def z_bd (r : Option z_O) (K : List Value → z_H → Option z_O) : Option z_O := match r with
  | none => none
  | some q => if z_out q.1 = true then K q.1.toList q.2 else none
theorem z_bd_i (x : Int32) (ph : z_H) (K : List Value → z_H → Option z_O) : z_bd (some (some (.int x), ph)) K = K [.int x] ph := rfl
theorem z_bd_l (x : Int64) (ph : z_H) (K : List Value → z_H → Option z_O) : z_bd (some (some (.long x), ph)) K = K [.long x] ph := rfl
theorem z_bd_v (ph : z_H) (K : List Value → z_H → Option z_O) : z_bd (some (none, ph)) K = K [] ph := rfl
theorem z_r_call {sc : List Int32} {kc ks m pc : Nat} {lv : List (Option Value)} {st : List Value} {ph : z_H} {i : Instr} {len w idx k y : Nat} (hdg : decode (z_co m) pc = .ok (i, len)) (hl : z_len i len = true) (hi : z_idx i = some (w, idx)) (hc : z_cl2 m idx = some (k, y)) (hk : z_kk w k = true) (h4 : ¬ (k = 6 ∨ k = 7 ∨ k = 8 ∨ k = 9)) :
    z_r sc kc ks m pc lv st ph = if z_okc m k y (st.take (z_na k y)).reverse (st.drop (z_na k y)) ph kc ks = true then
      z_bd (z_r sc 0 0 y 0 (z_init y (st.take (z_na k y)).reverse) [] ph) (fun r ph' => z_r sc (kc + z_mc y) (ks + z_ms y) m (pc + 3) lv (r ++ st.drop (z_na k y)) ph') else none := by
  apply z_r_ext
  intro o
  rw [z_r_some]
  constructor
  · rintro ⟨n, hn⟩
    cases n with
    | zero => unfold z_ex at hn; cases hn
    | succ n =>
      rw [z_ex] at hn
      simp only [hdg, hl, hi, hc, hk, h4, if_true, if_false] at hn
      split at hn
      · rename_i hok
        rw [if_pos hok]
        split at hn
        · cases hn
        · rename_i r ph' hex
          rw [z_r_some.mpr ⟨n, hex⟩]
          split at hn
          · rename_i ho
            unfold z_bd
            dsimp only
            rw [if_pos ho]
            exact z_r_some.mpr ⟨n, hn⟩
          · cases hn
      · cases hn
  · intro h
    split at h
    · rename_i hok
      cases hr : z_r sc 0 0 y 0 (z_init y (st.take (z_na k y)).reverse) [] ph with
      | none => rw [hr] at h; cases h
      | some q =>
        obtain ⟨r, ph'⟩ := q
        rw [hr] at h
        unfold z_bd at h
        dsimp only at h
        split at h
        · rename_i ho
          obtain ⟨n1, h1⟩ := z_r_some.mp hr
          obtain ⟨n2, h2⟩ := z_r_some.mp h
          refine ⟨max n1 n2 + 1, ?_⟩
          rw [z_ex]
          simp only [hdg, hl, hi, hc, hk, h4, hok, if_true, if_false, z_mono_le (Nat.le_max_left n1 n2) h1, ho]
          exact z_mono_le (Nat.le_max_right n1 n2) h2
        · cases h
    · cases h
theorem z_r_lib {sc : List Int32} {kc ks m pc : Nat} {lv : List (Option Value)} {st st' : List Value} {ph : z_H} {i : Instr} {len w idx k y : Nat} (hdg : decode (z_co m) pc = .ok (i, len)) (hl : z_len i len = true) (hi : z_idx i = some (w, idx)) (hc : z_cl2 m idx = some (k, y)) (hk : z_kk w k = true) (h4 : k = 6 ∨ k = 7 ∨ k = 8 ∨ k = 9) (hst : z_lib k m st = some st') (hb : kc ≤ z_mc m ∧ ks ≤ z_ms m) :
    z_r sc kc ks m pc lv st ph = z_r sc kc ks m (pc + 3) lv st' ph := by
  apply z_r_ext
  intro o
  rw [z_r_some, z_r_some]
  constructor
  · rintro ⟨n, hn⟩
    cases n with
    | zero => unfold z_ex at hn; cases hn
    | succ n =>
      rw [z_ex] at hn
      simp only [hdg, hl, hi, hc, hk, h4, if_true, hst, hb, and_self] at hn
      exact ⟨n, hn⟩
  · rintro ⟨n, hn⟩
    refine ⟨n + 1, ?_⟩
    rw [z_ex]
    simp only [hdg, hl, hi, hc, hk, h4, if_true, hst, hb, and_self]
    exact hn
