/-! a rewriting row for each kind of instruction; the heap's reads and writes -/
def z_gf (ph : z_H) (a ci k : Nat) (K : Value → Option z_O) : Option z_O := match ph[a]? with
  | some (.inl (ci', fs)) => if ci' = ci then match fs[k]? with
    | some (.int x) => K (.int x)
    | some (.long x) => K (.long x)
    | some (.ref x) => K (.ref x)
    | _ => none
    else none
  | _ => none
def z_pf (ph : z_H) (a ci k : Nat) (v : Value) (K : z_H → Option z_O) : Option z_O := match ph[a]? with
  | some (.inl (ci', fs)) => if ci' = ci ∧ k < fs.length ∧ z_fv ci k v = true then K (ph.set a (.inl (ci, fs.set k v))) else none
  | _ => none
def z_il1 (ph : z_H) (a : Nat) (j : Int32) (K : Int32 → Option z_O) : Option z_O := match ph[a]? with
  | some (.inr (.inl l)) => if z_in j l.length = true then K (l.getD j.toNatClampNeg 0) else none
  | _ => none
def z_is1 (ph : z_H) (a : Nat) (j x : Int32) (K : z_H → Option z_O) : Option z_O := match ph[a]? with
  | some (.inr (.inl l)) => if z_in j l.length = true then K (ph.set a (.inr (.inl (l.set j.toNatClampNeg x)))) else none
  | _ => none
def z_al1 (ph : z_H) (a : Nat) (j : Int32) (K : Value → Option z_O) : Option z_O := match ph[a]? with
  | some (.inr (.inr l)) => if z_in j l.length = true then match l.getD j.toNatClampNeg none with
    | some x => K (.ref x)
    | none => none
    else none
  | _ => none
def z_ln (ph : z_H) (a : Nat) (K : Int32 → Option z_O) : Option z_O := match ph[a]? with
  | some (.inr (.inl l)) => K (Int32.ofNat l.length)
  | some (.inr (.inr l)) => K (Int32.ofNat l.length)
  | _ => none
noncomputable def z_call (y : Nat) (as : List Value) (ph : z_H) : Option z_O := z_r [] 0 0 y 0 (z_init y as) [] ph
theorem z_nk_i (x : Int32) : z_nk (some (.int x)) = some (.int x) := rfl
theorem z_nk_r (x : Nat) : z_nk (some (.ref x)) = some (.ref x) := rfl
theorem z_nk_n : z_nk none = none := rfl
theorem z_step_sc {sc : List Int32} {m : Nat} (hm : 0 < m) (i : Instr) (pc : Nat) (lv : List (Option Value)) (st : List Value) (ph : z_H) (kc ks : Nat) : z_step sc m i pc lv st ph kc ks = z_step [] m i pc lv st ph kc ks := by
  have h0 : ¬ m = 0 := by omega
  cases i <;> first
    | rfl
    | simp only [z_step, h0, false_and, if_false]
theorem z_ex_sc (sc : List Int32) : ∀ (n m pc : Nat) (lv : List (Option Value)) (st : List Value) (ph : z_H) (kc ks : Nat), 0 < m → z_ex sc n m pc lv st ph kc ks = z_ex [] n m pc lv st ph kc ks := by
  intro n
  induction n with
  | zero => intro m pc lv st ph kc ks _; rfl
  | succ n ih =>
    intro m pc lv st ph kc ks hm
    have h1 : ∀ (y : Nat) (pc : Nat) (lv : List (Option Value)) (st : List Value) (ph : z_H) (kc ks : Nat), 0 < y → z_ex sc n y pc lv st ph kc ks = z_ex [] n y pc lv st ph kc ks := fun y pc lv st ph kc ks hy => ih y pc lv st ph kc ks hy
    rw [z_ex, z_ex]
    cases hd : decode (z_co m) pc with
    | error e => rfl
    | ok q =>
      obtain ⟨i, len⟩ := q
      dsimp only
      rw [z_step_sc (sc := sc) hm]
      by_cases hl : z_len i len = true
      · rw [if_pos hl, if_pos hl]
        cases hi : z_idx i with
        | none =>
          dsimp only
          cases hs : z_step [] m i pc lv st ph kc ks with
          | none => rfl
          | some r =>
            rcases r with ⟨a, b, c, d, e, f⟩ | r
            · exact h1 m _ _ _ _ _ _ hm
            · rfl
        | some w =>
          obtain ⟨w, idx⟩ := w
          dsimp only
          cases hc : z_cl2 m idx with
          | none => rfl
          | some q =>
            obtain ⟨k, y⟩ := q
            dsimp only
            by_cases hk : z_kk w k = true
            · rw [if_pos hk, if_pos hk]
              by_cases h4 : k = 6 ∨ k = 7 ∨ k = 8 ∨ k = 9
              · rw [if_pos h4, if_pos h4]
                cases hst : z_lib k m st with
                | none => rfl
                | some st' => dsimp only; rw [h1 m _ _ _ _ _ _ hm]
              · rw [if_neg h4, if_neg h4]
                have hk5 : k = 0 ∨ k = 1 ∨ k = 2 ∨ k = 4 ∨ k = 5 := by
                  unfold z_kk at hk
                  split at hk <;> simp only [Bool.or_eq_true, beq_iff_eq] at hk <;> omega
                obtain ⟨-, -, -, -, wA, wB⟩ := z_cl2_spec hc
                have hy : 0 < y := by
                  rcases hk5 with q | q | q | q | q
                  · exact (wA (by omega)).2.1
                  · exact (wA (by omega)).2.1
                  · exact (wA (by omega)).2.1
                  · exact (wB (by omega)).2.1
                  · exact (wB (by omega)).2.1
                rw [h1 y _ _ _ _ _ _ hy]
                simp only [h1 m _ _ _ _ _ _ hm]
            · rw [if_neg hk, if_neg hk]
      · rw [if_neg hl, if_neg hl]
theorem z_r_sc {sc : List Int32} {y : Nat} {as : List Value} {ph : z_H} (hy : 0 < y) : z_r sc 0 0 y 0 (z_init y as) [] ph = z_call y as ph := by
  apply z_r_ext
  intro o
  unfold z_call
  rw [z_r_some, z_r_some]
  constructor
  · rintro ⟨n, hn⟩
    exact ⟨n, by rw [← z_ex_sc sc n y _ _ _ _ _ _ hy]; exact hn⟩
  · rintro ⟨n, hn⟩
    exact ⟨n, by rw [z_ex_sc sc n y _ _ _ _ _ _ hy]; exact hn⟩
section ZQ
variable {sc : List Int32} {kc ks m pc : Nat} {lv : List (Option Value)} {st : List Value} {ph : z_H}

theorem q_iload_n {k : Fin 4} {x : Int32} (hv : lv[k.val]? = some (some (.int x))) (hd : decode (z_co m) pc = .ok (.iload_n k, 1)) : z_r sc kc ks m pc lv st ph = z_r sc kc ks m (pc + 1) lv (.int x :: st) ph := by
  rw [z_r_step hd rfl rfl]; simp only [z_step, z_nx, hv]
theorem q_iload {k : Nat} {x : Int32} (hv : lv[k]? = some (some (.int x))) (hd : decode (z_co m) pc = .ok (.iload k, 2)) : z_r sc kc ks m pc lv st ph = z_r sc kc ks m (pc + 2) lv (.int x :: st) ph := by
  rw [z_r_step hd rfl rfl]; simp only [z_step, z_nx, hv]
theorem q_lload_n {k : Fin 4} {x : Int64} (hv : lv[k.val]? = some (some (.long x))) (hd : decode (z_co m) pc = .ok (.lload_n k, 1)) : z_r sc kc ks m pc lv st ph = z_r sc kc ks m (pc + 1) lv (.long x :: st) ph := by
  rw [z_r_step hd rfl rfl]; simp only [z_step, z_nx, hv]
theorem q_lload {k : Nat} {x : Int64} (hv : lv[k]? = some (some (.long x))) (hd : decode (z_co m) pc = .ok (.lload k, 2)) : z_r sc kc ks m pc lv st ph = z_r sc kc ks m (pc + 2) lv (.long x :: st) ph := by
  rw [z_r_step hd rfl rfl]; simp only [z_step, z_nx, hv]
theorem q_aload_n {k : Fin 4} {x : Nat} (hv : lv[k.val]? = some (some (.ref x))) (hd : decode (z_co m) pc = .ok (.aload_n k, 1)) : z_r sc kc ks m pc lv st ph = z_r sc kc ks m (pc + 1) lv (.ref x :: st) ph := by
  rw [z_r_step hd rfl rfl]; simp only [z_step, z_nx, hv]
theorem q_aload_s {k : Fin 4} {x : Nat} (hv : lv[k.val]? = some (some (.retAddr x))) (hd : decode (z_co m) pc = .ok (.aload_n k, 1)) : z_r sc kc ks m pc lv st ph = z_r sc kc ks m (pc + 1) lv (.retAddr x :: st) ph := by
  rw [z_r_step hd rfl rfl]; simp only [z_step, z_nx, hv]
theorem q_aload {k : Nat} {x : Nat} (hv : lv[k]? = some (some (.ref x))) (hd : decode (z_co m) pc = .ok (.aload k, 2)) : z_r sc kc ks m pc lv st ph = z_r sc kc ks m (pc + 2) lv (.ref x :: st) ph := by
  rw [z_r_step hd rfl rfl]; simp only [z_step, z_nx, hv]
theorem q_istore_n {k : Fin 4} {x : Int32} {lv2 : List (Option Value)} (hb : k.val < z_ml m) (hv : z_s1 lv k.val (.int x) = lv2) (hd : decode (z_co m) pc = .ok (.istore_n k, 1)) : z_r sc kc ks m pc lv (.int x :: st) ph = z_r sc kc ks m (pc + 1) lv2 st ph := by
  rw [z_r_step hd rfl rfl]; simp only [z_step, z_nx, hb, if_true, hv]
theorem q_istore {k : Nat} {x : Int32} {lv2 : List (Option Value)} (hb : k < z_ml m) (hv : z_s1 lv k (.int x) = lv2) (hd : decode (z_co m) pc = .ok (.istore k, 2)) : z_r sc kc ks m pc lv (.int x :: st) ph = z_r sc kc ks m (pc + 2) lv2 st ph := by
  rw [z_r_step hd rfl rfl]; simp only [z_step, z_nx, hb, if_true, hv]
theorem q_astore_n {k : Fin 4} {x : Nat} {lv2 : List (Option Value)} (hb : k.val < z_ml m) (hv : z_s1 lv k.val (.ref x) = lv2) (hd : decode (z_co m) pc = .ok (.astore_n k, 1)) : z_r sc kc ks m pc lv (.ref x :: st) ph = z_r sc kc ks m (pc + 1) lv2 st ph := by
  rw [z_r_step hd rfl rfl]; simp only [z_step, z_nx, hb, if_true, hv]
theorem q_astore {k : Nat} {x : Nat} {lv2 : List (Option Value)} (hb : k < z_ml m) (hv : z_s1 lv k (.ref x) = lv2) (hd : decode (z_co m) pc = .ok (.astore k, 2)) : z_r sc kc ks m pc lv (.ref x :: st) ph = z_r sc kc ks m (pc + 2) lv2 st ph := by
  rw [z_r_step hd rfl rfl]; simp only [z_step, z_nx, hb, if_true, hv]
theorem q_lstore_n {k : Fin 4} {x : Int64} {lv2 : List (Option Value)} (hb : k.val + 1 < z_ml m) (hv : z_s2 lv k.val (.long x) = lv2) (hd : decode (z_co m) pc = .ok (.lstore_n k, 1)) : z_r sc kc ks m pc lv (.long x :: st) ph = z_r sc kc ks m (pc + 1) lv2 st ph := by
  rw [z_r_step hd rfl rfl]; simp only [z_step, z_nx, hb, if_true, hv]
theorem q_iinc {k : Nat} {n : Int} {x d : Int32} {lv2 : List (Option Value)} (hx : lv[k]? = some (some (.int x))) (hb : k < z_ml m) (hn : Int32.ofInt n = d) (hv : z_s1 lv k (.int (x + d)) = lv2) (hd : decode (z_co m) pc = .ok (.iinc k n, 3)) : z_r sc kc ks m pc lv st ph = z_r sc kc ks m (pc + 3) lv2 st ph := by
  rw [z_r_step hd rfl rfl]; simp only [z_step, z_nx, hx, hb, if_true, hn, hv]
theorem q_iconst {n : Int} {v : Int32} (hv : Int32.ofInt n = v) (hd : decode (z_co m) pc = .ok (.iconst n, 1)) : z_r sc kc ks m pc lv st ph = z_r sc kc ks m (pc + 1) lv (.int v :: st) ph := by
  rw [z_r_step hd rfl rfl]; simp only [z_step, z_nx, hv]
theorem q_bipush {n : Int} {v : Int32} (hv : (Int8.ofInt n).toInt32 = v) (hd : decode (z_co m) pc = .ok (.bipush n, 2)) : z_r sc kc ks m pc lv st ph = z_r sc kc ks m (pc + 2) lv (.int v :: st) ph := by
  rw [z_r_step hd rfl rfl]; simp only [z_step, z_nx, hv]
theorem q_sipush {n : Int} {v : Int32} (hv : (Int16.ofInt n).toInt32 = v) (hd : decode (z_co m) pc = .ok (.sipush n, 3)) : z_r sc kc ks m pc lv st ph = z_r sc kc ks m (pc + 3) lv (.int v :: st) ph := by
  rw [z_r_step hd rfl rfl]; simp only [z_step, z_nx, hv]
theorem q_lconst {n : Fin 2} {v : Int64} (hv : Int64.ofNat n.val = v) (hd : decode (z_co m) pc = .ok (.lconst n, 1)) : z_r sc kc ks m pc lv st ph = z_r sc kc ks m (pc + 1) lv (.long v :: st) ph := by
  rw [z_r_step hd rfl rfl]; simp only [z_step, z_nx, hv]
theorem q_ldc {n : Nat} {v : Int32} (hv : z_ki m n = some v) (hd : decode (z_co m) pc = .ok (.ldc n, 2)) : z_r sc kc ks m pc lv st ph = z_r sc kc ks m (pc + 2) lv (.int v :: st) ph := by
  rw [z_r_step hd rfl rfl]; simp only [z_step, z_nx, hv]
theorem q_ldc_w {n : Nat} {v : Int32} (hv : z_ki m n = some v) (hd : decode (z_co m) pc = .ok (.ldc_w n, 3)) : z_r sc kc ks m pc lv st ph = z_r sc kc ks m (pc + 3) lv (.int v :: st) ph := by
  rw [z_r_step hd rfl rfl]; simp only [z_step, z_nx, hv]
theorem q_ldc2_w {n : Nat} {v : Int64} (hv : z_kl m n = some v) (hd : decode (z_co m) pc = .ok (.ldc2_w n, 3)) : z_r sc kc ks m pc lv st ph = z_r sc kc ks m (pc + 3) lv (.long v :: st) ph := by
  rw [z_r_step hd rfl rfl]; simp only [z_step, z_nx, hv]
theorem q_iadd {x y : Int32} (hd : decode (z_co m) pc = .ok (.iadd, 1)) : z_r sc kc ks m pc lv (.int y :: .int x :: st) ph = z_r sc kc ks m (pc + 1) lv (.int (x + y) :: st) ph := by
  rw [z_r_step hd rfl rfl]; simp only [z_step, z_nx]
theorem q_isub {x y : Int32} (hd : decode (z_co m) pc = .ok (.isub, 1)) : z_r sc kc ks m pc lv (.int y :: .int x :: st) ph = z_r sc kc ks m (pc + 1) lv (.int (x - y) :: st) ph := by
  rw [z_r_step hd rfl rfl]; simp only [z_step, z_nx]
theorem q_imul {x y : Int32} (hd : decode (z_co m) pc = .ok (.imul, 1)) : z_r sc kc ks m pc lv (.int y :: .int x :: st) ph = z_r sc kc ks m (pc + 1) lv (.int (x * y) :: st) ph := by
  rw [z_r_step hd rfl rfl]; simp only [z_step, z_nx]
theorem q_ishl {x y : Int32} (hd : decode (z_co m) pc = .ok (.ishl, 1)) : z_r sc kc ks m pc lv (.int y :: .int x :: st) ph = z_r sc kc ks m (pc + 1) lv (.int (x <<< (y &&& 31)) :: st) ph := by
  rw [z_r_step hd rfl rfl]; simp only [z_step, z_nx]
theorem q_ishr {x y : Int32} (hd : decode (z_co m) pc = .ok (.ishr, 1)) : z_r sc kc ks m pc lv (.int y :: .int x :: st) ph = z_r sc kc ks m (pc + 1) lv (.int (x >>> (y &&& 31)) :: st) ph := by
  rw [z_r_step hd rfl rfl]; simp only [z_step, z_nx]
theorem q_iand {x y : Int32} (hd : decode (z_co m) pc = .ok (.iand, 1)) : z_r sc kc ks m pc lv (.int y :: .int x :: st) ph = z_r sc kc ks m (pc + 1) lv (.int (x &&& y) :: st) ph := by
  rw [z_r_step hd rfl rfl]; simp only [z_step, z_nx]
theorem q_ior {x y : Int32} (hd : decode (z_co m) pc = .ok (.ior, 1)) : z_r sc kc ks m pc lv (.int y :: .int x :: st) ph = z_r sc kc ks m (pc + 1) lv (.int (x ||| y) :: st) ph := by
  rw [z_r_step hd rfl rfl]; simp only [z_step, z_nx]
theorem q_ixor {x y : Int32} (hd : decode (z_co m) pc = .ok (.ixor, 1)) : z_r sc kc ks m pc lv (.int y :: .int x :: st) ph = z_r sc kc ks m (pc + 1) lv (.int (x ^^^ y) :: st) ph := by
  rw [z_r_step hd rfl rfl]; simp only [z_step, z_nx]
theorem q_iushr {x y : Int32} (hd : decode (z_co m) pc = .ok (.iushr, 1)) : z_r sc kc ks m pc lv (.int y :: .int x :: st) ph = z_r sc kc ks m (pc + 1) lv (.int ((x.toUInt32 >>> (y.toUInt32 &&& Int32.toUInt32 31)).toInt32) :: st) ph := by
  rw [z_r_step hd rfl rfl]; simp only [z_step, z_nx]
theorem q_idiv {x y : Int32} (hy : ¬ y = 0) (hd : decode (z_co m) pc = .ok (.idiv, 1)) : z_r sc kc ks m pc lv (.int y :: .int x :: st) ph = z_r sc kc ks m (pc + 1) lv (.int (x / y) :: st) ph := by
  rw [z_r_step hd rfl rfl]; simp only [z_step, z_nx, hy, if_false]
theorem q_irem {x y : Int32} (hy : ¬ y = 0) (hd : decode (z_co m) pc = .ok (.irem, 1)) : z_r sc kc ks m pc lv (.int y :: .int x :: st) ph = z_r sc kc ks m (pc + 1) lv (.int (x - x / y * y) :: st) ph := by
  rw [z_r_step hd rfl rfl]; simp only [z_step, z_nx, hy, if_false]
theorem q_idivv {x y : Int32} (hd : decode (z_co m) pc = .ok (.idiv, 1)) : z_r sc kc ks m pc lv (.int y :: .int x :: st) ph = if y = 0 then none else z_r sc kc ks m (pc + 1) lv (.int (x / y) :: st) ph := by
  by_cases hy : y = 0 <;> (rw [z_r_step hd rfl rfl]; simp only [z_step, z_nx, hy, if_true, if_false])
theorem q_iremv {x y : Int32} (hd : decode (z_co m) pc = .ok (.irem, 1)) : z_r sc kc ks m pc lv (.int y :: .int x :: st) ph = if y = 0 then none else z_r sc kc ks m (pc + 1) lv (.int (x - x / y * y) :: st) ph := by
  by_cases hy : y = 0 <;> (rw [z_r_step hd rfl rfl]; simp only [z_step, z_nx, hy, if_true, if_false])
theorem q_ineg {x : Int32} (hd : decode (z_co m) pc = .ok (.ineg, 1)) : z_r sc kc ks m pc lv (.int x :: st) ph = z_r sc kc ks m (pc + 1) lv (.int (-x) :: st) ph := by
  rw [z_r_step hd rfl rfl]; simp only [z_step, z_nx]
theorem q_ladd {x y : Int64} (hd : decode (z_co m) pc = .ok (.ladd, 1)) : z_r sc kc ks m pc lv (.long y :: .long x :: st) ph = z_r sc kc ks m (pc + 1) lv (.long (x + y) :: st) ph := by
  rw [z_r_step hd rfl rfl]; simp only [z_step, z_nx]
theorem q_lsub {x y : Int64} (hd : decode (z_co m) pc = .ok (.lsub, 1)) : z_r sc kc ks m pc lv (.long y :: .long x :: st) ph = z_r sc kc ks m (pc + 1) lv (.long (x - y) :: st) ph := by
  rw [z_r_step hd rfl rfl]; simp only [z_step, z_nx]
theorem q_land {x y : Int64} (hd : decode (z_co m) pc = .ok (.land, 1)) : z_r sc kc ks m pc lv (.long y :: .long x :: st) ph = z_r sc kc ks m (pc + 1) lv (.long (x &&& y) :: st) ph := by
  rw [z_r_step hd rfl rfl]; simp only [z_step, z_nx]
theorem q_lor {x y : Int64} (hd : decode (z_co m) pc = .ok (.lor, 1)) : z_r sc kc ks m pc lv (.long y :: .long x :: st) ph = z_r sc kc ks m (pc + 1) lv (.long (x ||| y) :: st) ph := by
  rw [z_r_step hd rfl rfl]; simp only [z_step, z_nx]
theorem q_lxor {x y : Int64} (hd : decode (z_co m) pc = .ok (.lxor, 1)) : z_r sc kc ks m pc lv (.long y :: .long x :: st) ph = z_r sc kc ks m (pc + 1) lv (.long (x ^^^ y) :: st) ph := by
  rw [z_r_step hd rfl rfl]; simp only [z_step, z_nx]
theorem q_lshl {x : Int64} {y : Int32} (hd : decode (z_co m) pc = .ok (.lshl, 1)) : z_r sc kc ks m pc lv (.int y :: .long x :: st) ph = z_r sc kc ks m (pc + 1) lv (.long (x <<< (y.toInt64 &&& 63)) :: st) ph := by
  rw [z_r_step hd rfl rfl]; simp only [z_step, z_nx]
theorem q_lushr {x : Int64} {y : Int32} (hd : decode (z_co m) pc = .ok (.lushr, 1)) : z_r sc kc ks m pc lv (.int y :: .long x :: st) ph = z_r sc kc ks m (pc + 1) lv (.long (x.toUInt64 >>> (y.toInt64.toUInt64 &&& Int64.toUInt64 63)).toInt64 :: st) ph := by
  rw [z_r_step hd rfl rfl]; simp only [z_step, z_nx]
theorem q_lcmp {x y : Int64} (hd : decode (z_co m) pc = .ok (.lcmp, 1)) : z_r sc kc ks m pc lv (.long y :: .long x :: st) ph = z_r sc kc ks m (pc + 1) lv (.int (lg_cmp x y) :: st) ph := by
  rw [z_r_step hd rfl rfl]; simp only [z_step, z_nx]
theorem q_i2l {x : Int32} (hd : decode (z_co m) pc = .ok (.i2l, 1)) : z_r sc kc ks m pc lv (.int x :: st) ph = z_r sc kc ks m (pc + 1) lv (.long x.toInt64 :: st) ph := by
  rw [z_r_step hd rfl rfl]; simp only [z_step, z_nx]
theorem q_l2i {x : Int64} (hd : decode (z_co m) pc = .ok (.l2i, 1)) : z_r sc kc ks m pc lv (.long x :: st) ph = z_r sc kc ks m (pc + 1) lv (.int x.toInt32 :: st) ph := by
  rw [z_r_step hd rfl rfl]; simp only [z_step, z_nx]
theorem q_dupi {x : Int32} (hd : decode (z_co m) pc = .ok (.dup, 1)) : z_r sc kc ks m pc lv (.int x :: st) ph = z_r sc kc ks m (pc + 1) lv (.int x :: .int x :: st) ph := by
  rw [z_r_step hd rfl rfl]; simp only [z_step, z_nx]
theorem q_dupa {x : Nat} (hd : decode (z_co m) pc = .ok (.dup, 1)) : z_r sc kc ks m pc lv (.ref x :: st) ph = z_r sc kc ks m (pc + 1) lv (.ref x :: .ref x :: st) ph := by
  rw [z_r_step hd rfl rfl]; simp only [z_step, z_nx]
theorem q_dup2 {x : Int32} {y : Nat} (hd : decode (z_co m) pc = .ok (.dup2, 1)) : z_r sc kc ks m pc lv (.int x :: .ref y :: st) ph = z_r sc kc ks m (pc + 1) lv (.int x :: .ref y :: .int x :: .ref y :: st) ph := by
  rw [z_r_step hd rfl rfl]; simp only [z_step, z_nx]
theorem q_dup_x1 {x : Int32} {y : Nat} (hd : decode (z_co m) pc = .ok (.dup_x1, 1)) : z_r sc kc ks m pc lv (.int x :: .ref y :: st) ph = z_r sc kc ks m (pc + 1) lv (.int x :: .ref y :: .int x :: st) ph := by
  rw [z_r_step hd rfl rfl]; simp only [z_step, z_nx]
theorem q_pop {x : Int32} (hd : decode (z_co m) pc = .ok (.pop, 1)) : z_r sc kc ks m pc lv (.int x :: st) ph = z_r sc kc ks m (pc + 1) lv st ph := by
  rw [z_r_step hd rfl rfl]; simp only [z_step, z_nx]
theorem z_tgt1 {pc : Nat} {off : Int} {tgt : Nat} (ht : (pc : Int) + off = (tgt : Int)) : 0 ≤ (pc : Int) + off ∧ ((pc : Int) + off).toNat = tgt := by omega
theorem q_goto {off : Int} {tgt : Nat} (ht : (pc : Int) + off = (tgt : Int)) (hd : decode (z_co m) pc = .ok (.goto off, 3)) : z_r sc kc ks m pc lv st ph = z_r sc kc ks m tgt lv st ph := by
  rw [z_r_step hd rfl rfl]; simp only [z_step, z_go, z_nx, (z_tgt1 ht).1, (z_tgt1 ht).2, if_true]
theorem q_icmp_eq {x y : Int32} {off : Int} {tgt : Nat} (ht : (pc : Int) + off = (tgt : Int)) (hd : decode (z_co m) pc = .ok (.if_icmp .eq off, 3)) : z_r sc kc ks m pc lv (.int y :: .int x :: st) ph = if x = y then z_r sc kc ks m tgt lv st ph else z_r sc kc ks m (pc + 3) lv st ph := by
  by_cases hc : x = y
  · have hq : z_cnd .eq x y = true := by simp [z_cnd, hc]
    rw [z_r_step hd rfl rfl, if_pos hc]; simp only [z_step, z_nx, (z_tgt1 ht).1, (z_tgt1 ht).2, hq, if_true, if_false, Bool.false_eq_true]
  · have hq : z_cnd .eq x y = false := by simp [z_cnd, hc]
    rw [z_r_step hd rfl rfl, if_neg hc]; simp only [z_step, z_nx, (z_tgt1 ht).1, (z_tgt1 ht).2, hq, if_true, if_false, Bool.false_eq_true]
theorem q_icmp_ne {x y : Int32} {off : Int} {tgt : Nat} (ht : (pc : Int) + off = (tgt : Int)) (hd : decode (z_co m) pc = .ok (.if_icmp .ne off, 3)) : z_r sc kc ks m pc lv (.int y :: .int x :: st) ph = if x = y then z_r sc kc ks m (pc + 3) lv st ph else z_r sc kc ks m tgt lv st ph := by
  by_cases hc : x = y
  · have hq : z_cnd .ne x y = false := by simp [z_cnd, hc]
    rw [z_r_step hd rfl rfl, if_pos hc]; simp only [z_step, z_nx, (z_tgt1 ht).1, (z_tgt1 ht).2, hq, if_true, if_false, Bool.false_eq_true]
  · have hq : z_cnd .ne x y = true := by simp [z_cnd, hc]
    rw [z_r_step hd rfl rfl, if_neg hc]; simp only [z_step, z_nx, (z_tgt1 ht).1, (z_tgt1 ht).2, hq, if_true, if_false, Bool.false_eq_true]
theorem q_icmp_lt {x y : Int32} {off : Int} {tgt : Nat} (ht : (pc : Int) + off = (tgt : Int)) (hd : decode (z_co m) pc = .ok (.if_icmp .lt off, 3)) : z_r sc kc ks m pc lv (.int y :: .int x :: st) ph = if x < y then z_r sc kc ks m tgt lv st ph else z_r sc kc ks m (pc + 3) lv st ph := by
  by_cases hc : x < y
  · have hq : z_cnd .lt x y = true := by simp [z_cnd, hc]
    rw [z_r_step hd rfl rfl, if_pos hc]; simp only [z_step, z_nx, (z_tgt1 ht).1, (z_tgt1 ht).2, hq, if_true, if_false, Bool.false_eq_true]
  · have hq : z_cnd .lt x y = false := by simp [z_cnd, hc]
    rw [z_r_step hd rfl rfl, if_neg hc]; simp only [z_step, z_nx, (z_tgt1 ht).1, (z_tgt1 ht).2, hq, if_true, if_false, Bool.false_eq_true]
theorem q_icmp_ge {x y : Int32} {off : Int} {tgt : Nat} (ht : (pc : Int) + off = (tgt : Int)) (hd : decode (z_co m) pc = .ok (.if_icmp .ge off, 3)) : z_r sc kc ks m pc lv (.int y :: .int x :: st) ph = if x < y then z_r sc kc ks m (pc + 3) lv st ph else z_r sc kc ks m tgt lv st ph := by
  by_cases hc : x < y
  · have hq : z_cnd .ge x y = false := decide_eq_false (fun q => absurd hc (Int32.not_lt.mpr q))
    rw [z_r_step hd rfl rfl, if_pos hc]; simp only [z_step, z_nx, (z_tgt1 ht).1, (z_tgt1 ht).2, hq, if_true, if_false, Bool.false_eq_true]
  · have hq : z_cnd .ge x y = true := decide_eq_true (Int32.not_lt.mp hc)
    rw [z_r_step hd rfl rfl, if_neg hc]; simp only [z_step, z_nx, (z_tgt1 ht).1, (z_tgt1 ht).2, hq, if_true, if_false, Bool.false_eq_true]
theorem q_icmp_gt {x y : Int32} {off : Int} {tgt : Nat} (ht : (pc : Int) + off = (tgt : Int)) (hd : decode (z_co m) pc = .ok (.if_icmp .gt off, 3)) : z_r sc kc ks m pc lv (.int y :: .int x :: st) ph = if y < x then z_r sc kc ks m tgt lv st ph else z_r sc kc ks m (pc + 3) lv st ph := by
  by_cases hc : y < x
  · have hq : z_cnd .gt x y = true := by simp [z_cnd, hc]
    rw [z_r_step hd rfl rfl, if_pos hc]; simp only [z_step, z_nx, (z_tgt1 ht).1, (z_tgt1 ht).2, hq, if_true, if_false, Bool.false_eq_true]
  · have hq : z_cnd .gt x y = false := by simp [z_cnd, hc]
    rw [z_r_step hd rfl rfl, if_neg hc]; simp only [z_step, z_nx, (z_tgt1 ht).1, (z_tgt1 ht).2, hq, if_true, if_false, Bool.false_eq_true]
theorem q_icmp_le {x y : Int32} {off : Int} {tgt : Nat} (ht : (pc : Int) + off = (tgt : Int)) (hd : decode (z_co m) pc = .ok (.if_icmp .le off, 3)) : z_r sc kc ks m pc lv (.int y :: .int x :: st) ph = if y < x then z_r sc kc ks m (pc + 3) lv st ph else z_r sc kc ks m tgt lv st ph := by
  by_cases hc : y < x
  · have hq : z_cnd .le x y = false := decide_eq_false (fun q => absurd hc (Int32.not_lt.mpr q))
    rw [z_r_step hd rfl rfl, if_pos hc]; simp only [z_step, z_nx, (z_tgt1 ht).1, (z_tgt1 ht).2, hq, if_true, if_false, Bool.false_eq_true]
  · have hq : z_cnd .le x y = true := decide_eq_true (Int32.not_lt.mp hc)
    rw [z_r_step hd rfl rfl, if_neg hc]; simp only [z_step, z_nx, (z_tgt1 ht).1, (z_tgt1 ht).2, hq, if_true, if_false, Bool.false_eq_true]
theorem q_if_eq {x : Int32} {off : Int} {tgt : Nat} (ht : (pc : Int) + off = (tgt : Int)) (hd : decode (z_co m) pc = .ok (.ifCond .eq off, 3)) : z_r sc kc ks m pc lv (.int x :: st) ph = if x = 0 then z_r sc kc ks m tgt lv st ph else z_r sc kc ks m (pc + 3) lv st ph := by
  by_cases hc : x = 0
  · have hq : z_cnd .eq x 0 = true := by simp [z_cnd, hc]
    rw [z_r_step hd rfl rfl, if_pos hc]; simp only [z_step, z_nx, (z_tgt1 ht).1, (z_tgt1 ht).2, hq, if_true, if_false, Bool.false_eq_true]
  · have hq : z_cnd .eq x 0 = false := by simp [z_cnd, hc]
    rw [z_r_step hd rfl rfl, if_neg hc]; simp only [z_step, z_nx, (z_tgt1 ht).1, (z_tgt1 ht).2, hq, if_true, if_false, Bool.false_eq_true]
theorem q_if_ne {x : Int32} {off : Int} {tgt : Nat} (ht : (pc : Int) + off = (tgt : Int)) (hd : decode (z_co m) pc = .ok (.ifCond .ne off, 3)) : z_r sc kc ks m pc lv (.int x :: st) ph = if x = 0 then z_r sc kc ks m (pc + 3) lv st ph else z_r sc kc ks m tgt lv st ph := by
  by_cases hc : x = 0
  · have hq : z_cnd .ne x 0 = false := by simp [z_cnd, hc]
    rw [z_r_step hd rfl rfl, if_pos hc]; simp only [z_step, z_nx, (z_tgt1 ht).1, (z_tgt1 ht).2, hq, if_true, if_false, Bool.false_eq_true]
  · have hq : z_cnd .ne x 0 = true := by simp [z_cnd, hc]
    rw [z_r_step hd rfl rfl, if_neg hc]; simp only [z_step, z_nx, (z_tgt1 ht).1, (z_tgt1 ht).2, hq, if_true, if_false, Bool.false_eq_true]
theorem q_if_lt {x : Int32} {off : Int} {tgt : Nat} (ht : (pc : Int) + off = (tgt : Int)) (hd : decode (z_co m) pc = .ok (.ifCond .lt off, 3)) : z_r sc kc ks m pc lv (.int x :: st) ph = if x < 0 then z_r sc kc ks m tgt lv st ph else z_r sc kc ks m (pc + 3) lv st ph := by
  by_cases hc : x < 0
  · have hq : z_cnd .lt x 0 = true := by simp [z_cnd, hc]
    rw [z_r_step hd rfl rfl, if_pos hc]; simp only [z_step, z_nx, (z_tgt1 ht).1, (z_tgt1 ht).2, hq, if_true, if_false, Bool.false_eq_true]
  · have hq : z_cnd .lt x 0 = false := by simp [z_cnd, hc]
    rw [z_r_step hd rfl rfl, if_neg hc]; simp only [z_step, z_nx, (z_tgt1 ht).1, (z_tgt1 ht).2, hq, if_true, if_false, Bool.false_eq_true]
theorem q_if_ge {x : Int32} {off : Int} {tgt : Nat} (ht : (pc : Int) + off = (tgt : Int)) (hd : decode (z_co m) pc = .ok (.ifCond .ge off, 3)) : z_r sc kc ks m pc lv (.int x :: st) ph = if x < 0 then z_r sc kc ks m (pc + 3) lv st ph else z_r sc kc ks m tgt lv st ph := by
  by_cases hc : x < 0
  · have hq : z_cnd .ge x 0 = false := decide_eq_false (fun q => absurd hc (Int32.not_lt.mpr q))
    rw [z_r_step hd rfl rfl, if_pos hc]; simp only [z_step, z_nx, (z_tgt1 ht).1, (z_tgt1 ht).2, hq, if_true, if_false, Bool.false_eq_true]
  · have hq : z_cnd .ge x 0 = true := decide_eq_true (Int32.not_lt.mp hc)
    rw [z_r_step hd rfl rfl, if_neg hc]; simp only [z_step, z_nx, (z_tgt1 ht).1, (z_tgt1 ht).2, hq, if_true, if_false, Bool.false_eq_true]
theorem q_if_gt {x : Int32} {off : Int} {tgt : Nat} (ht : (pc : Int) + off = (tgt : Int)) (hd : decode (z_co m) pc = .ok (.ifCond .gt off, 3)) : z_r sc kc ks m pc lv (.int x :: st) ph = if 0 < x then z_r sc kc ks m tgt lv st ph else z_r sc kc ks m (pc + 3) lv st ph := by
  by_cases hc : 0 < x
  · have hq : z_cnd .gt x 0 = true := by simp [z_cnd, hc]
    rw [z_r_step hd rfl rfl, if_pos hc]; simp only [z_step, z_nx, (z_tgt1 ht).1, (z_tgt1 ht).2, hq, if_true, if_false, Bool.false_eq_true]
  · have hq : z_cnd .gt x 0 = false := by simp [z_cnd, hc]
    rw [z_r_step hd rfl rfl, if_neg hc]; simp only [z_step, z_nx, (z_tgt1 ht).1, (z_tgt1 ht).2, hq, if_true, if_false, Bool.false_eq_true]
theorem q_if_le {x : Int32} {off : Int} {tgt : Nat} (ht : (pc : Int) + off = (tgt : Int)) (hd : decode (z_co m) pc = .ok (.ifCond .le off, 3)) : z_r sc kc ks m pc lv (.int x :: st) ph = if 0 < x then z_r sc kc ks m (pc + 3) lv st ph else z_r sc kc ks m tgt lv st ph := by
  by_cases hc : 0 < x
  · have hq : z_cnd .le x 0 = false := decide_eq_false (fun q => absurd hc (Int32.not_lt.mpr q))
    rw [z_r_step hd rfl rfl, if_pos hc]; simp only [z_step, z_nx, (z_tgt1 ht).1, (z_tgt1 ht).2, hq, if_true, if_false, Bool.false_eq_true]
  · have hq : z_cnd .le x 0 = true := decide_eq_true (Int32.not_lt.mp hc)
    rw [z_r_step hd rfl rfl, if_neg hc]; simp only [z_step, z_nx, (z_tgt1 ht).1, (z_tgt1 ht).2, hq, if_true, if_false, Bool.false_eq_true]
theorem q_tswin {dflt lo hi off : Int} {offs : Array Int} {len tgt : Nat} {x : Int32} (h1 : ¬ (x.toInt < lo ∨ hi < x.toInt)) (ho : offs[(x.toInt - lo).toNat]? = some off) (ht : (pc : Int) + off = (tgt : Int)) (hd : decode (z_co m) pc = .ok (.tableswitch dflt lo hi offs, len)) : z_r sc kc ks m pc lv (.int x :: st) ph = z_r sc kc ks m tgt lv st ph := by
  rw [z_r_step hd rfl rfl]; simp only [z_step, h1, if_false, ho, z_go, z_nx, (z_tgt1 ht).1, (z_tgt1 ht).2, if_true]
theorem q_tswout {dflt lo hi : Int} {offs : Array Int} {len tgt : Nat} {x : Int32} (h1 : x.toInt < lo ∨ hi < x.toInt) (ht : (pc : Int) + dflt = (tgt : Int)) (hd : decode (z_co m) pc = .ok (.tableswitch dflt lo hi offs, len)) : z_r sc kc ks m pc lv (.int x :: st) ph = z_r sc kc ks m tgt lv st ph := by
  rw [z_r_step hd rfl rfl]; simp only [z_step, h1, if_true, z_go, z_nx, (z_tgt1 ht).1, (z_tgt1 ht).2]
theorem q_getfield {idx ci k a : Nat} (hf : z_fl m idx = some (ci, k)) (hd : decode (z_co m) pc = .ok (.getfield idx, 3)) : z_r sc kc ks m pc lv (.ref a :: st) ph = z_gf ph a ci k (fun v => z_r sc kc ks m (pc + 3) lv (v :: st) ph) := by
  rw [z_r_step hd rfl rfl]
  simp only [z_step, hf, z_gf, z_nx]
  cases h1 : ph[a]? with
  | none => rfl
  | some c =>
    rcases c with ⟨c1, fs⟩ | c
    · simp only []
      by_cases h2 : c1 = ci
      · simp only [h2, if_true]
        cases h3 : fs[k]? with
        | none => rfl
        | some v => cases v <;> rfl
      · simp only [h2, if_false]
    · rfl
theorem q_putfield {idx ci k a : Nat} {v : Value} (hf : z_fl m idx = some (ci, k)) (hn : (z_F ci k).2.2.2 = false) (hd : decode (z_co m) pc = .ok (.putfield idx, 3)) : z_r sc kc ks m pc lv (v :: .ref a :: st) ph = z_pf ph a ci k v (fun ph1 => z_r sc kc ks m (pc + 3) lv st ph1) := by
  rw [z_r_step hd rfl rfl]
  simp only [z_step, hf, z_pf, z_nx]
  cases h1 : ph[a]? with
  | none => rfl
  | some c =>
    rcases c with ⟨c1, fs⟩ | c
    · simp only [hn, Bool.false_eq_true, false_implies, and_true]
      by_cases h2 : c1 = ci ∧ k < fs.length ∧ z_fv ci k v = true
      · simp only [h2, and_self, if_true]
      · simp only [h2, if_false]
    · rfl
theorem q_iaload {a : Nat} {j : Int32} (hd : decode (z_co m) pc = .ok (.iaload, 1)) : z_r sc kc ks m pc lv (.int j :: .ref a :: st) ph = z_il1 ph a j (fun x => z_r sc kc ks m (pc + 1) lv (.int x :: st) ph) := by
  rw [z_r_step hd rfl rfl]
  simp only [z_step, z_il1, z_nx]
  cases h1 : ph[a]? with
  | none => rfl
  | some c =>
    rcases c with c | l | l
    · rfl
    · by_cases h2 : z_in j l.length = true <;> simp only [h2, if_true, if_false, Bool.false_eq_true]
    · rfl
theorem q_iastore {a : Nat} {j x : Int32} (hd : decode (z_co m) pc = .ok (.iastore, 1)) : z_r sc kc ks m pc lv (.int x :: .int j :: .ref a :: st) ph = z_is1 ph a j x (fun ph1 => z_r sc kc ks m (pc + 1) lv st ph1) := by
  rw [z_r_step hd rfl rfl]
  simp only [z_step, z_is1, z_nx]
  cases h1 : ph[a]? with
  | none => rfl
  | some c =>
    rcases c with c | l | l
    · rfl
    · by_cases h2 : z_in j l.length = true <;> simp only [h2, if_true, if_false, Bool.false_eq_true]
    · rfl
theorem q_aaload {a : Nat} {j : Int32} (hd : decode (z_co m) pc = .ok (.aaload, 1)) : z_r sc kc ks m pc lv (.int j :: .ref a :: st) ph = z_al1 ph a j (fun v => z_r sc kc ks m (pc + 1) lv (v :: st) ph) := by
  rw [z_r_step hd rfl rfl]
  simp only [z_step, z_al1, z_nx]
  cases h1 : ph[a]? with
  | none => rfl
  | some c =>
    rcases c with c | l | l
    · rfl
    · rfl
    · by_cases h2 : z_in j l.length = true
      · simp only [h2, if_true]
        cases h3 : l.getD j.toNatClampNeg none <;> rfl
      · simp only [h2, Bool.false_eq_true, if_false]
theorem q_alen {a : Nat} (hd : decode (z_co m) pc = .ok (.arraylength, 1)) : z_r sc kc ks m pc lv (.ref a :: st) ph = z_ln ph a (fun x => z_r sc kc ks m (pc + 1) lv (.int x :: st) ph) := by
  rw [z_r_step hd rfl rfl]
  simp only [z_step, z_ln, z_nx]
  cases h1 : ph[a]? with
  | none => rfl
  | some c =>
    rcases c with c | l | l
    · rfl
    · rfl
    · rfl
theorem q_slen {a : Nat} (hm : m = 0) (hd : decode (z_co m) pc = .ok (.arraylength, 1)) : z_r sc kc ks m pc lv (.retAddr a :: st) ph = z_r sc kc ks m (pc + 1) lv (.int (Int32.ofNat sc.length) :: st) ph := by
  rw [z_r_step hd rfl rfl]; simp only [z_step, z_nx, hm, if_true]
theorem q_sld {a : Nat} {j : Int32} (hm : m = 0) (hj : z_in j sc.length = true) (hd : decode (z_co m) pc = .ok (.iaload, 1)) : z_r sc kc ks m pc lv (.int j :: .retAddr a :: st) ph = z_r sc kc ks m (pc + 1) lv (.int (sc.getD j.toNatClampNeg 0) :: st) ph := by
  rw [z_r_step hd rfl rfl]; simp only [z_step, z_nx, hm, hj, and_self, if_true]
theorem q_ireturn {x : Int32} (hr : z_rt m = some .int) (hb : kc ≤ z_mc m ∧ ks ≤ z_ms m) (hd : decode (z_co m) pc = .ok (.ireturn, 1)) : z_r sc kc ks m pc lv [.int x] ph = some (some (.int x), ph) := by
  rw [z_r_step hd rfl rfl]; simp only [z_step, hr, hb, and_self, if_true]
theorem q_zreturn {x : Int32} (hr : z_rt m = some .boolean) (hb : kc ≤ z_mc m ∧ ks ≤ z_ms m) (hd : decode (z_co m) pc = .ok (.ireturn, 1)) : z_r sc kc ks m pc lv [.int x] ph = if x &&& 1 = x then some (some (.int x), ph) else none := by
  by_cases hx : x &&& 1 = x <;> (rw [z_r_step hd rfl rfl]; simp only [z_step, hr, hb, and_self, if_true, if_false, hx])
theorem q_lreturn {x : Int64} (hr : z_rt m = some .long) (hb : kc ≤ z_mc m ∧ ks ≤ z_ms m) (hd : decode (z_co m) pc = .ok (.lreturn, 1)) : z_r sc kc ks m pc lv [.long x] ph = some (some (.long x), ph) := by
  rw [z_r_step hd rfl rfl]; simp only [z_step, hr, hb, and_self, if_true]
theorem q_return (hr : z_rt m = none) (hb : kc ≤ z_mc m ∧ ks ≤ z_ms m) (hd : decode (z_co m) pc = .ok (.return_, 1)) : z_r sc kc ks m pc lv [] ph = some (none, ph) := by
  rw [z_r_step hd rfl rfl]; simp only [z_step, hr, hb, and_self, if_true]
end ZQ
/-- what a call asks that can be decided by program -/
def z_okS (m k y : Nat) (ac rc : List Nat) (kc ks : Nat) : Bool :=
  decide (rc.sum ≤ 8) && decide (z_fr y + 1 ≤ z_fr m) && decide (8 + (z_ml y + 11) + z_lo y ≤ z_lo m) && decide (kc + z_mc y ≤ z_mc m) && decide (ks + z_ms y ≤ z_ms m) &&
  decide (ac.sum ≤ z_ml y) && decide (ac.length = z_na k y) && ac.all (fun c => c == 1 || c == 2) && decide (z_mc y = 0 ∧ z_ms y = 0 ∧ 0 < y) && (match k with
    | 0 => !z_stat y && !z_ini y
    | 1 => z_stat y
    | 4 => z_stat y
    | _ => false)
theorem z_il_len : ∀ (as : List Value), (as.map fun v => v.category).all (fun c => c == 1 || c == 2) = true → (z_il as).length = (as.map fun v => v.category).sum
  | [], _ => rfl
  | v :: vs, h => by
    rw [List.map_cons, List.all_cons, Bool.and_eq_true] at h
    rw [z_il, List.map_cons, List.sum_cons]
    have ih := z_il_len vs h.2
    have h1 := h.1
    simp only [Bool.or_eq_true, beq_iff_eq] at h1
    split
    · rename_i hc
      rw [List.length_cons, List.length_cons, ih, hc]
      omega
    · rename_i hc
      rw [List.length_cons, ih]
      omega
def z_dyn (k y : Nat) (as : List Value) (ph : z_H) : Bool := if k = 0 then z_rcv ph y as else true
theorem z_okc_of {m k y kc ks : Nat} {as rest : List Value} {ph : z_H} {ac rc : List Nat} (ha : as.map (fun v => v.category) = ac) (hr : rest.map (fun v => v.category) = rc) (hn : as.all z_nr = true) (h : z_okS m k y ac rc kc ks = true) : z_okc m k y as rest ph kc ks = z_dyn k y as ph := by
  subst ha
  subst hr
  unfold z_okS at h
  simp only [Bool.and_eq_true, decide_eq_true_eq] at h
  obtain ⟨⟨⟨⟨⟨⟨⟨⟨⟨h1, h2⟩, h3⟩, h4⟩, h5⟩, h6⟩, h7⟩, h8⟩, h9⟩, h10⟩ := h
  have hl : (z_il as).length ≤ z_ml y := by rw [z_il_len as h8]; exact h6
  have hn2 : as.length = z_na k y := by rw [← h7, List.length_map]
  unfold z_okc
  simp only [h1, h2, h3, h4, h5, hn, hl, hn2, decide_true, Bool.true_and]
  unfold z_dyn
  rcases k with _ | _ | _ | _ | _ | k
  · simp only [Bool.and_eq_true, Bool.not_eq_true'] at h10
    simp [h10.1, h10.2]
  · simpa using h10
  · cases h10
  · cases h10
  · simpa using h10
  · cases h10
theorem q_call {sc : List Int32} {kc ks m pc : Nat} {lv : List (Option Value)} {ph : z_H} {i : Instr} {w idx k y : Nat} {as rest : List Value} {ac rc : List Nat} (hd : decode (z_co m) pc = .ok (i, 3)) (hl : z_len i 3 = true) (hi : z_idx i = some (w, idx)) (hc : z_cl2 m idx = some (k, y)) (hk : (z_kk w k && z_okS m k y ac rc kc ks) = true) (ha : as.map (fun v => v.category) = ac) (hr : rest.map (fun v => v.category) = rc) (hn : as.all z_nr = true) :
    z_r sc kc ks m pc lv (as.reverse ++ rest) ph = if z_dyn k y as ph = true then z_bd (z_call y as ph) (fun r ph1 => z_r sc kc ks m (pc + 3) lv (r ++ rest) ph1) else none := by
  obtain ⟨hk1, hk2⟩ := Bool.and_eq_true_iff.mp hk
  have h4 : ¬ (k = 6 ∨ k = 7 ∨ k = 8 ∨ k = 9) := by
    intro h4
    unfold z_okS at hk2
    simp only [Bool.and_eq_true] at hk2
    rcases h4 with rfl | rfl | rfl | rfl <;> exact Bool.false_ne_true hk2.2
  have hq := hk2
  unfold z_okS at hq
  simp only [Bool.and_eq_true, decide_eq_true_eq] at hq
  have hlen : as.length = z_na k y := by rw [← hq.1.1.1.2, ← ha, List.length_map]
  have ht : (as.reverse ++ rest).take (z_na k y) = as.reverse := by rw [← hlen, ← List.length_reverse]; exact List.take_left
  have hdr : (as.reverse ++ rest).drop (z_na k y) = rest := by rw [← hlen, ← List.length_reverse]; exact List.drop_left
  rw [z_r_call hd hl hi hc hk1 h4, ht, hdr, List.reverse_reverse, z_okc_of ha hr hn hk2, z_r_sc hq.1.2.2.2, hq.1.2.1, hq.1.2.2.1]
  rfl
theorem q_callS {sc : List Int32} {kc ks m pc : Nat} {lv : List (Option Value)} {ph : z_H} {i : Instr} {w idx k y : Nat} {as rest : List Value} {ac rc : List Nat} (hd : decode (z_co m) pc = .ok (i, 3)) (hl : z_len i 3 = true) (hi : z_idx i = some (w, idx)) (hc : z_cl2 m idx = some (k, y)) (hk : (z_kk w k && z_okS m k y ac rc kc ks) = true) (ha : as.map (fun v => v.category) = ac) (hr : rest.map (fun v => v.category) = rc) (hn : as.all z_nr = true) (h0 : ¬ k = 0) :
    z_r sc kc ks m pc lv (as.reverse ++ rest) ph = z_bd (z_call y as ph) (fun r ph1 => z_r sc kc ks m (pc + 3) lv (r ++ rest) ph1) := by
  rw [q_call hd hl hi hc hk ha hr hn, z_dyn, if_neg h0]
  rfl
/-- the receiver is of a class -/
def z_vc (ph : z_H) (ci a : Nat) (X : Option z_O) : Option z_O := match ph[a]? with
  | some (.inl (c, _)) => if c = ci then X else none
  | _ => none
theorem z_vc_of (ph : z_H) (y a : Nat) (as : List Value) (X : Option z_O) : (if z_rcv ph y (.ref a :: as) = true then X else none) = z_vc ph (z_ci y) a X := by
  cases h : z_rcv ph y (.ref a :: as) with
  | true =>
    rw [if_pos rfl]
    simp only [z_rcv] at h
    split at h
    · rename_i c fs h1
      unfold z_vc
      rw [h1]
      dsimp only
      rw [if_pos (by simpa using h)]
    · cases h
  | false =>
    rw [if_neg (by decide)]
    simp only [z_rcv] at h
    unfold z_vc
    split at h
    · rename_i c fs h1
      rw [h1]
      dsimp only
      rw [if_neg (by simpa using h)]
    · rename_i h1
      split
      · rename_i c fs h2
        exact absurd h2 (h1 c fs)
      · rfl
theorem q_callV {sc : List Int32} {kc ks m pc a ci : Nat} {lv : List (Option Value)} {ph : z_H} {i : Instr} {w idx y : Nat} {as rest : List Value} {ac rc : List Nat} (hd : decode (z_co m) pc = .ok (i, 3)) (hl : z_len i 3 = true) (hi : z_idx i = some (w, idx)) (hc : z_cl2 m idx = some (0, y)) (hk : (z_kk w 0 && z_okS m 0 y ac rc kc ks) = true) (ha : (Value.ref a :: as).map (fun v => v.category) = ac) (hr : rest.map (fun v => v.category) = rc) (hn : (Value.ref a :: as).all z_nr = true) (hci : z_ci y = ci) :
    z_r sc kc ks m pc lv ((Value.ref a :: as).reverse ++ rest) ph = z_vc ph ci a (z_bd (z_call y (.ref a :: as) ph) (fun r ph1 => z_r sc kc ks m (pc + 3) lv (r ++ rest) ph1)) := by
  rw [q_call hd hl hi hc hk ha hr hn, z_dyn, if_pos rfl]
  subst hci
  exact z_vc_of _ _ _ _ _
theorem q_lib {sc : List Int32} {kc ks m pc : Nat} {lv : List (Option Value)} {st st' : List Value} {ph : z_H} {i : Instr} {w idx k y : Nat} (hd : decode (z_co m) pc = .ok (i, 3)) (hl : z_len i 3 = true) (hi : z_idx i = some (w, idx)) (hc : z_cl2 m idx = some (k, y)) (hk : z_kk w k = true) (h4 : k = 6 ∨ k = 7 ∨ k = 8 ∨ k = 9) (hb : kc ≤ z_mc m ∧ ks ≤ z_ms m) (hst : z_lib k m st = some st') : z_r sc kc ks m pc lv st ph = z_r sc kc ks m (pc + 3) lv st' ph := z_r_lib hd hl hi hc hk h4 hst hb
theorem z_rcv_of {ph : z_H} {y a : Nat} {as : List Value} {fs : List Value} {ci : Nat} (h : ph[a]? = some (.inl (ci, fs))) (hc : ci = z_ci y) : z_rcv ph y (.ref a :: as) = true := by
  simp only [z_rcv, h, hc, beq_self_eq_true]
