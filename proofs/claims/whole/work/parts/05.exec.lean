/-! A MACHINE OF ITS OWN, over cells whose addresses are their places: what it computes, the JVM computes (part 06). -/
/-- an object (its class, its fields), an array of ints, an array of references to objects of class 3 -/
abbrev z_C : Type := (Nat × List Value) ⊕ (List Int32 ⊕ List (Option Nat))
abbrev z_H : Type := List z_C
/-- the next instruction, the locals, the stack, the heap, the cells and slots made -/
abbrev z_S : Type := Nat × List (Option Value) × List Value × z_H × Nat × Nat
abbrev z_O : Type := Option Value × z_H
/-- a local that was a long is broken by a store just behind it -/
def z_nk : Option Value → Option Value
  | some (.long _) => none
  | some (.double _) => none
  | o => o
def z_k (lv : List (Option Value)) : Nat → List (Option Value)
  | 0 => lv
  | i + 1 => lv.modify i z_nk
def z_s1 (lv : List (Option Value)) (i : Nat) (v : Value) : List (Option Value) := (z_k lv i).set i (some v)
def z_s2 (lv : List (Option Value)) (i : Nat) (v : Value) : List (Option Value) := ((z_k lv i).set i (some v)).set (i + 1) none
def z_cnd (c : ClassFile.Cond) (x y : Int32) : Bool := match c with
  | .eq => decide (x = y)
  | .ne => !decide (x = y)
  | .lt => decide (x < y)
  | .ge => decide (y ≤ x)
  | .gt => decide (y < x)
  | .le => decide (x ≤ y)
def z_in (i : Int32) (n : Nat) : Bool := decide (¬ i < 0) && decide (i.toNatClampNeg < n)
abbrev z_R : Type := Option (z_S ⊕ z_O)
def z_nx (pc : Nat) (lv : List (Option Value)) (st : List Value) (ph : z_H) (kc ks : Nat) : z_R := some (.inl (pc, lv, st, ph, kc, ks))
def z_go (pc : Nat) (off : Int) (lv : List (Option Value)) (st : List Value) (ph : z_H) (kc ks : Nat) : z_R :=
  if 0 ≤ (pc : Int) + off then z_nx ((pc : Int) + off).toNat lv st ph kc ks else none
def z_fl (m idx : Nat) : Option (Nat × Nat) := (z_FT.find? fun e => e.1 == z_ci m && e.2.1 == idx).map fun e => (e.2.2.1, e.2.2.2.1)
def z_cl2 (m idx : Nat) : Option (Nat × Nat) := (z_CT.find? fun e => e.1 == z_ci m && e.2.1 == idx).map fun e => (e.2.2.1, e.2.2.2.1)
def z_ki (m idx : Nat) : Option Int32 := (z_KI.find? fun e => e.1 == z_ci m && e.2.1 == idx).map fun e => e.2.2.1
def z_kl (m idx : Nat) : Option Int64 := (z_KL.find? fun e => e.1 == z_ci m && e.2.1 == idx).map fun e => e.2.2.1
def z_nw (m idx : Nat) : Option Nat := (z_NT.find? fun e => e.1 == z_ci m && e.2.1 == idx).map fun e => e.2.2.1
/-- the fields of a new object -/
def z_f0 (c : Nat) : List Value := (List.range (z_nf c)).map fun k => match (z_F c k).2.2.1 with
  | "I" => .int 0
  | "J" => .long 0
  | _ => .null
/-- whether a value may stand in a field -/
def z_fv (c k : Nat) (v : Value) : Bool := match v with
  | .int _ => decide ((z_F c k).2.2.1 = "I")
  | .long _ => decide ((z_F c k).2.2.1 = "J")
  | .ref _ => decide ((z_F c k).2.2.1 ≠ "I") && decide ((z_F c k).2.2.1 ≠ "J")
  | _ => false
def z_len (i : Instr) (n : Nat) : Bool := match i with
  | .tableswitch .. => true
  | .iload _ | .lload _ | .aload _ | .istore _ | .lstore _ | .astore _ | .bipush _ | .ldc _ | .newarray _ => n == 2
  | .sipush _ | .ldc_w _ | .ldc2_w _ | .iinc _ _ | .goto _ | .if_icmp _ _ | .ifCond _ _ | .getfield _ | .putfield _ | .new _ | .anewarray _ | .invokevirtual _ | .invokestatic _ | .invokespecial _ => n == 3
  | _ => n == 1
/-- an instruction that is no call -/
def z_step (sc : List Int32) (m : Nat) (i : Instr) (pc : Nat) (lv : List (Option Value)) (st : List Value) (ph : z_H) (kc ks : Nat) : z_R :=
  match i with
  | .iload_n k => match lv[k.val]? with
    | some (some (.int x)) => z_nx (pc + 1) lv (.int x :: st) ph kc ks
    | _ => none
  | .iload k => match lv[k]? with
    | some (some (.int x)) => z_nx (pc + 2) lv (.int x :: st) ph kc ks
    | _ => none
  | .lload_n k => match lv[k.val]? with
    | some (some (.long x)) => z_nx (pc + 1) lv (.long x :: st) ph kc ks
    | _ => none
  | .lload k => match lv[k]? with
    | some (some (.long x)) => z_nx (pc + 2) lv (.long x :: st) ph kc ks
    | _ => none
  | .aload_n k => match lv[k.val]? with
    | some (some (.ref x)) => z_nx (pc + 1) lv (.ref x :: st) ph kc ks
    | some (some (.retAddr x)) => z_nx (pc + 1) lv (.retAddr x :: st) ph kc ks
    | _ => none
  | .aload k => match lv[k]? with
    | some (some (.ref x)) => z_nx (pc + 2) lv (.ref x :: st) ph kc ks
    | _ => none
  | .istore_n k => match st with
    | .int x :: st => if k.val < z_ml m then z_nx (pc + 1) (z_s1 lv k.val (.int x)) st ph kc ks else none
    | _ => none
  | .istore k => match st with
    | .int x :: st => if k < z_ml m then z_nx (pc + 2) (z_s1 lv k (.int x)) st ph kc ks else none
    | _ => none
  | .astore_n k => match st with
    | .ref x :: st => if k.val < z_ml m then z_nx (pc + 1) (z_s1 lv k.val (.ref x)) st ph kc ks else none
    | _ => none
  | .astore k => match st with
    | .ref x :: st => if k < z_ml m then z_nx (pc + 2) (z_s1 lv k (.ref x)) st ph kc ks else none
    | _ => none
  | .lstore_n k => match st with
    | .long x :: st => if k.val + 1 < z_ml m then z_nx (pc + 1) (z_s2 lv k.val (.long x)) st ph kc ks else none
    | _ => none
  | .lstore k => match st with
    | .long x :: st => if k + 1 < z_ml m then z_nx (pc + 2) (z_s2 lv k (.long x)) st ph kc ks else none
    | _ => none
  | .iinc k n => match lv[k]? with
    | some (some (.int x)) => if k < z_ml m then z_nx (pc + 3) (z_s1 lv k (.int (x + Int32.ofInt n))) st ph kc ks else none
    | _ => none
  | .iconst n => z_nx (pc + 1) lv (.int (Int32.ofInt n) :: st) ph kc ks
  | .bipush n => z_nx (pc + 2) lv (.int (Int8.ofInt n).toInt32 :: st) ph kc ks
  | .sipush n => z_nx (pc + 3) lv (.int (Int16.ofInt n).toInt32 :: st) ph kc ks
  | .lconst n => z_nx (pc + 1) lv (.long (Int64.ofNat n.val) :: st) ph kc ks
  | .ldc k => match z_ki m k with
    | some v => z_nx (pc + 2) lv (.int v :: st) ph kc ks
    | none => none
  | .ldc_w k => match z_ki m k with
    | some v => z_nx (pc + 3) lv (.int v :: st) ph kc ks
    | none => none
  | .ldc2_w k => match z_kl m k with
    | some v => z_nx (pc + 3) lv (.long v :: st) ph kc ks
    | none => none
  | .iadd => match st with
    | .int y :: .int x :: st => z_nx (pc + 1) lv (.int (x + y) :: st) ph kc ks
    | _ => none
  | .isub => match st with
    | .int y :: .int x :: st => z_nx (pc + 1) lv (.int (x - y) :: st) ph kc ks
    | _ => none
  | .imul => match st with
    | .int y :: .int x :: st => z_nx (pc + 1) lv (.int (x * y) :: st) ph kc ks
    | _ => none
  | .idiv => match st with
    | .int y :: .int x :: st => if y = 0 then none else z_nx (pc + 1) lv (.int (x / y) :: st) ph kc ks
    | _ => none
  | .irem => match st with
    | .int y :: .int x :: st => if y = 0 then none else z_nx (pc + 1) lv (.int (x - x / y * y) :: st) ph kc ks
    | _ => none
  | .ineg => match st with
    | .int x :: st => z_nx (pc + 1) lv (.int (-x) :: st) ph kc ks
    | _ => none
  | .ishl => match st with
    | .int y :: .int x :: st => z_nx (pc + 1) lv (.int (x <<< (y &&& 31)) :: st) ph kc ks
    | _ => none
  | .ishr => match st with
    | .int y :: .int x :: st => z_nx (pc + 1) lv (.int (x >>> (y &&& 31)) :: st) ph kc ks
    | _ => none
  | .iushr => match st with
    | .int y :: .int x :: st => z_nx (pc + 1) lv (.int (x.toUInt32 >>> (y.toUInt32 &&& Int32.toUInt32 31)).toInt32 :: st) ph kc ks
    | _ => none
  | .iand => match st with
    | .int y :: .int x :: st => z_nx (pc + 1) lv (.int (x &&& y) :: st) ph kc ks
    | _ => none
  | .ior => match st with
    | .int y :: .int x :: st => z_nx (pc + 1) lv (.int (x ||| y) :: st) ph kc ks
    | _ => none
  | .ixor => match st with
    | .int y :: .int x :: st => z_nx (pc + 1) lv (.int (x ^^^ y) :: st) ph kc ks
    | _ => none
  | .ladd => match st with
    | .long y :: .long x :: st => z_nx (pc + 1) lv (.long (x + y) :: st) ph kc ks
    | _ => none
  | .lsub => match st with
    | .long y :: .long x :: st => z_nx (pc + 1) lv (.long (x - y) :: st) ph kc ks
    | _ => none
  | .land => match st with
    | .long y :: .long x :: st => z_nx (pc + 1) lv (.long (x &&& y) :: st) ph kc ks
    | _ => none
  | .lor => match st with
    | .long y :: .long x :: st => z_nx (pc + 1) lv (.long (x ||| y) :: st) ph kc ks
    | _ => none
  | .lxor => match st with
    | .long y :: .long x :: st => z_nx (pc + 1) lv (.long (x ^^^ y) :: st) ph kc ks
    | _ => none
  | .lshl => match st with
    | .int y :: .long x :: st => z_nx (pc + 1) lv (.long (x <<< (y.toInt64 &&& 63)) :: st) ph kc ks
    | _ => none
  | .lushr => match st with
    | .int y :: .long x :: st => z_nx (pc + 1) lv (.long (x.toUInt64 >>> (y.toInt64.toUInt64 &&& Int64.toUInt64 63)).toInt64 :: st) ph kc ks
    | _ => none
  | .lcmp => match st with
    | .long y :: .long x :: st => z_nx (pc + 1) lv (.int (lg_cmp x y) :: st) ph kc ks
    | _ => none
  | .i2l => match st with
    | .int x :: st => z_nx (pc + 1) lv (.long x.toInt64 :: st) ph kc ks
    | _ => none
  | .l2i => match st with
    | .long x :: st => z_nx (pc + 1) lv (.int x.toInt32 :: st) ph kc ks
    | _ => none
  | .goto off => z_go pc off lv st ph kc ks
  | .if_icmp c off => match st with
    | .int y :: .int x :: st => if 0 ≤ (pc : Int) + off then if z_cnd c x y = true then z_nx ((pc : Int) + off).toNat lv st ph kc ks else z_nx (pc + 3) lv st ph kc ks else none
    | _ => none
  | .ifCond c off => match st with
    | .int x :: st => if 0 ≤ (pc : Int) + off then if z_cnd c x 0 = true then z_nx ((pc : Int) + off).toNat lv st ph kc ks else z_nx (pc + 3) lv st ph kc ks else none
    | _ => none
  | .tableswitch dflt lo hi offs => match st with
    | .int x :: st => if x.toInt < lo ∨ hi < x.toInt then z_go pc dflt lv st ph kc ks else match offs[(x.toInt - lo).toNat]? with
      | some off => z_go pc off lv st ph kc ks
      | none => none
    | _ => none
  | .dup => match st with
    | .int x :: st => z_nx (pc + 1) lv (.int x :: .int x :: st) ph kc ks
    | .ref x :: st => z_nx (pc + 1) lv (.ref x :: .ref x :: st) ph kc ks
    | _ => none
  | .dup2 => match st with
    | .int x :: .ref y :: st => z_nx (pc + 1) lv (.int x :: .ref y :: .int x :: .ref y :: st) ph kc ks
    | _ => none
  | .dup_x1 => match st with
    | .int x :: .ref y :: st => z_nx (pc + 1) lv (.int x :: .ref y :: .int x :: st) ph kc ks
    | _ => none
  | .pop => match st with
    | .int _ :: st => z_nx (pc + 1) lv st ph kc ks
    | _ => none
  | .getfield idx => match st, z_fl m idx with
    | .ref a :: st, some (ci, k) => match ph[a]? with
      | some (.inl (ci', fs)) => if ci' = ci then match fs[k]? with
        | some (.int x) => z_nx (pc + 3) lv (.int x :: st) ph kc ks
        | some (.long x) => z_nx (pc + 3) lv (.long x :: st) ph kc ks
        | some (.ref x) => z_nx (pc + 3) lv (.ref x :: st) ph kc ks
        | _ => none
        else none
      | _ => none
    | _, _ => none
  | .putfield idx => match st, z_fl m idx with
    | v :: .ref a :: st, some (ci, k) => match ph[a]? with
      | some (.inl (ci', fs)) => if ci' = ci ∧ k < fs.length ∧ z_fv ci k v = true ∧ ((z_F ci k).2.2.2 = true → z_ini m = true ∧ (z_F ci k).1 = z_rn (z_ci m)) then z_nx (pc + 3) lv st (ph.set a (.inl (ci, fs.set k v))) kc ks else none
      | _ => none
    | _, _ => none
  | .iaload => match st with
    | .int j :: .ref a :: st => match ph[a]? with
      | some (.inr (.inl l)) => if z_in j l.length then z_nx (pc + 1) lv (.int (l.getD j.toNatClampNeg 0) :: st) ph kc ks else none
      | _ => none
    | .int j :: .retAddr _ :: st => if m = 0 ∧ z_in j sc.length = true then z_nx (pc + 1) lv (.int (sc.getD j.toNatClampNeg 0) :: st) ph kc ks else none
    | _ => none
  | .iastore => match st with
    | .int x :: .int j :: .ref a :: st => match ph[a]? with
      | some (.inr (.inl l)) => if z_in j l.length then z_nx (pc + 1) lv st (ph.set a (.inr (.inl (l.set j.toNatClampNeg x)))) kc ks else none
      | _ => none
    | _ => none
  | .aaload => match st with
    | .int j :: .ref a :: st => match ph[a]? with
      | some (.inr (.inr l)) => if z_in j l.length then match l.getD j.toNatClampNeg none with
        | some x => z_nx (pc + 1) lv (.ref x :: st) ph kc ks
        | none => none
        else none
      | _ => none
    | _ => none
  | .aastore => match st with
    | .ref x :: .int j :: .ref a :: st => match ph[a]?, ph[x]? with
      | some (.inr (.inr l)), some (.inl (3, _)) => if z_in j l.length then z_nx (pc + 1) lv st (ph.set a (.inr (.inr (l.set j.toNatClampNeg (some x))))) kc ks else none
      | _, _ => none
    | _ => none
  | .arraylength => match st with
    | .ref a :: st => match ph[a]? with
      | some (.inr (.inl l)) => z_nx (pc + 1) lv (.int (Int32.ofNat l.length) :: st) ph kc ks
      | some (.inr (.inr l)) => z_nx (pc + 1) lv (.int (Int32.ofNat l.length) :: st) ph kc ks
      | _ => none
    | .retAddr _ :: st => if m = 0 then z_nx (pc + 1) lv (.int (Int32.ofNat sc.length) :: st) ph kc ks else none
    | _ => none
  | .new idx => match z_nw m idx with
    | some c => if kc + 1 ≤ z_mc m ∧ ks + z_nf c ≤ z_ms m then z_nx (pc + 3) lv (.ref ph.length :: st) (ph ++ [.inl (c, z_f0 c)]) (kc + 1) (ks + z_nf c) else none
    | none => none
  | .newarray ty => match ty, st with
    | .int, .int n :: st => if ¬ n < 0 ∧ n.toNatClampNeg ≤ 65536 ∧ kc + 1 ≤ z_mc m ∧ ks + n.toNatClampNeg ≤ z_ms m then z_nx (pc + 2) lv (.ref ph.length :: st) (ph ++ [.inr (.inl (List.replicate n.toNatClampNeg 0))]) (kc + 1) (ks + n.toNatClampNeg) else none
    | _, _ => none
  | .anewarray idx => match st, z_nw m idx with
    | .int n :: st, some 3 => if ¬ n < 0 ∧ n.toNatClampNeg ≤ 65536 ∧ kc + 1 ≤ z_mc m ∧ ks + n.toNatClampNeg ≤ z_ms m then z_nx (pc + 3) lv (.ref ph.length :: st) (ph ++ [.inr (.inr (List.replicate n.toNatClampNeg none))]) (kc + 1) (ks + n.toNatClampNeg) else none
    | _, _ => none
  | .ireturn => match st with
    | [.int x] => match z_rt m with
      | some .int => some (.inr (some (.int x), ph))
      | some .boolean => if x &&& 1 = x then some (.inr (some (.int x), ph)) else none
      | _ => none
    | _ => none
  | .lreturn => match st with
    | [.long x] => if z_rt m = some .long then some (.inr (some (.long x), ph)) else none
    | _ => none
  | .return_ => match st with
    | [] => if z_rt m = none then some (.inr (none, ph)) else none
    | _ => none
  | _ => none
/-- whether the class of a receiver is the method's -/
def z_rcv (ph : z_H) (y : Nat) : List Value → Bool
  | .ref a :: _ => match ph[a]? with
    | some (.inl (ci, _)) => ci == z_ci y
    | _ => false
  | _ => false
def z_isref : List Value → Bool
  | .ref _ :: _ => true
  | _ => false
def z_nr : Value → Bool
  | .retAddr _ => false
  | _ => true
def z_np (y : Nat) : Nat := (parseMethodDescriptor (z_nm y).desc).elim 0 (fun d => d.parameters.length)
def z_il : List Value → List (Option Value)
  | [] => []
  | v :: vs => if v.category = 2 then some v :: none :: z_il vs else some v :: z_il vs
/-- the locals at a method's entry -/
def z_init (y : Nat) (as : List Value) : List (Option Value) := z_il as ++ List.replicate (z_ml y - (z_il as).length) none
/-- how many values a call takes -/
def z_na (k y : Nat) : Nat := if k = 1 ∨ k = 4 then z_np y else z_np y + 1
/-- what a call asks ahead -/
def z_okc (m k y : Nat) (as rest : List Value) (ph : z_H) (kc ks : Nat) : Bool :=
  decide ((rest.map fun v => v.category).sum ≤ 8) && decide (z_fr y + 1 ≤ z_fr m) && decide (8 + (z_ml y + 11) + z_lo y ≤ z_lo m) && decide (kc + z_mc y ≤ z_mc m) && decide (ks + z_ms y ≤ z_ms m) &&
  as.all z_nr && decide ((z_il as).length ≤ z_ml y) && decide (as.length = z_na k y) && (match k with
    | 0 => !z_stat y && !z_ini y && z_rcv ph y as
    | 1 => z_stat y
    | 2 => z_ini y && !z_stat y && z_isref as
    | 4 => z_stat y
    | 5 => z_ini y && !z_stat y && z_isref as
    | _ => false)
def z_idx (i : Instr) : Option (Nat × Nat) := match i with
  | .invokevirtual k => some (0, k)
  | .invokestatic k => some (1, k)
  | .invokespecial k => some (2, k)
  | _ => none
/-- how a call's kind fits its instruction -/
def z_kk (w k : Nat) : Bool := match w with
  | 0 => k == 0
  | 1 => k == 1 || k == 4 || k == 6 || k == 7 || k == 8
  | _ => k == 2 || k == 5 || k == 9
def z_out : Option Value → Bool
  | none => true
  | some (.int _) => true
  | some (.long _) => true
  | _ => false
/-- the calls that end in a row of the kit: Object.<init>, Math.max, min, abs -/
def z_lib (k m : Nat) (st : List Value) : Option (List Value) := match k with
  | 9 => match st with
    | .ref _ :: rest => if (rest.map fun v => v.category).sum + 12 ≤ z_lo m ∧ 1 ≤ z_fr m then some rest else none
    | _ => none
  | 6 => match st with
    | .int y :: .int x :: rest => if (rest.map fun v => v.category).sum + 13 ≤ z_lo m ∧ 1 ≤ z_fr m then some (.int (if x < y then y else x) :: rest) else none
    | _ => none
  | 7 => match st with
    | .int y :: .int x :: rest => if (rest.map fun v => v.category).sum + 13 ≤ z_lo m ∧ 1 ≤ z_fr m then some (.int (if y < x then y else x) :: rest) else none
    | _ => none
  | 8 => match st with
    | .int x :: rest => if (rest.map fun v => v.category).sum + 13 ≤ z_lo m ∧ 1 ≤ z_fr m then some (.int (if 0 ≤ x then x else 0 - x) :: rest) else none
    | _ => none
  | _ => none
def z_ex (sc : List Int32) : Nat → Nat → Nat → List (Option Value) → List Value → z_H → Nat → Nat → Option z_O
  | 0, _, _, _, _, _, _, _ => none
  | n + 1, m, pc, lv, st, ph, kc, ks => match decode (z_co m) pc with
    | .error _ => none
    | .ok (i, len) => if z_len i len = true then match z_idx i with
      | none => match z_step sc m i pc lv st ph kc ks with
        | none => none
        | some (.inr r) => if kc ≤ z_mc m ∧ ks ≤ z_ms m then some r else none
        | some (.inl (pc', lv', st', ph', kc', ks')) => z_ex sc n m pc' lv' st' ph' kc' ks'
      | some (w, idx) => match z_cl2 m idx with
        | none => none
        | some (k, y) => if z_kk w k = true then
            if k = 6 ∨ k = 7 ∨ k = 8 ∨ k = 9 then match z_lib k m st with
              | none => none
              | some st' => if kc ≤ z_mc m ∧ ks ≤ z_ms m then z_ex sc n m (pc + 3) lv st' ph kc ks else none
            else if z_okc m k y (st.take (z_na k y)).reverse (st.drop (z_na k y)) ph kc ks = true then match z_ex sc n y 0 (z_init y (st.take (z_na k y)).reverse) [] ph 0 0 with
              | none => none
              | some (r, ph') => if z_out r = true then z_ex sc n m (pc + 3) lv (r.toList ++ st.drop (z_na k y)) ph' (kc + z_mc y) (ks + z_ms y) else none
            else none
          else none
      else none
