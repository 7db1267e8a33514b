/-! What the machine of part 05 computes, the JVM computes. -/
def z_rv (base b : Nat) : Value → Value
  | .ref a => .ref (base + a)
  | .retAddr _ => .ref b
  | v => v
theorem z_rv_cat (base b : Nat) (v : Value) : (z_rv base b v).category = v.category := by cases v <;> rfl
theorem z_rv_nr {base b b' : Nat} {v : Value} (h : z_nr v = true) : z_rv base b v = z_rv base b' v := by cases v <;> first | rfl | cases h
def z_at (U : State) (D : va_G) (base : Nat) (a : Nat) (c : z_C) (H : Heap) : Prop := match c with
  | .inl o => ∃ r : vw_C, z_cl[o.1]? = some r ∧ o.2.length = r.2.2 ∧ t_OB a (D.1 o.1) r.2.2 (D.2 o.1) H (vp_V (o.2.map (z_rv base 0)))
  | .inr (.inl l) => ∃ cA : ClassId, H[a]? = some (arrV cA l.length (fun j => .int (l.getD j 0))) ∧ ArrOfT U cA .int
  | .inr (.inr l) => ∃ cA : ClassId, H[a]? = some (arrV cA l.length (fun j => va_rf ((l.getD j none).map (base + ·)))) ∧ ArrOfT U cA (.object RX3) ∧ va_RA U cA (.object RX3)
def z_HH (U : State) (D : va_G) (base : Nat) (ph : z_H) (H : Heap) : Prop := H.size = base + ph.length ∧ ∀ (k : Nat) (c : z_C), ph[k]? = some c → z_at U D base (base + k) c H
def z_Kx (D : va_G) (U : State) : Prop := va_K D z_cl [] U ∧ (∀ w ∈ z_NW, va_Nw w U) ∧ va_AO RX3 U
theorem z_at.kept {U : State} {D : va_G} {base a : Nat} {c : z_C} {H H1 : Heap} (h : z_at U D base a c H) (hq : H1[a]? = H[a]?) : z_at U D base a c H1 := by
  rcases c with o | l | l
  · obtain ⟨r, h1, h2, h3⟩ := h
    exact ⟨r, h1, h2, h3.kept hq⟩
  · obtain ⟨cA, h1, h2⟩ := h
    exact ⟨cA, hq.trans h1, h2⟩
  · obtain ⟨cA, h1, h2⟩ := h
    exact ⟨cA, hq.trans h1, h2⟩
theorem z_at.moved {u U : State} (hvm : u.vm.Alike U.vm) {D : va_G} {base a : Nat} {c : z_C} {H : Heap} (h : z_at u D base a c H) : z_at U D base a c H := by
  rcases c with o | l | l
  · exact h
  · obtain ⟨cA, h1, h2⟩ := h
    exact ⟨cA, h1, arrOfT_moved hvm h2⟩
  · obtain ⟨cA, h1, h2, h3⟩ := h
    exact ⟨cA, h1, arrOfT_moved hvm h2, h3.moved hvm⟩
theorem z_HH.moved {u U : State} (hvm : u.vm.Alike U.vm) {D : va_G} {base : Nat} {ph : z_H} {H : Heap} (h : z_HH u D base ph H) : z_HH U D base ph H := ⟨h.1, fun k c hk => (h.2 k c hk).moved hvm⟩
theorem z_HH.set {U : State} {D : va_G} {base : Nat} {ph : z_H} {H H1 : Heap} (h : z_HH U D base ph H) {k : Nat} {c0 c : z_C} (hk : ph[k]? = some c0) (z : H1.size = H.size) (oq : ∀ q, q ≠ base + k → H1[q]? = H[q]?) (hc : z_at U D base (base + k) c H1) : z_HH U D base (ph.set k c) H1 := by
  have hl := (List.getElem?_eq_some_iff.mp hk).1
  refine ⟨by rw [z, h.1, List.length_set], fun j d hj => ?_⟩
  by_cases hjk : j = k
  · subst hjk
    rw [List.getElem?_set_self hl] at hj
    cases hj
    exact hc
  · rw [List.getElem?_set_ne (Ne.symm hjk)] at hj
    exact (h.2 j d hj).kept (oq _ (by omega))
theorem z_HH.push {U : State} {D : va_G} {base : Nat} {ph : z_H} {H H1 : Heap} (h : z_HH U D base ph H) {c : z_C} (z : H1.size = H.size + 1) (oq : ∀ q, q < H.size → H1[q]? = H[q]?) (hc : z_at U D base (base + ph.length) c H1) : z_HH U D base (ph ++ [c]) H1 := by
  refine ⟨by rw [z, h.1, List.length_append]; rfl, fun j d hj => ?_⟩
  by_cases hl : j < ph.length
  · rw [List.getElem?_append_left hl] at hj
    exact (h.2 j d hj).kept (oq _ (by rw [h.1]; omega))
  · rw [List.getElem?_append_right (by omega)] at hj
    have hz : j - ph.length < 1 := (List.getElem?_eq_some_iff.mp hj).1
    have e : j = ph.length := by omega
    subst e
    rw [Nat.sub_self] at hj
    cases hj
    exact hc
theorem z_Kx.warm {D : va_G} {s U : State} (h : z_Kx D s) (hW : s.WarmedH U.vm) : z_Kx D U := by
  refine ⟨va_K.moved hW.alike h.1, fun w hw => ?_, va_AO.moved hW.alike h.2.2⟩
  have h1 := h.2.1 w hw
  have h2 := (List.mem_filter.mp hw).2
  cases w <;> first | exact va_Nw.warmM hW h1 | cases h2
theorem z_Kx.same {D : va_G} {s : State} {g : JFrame} {mk : MethodId} {a : Array Value} (h : z_Kx D s) : z_Kx D (s.calling g mk a) := by
  refine ⟨va_K.moved (u := s) (U := s.calling g mk a) (Vm.Alike.refl s.vm) h.1, fun w hw => ?_, va_AO.moved (u := s) (U := s.calling g mk a) (Vm.Alike.refl s.vm) h.2.2⟩
  have h2 := (List.mem_filter.mp hw).2
  cases w <;> first | exact va_Nw.same (u := s) rfl rfl (h.2.1 _ hw) | cases h2
-- locals
def z_as (base b : Nat) : Nat → List (Option Value) → List (Nat × Value)
  | _, [] => []
  | i, none :: l => z_as base b (i + 1) l
  | i, some v :: l => (i, z_rv base b v) :: z_as base b (i + 1) l
theorem z_as_in {base b : Nat} {q : Nat × Value} : ∀ (l : List (Option Value)) (i : Nat), q ∈ z_as base b i l ↔ ∃ v, i ≤ q.1 ∧ l[q.1 - i]? = some (some v) ∧ q.2 = z_rv base b v
  | [], i => by simp [z_as]
  | none :: l, i => by
    rw [z_as, z_as_in l (i + 1)]
    constructor
    · rintro ⟨v, h1, h2, h3⟩
      refine ⟨v, by omega, ?_, h3⟩
      rw [show q.1 - i = (q.1 - (i + 1)) + 1 by omega, List.getElem?_cons_succ]
      exact h2
    · rintro ⟨v, h1, h2, h3⟩
      rcases Nat.eq_or_lt_of_le h1 with e | e
      · rw [← e, Nat.sub_self] at h2
        simp at h2
      · refine ⟨v, e, ?_, h3⟩
        rw [show q.1 - i = (q.1 - (i + 1)) + 1 by omega, List.getElem?_cons_succ] at h2
        exact h2
  | some w :: l, i => by
    rw [z_as, List.mem_cons, z_as_in l (i + 1)]
    constructor
    · rintro (rfl | ⟨v, h1, h2, h3⟩)
      · exact ⟨w, Nat.le_refl _, by simp, rfl⟩
      · refine ⟨v, by omega, ?_, h3⟩
        rw [show q.1 - i = (q.1 - (i + 1)) + 1 by omega, List.getElem?_cons_succ]
        exact h2
    · rintro ⟨v, h1, h2, h3⟩
      rcases Nat.eq_or_lt_of_le h1 with e | e
      · rw [← e, Nat.sub_self] at h2
        simp at h2
        subst h2
        exact Or.inl (Prod.ext e.symm h3)
      · refine Or.inr ⟨v, e, ?_, h3⟩
        rw [show q.1 - i = (q.1 - (i + 1)) + 1 by omega, List.getElem?_cons_succ] at h2
        exact h2
def z_LL (base b nL : Nat) (ls : Array Slot) (lv : List (Option Value)) : Prop := lv_has ls nL (z_as base b 0 lv)
theorem z_LL.get {base b nL : Nat} {ls : Array Slot} {lv : List (Option Value)} (h : z_LL base b nL ls lv) {i : Nat} {v : Value} (hi : lv[i]? = some (some v)) : ls[i]? = some (.val (z_rv base b v)) :=
  h.2.2 (i, z_rv base b v) ((z_as_in lv 0).mpr ⟨v, Nat.zero_le _, hi, rfl⟩)
theorem z_nk_get {o : Option Value} {w : Value} (h : z_nk o = some w) : o = some w ∧ ¬ w.category = 2 := by
  rcases o with _ | v
  · cases h
  · cases v <;> first | (cases h; exact ⟨rfl, by decide⟩) | (cases h; exact ⟨rfl, by simp [Value.category]⟩) | cases h
theorem z_k_get {lv : List (Option Value)} {i j : Nat} {w : Value} (h : (z_k lv i)[j]? = some (some w)) : lv[j]? = some (some w) ∧ ¬ (j + 1 = i ∧ w.category = 2) := by
  cases i with
  | zero => exact ⟨h, fun q => absurd q.1 (by omega)⟩
  | succ i =>
    simp only [z_k, List.getElem?_modify] at h
    cases hj : lv[j]? with
    | none => rw [hj] at h; cases h
    | some x =>
      rw [hj] at h
      simp only [Option.map_eq_map, Option.map_some, Option.some.injEq] at h
      by_cases e : i = j
      · rw [if_pos e] at h
        obtain ⟨h1, h2⟩ := z_nk_get h
        exact ⟨by rw [h1], fun q => h2 q.2⟩
      · rw [if_neg e] at h
        exact ⟨by rw [h], fun q => e (by omega)⟩
theorem z_s1_get {lv : List (Option Value)} {i j : Nat} {v w : Value} (h : (z_s1 lv i v)[j]? = some (some w)) : (j = i ∧ w = v) ∨ (j ≠ i ∧ lv[j]? = some (some w) ∧ ¬ (j + 1 = i ∧ w.category = 2)) := by
  unfold z_s1 at h
  by_cases e : j = i
  · subst e
    rw [List.getElem?_set] at h
    simp only [if_true] at h
    split at h
    · exact Or.inl ⟨rfl, (Option.some.inj (Option.some.inj h)).symm⟩
    · cases h
  · rw [List.getElem?_set_ne (Ne.symm e)] at h
    exact Or.inr ⟨e, z_k_get h⟩
theorem z_s2_get {lv : List (Option Value)} {i j : Nat} {v w : Value} (h : (z_s2 lv i v)[j]? = some (some w)) : (j = i ∧ w = v) ∨ (j ≠ i ∧ j ≠ i + 1 ∧ lv[j]? = some (some w) ∧ ¬ (j + 1 = i ∧ w.category = 2)) := by
  unfold z_s2 at h
  by_cases e : j = i + 1
  · subst e
    rw [List.getElem?_set] at h
    simp only [if_true] at h
    split at h <;> cases h
  · rw [List.getElem?_set_ne (Ne.symm e)] at h
    rcases z_s1_get (by unfold z_s1; exact h) with h1 | h1
    · exact Or.inl h1
    · exact Or.inr ⟨h1.1, e, h1.2⟩
theorem z_LL.s1 {base b nL i : Nat} {ls' : Array Slot} {lv : List (Option Value)} {v : Value} {x : Value} (hx : z_rv base b v = x) (h : lv_has ls' nL ((i, x) :: (z_as base b 0 lv).filter (fun q => !(q.1 == i) && !(q.1 + 1 == i && q.2.category == 2)))) : z_LL base b nL ls' (z_s1 lv i v) := by
  refine ⟨h.1, h.2.1, fun q hq => ?_⟩
  obtain ⟨w, -, h2, h3⟩ := (z_as_in _ 0).mp hq
  rw [Nat.sub_zero] at h2
  rcases z_s1_get h2 with ⟨e1, e2⟩ | ⟨e1, e2, e3⟩
  · rw [e1, h3, e2, hx]
    exact h.2.2 (i, x) List.mem_cons_self
  · refine h.2.2 q (List.mem_cons_of_mem _ (List.mem_filter.mpr ⟨(z_as_in lv 0).mpr ⟨w, Nat.zero_le _, by rw [Nat.sub_zero]; exact e2, h3⟩, ?_⟩))
    rw [h3, z_rv_cat]
    simp only [Bool.and_eq_true, Bool.not_eq_true', beq_eq_false_iff_ne, ne_eq, Bool.and_eq_false_imp, beq_iff_eq]
    exact ⟨e1, fun q1 q2 => e3 ⟨q1, q2⟩⟩
theorem z_LL.s2 {base b nL i : Nat} {ls' : Array Slot} {lv : List (Option Value)} {v : Value} {x : Value} (hx : z_rv base b v = x) (h : lv_has ls' nL ((i, x) :: (z_as base b 0 lv).filter (fun q => !(q.1 == i) && (!(q.1 == i + 1) && !(q.1 + 1 == i && q.2.category == 2))))) : z_LL base b nL ls' (z_s2 lv i v) := by
  refine ⟨h.1, h.2.1, fun q hq => ?_⟩
  obtain ⟨w, -, h2, h3⟩ := (z_as_in _ 0).mp hq
  rw [Nat.sub_zero] at h2
  rcases z_s2_get h2 with ⟨e1, e2⟩ | ⟨e1, e2, e3, e4⟩
  · rw [e1, h3, e2, hx]
    exact h.2.2 (i, x) List.mem_cons_self
  · refine h.2.2 q (List.mem_cons_of_mem _ (List.mem_filter.mpr ⟨(z_as_in lv 0).mpr ⟨w, Nat.zero_le _, by rw [Nat.sub_zero]; exact e3, h3⟩, ?_⟩))
    rw [h3, z_rv_cat]
    simp only [Bool.and_eq_true, Bool.not_eq_true', beq_eq_false_iff_ne, ne_eq, Bool.and_eq_false_imp, beq_iff_eq]
    exact ⟨e1, e2, fun q1 q2 => e4 ⟨q1, q2⟩⟩
-- the words of a method, its room
def z_ws (m : Nat) : List Cond := .code (z_nm m) (z_co m) (z_ml m) (z_rt m) :: z_tbl
def z_rm (m : Nat) : Room := { frames := z_fr m, cells := z_mc m, slots := z_ms m, locals := z_lo m }
/-- what holds in a method's body -/
def z_Cx (p : Program) (R : Room) (s : State) (m : MethodId) (args : Array Value) (meth : Method) (c : Code) (D : va_G) (base b : Nat) (sc : List Int32) (mi : Nat) : Prop :=
  p.tables.exec = Jvm.exec ∧ c.code = z_co mi ∧ c.maxLocals = z_ml mi ∧ s.vm.findClass (z_rn (z_ci mi)) = some m.cls ∧ (∀ w ∈ z_tbl, w.before args s = true) ∧ z_Kx D s ∧ R = z_rm mi ∧ (z_ini mi = true → meth.name = "<init>") ∧ base ≤ s.heap.size ∧
  (mi = 0 → va_X b sc.length (fun j => sc.getD j 0) s s.heap ∧ b < base)
def z_Wt (p : Program) (l : Launch) (e : Env) (R : Room) (s : State) (m : MethodId) (args : Array Value) (below : List Frame) (meth : Method) (c : Code) (Q : State → Prop) (D : va_G) (base b nL : Nat) (S : z_S) : Prop :=
  ∀ (ls : Array Slot) (H : Heap) (locs : List Loc), z_LL base b nL ls S.2.1 → z_HH s D base S.2.2.2.1 H → va_S (fun q => base ≤ q) s.heap H locs → W p l e R s m args below meth c H locs S.2.2.2.2.1 S.2.2.2.2.2 Q (F0 m S.1 ls (S.2.2.1.map (z_rv base b)))

section ZS
variable {p : Program} {l : Launch} {e : Env} {R : Room} {s : State} {m : MethodId} {args : Array Value} {below : List Frame} {meth : Method} {c : Code} {Q : State → Prop} {D : va_G} {base b : Nat} {sc : List Int32} {mi pc kc ks : Nat} {lv : List (Option Value)} {st : List Value} {ph : z_H}
theorem zs_iload_n (C : z_Cx p R s m args meth c D base b sc mi) {k : Fin 4} {x : Int32} (h : lv[k.val]? = some (some (.int x))) (hdg : decode (z_co mi) pc = .ok (.iload_n k, 1)) (kk : z_Wt p l e R s m args below meth c Q D base b (z_ml mi) (pc + 1, lv, .int x :: st, ph, kc, ks)) : z_Wt p l e R s m args below meth c Q D base b (z_ml mi) (pc, lv, st, ph, kc, ks) := by
  intro ls H locs hl hh hs
  obtain ⟨hx, hb, hml, hown, hts, hK, hR, hini, hbase, hscr⟩ := C
  exact lv_iload_n hx hb hdg rfl (hl.get h) (kk ls H locs hl hh hs)
theorem zs_iload (C : z_Cx p R s m args meth c D base b sc mi) {k : Nat} {x : Int32} (h : lv[k]? = some (some (.int x))) (hdg : decode (z_co mi) pc = .ok (.iload k, 2)) (kk : z_Wt p l e R s m args below meth c Q D base b (z_ml mi) (pc + 2, lv, .int x :: st, ph, kc, ks)) : z_Wt p l e R s m args below meth c Q D base b (z_ml mi) (pc, lv, st, ph, kc, ks) := by
  intro ls H locs hl hh hs
  obtain ⟨hx, hb, hml, hown, hts, hK, hR, hini, hbase, hscr⟩ := C
  exact lv_iload hx hb hdg (hl.get h) (kk ls H locs hl hh hs)
theorem zs_lload_n (C : z_Cx p R s m args meth c D base b sc mi) {k : Fin 4} {x : Int64} (h : lv[k.val]? = some (some (.long x))) (hdg : decode (z_co mi) pc = .ok (.lload_n k, 1)) (kk : z_Wt p l e R s m args below meth c Q D base b (z_ml mi) (pc + 1, lv, .long x :: st, ph, kc, ks)) : z_Wt p l e R s m args below meth c Q D base b (z_ml mi) (pc, lv, st, ph, kc, ks) := by
  intro ls H locs hl hh hs
  obtain ⟨hx, hb, hml, hown, hts, hK, hR, hini, hbase, hscr⟩ := C
  exact lv_lload_n hx hb hdg rfl (hl.get h) (kk ls H locs hl hh hs)
theorem zs_lload (C : z_Cx p R s m args meth c D base b sc mi) {k : Nat} {x : Int64} (h : lv[k]? = some (some (.long x))) (hdg : decode (z_co mi) pc = .ok (.lload k, 2)) (kk : z_Wt p l e R s m args below meth c Q D base b (z_ml mi) (pc + 2, lv, .long x :: st, ph, kc, ks)) : z_Wt p l e R s m args below meth c Q D base b (z_ml mi) (pc, lv, st, ph, kc, ks) := by
  intro ls H locs hl hh hs
  obtain ⟨hx, hb, hml, hown, hts, hK, hR, hini, hbase, hscr⟩ := C
  exact lv_lload hx hb hdg (hl.get h) (kk ls H locs hl hh hs)
theorem zs_aload_n (C : z_Cx p R s m args meth c D base b sc mi) {k : Fin 4} {x : Nat} (h : lv[k.val]? = some (some (.ref x))) (hdg : decode (z_co mi) pc = .ok (.aload_n k, 1)) (kk : z_Wt p l e R s m args below meth c Q D base b (z_ml mi) (pc + 1, lv, .ref x :: st, ph, kc, ks)) : z_Wt p l e R s m args below meth c Q D base b (z_ml mi) (pc, lv, st, ph, kc, ks) := by
  intro ls H locs hl hh hs
  obtain ⟨hx, hb, hml, hown, hts, hK, hR, hini, hbase, hscr⟩ := C
  exact lv_aload_n hx hb hdg rfl (hl.get h) (kk ls H locs hl hh hs)
theorem zs_aload_s (C : z_Cx p R s m args meth c D base b sc mi) {k : Fin 4} {x : Nat} (h : lv[k.val]? = some (some (.retAddr x))) (hdg : decode (z_co mi) pc = .ok (.aload_n k, 1)) (kk : z_Wt p l e R s m args below meth c Q D base b (z_ml mi) (pc + 1, lv, .retAddr x :: st, ph, kc, ks)) : z_Wt p l e R s m args below meth c Q D base b (z_ml mi) (pc, lv, st, ph, kc, ks) := by
  intro ls H locs hl hh hs
  obtain ⟨hx, hb, hml, hown, hts, hK, hR, hini, hbase, hscr⟩ := C
  exact lv_aload_n hx hb hdg rfl (hl.get h) (kk ls H locs hl hh hs)
theorem zs_aload (C : z_Cx p R s m args meth c D base b sc mi) {k : Nat} {x : Nat} (h : lv[k]? = some (some (.ref x))) (hdg : decode (z_co mi) pc = .ok (.aload k, 2)) (kk : z_Wt p l e R s m args below meth c Q D base b (z_ml mi) (pc + 2, lv, .ref x :: st, ph, kc, ks)) : z_Wt p l e R s m args below meth c Q D base b (z_ml mi) (pc, lv, st, ph, kc, ks) := by
  intro ls H locs hl hh hs
  obtain ⟨hx, hb, hml, hown, hts, hK, hR, hini, hbase, hscr⟩ := C
  exact lv_aload hx hb hdg (hl.get h) (kk ls H locs hl hh hs)
theorem zs_istore_n (C : z_Cx p R s m args meth c D base b sc mi) {k : Fin 4} {x : Int32} (h : k.val < z_ml mi) (hdg : decode (z_co mi) pc = .ok (.istore_n k, 1)) (kk : z_Wt p l e R s m args below meth c Q D base b (z_ml mi) (pc + 1, z_s1 lv k.val (.int x), st, ph, kc, ks)) : z_Wt p l e R s m args below meth c Q D base b (z_ml mi) (pc, lv, .int x :: st, ph, kc, ks) := by
  intro ls H locs hl hh hs
  obtain ⟨hx, hb, hml, hown, hts, hK, hR, hini, hbase, hscr⟩ := C
  exact lv_istore_n hx hb hdg rfl hl h rfl (fun ls2 hl2 => kk ls2 H locs (z_LL.s1 rfl hl2) hh hs)
theorem zs_istore (C : z_Cx p R s m args meth c D base b sc mi) {k : Nat} {x : Int32} (h : k < z_ml mi) (hdg : decode (z_co mi) pc = .ok (.istore k, 2)) (kk : z_Wt p l e R s m args below meth c Q D base b (z_ml mi) (pc + 2, z_s1 lv k (.int x), st, ph, kc, ks)) : z_Wt p l e R s m args below meth c Q D base b (z_ml mi) (pc, lv, .int x :: st, ph, kc, ks) := by
  intro ls H locs hl hh hs
  obtain ⟨hx, hb, hml, hown, hts, hK, hR, hini, hbase, hscr⟩ := C
  exact lv_istore hx hb hdg hl h rfl (fun ls2 hl2 => kk ls2 H locs (z_LL.s1 rfl hl2) hh hs)
theorem zs_astore_n (C : z_Cx p R s m args meth c D base b sc mi) {k : Fin 4} {x : Nat} (h : k.val < z_ml mi) (hdg : decode (z_co mi) pc = .ok (.astore_n k, 1)) (kk : z_Wt p l e R s m args below meth c Q D base b (z_ml mi) (pc + 1, z_s1 lv k.val (.ref x), st, ph, kc, ks)) : z_Wt p l e R s m args below meth c Q D base b (z_ml mi) (pc, lv, .ref x :: st, ph, kc, ks) := by
  intro ls H locs hl hh hs
  obtain ⟨hx, hb, hml, hown, hts, hK, hR, hini, hbase, hscr⟩ := C
  exact lv_astore_n hx hb hdg rfl hl h rfl (fun ls2 hl2 => kk ls2 H locs (z_LL.s1 rfl hl2) hh hs)
theorem zs_astore (C : z_Cx p R s m args meth c D base b sc mi) {k : Nat} {x : Nat} (h : k < z_ml mi) (hdg : decode (z_co mi) pc = .ok (.astore k, 2)) (kk : z_Wt p l e R s m args below meth c Q D base b (z_ml mi) (pc + 2, z_s1 lv k (.ref x), st, ph, kc, ks)) : z_Wt p l e R s m args below meth c Q D base b (z_ml mi) (pc, lv, .ref x :: st, ph, kc, ks) := by
  intro ls H locs hl hh hs
  obtain ⟨hx, hb, hml, hown, hts, hK, hR, hini, hbase, hscr⟩ := C
  exact lv_astore hx hb hdg hl h rfl (fun ls2 hl2 => kk ls2 H locs (z_LL.s1 rfl hl2) hh hs)
theorem zs_lstore_n (C : z_Cx p R s m args meth c D base b sc mi) {k : Fin 4} {x : Int64} (h : k.val + 1 < z_ml mi) (hdg : decode (z_co mi) pc = .ok (.lstore_n k, 1)) (kk : z_Wt p l e R s m args below meth c Q D base b (z_ml mi) (pc + 1, z_s2 lv k.val (.long x), st, ph, kc, ks)) : z_Wt p l e R s m args below meth c Q D base b (z_ml mi) (pc, lv, .long x :: st, ph, kc, ks) := by
  intro ls H locs hl hh hs
  obtain ⟨hx, hb, hml, hown, hts, hK, hR, hini, hbase, hscr⟩ := C
  exact lv_lstore_n hx hb hdg rfl hl h rfl (fun ls2 hl2 => kk ls2 H locs (z_LL.s2 rfl hl2) hh hs)
theorem zs_lstore (C : z_Cx p R s m args meth c D base b sc mi) {k : Nat} {x : Int64} (h : k + 1 < z_ml mi) (hdg : decode (z_co mi) pc = .ok (.lstore k, 2)) (kk : z_Wt p l e R s m args below meth c Q D base b (z_ml mi) (pc + 2, z_s2 lv k (.long x), st, ph, kc, ks)) : z_Wt p l e R s m args below meth c Q D base b (z_ml mi) (pc, lv, .long x :: st, ph, kc, ks) := by
  intro ls H locs hl hh hs
  obtain ⟨hx, hb, hml, hown, hts, hK, hR, hini, hbase, hscr⟩ := C
  exact lv_lstore hx hb hdg hl h rfl (fun ls2 hl2 => kk ls2 H locs (z_LL.s2 rfl hl2) hh hs)
theorem zs_iinc (C : z_Cx p R s m args meth c D base b sc mi) {k : Nat} {n : Int} {x : Int32} (h0 : lv[k]? = some (some (.int x))) (h : k < z_ml mi) (hdg : decode (z_co mi) pc = .ok (.iinc k n, 3)) (kk : z_Wt p l e R s m args below meth c Q D base b (z_ml mi) (pc + 3, z_s1 lv k (.int (x + Int32.ofInt n)), st, ph, kc, ks)) : z_Wt p l e R s m args below meth c Q D base b (z_ml mi) (pc, lv, st, ph, kc, ks) := by
  intro ls H locs hl hh hs
  obtain ⟨hx, hb, hml, hown, hts, hK, hR, hini, hbase, hscr⟩ := C
  obtain ⟨q, hq⟩ := List.getElem?_of_mem ((z_as_in (base := base) (b := b) (q := (k, .int x)) lv 0).mpr ⟨.int x, Nat.zero_le _, h0, rfl⟩)
  exact lv_iinc hx hb hdg hl hq rfl h rfl (fun ls2 hl2 => kk ls2 H locs (z_LL.s1 rfl hl2) hh hs)
theorem zs_iconst (C : z_Cx p R s m args meth c D base b sc mi) {n : Int} (hdg : decode (z_co mi) pc = .ok (.iconst n, 1)) (kk : z_Wt p l e R s m args below meth c Q D base b (z_ml mi) (pc + 1, lv, .int (Int32.ofInt n) :: st, ph, kc, ks)) : z_Wt p l e R s m args below meth c Q D base b (z_ml mi) (pc, lv, st, ph, kc, ks) := by
  intro ls H locs hl hh hs
  obtain ⟨hx, hb, hml, hown, hts, hK, hR, hini, hbase, hscr⟩ := C
  exact lv_iconst hx hb hdg rfl (kk ls H locs hl hh hs)
theorem zs_bipush (C : z_Cx p R s m args meth c D base b sc mi) {n : Int} (hdg : decode (z_co mi) pc = .ok (.bipush n, 2)) (kk : z_Wt p l e R s m args below meth c Q D base b (z_ml mi) (pc + 2, lv, .int (Int8.ofInt n).toInt32 :: st, ph, kc, ks)) : z_Wt p l e R s m args below meth c Q D base b (z_ml mi) (pc, lv, st, ph, kc, ks) := by
  intro ls H locs hl hh hs
  obtain ⟨hx, hb, hml, hown, hts, hK, hR, hini, hbase, hscr⟩ := C
  exact lv_bipush hx hb hdg rfl (kk ls H locs hl hh hs)
theorem zs_sipush (C : z_Cx p R s m args meth c D base b sc mi) {n : Int} (hdg : decode (z_co mi) pc = .ok (.sipush n, 3)) (kk : z_Wt p l e R s m args below meth c Q D base b (z_ml mi) (pc + 3, lv, .int (Int16.ofInt n).toInt32 :: st, ph, kc, ks)) : z_Wt p l e R s m args below meth c Q D base b (z_ml mi) (pc, lv, st, ph, kc, ks) := by
  intro ls H locs hl hh hs
  obtain ⟨hx, hb, hml, hown, hts, hK, hR, hini, hbase, hscr⟩ := C
  exact lv_sipush hx hb hdg rfl (kk ls H locs hl hh hs)
theorem zs_lconst (C : z_Cx p R s m args meth c D base b sc mi) {n : Fin 2} (hdg : decode (z_co mi) pc = .ok (.lconst n, 1)) (kk : z_Wt p l e R s m args below meth c Q D base b (z_ml mi) (pc + 1, lv, .long (Int64.ofNat n.val) :: st, ph, kc, ks)) : z_Wt p l e R s m args below meth c Q D base b (z_ml mi) (pc, lv, st, ph, kc, ks) := by
  intro ls H locs hl hh hs
  obtain ⟨hx, hb, hml, hown, hts, hK, hR, hini, hbase, hscr⟩ := C
  exact lv_lconst hx hb hdg rfl (kk ls H locs hl hh hs)
theorem zs_ldc (C : z_Cx p R s m args meth c D base b sc mi) {n : Nat} {v : Int32} (h : Cond.constant (z_rn (z_ci mi)) n v ∈ z_tbl) (hdg : decode (z_co mi) pc = .ok (.ldc n, 2)) (kk : z_Wt p l e R s m args below meth c Q D base b (z_ml mi) (pc + 2, lv, .int v :: st, ph, kc, ks)) : z_Wt p l e R s m args below meth c Q D base b (z_ml mi) (pc, lv, st, ph, kc, ks) := by
  intro ls H locs hl hh hs
  obtain ⟨hx, hb, hml, hown, hts, hK, hR, hini, hbase, hscr⟩ := C
  exact lv_ldc hx hb hown (hts _ h) hdg (kk ls H locs hl hh hs)
theorem zs_ldc_w (C : z_Cx p R s m args meth c D base b sc mi) {n : Nat} {v : Int32} (h : Cond.constant (z_rn (z_ci mi)) n v ∈ z_tbl) (hdg : decode (z_co mi) pc = .ok (.ldc_w n, 3)) (kk : z_Wt p l e R s m args below meth c Q D base b (z_ml mi) (pc + 3, lv, .int v :: st, ph, kc, ks)) : z_Wt p l e R s m args below meth c Q D base b (z_ml mi) (pc, lv, st, ph, kc, ks) := by
  intro ls H locs hl hh hs
  obtain ⟨hx, hb, hml, hown, hts, hK, hR, hini, hbase, hscr⟩ := C
  exact lv_ldcw hx hb hown (hts _ h) hdg (kk ls H locs hl hh hs)
theorem zs_ldc2_w (C : z_Cx p R s m args meth c D base b sc mi) {n : Nat} {v : Int64} (h : Cond.constantLong (z_rn (z_ci mi)) n v ∈ z_tbl) (hdg : decode (z_co mi) pc = .ok (.ldc2_w n, 3)) (kk : z_Wt p l e R s m args below meth c Q D base b (z_ml mi) (pc + 3, lv, .long v :: st, ph, kc, ks)) : z_Wt p l e R s m args below meth c Q D base b (z_ml mi) (pc, lv, st, ph, kc, ks) := by
  intro ls H locs hl hh hs
  obtain ⟨hx, hb, hml, hown, hts, hK, hR, hini, hbase, hscr⟩ := C
  exact lv_ldc2 hx hb hown (hts _ h) hdg (kk ls H locs hl hh hs)
theorem zs_iadd (C : z_Cx p R s m args meth c D base b sc mi) {x y : Int32} (hdg : decode (z_co mi) pc = .ok (.iadd, 1)) (kk : z_Wt p l e R s m args below meth c Q D base b (z_ml mi) (pc + 1, lv, .int (x + y) :: st, ph, kc, ks)) : z_Wt p l e R s m args below meth c Q D base b (z_ml mi) (pc, lv, .int y :: .int x :: st, ph, kc, ks) := by
  intro ls H locs hl hh hs
  obtain ⟨hx, hb, hml, hown, hts, hK, hR, hini, hbase, hscr⟩ := C
  exact lv_iadd hx hb hdg (kk ls H locs hl hh hs)
theorem zs_isub (C : z_Cx p R s m args meth c D base b sc mi) {x y : Int32} (hdg : decode (z_co mi) pc = .ok (.isub, 1)) (kk : z_Wt p l e R s m args below meth c Q D base b (z_ml mi) (pc + 1, lv, .int (x - y) :: st, ph, kc, ks)) : z_Wt p l e R s m args below meth c Q D base b (z_ml mi) (pc, lv, .int y :: .int x :: st, ph, kc, ks) := by
  intro ls H locs hl hh hs
  obtain ⟨hx, hb, hml, hown, hts, hK, hR, hini, hbase, hscr⟩ := C
  exact lv_isub hx hb hdg (kk ls H locs hl hh hs)
theorem zs_imul (C : z_Cx p R s m args meth c D base b sc mi) {x y : Int32} (hdg : decode (z_co mi) pc = .ok (.imul, 1)) (kk : z_Wt p l e R s m args below meth c Q D base b (z_ml mi) (pc + 1, lv, .int (x * y) :: st, ph, kc, ks)) : z_Wt p l e R s m args below meth c Q D base b (z_ml mi) (pc, lv, .int y :: .int x :: st, ph, kc, ks) := by
  intro ls H locs hl hh hs
  obtain ⟨hx, hb, hml, hown, hts, hK, hR, hini, hbase, hscr⟩ := C
  exact lv_imul hx hb hdg (kk ls H locs hl hh hs)
theorem zs_ishl (C : z_Cx p R s m args meth c D base b sc mi) {x y : Int32} (hdg : decode (z_co mi) pc = .ok (.ishl, 1)) (kk : z_Wt p l e R s m args below meth c Q D base b (z_ml mi) (pc + 1, lv, .int (x <<< (y &&& 31)) :: st, ph, kc, ks)) : z_Wt p l e R s m args below meth c Q D base b (z_ml mi) (pc, lv, .int y :: .int x :: st, ph, kc, ks) := by
  intro ls H locs hl hh hs
  obtain ⟨hx, hb, hml, hown, hts, hK, hR, hini, hbase, hscr⟩ := C
  exact lv_ishl hx hb hdg (kk ls H locs hl hh hs)
theorem zs_ishr (C : z_Cx p R s m args meth c D base b sc mi) {x y : Int32} (hdg : decode (z_co mi) pc = .ok (.ishr, 1)) (kk : z_Wt p l e R s m args below meth c Q D base b (z_ml mi) (pc + 1, lv, .int (x >>> (y &&& 31)) :: st, ph, kc, ks)) : z_Wt p l e R s m args below meth c Q D base b (z_ml mi) (pc, lv, .int y :: .int x :: st, ph, kc, ks) := by
  intro ls H locs hl hh hs
  obtain ⟨hx, hb, hml, hown, hts, hK, hR, hini, hbase, hscr⟩ := C
  exact lv_ishr hx hb hdg (kk ls H locs hl hh hs)
theorem zs_iand (C : z_Cx p R s m args meth c D base b sc mi) {x y : Int32} (hdg : decode (z_co mi) pc = .ok (.iand, 1)) (kk : z_Wt p l e R s m args below meth c Q D base b (z_ml mi) (pc + 1, lv, .int (x &&& y) :: st, ph, kc, ks)) : z_Wt p l e R s m args below meth c Q D base b (z_ml mi) (pc, lv, .int y :: .int x :: st, ph, kc, ks) := by
  intro ls H locs hl hh hs
  obtain ⟨hx, hb, hml, hown, hts, hK, hR, hini, hbase, hscr⟩ := C
  exact lv_iand hx hb hdg (kk ls H locs hl hh hs)
theorem zs_ior (C : z_Cx p R s m args meth c D base b sc mi) {x y : Int32} (hdg : decode (z_co mi) pc = .ok (.ior, 1)) (kk : z_Wt p l e R s m args below meth c Q D base b (z_ml mi) (pc + 1, lv, .int (x ||| y) :: st, ph, kc, ks)) : z_Wt p l e R s m args below meth c Q D base b (z_ml mi) (pc, lv, .int y :: .int x :: st, ph, kc, ks) := by
  intro ls H locs hl hh hs
  obtain ⟨hx, hb, hml, hown, hts, hK, hR, hini, hbase, hscr⟩ := C
  exact lv_ior hx hb hdg (kk ls H locs hl hh hs)
theorem zs_ixor (C : z_Cx p R s m args meth c D base b sc mi) {x y : Int32} (hdg : decode (z_co mi) pc = .ok (.ixor, 1)) (kk : z_Wt p l e R s m args below meth c Q D base b (z_ml mi) (pc + 1, lv, .int (x ^^^ y) :: st, ph, kc, ks)) : z_Wt p l e R s m args below meth c Q D base b (z_ml mi) (pc, lv, .int y :: .int x :: st, ph, kc, ks) := by
  intro ls H locs hl hh hs
  obtain ⟨hx, hb, hml, hown, hts, hK, hR, hini, hbase, hscr⟩ := C
  exact lv_ixor hx hb hdg (kk ls H locs hl hh hs)
theorem zs_iushr (C : z_Cx p R s m args meth c D base b sc mi) {x y : Int32} (hdg : decode (z_co mi) pc = .ok (.iushr, 1)) (kk : z_Wt p l e R s m args below meth c Q D base b (z_ml mi) (pc + 1, lv, .int (x.toUInt32 >>> (y.toUInt32 &&& Int32.toUInt32 31)).toInt32 :: st, ph, kc, ks)) : z_Wt p l e R s m args below meth c Q D base b (z_ml mi) (pc, lv, .int y :: .int x :: st, ph, kc, ks) := by
  intro ls H locs hl hh hs
  obtain ⟨hx, hb, hml, hown, hts, hK, hR, hini, hbase, hscr⟩ := C
  exact lv_iushr hx hb hdg rfl (kk ls H locs hl hh hs)
theorem zs_idiv (C : z_Cx p R s m args meth c D base b sc mi) {x y : Int32} (h : ¬ y = 0) (hdg : decode (z_co mi) pc = .ok (.idiv, 1)) (kk : z_Wt p l e R s m args below meth c Q D base b (z_ml mi) (pc + 1, lv, .int (x / y) :: st, ph, kc, ks)) : z_Wt p l e R s m args below meth c Q D base b (z_ml mi) (pc, lv, .int y :: .int x :: st, ph, kc, ks) := by
  intro ls H locs hl hh hs
  obtain ⟨hx, hb, hml, hown, hts, hK, hR, hini, hbase, hscr⟩ := C
  exact lv_idiv hx hb hdg h (kk ls H locs hl hh hs)
theorem zs_irem (C : z_Cx p R s m args meth c D base b sc mi) {x y : Int32} (h : ¬ y = 0) (hdg : decode (z_co mi) pc = .ok (.irem, 1)) (kk : z_Wt p l e R s m args below meth c Q D base b (z_ml mi) (pc + 1, lv, .int (x - x / y * y) :: st, ph, kc, ks)) : z_Wt p l e R s m args below meth c Q D base b (z_ml mi) (pc, lv, .int y :: .int x :: st, ph, kc, ks) := by
  intro ls H locs hl hh hs
  obtain ⟨hx, hb, hml, hown, hts, hK, hR, hini, hbase, hscr⟩ := C
  exact lv_irem hx hb hdg h (kk ls H locs hl hh hs)
theorem zs_ineg (C : z_Cx p R s m args meth c D base b sc mi) {x : Int32} (hdg : decode (z_co mi) pc = .ok (.ineg, 1)) (kk : z_Wt p l e R s m args below meth c Q D base b (z_ml mi) (pc + 1, lv, .int (-x) :: st, ph, kc, ks)) : z_Wt p l e R s m args below meth c Q D base b (z_ml mi) (pc, lv, .int x :: st, ph, kc, ks) := by
  intro ls H locs hl hh hs
  obtain ⟨hx, hb, hml, hown, hts, hK, hR, hini, hbase, hscr⟩ := C
  exact lv_ineg hx hb hdg (kk ls H locs hl hh hs)
theorem zs_ladd (C : z_Cx p R s m args meth c D base b sc mi) {x y : Int64} (hdg : decode (z_co mi) pc = .ok (.ladd, 1)) (kk : z_Wt p l e R s m args below meth c Q D base b (z_ml mi) (pc + 1, lv, .long (x + y) :: st, ph, kc, ks)) : z_Wt p l e R s m args below meth c Q D base b (z_ml mi) (pc, lv, .long y :: .long x :: st, ph, kc, ks) := by
  intro ls H locs hl hh hs
  obtain ⟨hx, hb, hml, hown, hts, hK, hR, hini, hbase, hscr⟩ := C
  exact lv_ladd hx hb hdg (kk ls H locs hl hh hs)
theorem zs_lsub (C : z_Cx p R s m args meth c D base b sc mi) {x y : Int64} (hdg : decode (z_co mi) pc = .ok (.lsub, 1)) (kk : z_Wt p l e R s m args below meth c Q D base b (z_ml mi) (pc + 1, lv, .long (x - y) :: st, ph, kc, ks)) : z_Wt p l e R s m args below meth c Q D base b (z_ml mi) (pc, lv, .long y :: .long x :: st, ph, kc, ks) := by
  intro ls H locs hl hh hs
  obtain ⟨hx, hb, hml, hown, hts, hK, hR, hini, hbase, hscr⟩ := C
  exact lv_lsub hx hb hdg (kk ls H locs hl hh hs)
theorem zs_land (C : z_Cx p R s m args meth c D base b sc mi) {x y : Int64} (hdg : decode (z_co mi) pc = .ok (.land, 1)) (kk : z_Wt p l e R s m args below meth c Q D base b (z_ml mi) (pc + 1, lv, .long (x &&& y) :: st, ph, kc, ks)) : z_Wt p l e R s m args below meth c Q D base b (z_ml mi) (pc, lv, .long y :: .long x :: st, ph, kc, ks) := by
  intro ls H locs hl hh hs
  obtain ⟨hx, hb, hml, hown, hts, hK, hR, hini, hbase, hscr⟩ := C
  exact lv_land hx hb hdg (kk ls H locs hl hh hs)
theorem zs_lor (C : z_Cx p R s m args meth c D base b sc mi) {x y : Int64} (hdg : decode (z_co mi) pc = .ok (.lor, 1)) (kk : z_Wt p l e R s m args below meth c Q D base b (z_ml mi) (pc + 1, lv, .long (x ||| y) :: st, ph, kc, ks)) : z_Wt p l e R s m args below meth c Q D base b (z_ml mi) (pc, lv, .long y :: .long x :: st, ph, kc, ks) := by
  intro ls H locs hl hh hs
  obtain ⟨hx, hb, hml, hown, hts, hK, hR, hini, hbase, hscr⟩ := C
  exact lv_lor hx hb hdg (kk ls H locs hl hh hs)
theorem zs_lxor (C : z_Cx p R s m args meth c D base b sc mi) {x y : Int64} (hdg : decode (z_co mi) pc = .ok (.lxor, 1)) (kk : z_Wt p l e R s m args below meth c Q D base b (z_ml mi) (pc + 1, lv, .long (x ^^^ y) :: st, ph, kc, ks)) : z_Wt p l e R s m args below meth c Q D base b (z_ml mi) (pc, lv, .long y :: .long x :: st, ph, kc, ks) := by
  intro ls H locs hl hh hs
  obtain ⟨hx, hb, hml, hown, hts, hK, hR, hini, hbase, hscr⟩ := C
  exact lv_lxor hx hb hdg (kk ls H locs hl hh hs)
theorem zs_lshl (C : z_Cx p R s m args meth c D base b sc mi) {x : Int64} {y : Int32} (hdg : decode (z_co mi) pc = .ok (.lshl, 1)) (kk : z_Wt p l e R s m args below meth c Q D base b (z_ml mi) (pc + 1, lv, .long (x <<< (y.toInt64 &&& 63)) :: st, ph, kc, ks)) : z_Wt p l e R s m args below meth c Q D base b (z_ml mi) (pc, lv, .int y :: .long x :: st, ph, kc, ks) := by
  intro ls H locs hl hh hs
  obtain ⟨hx, hb, hml, hown, hts, hK, hR, hini, hbase, hscr⟩ := C
  exact lv_lshl hx hb hdg rfl (kk ls H locs hl hh hs)
theorem zs_lushr (C : z_Cx p R s m args meth c D base b sc mi) {x : Int64} {y : Int32} (hdg : decode (z_co mi) pc = .ok (.lushr, 1)) (kk : z_Wt p l e R s m args below meth c Q D base b (z_ml mi) (pc + 1, lv, .long (x.toUInt64 >>> (y.toInt64.toUInt64 &&& Int64.toUInt64 63)).toInt64 :: st, ph, kc, ks)) : z_Wt p l e R s m args below meth c Q D base b (z_ml mi) (pc, lv, .int y :: .long x :: st, ph, kc, ks) := by
  intro ls H locs hl hh hs
  obtain ⟨hx, hb, hml, hown, hts, hK, hR, hini, hbase, hscr⟩ := C
  exact lv_lushr hx hb hdg rfl (kk ls H locs hl hh hs)
theorem zs_lcmp (C : z_Cx p R s m args meth c D base b sc mi) {x y : Int64} (hdg : decode (z_co mi) pc = .ok (.lcmp, 1)) (kk : z_Wt p l e R s m args below meth c Q D base b (z_ml mi) (pc + 1, lv, .int (lg_cmp x y) :: st, ph, kc, ks)) : z_Wt p l e R s m args below meth c Q D base b (z_ml mi) (pc, lv, .long y :: .long x :: st, ph, kc, ks) := by
  intro ls H locs hl hh hs
  obtain ⟨hx, hb, hml, hown, hts, hK, hR, hini, hbase, hscr⟩ := C
  exact W.lcmp hx hb hdg (kk ls H locs hl hh hs)
theorem zs_i2l (C : z_Cx p R s m args meth c D base b sc mi) {x : Int32} (hdg : decode (z_co mi) pc = .ok (.i2l, 1)) (kk : z_Wt p l e R s m args below meth c Q D base b (z_ml mi) (pc + 1, lv, .long x.toInt64 :: st, ph, kc, ks)) : z_Wt p l e R s m args below meth c Q D base b (z_ml mi) (pc, lv, .int x :: st, ph, kc, ks) := by
  intro ls H locs hl hh hs
  obtain ⟨hx, hb, hml, hown, hts, hK, hR, hini, hbase, hscr⟩ := C
  exact lv_i2l hx hb hdg rfl (kk ls H locs hl hh hs)
theorem zs_l2i (C : z_Cx p R s m args meth c D base b sc mi) {x : Int64} (hdg : decode (z_co mi) pc = .ok (.l2i, 1)) (kk : z_Wt p l e R s m args below meth c Q D base b (z_ml mi) (pc + 1, lv, .int x.toInt32 :: st, ph, kc, ks)) : z_Wt p l e R s m args below meth c Q D base b (z_ml mi) (pc, lv, .long x :: st, ph, kc, ks) := by
  intro ls H locs hl hh hs
  obtain ⟨hx, hb, hml, hown, hts, hK, hR, hini, hbase, hscr⟩ := C
  exact lv_l2i hx hb hdg rfl (kk ls H locs hl hh hs)
theorem zs_dupi (C : z_Cx p R s m args meth c D base b sc mi) {x : Int32} (hdg : decode (z_co mi) pc = .ok (.dup, 1)) (kk : z_Wt p l e R s m args below meth c Q D base b (z_ml mi) (pc + 1, lv, .int x :: .int x :: st, ph, kc, ks)) : z_Wt p l e R s m args below meth c Q D base b (z_ml mi) (pc, lv, .int x :: st, ph, kc, ks) := by
  intro ls H locs hl hh hs
  obtain ⟨hx, hb, hml, hown, hts, hK, hR, hini, hbase, hscr⟩ := C
  exact lv_dup hx hb hdg rfl (kk ls H locs hl hh hs)
theorem zs_dupa (C : z_Cx p R s m args meth c D base b sc mi) {x : Nat} (hdg : decode (z_co mi) pc = .ok (.dup, 1)) (kk : z_Wt p l e R s m args below meth c Q D base b (z_ml mi) (pc + 1, lv, .ref x :: .ref x :: st, ph, kc, ks)) : z_Wt p l e R s m args below meth c Q D base b (z_ml mi) (pc, lv, .ref x :: st, ph, kc, ks) := by
  intro ls H locs hl hh hs
  obtain ⟨hx, hb, hml, hown, hts, hK, hR, hini, hbase, hscr⟩ := C
  exact lv_dup hx hb hdg rfl (kk ls H locs hl hh hs)
theorem zs_dup2 (C : z_Cx p R s m args meth c D base b sc mi) {x : Int32} {y : Nat} (hdg : decode (z_co mi) pc = .ok (.dup2, 1)) (kk : z_Wt p l e R s m args below meth c Q D base b (z_ml mi) (pc + 1, lv, .int x :: .ref y :: .int x :: .ref y :: st, ph, kc, ks)) : z_Wt p l e R s m args below meth c Q D base b (z_ml mi) (pc, lv, .int x :: .ref y :: st, ph, kc, ks) := by
  intro ls H locs hl hh hs
  obtain ⟨hx, hb, hml, hown, hts, hK, hR, hini, hbase, hscr⟩ := C
  exact lv_dup2_11 hx hb hdg rfl rfl (kk ls H locs hl hh hs)
theorem zs_dup_x1 (C : z_Cx p R s m args meth c D base b sc mi) {x : Int32} {y : Nat} (hdg : decode (z_co mi) pc = .ok (.dup_x1, 1)) (kk : z_Wt p l e R s m args below meth c Q D base b (z_ml mi) (pc + 1, lv, .int x :: .ref y :: .int x :: st, ph, kc, ks)) : z_Wt p l e R s m args below meth c Q D base b (z_ml mi) (pc, lv, .int x :: .ref y :: st, ph, kc, ks) := by
  intro ls H locs hl hh hs
  obtain ⟨hx, hb, hml, hown, hts, hK, hR, hini, hbase, hscr⟩ := C
  exact lv_dup_x1 hx hb hdg rfl rfl (kk ls H locs hl hh hs)
theorem zs_pop (C : z_Cx p R s m args meth c D base b sc mi) {x : Int32} (hdg : decode (z_co mi) pc = .ok (.pop, 1)) (kk : z_Wt p l e R s m args below meth c Q D base b (z_ml mi) (pc + 1, lv, st, ph, kc, ks)) : z_Wt p l e R s m args below meth c Q D base b (z_ml mi) (pc, lv, .int x :: st, ph, kc, ks) := by
  intro ls H locs hl hh hs
  obtain ⟨hx, hb, hml, hown, hts, hK, hR, hini, hbase, hscr⟩ := C
  exact lv_pop hx hb hdg rfl (kk ls H locs hl hh hs)
theorem z_tgt {pc : Nat} {off : Int} (h : 0 ≤ (pc : Int) + off) : (pc : Int) + off = ((((pc : Int) + off).toNat : Nat) : Int) := (Int.toNat_of_nonneg h).symm
theorem zs_goto (C : z_Cx p R s m args meth c D base b sc mi) {off : Int} (h : 0 ≤ (pc : Int) + off) (hdg : decode (z_co mi) pc = .ok (.goto off, 3)) (kk : z_Wt p l e R s m args below meth c Q D base b (z_ml mi) (((pc : Int) + off).toNat, lv, st, ph, kc, ks)) : z_Wt p l e R s m args below meth c Q D base b (z_ml mi) (pc, lv, st, ph, kc, ks) := by
  intro ls H locs hl hh hs
  obtain ⟨hx, hb, hml, hown, hts, hK, hR, hini, hbase, hscr⟩ := C
  exact lv_goto hx hb hdg (z_tgt h) (kk ls H locs hl hh hs)
theorem zs_if_icmp (C : z_Cx p R s m args meth c D base b sc mi) {cn : ClassFile.Cond} {x y : Int32} {off : Int} (h0 : 0 ≤ (pc : Int) + off) (hdg : decode (z_co mi) pc = .ok (.if_icmp cn off, 3))
    (kt : z_cnd cn x y = true → z_Wt p l e R s m args below meth c Q D base b (z_ml mi) (((pc : Int) + off).toNat, lv, st, ph, kc, ks)) (kf : z_cnd cn x y = false → z_Wt p l e R s m args below meth c Q D base b (z_ml mi) (pc + 3, lv, st, ph, kc, ks)) : z_Wt p l e R s m args below meth c Q D base b (z_ml mi) (pc, lv, .int y :: .int x :: st, ph, kc, ks) := by
  intro ls H locs hl hh hs
  obtain ⟨hx, hb, hml, hown, hts, hK, hR, hini, hbase, hscr⟩ := C
  cases cn
  · exact lv_icmp_eq hx hb hdg (z_tgt h0) (fun q => kt (by simp [z_cnd, q]) ls H locs hl hh hs) (fun q => kf (by simp [z_cnd] <;> exact q) ls H locs hl hh hs)
  · exact lv_icmp_ne hx hb hdg (z_tgt h0) (fun q => kt (by simp [z_cnd, q]) ls H locs hl hh hs) (fun q => kf (by simp [z_cnd] <;> exact q) ls H locs hl hh hs)
  · exact lv_icmp_lt hx hb hdg (z_tgt h0) (fun q => kt (decide_eq_true q) ls H locs hl hh hs) (fun q => kf (decide_eq_false q) ls H locs hl hh hs)
  · exact lv_icmp_ge hx hb hdg (z_tgt h0) (fun q => kt (decide_eq_true q) ls H locs hl hh hs) (fun q => kf (decide_eq_false q) ls H locs hl hh hs)
  · exact lv_icmp_gt hx hb hdg (z_tgt h0) (fun q => kt (decide_eq_true q) ls H locs hl hh hs) (fun q => kf (decide_eq_false q) ls H locs hl hh hs)
  · exact lv_icmp_le hx hb hdg (z_tgt h0) (fun q => kt (decide_eq_true q) ls H locs hl hh hs) (fun q => kf (decide_eq_false q) ls H locs hl hh hs)
theorem zs_ifCond (C : z_Cx p R s m args meth c D base b sc mi) {cn : ClassFile.Cond} {x : Int32} {off : Int} (h0 : 0 ≤ (pc : Int) + off) (hdg : decode (z_co mi) pc = .ok (.ifCond cn off, 3))
    (kt : z_cnd cn x 0 = true → z_Wt p l e R s m args below meth c Q D base b (z_ml mi) (((pc : Int) + off).toNat, lv, st, ph, kc, ks)) (kf : z_cnd cn x 0 = false → z_Wt p l e R s m args below meth c Q D base b (z_ml mi) (pc + 3, lv, st, ph, kc, ks)) : z_Wt p l e R s m args below meth c Q D base b (z_ml mi) (pc, lv, .int x :: st, ph, kc, ks) := by
  intro ls H locs hl hh hs
  obtain ⟨hx, hb, hml, hown, hts, hK, hR, hini, hbase, hscr⟩ := C
  cases cn
  · exact lv_if_eq hx hb hdg (z_tgt h0) (fun q => kt (by simp [z_cnd, q]) ls H locs hl hh hs) (fun q => kf (by simp [z_cnd] <;> exact q) ls H locs hl hh hs)
  · exact lv_if_ne hx hb hdg (z_tgt h0) (fun q => kt (by simp [z_cnd, q]) ls H locs hl hh hs) (fun q => kf (by simp [z_cnd] <;> exact q) ls H locs hl hh hs)
  · exact lv_if_lt hx hb hdg (z_tgt h0) (fun q => kt (decide_eq_true q) ls H locs hl hh hs) (fun q => kf (decide_eq_false q) ls H locs hl hh hs)
  · exact lv_if_ge hx hb hdg (z_tgt h0) (fun q => kt (decide_eq_true q) ls H locs hl hh hs) (fun q => kf (decide_eq_false q) ls H locs hl hh hs)
  · exact lv_if_gt hx hb hdg (z_tgt h0) (fun q => kt (decide_eq_true q) ls H locs hl hh hs) (fun q => kf (decide_eq_false q) ls H locs hl hh hs)
  · exact lv_if_le hx hb hdg (z_tgt h0) (fun q => kt (decide_eq_true q) ls H locs hl hh hs) (fun q => kf (decide_eq_false q) ls H locs hl hh hs)
theorem zs_tsw (C : z_Cx p R s m args meth c D base b sc mi) {dflt lo hi : Int} {offs : Array Int} {len : Nat} {x : Int32} {off : Int} (hdg : decode (z_co mi) pc = .ok (.tableswitch dflt lo hi offs, len)) (h1 : ¬ (x.toInt < lo ∨ hi < x.toInt)) (ho : offs[(x.toInt - lo).toNat]? = some off) (h0 : 0 ≤ (pc : Int) + off) (kk : z_Wt p l e R s m args below meth c Q D base b (z_ml mi) (((pc : Int) + off).toNat, lv, st, ph, kc, ks)) : z_Wt p l e R s m args below meth c Q D base b (z_ml mi) (pc, lv, .int x :: st, ph, kc, ks) := by
  intro ls H locs hl hh hs
  obtain ⟨hx, hb, hml, hown, hts, hK, hR, hini, hbase, hscr⟩ := C
  exact lv_tableIn hx hb hdg (fun q => h1 (Or.inl q)) (fun q => h1 (Or.inr q)) ho (z_tgt h0) (kk ls H locs hl hh hs)
theorem zs_tsd (C : z_Cx p R s m args meth c D base b sc mi) {dflt lo hi : Int} {offs : Array Int} {len : Nat} {x : Int32} (hdg : decode (z_co mi) pc = .ok (.tableswitch dflt lo hi offs, len)) (h1 : x.toInt < lo ∨ hi < x.toInt) (h0 : 0 ≤ (pc : Int) + dflt) (kk : z_Wt p l e R s m args below meth c Q D base b (z_ml mi) (((pc : Int) + dflt).toNat, lv, st, ph, kc, ks)) : z_Wt p l e R s m args below meth c Q D base b (z_ml mi) (pc, lv, .int x :: st, ph, kc, ks) := by
  intro ls H locs hl hh hs
  obtain ⟨hx, hb, hml, hown, hts, hK, hR, hini, hbase, hscr⟩ := C
  exact lv_tableOut hx hb hdg h1 (z_tgt h0) (kk ls H locs hl hh hs)
end ZS
