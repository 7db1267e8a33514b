/-! calls, and the whole: what z_ex answers, the method answers -/
def z_Pc (D : va_G) (base : Nat) (ph : z_H) (as : List Value) : Array Value → State → Prop := fun a U => a = (as.map (z_rv base 0)).toArray ∧ z_HH U D base ph U.heap ∧ z_Kx D U
def z_Qc (D : va_G) (base : Nat) (o : z_O) : Array Value → State → Outcome → State → Prop := fun _ st oc t => oc = .returned (o.1.map (z_rv base 0)) ∧ z_HH t D base o.2 t.heap ∧ st.heap.size ≤ t.heap.size ∧ ∀ q, q < st.heap.size → ¬ base ≤ q → t.heap[q]? = st.heap[q]?
def z_Mt (l : Launch) (D : va_G) (base : Nat) (ph : z_H) (as : List Value) (y : Nat) (o : z_O) : Prop := Met l (z_nm y) (z_ws y) (z_rm y) (z_Pc D base ph as) (z_Qc D base o) (z_mc y) (z_ms y) (fun q => base ≤ q)
theorem z_blind {D : va_G} {base : Nat} {ph : z_H} {as : List Value} : FrameBlind (z_Pc D base ph as) := fun a U g mk h => ⟨h.1, h.2.1.moved (u := U) (U := U.calling g mk a) (Vm.Alike.refl U.vm), h.2.2.same⟩
theorem z_code_in {y : Nat} (h1 : 0 < y) (h2 : y < 184) : Cond.code (z_nm y) (z_co y) (z_ml y) (z_rt y) ∈ z_tbl := List.mem_filter.mpr ⟨List.mem_append_right _ (z_cwAll h1 h2), rfl⟩
theorem z_wsGood {y : Nat} (h1 : 0 < y) (h2 : y < 184) : GoodIn z_tbl (z_ws y) := by
  intro w hw
  have hm : w ∈ z_tbl := by
    rcases List.mem_cons.mp hw with rfl | h
    · exact z_code_in h1 h2
    · exact h
  exact ⟨hm, good_of_word (z_good w hm)⟩
theorem z_okM_of {y : Nat} (h1 : 0 < y) (h2 : y < 184) : z_okM y (z_MP.getD y (0, 0, 0, 0)) = true := by
  have h := List.all_eq_true.mp z_MP_ok (y - 1) (List.mem_range.mpr (by omega))
  rw [show y - 1 + 1 = y by omega] at h
  exact h
theorem z_m_ini {y : Nat} (h1 : 0 < y) (h2 : y < 184) : Cond.initialized (z_nm y).cls ∈ z_tbl := by
  have h := z_okM_of h1 h2
  unfold z_okM at h
  simp only [Bool.and_eq_true] at h
  exact z_wd_in h.1.1
theorem z_m_stat {y : Nat} (h1 : 0 < y) (h2 : y < 184) (hs : z_stat y = true) : Cond.static (z_nm y) ∈ z_tbl := by
  have h := z_okM_of h1 h2
  unfold z_okM at h
  simp only [Bool.and_eq_true] at h
  have h3 := h.1.2
  rw [if_pos hs] at h3
  exact z_wd_in h3
theorem z_m_inst {y : Nat} (h1 : 0 < y) (h2 : y < 184) (hs : z_stat y = false) : Cond.instanceMethod (z_nm y) ∈ z_tbl ∧ (z_ini y = false → Cond.selects (z_nm y).cls (z_nm y) (z_nm y) ∈ z_tbl) := by
  have h := z_okM_of h1 h2
  unfold z_okM at h
  simp only [Bool.and_eq_true] at h
  have h3 := h.1.2
  rw [if_neg (by rw [hs]; decide)] at h3
  simp only [Bool.and_eq_true] at h3
  refine ⟨z_wd_in h3.1, fun hi => ?_⟩
  have h4 := h3.2
  rw [hi, Bool.false_or] at h4
  exact z_wd_in h4
theorem z_m_rest {y : Nat} (h1 : 0 < y) (h2 : y < 184) : (z_nm y).cls = z_rn (z_ci y) ∧ ((z_nm y).cls ≠ "java/lang/invoke/MethodHandle" ∧ (z_nm y).cls ≠ "java/lang/invoke/VarHandle") ∧ plainName (z_nm y).cls = true ∧ (z_ini y = true → (z_nm y).name = "<init>" ∧ z_rt y = none) ∧ (parseMethodDescriptor (z_nm y).desc).map (fun d => d.parameters.length) = some (z_np y) := by
  have h := z_okM_of h1 h2
  unfold z_okM at h
  simp only [Bool.and_eq_true, decide_eq_true_eq, Bool.or_eq_true, Bool.not_eq_true'] at h
  obtain ⟨-, ⟨⟨⟨ha, hb⟩, hc⟩, hd⟩, he⟩ := h
  refine ⟨ha, hb, hc, fun hi => ?_, ?_⟩
  · rcases hd with hd | hd
    · rw [hi] at hd; cases hd
    · exact hd
  · unfold z_np
    cases hq : parseMethodDescriptor (z_nm y).desc with
    | none => rw [hq] at he; cases he
    | some d => rfl
/-- the table of calls -/
theorem z_cl2_spec {m idx k y : Nat} (h : z_cl2 m idx = some (k, y)) :
    (k = 9 → Cond.methodLink (z_rn (z_ci m)) idx objectInit ∈ z_tbl) ∧ (k = 6 → Cond.methodLink (z_rn (z_ci m)) idx Lib.Math.max.name ∈ z_tbl) ∧ (k = 7 → Cond.methodLink (z_rn (z_ci m)) idx Lib.Math.min.name ∈ z_tbl) ∧ (k = 8 → Cond.methodLink (z_rn (z_ci m)) idx Lib.Math.abs.name ∈ z_tbl) ∧
    (k = 0 ∨ k = 1 ∨ k = 2 → Cond.methodLink (z_rn (z_ci m)) idx (z_nm y) ∈ z_tbl ∧ 0 < y ∧ y < 184) ∧ (k = 4 ∨ k = 5 → Cond.methodLinkNest (z_rn (z_ci m)) idx (z_nm y) RX7 ∈ z_NW ∧ 0 < y ∧ y < 184) := by
  unfold z_cl2 at h
  obtain ⟨e, he, hq⟩ := Option.map_eq_some_iff.mp h
  have h1 := List.find?_some he
  have h2 := List.all_eq_true.mp z_CT_ok e (List.mem_of_find?_eq_some he)
  simp only [Bool.and_eq_true, beq_iff_eq] at h1
  cases hq
  rw [← h1.1, ← h1.2]
  unfold z_okC at h2
  refine ⟨fun hk => ?_, fun hk => ?_, fun hk => ?_, fun hk => ?_, fun hk => ?_, fun hk => ?_⟩
  · rw [if_pos hk] at h2
    exact z_wd_in h2
  · rw [if_neg (by omega), if_pos hk] at h2
    exact z_wd_in h2
  · rw [if_neg (by omega), if_neg (by omega), if_pos hk] at h2
    exact z_wd_in h2
  · rw [if_neg (by omega), if_neg (by omega), if_neg (by omega), if_pos hk] at h2
    exact z_wd_in h2
  · rw [if_neg (by omega), if_neg (by omega), if_neg (by omega), if_neg (by omega), if_pos hk] at h2
    simp only [Bool.and_eq_true, decide_eq_true_eq] at h2
    exact ⟨z_wd_in h2.1, h2.2⟩
  · rw [if_neg (by omega), if_neg (by omega), if_neg (by omega), if_neg (by omega), if_neg (by omega), if_pos hk] at h2
    simp only [Bool.and_eq_true, decide_eq_true_eq] at h2
    exact ⟨z_wn_in h2.1, h2.2⟩
section ZC
variable {p : Program} {l : Launch} {e : Env} {R : Room} {s : State} {m : MethodId} {args : Array Value} {below : List Frame} {meth : Method} {c : Code} {Q : State → Prop} {D : va_G} {base b : Nat} {sc : List Int32} {mi pc kc ks : Nat} {lv : List (Option Value)} {st : List Value} {ph : z_H}
theorem z_after {H : Heap} {locs : List Loc} {mc ms : Nat} {ls : Array Slot} {st0 rest : List Value} {aa : Array Value} {o : z_O} (hr : va_Run p l e R s m args below meth c H locs kc ks mc ms (F0 m pc ls st0) rest (z_Qc D base o aa) (fun q => base ≤ q)) (hs : va_S (fun q => base ≤ q) s.heap H locs)
    (kk : ∀ (H1 : Heap) (locs1 : List Loc), z_HH s D base o.2 H1 → va_S (fun q => base ≤ q) s.heap H1 locs1 → W p l e R s m args below meth c H1 locs1 (kc + mc) (ks + ms) Q (F0 m (pc + 3) ls ((o.1.map (z_rv base 0)).toList ++ rest))) : W p l e R s m args below meth c H locs kc ks Q (F0 m pc ls st0) := by
  intro T hT X
  obtain ⟨v, st₀, t, T', L, h0, X', hL, e1, e2, ⟨hv, hH, hz, hq⟩, stp⟩ := hr T hT X
  cases hv
  rw [h0] at hz hq
  have hal : t.vm.Alike s.vm := by rw [← e2]; exact X'.warmed.alike.symm
  obtain ⟨t2, a1, b1⟩ := kk T'.heap (locs ++ L) (by rw [e1]; exact hH.moved hal)
    ⟨Nat.le_trans hs.1 (by rw [e1]; exact hz), fun q h1 h2 => by rw [e1, hq q (Nat.lt_of_lt_of_le h1 hs.1) h2]; exact hs.2.1 q h1 h2, fun q hq => by
      rcases List.mem_append.mp hq with h | h
      · exact hs.2.2 q h
      · exact hL q h⟩ T' rfl X'
  exact ⟨t2, stp t2 a1, b1⟩
theorem z_ent {base b : Nat} {q : Nat × Value} {r : Nat} : ∀ (as : List Value) (i : Nat), q ∈ z_as base b i (z_il as ++ List.replicate r none) → q ∈ lv_args i (as.map (z_rv base b))
  | [], i, h => by
    exfalso
    have : ∀ (r i : Nat), q ∉ z_as base b i (List.replicate r none) := by
      intro r
      induction r with
      | zero => intro i h; cases h
      | succ r ih => intro i h; rw [List.replicate_succ, z_as] at h; exact ih _ h
    exact this r i h
  | v :: vs, i, h => by
    rw [List.map_cons, lv_args, z_rv_cat]
    rw [z_il] at h
    split at h
    · rename_i hc
      rw [List.cons_append, List.cons_append, z_as, z_as] at h
      rw [if_pos hc]
      rcases List.mem_cons.mp h with rfl | h
      · exact List.mem_cons_self
      · exact List.mem_cons_of_mem _ (z_ent vs (i + 2) h)
    · rename_i hc
      rw [List.cons_append, z_as] at h
      rw [if_neg hc]
      rcases List.mem_cons.mp h with rfl | h
      · exact List.mem_cons_self
      · exact List.mem_cons_of_mem _ (z_ent vs (i + 1) h)
theorem z_sl_len {base b : Nat} : ∀ (as : List Value), (lg_sl (as.map (z_rv base b))).length = (z_il as).length
  | [] => rfl
  | v :: vs => by
    have h := z_sl_len (base := base) (b := b) vs
    unfold lg_sl at h ⊢
    rw [List.map_cons, List.flatMap_cons, List.length_append, h, z_rv_cat, z_il]
    split <;> simp <;> omega
/-- the end of a method -/
theorem z_ret (hx : p.tables.exec = Jvm.exec) (hb : c.code = z_co mi) (hr : meth.sig.returnType = z_rt mi) (hlocks : meth.locks = false) {i : Instr} {len : Nat} {o : z_O} (hdg : decode (z_co mi) pc = .ok (i, len)) (hlen : z_len i len = true) (h : z_step sc mi i pc lv st ph kc ks = some (.inr o)) (h1 : kc ≤ z_mc mi) (h2 : ks ≤ z_ms mi) :
    z_Wt p l e R s m args below meth c (MQ below (z_Qc D base o) args s (z_mc mi) (z_ms mi) (fun q => base ≤ q)) D base b (z_ml mi) (pc, lv, st, ph, kc, ks) := by
  intro ls H locs hl hh hs
  refine W.widen h1 h2 ?_
  have hq : ∀ (r : Option Value), o = (r, ph) → ∀ t : State, t.heap = H → s.WarmedH t.vm → z_Qc D base o args s (.returned (r.map (z_rv base 0))) t := by
    intro r ho t ht hW
    subst ho
    exact ⟨rfl, by rw [ht]; exact hh.moved hW.alike, by rw [ht]; exact hs.1, fun q g1 g2 => by rw [ht]; exact hs.2.1 q g1 g2⟩
  cases i <;> simp only [z_step] at h
  case ireturn =>
    have hl1 : len = 1 := by simpa [z_len] using hlen
    subst hl1
    split at h
    · rename_i x
      split at h
      · rename_i hrt
        cases h
        exact W.zret (ty := .int) hx hb (by rw [hr, hrt]) rfl (hq (some (.int x)) rfl) hs.2.2 hdg hlocks
      · rename_i hrt
        split at h
        · rename_i hx1
          cases h
          exact W.zret (ty := .boolean) hx hb (by rw [hr, hrt]) (by show Value.int (x &&& 1) = .int x; rw [hx1]) (hq (some (.int x)) rfl) hs.2.2 hdg hlocks
        · cases h
      · cases h
    · cases h
  case lreturn =>
    have hl1 : len = 1 := by simpa [z_len] using hlen
    subst hl1
    split at h
    · rename_i x
      split at h
      · rename_i hrt
        cases h
        exact W.lret hx hb (by rw [hr, hrt]) (hq (some (.long x)) rfl) hs.2.2 hdg hlocks
      · cases h
    · cases h
  case return_ =>
    have hl1 : len = 1 := by simpa [z_len] using hlen
    subst hl1
    split at h
    · split at h
      · rename_i hrt
        cases h
        exact W.vret hx hb (by rw [hr, hrt]) (hq none rfl) hs.2.2 hdg hlocks
      · cases h
    · cases h
  all_goals first
    | cases h
    | (exfalso; simp only [z_nx, z_go] at h; (repeat' split at h) <;> cases h)
end ZC
section ZD
/-- what z_ex answers from a place, the JVM comes to -/
def z_Ok (sc : List Int32) (n : Nat) : Prop := ∀ (p : Program) (l : Launch) (e : Env) (R : Room) (s : State) (m : MethodId) (args : Array Value) (below : List Frame) (meth : Method) (c : Code) (Q : State → Prop) (D : va_G) (base b mi pc kc ks : Nat) (lv : List (Option Value)) (st : List Value) (ph : z_H) (o : z_O),
  z_Cx p R s m args meth c D base b sc mi → z_ex sc n mi pc lv st ph kc ks = some o →
  (∀ (pc kc ks : Nat) (lv : List (Option Value)) (st : List Value) (ph : z_H) (i : Instr) (len : Nat), decode (z_co mi) pc = .ok (i, len) → z_len i len = true → z_step sc mi i pc lv st ph kc ks = some (.inr o) → kc ≤ z_mc mi → ks ≤ z_ms mi → z_Wt p l e R s m args below meth c Q D base b (z_ml mi) (pc, lv, st, ph, kc, ks)) →
  z_Wt p l e R s m args below meth c Q D base b (z_ml mi) (pc, lv, st, ph, kc, ks)
theorem z_met {sc : List Int32} {n : Nat} (hn : z_Ok sc n) {l : Launch} {D : va_G} {base y : Nat} {as : List Value} {ph : z_H} {o : z_O} (h : z_ex sc n y 0 (z_init y as) [] ph 0 0 = some o) (h1 : 0 < y) (h2 : y < 184) (hlen : (z_il as).length ≤ z_ml y) : z_Mt l D base ph as y o := by
  obtain ⟨g1, g2, g3, g4, g5⟩ := z_m_rest h1 h2
  refine Met.ofW (cc := z_co y) (maxL := z_ml y) (ret := z_rt y) g3 rfl ?_
  intro p e s m args below meth c s₁ B hml hv
  obtain ⟨rfl, hH, hK⟩ := hv
  have hts0 := atoms_spec (ws := z_ws y) B.pre
  have hts : ∀ w ∈ z_tbl, w.before (as.map (z_rv base 0)).toArray s = true := fun w hw => hts0 w (List.mem_cons_of_mem _ hw)
  have hown : s.vm.findClass (z_rn (z_ci y)) = some m.cls := by rw [← g1]; exact findClass_of_methodNamed B.named
  have hname : meth.name = (z_nm y).name := (name_of_methodNamed B.named B.method).1
  have C : z_Cx p (headSpec (z_ws y) (z_rm y)).room s m (as.map (z_rv base 0)).toArray meth c D base 0 sc y :=
    ⟨B.exec, B.bytes, hml, hown, hts, hK, rfl, fun hi => hname.trans (g4 hi).1, by rw [hH.1]; exact Nat.le_add_right _ _, fun hy => absurd hy (by omega)⟩
  rw [lg_entry_eq]
  have hl := lv_entry (as.map (z_rv base 0)) (n := z_ml y) (by rw [z_sl_len]; exact hlen)
  refine hn p l e _ s m _ below meth c _ D base 0 y 0 0 0 (z_init y as) [] ph o C h (fun pc kc ks lv st ph i len hd hle hst k1 k2 => z_ret B.exec B.bytes B.returns B.notSynchronized hd hle hst k1 k2) _ s.heap [] ?_ hH va_S.rf
  refine ⟨hl.1, hl.2.1, fun q hq => hl.2.2 q (z_ent as 0 hq)⟩
end ZD
