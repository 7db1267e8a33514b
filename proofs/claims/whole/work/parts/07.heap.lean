/-! the instructions that touch the heap -/
def z_ty (c : Nat) : Nat → FieldType := match c with
  | 0 => tyX0
  | 1 => tyX1
  | 2 => tyX2
  | 3 => tyX3
  | 4 => tyX4
  | 5 => tyX5
  | 6 => tyX6
  | 7 => tyX7
  | _ => tyX8
theorem z_lt9 {P : Nat → Prop} (h0 : P 0) (h1 : P 1) (h2 : P 2) (h3 : P 3) (h4 : P 4) (h5 : P 5) (h6 : P 6) (h7 : P 7) (h8 : P 8) : ∀ c, c < 9 → P c
  | 0, _ => h0
  | 1, _ => h1
  | 2, _ => h2
  | 3, _ => h3
  | 4, _ => h4
  | 5, _ => h5
  | 6, _ => h6
  | 7, _ => h7
  | 8, _ => h8
  | n + 9, h => absurd h (by omega)
theorem z_cl_at : ∀ c, c < 9 → z_cl[c]? = some (z_rn c, z_F c, z_nf c) := z_lt9 rfl rfl rfl rfl rfl rfl rfl rfl rfl
theorem z_wsIn : ∀ c, c < 9 → ∀ w ∈ u_ws (z_rn c) (z_F c) (z_nf c), w ∈ z_tbl := z_lt9 z_ws0 z_ws1 z_ws2 z_ws3 z_ws4 z_ws5 z_ws6 z_ws7 z_ws8
theorem z_tyOk : ∀ c, c < 9 → ∀ k, k < z_nf c → parseFieldDescriptor (z_F c k).2.2.1 = some (z_ty c k) := z_lt9 tyX0_ok tyX1_ok tyX2_ok tyX3_ok tyX4_ok tyX5_ok tyX6_ok tyX7_ok tyX8_ok
theorem z_nmOk : ∀ c, c < 9 → ∀ a, a < z_nf c → ∀ b, b < z_nf c → a ≠ b → (z_F c a).2.1 ≠ (z_F c b).2.1 := z_lt9 nmX0 nmX1 nmX2 nmX3 nmX4 nmX5 nmX6 nmX7 nmX8
theorem z_decl : ∀ c, c < 9 → ∀ k, k < z_nf c → (z_F c k).1 = z_rn c := by decide +kernel
theorem z_tyk : ∀ c, c < 9 → ∀ k, k < z_nf c → (if (z_F c k).2.2.1 = "I" then z_ty c k = .int else if (z_F c k).2.2.1 = "J" then z_ty c k = .long else (z_ty c k).isReference = true) := by decide +kernel
theorem z_f0_ok : ∀ c, c < 9 → ∀ k, k < z_nf c → vp_V ((z_f0 c).map (z_rv 0 0)) k = defaultValue (z_ty c k) := by decide +kernel
theorem z_f0_nr : ∀ c, c < 9 → ((z_f0 c).all fun v => match v with
  | .ref _ => false
  | .retAddr _ => false
  | _ => true) = true := by decide +kernel
theorem z_f0_len : ∀ c, c < 9 → (z_f0 c).length = z_nf c := by decide +kernel
theorem z_f0_rv {c : Nat} (hc : c < 9) (base : Nat) : (z_f0 c).map (z_rv base 0) = (z_f0 c).map (z_rv 0 0) := by
  refine List.map_congr_left fun v hv => ?_
  have h := List.all_eq_true.mp (z_f0_nr c hc) v hv
  cases v <;> first | rfl | cases h
theorem z_fl_spec {m idx c k : Nat} (h : z_fl m idx = some (c, k)) : Cond.fieldLink (z_rn (z_ci m)) idx (z_rn c) (z_F c k).2.1 (z_F c k).2.2.1 ∈ z_tbl ∧ c < 9 ∧ k < z_nf c := by
  unfold z_fl at h
  obtain ⟨e, he, hq⟩ := Option.map_eq_some_iff.mp h
  have h1 := List.find?_some he
  have h2 := List.all_eq_true.mp z_FT_ok e (List.mem_of_find?_eq_some he)
  simp only [Bool.and_eq_true, beq_iff_eq] at h1
  unfold z_okF at h2
  simp only [Bool.and_eq_true, decide_eq_true_eq] at h2
  cases hq
  rw [← h1.1, ← h1.2]
  exact ⟨z_wd_in h2.1, h2.2⟩
theorem z_ki_spec {m idx : Nat} {v : Int32} (h : z_ki m idx = some v) : Cond.constant (z_rn (z_ci m)) idx v ∈ z_tbl := by
  unfold z_ki at h
  obtain ⟨e, he, hq⟩ := Option.map_eq_some_iff.mp h
  have h1 := List.find?_some he
  have h2 := List.all_eq_true.mp z_KI_ok e (List.mem_of_find?_eq_some he)
  simp only [Bool.and_eq_true, beq_iff_eq] at h1
  cases hq
  rw [← h1.1, ← h1.2]
  exact z_wd_in h2
theorem z_kl_spec {m idx : Nat} {v : Int64} (h : z_kl m idx = some v) : Cond.constantLong (z_rn (z_ci m)) idx v ∈ z_tbl := by
  unfold z_kl at h
  obtain ⟨e, he, hq⟩ := Option.map_eq_some_iff.mp h
  have h1 := List.find?_some he
  have h2 := List.all_eq_true.mp z_KL_ok e (List.mem_of_find?_eq_some he)
  simp only [Bool.and_eq_true, beq_iff_eq] at h1
  cases hq
  rw [← h1.1, ← h1.2]
  exact z_wd_in h2
theorem z_nw_spec {m idx c : Nat} (h : z_nw m idx = some c) : Cond.classLink (z_rn (z_ci m)) idx (z_rn c) ∈ z_tbl ∧ Cond.instantiable (z_rn c) (z_nf c) ∈ z_tbl ∧ Cond.initialized (z_rn c) ∈ z_tbl ∧ c < 9 := by
  unfold z_nw at h
  obtain ⟨e, he, hq⟩ := Option.map_eq_some_iff.mp h
  have h1 := List.find?_some he
  have h2 := List.all_eq_true.mp z_NT_ok e (List.mem_of_find?_eq_some he)
  simp only [Bool.and_eq_true, beq_iff_eq] at h1
  unfold z_okN at h2
  simp only [Bool.and_eq_true, decide_eq_true_eq] at h2
  cases hq
  rw [← h1.1, ← h1.2]
  exact ⟨z_wd_in h2.1.1.1, z_wd_in h2.1.1.2, z_wd_in h2.1.2, h2.2⟩
theorem z_fv_ok {c k base b : Nat} {v : Value} (hc : c < 9) (hk : k < z_nf c) (h : z_fv c k v = true) : narrow (z_ty c k) (z_rv base b v) = z_rv base b v ∧ fits (z_ty c k) (z_rv base b v) = true ∧ z_rv base b v = z_rv base 0 v := by
  have ht := z_tyk c hc k hk
  cases v <;> simp only [z_fv, Bool.and_eq_true, decide_eq_true_eq, Bool.false_eq_true] at h
  · rw [if_pos h] at ht
    rw [ht]
    exact ⟨rfl, rfl, rfl⟩
  · rw [if_neg (by rw [h]; decide), if_pos h] at ht
    rw [ht]
    exact ⟨rfl, rfl, rfl⟩
  · rw [if_neg h.1, if_neg h.2] at ht
    cases hq : z_ty c k <;> rw [hq] at ht <;> first | exact ⟨rfl, rfl, rfl⟩ | cases ht
section ZH
variable {p : Program} {l : Launch} {e : Env} {R : Room} {s : State} {m : MethodId} {args : Array Value} {below : List Frame} {meth : Method} {c : Code} {Q : State → Prop} {D : va_G} {base b : Nat} {sc : List Int32} {mi pc kc ks : Nat} {lv : List (Option Value)} {st : List Value} {ph : z_H}
theorem zs_getfield (C : z_Cx p R s m args meth c D base b sc mi) {idx ci k a : Nat} {fs : List Value} {v : Value} (h0 : z_fl mi idx = some (ci, k)) (ha : ph[a]? = some (.inl (ci, fs))) (hv : fs[k]? = some v) (hnr : z_nr v = true) (hdg : decode (z_co mi) pc = .ok (.getfield idx, 3)) (kk : z_Wt p l e R s m args below meth c Q D base b (z_ml mi) (pc + 3, lv, v :: st, ph, kc, ks)) : z_Wt p l e R s m args below meth c Q D base b (z_ml mi) (pc, lv, .ref a :: st, ph, kc, ks) := by
  intro ls H locs hl hh hs
  obtain ⟨hx, hb, hml, hown, hts, hK, hR, hini, hbase, hscr⟩ := C
  obtain ⟨hw, hc9, hkn⟩ := z_fl_spec h0
  have hc := z_cl_at ci hc9
  have hat := hh.2 a _ ha
  have hP : va_P D z_cl [(base + a, .inr (ci, fs.map (z_rv base 0)))] H := by
    intro i q hq
    cases i with
    | zero =>
      simp only [List.getElem?_cons_zero, Option.some.injEq] at hq
      subst hq
      obtain ⟨r, h1, -, h3⟩ := hat
      exact ⟨r, h1, h3⟩
    | succ i => simp at hq
  refine va_get (C := z_rn ci) (T := z_F ci) (N := z_nf ci) (ref := z_rn ci) hx hb hts (z_wsIn ci hc9) hown hK.1 hP 0 rfl hc k hkn (hts _ hw) (fun x hxx => by rw [← z_decl ci hc9 k hkn] at *; exact hxx) (v := z_rv base b v) ?_ hdg (kk ls H locs hl hh hs)
  rw [z_rv_nr (b' := 0) hnr, List.getElem?_map, hv]
  rfl
theorem zs_putfield (C : z_Cx p R s m args meth c D base b sc mi) {idx ci k a : Nat} {fs : List Value} {v : Value} (h0 : z_fl mi idx = some (ci, k)) (ha : ph[a]? = some (.inl (ci, fs))) (hlen : k < fs.length) (hfv : z_fv ci k v = true) (hfin : (z_F ci k).2.2.2 = true → z_ini mi = true ∧ (z_F ci k).1 = z_rn (z_ci mi)) (hdg : decode (z_co mi) pc = .ok (.putfield idx, 3)) (kk : z_Wt p l e R s m args below meth c Q D base b (z_ml mi) (pc + 3, lv, st, ph.set a (.inl (ci, fs.set k v)), kc, ks)) : z_Wt p l e R s m args below meth c Q D base b (z_ml mi) (pc, lv, v :: .ref a :: st, ph, kc, ks) := by
  intro ls H locs hl hh hs
  obtain ⟨hx, hb, hml, hown, hts, hK, hR, hini, hbase, hscr⟩ := C
  obtain ⟨hw, hc9, hkn⟩ := z_fl_spec h0
  have hc := z_cl_at ci hc9
  obtain ⟨r, hr, hfl, cell, q1, q2, q3, q4⟩ := hh.2 a _ ha
  cases hr.symm.trans hc
  obtain ⟨hS, hfc, kC, hkC, hkind⟩ := hK.1.1 ci _ hc
  obtain ⟨cf, kf, fi, f, hi, hsl⟩ := hS k hkn
  have hap := va_apart (own := z_rn (z_ci mi)) hts (z_wsIn ci hc9) (z_ty ci) (z_tyOk ci hc9) (z_nmOk ci hc9) hK.1 hc
  have hlay := hts _ (z_wsIn ci hc9 _ (u_in_lay hkn))
  unfold u_lay at hlay
  have hst := (u_facts hfc hkC (u_lays hts (z_wsIn ci hc9) hkn) hi).1
  have hd := z_tyOk ci hc9 k hkn
  obtain ⟨hn, hfit, he⟩ := z_fv_ok (base := base) (b := b) hc9 hkn hfv
  have hi' : s.fieldFound? (z_rn ci) (z_F ci k).2.1 (z_F ci k).2.2.1 = some (cf, kf, fi, f) := by rw [← z_decl ci hc9 k hkn]; exact hi
  have hsz : f.slot < cell.slots.size := by rw [hsl]; exact k2_hasslot (q4 k hkn)
  have fin : ∀ H' : Heap, H'[base + a]? = some (cell.setSlot f.slot (z_rv base b v)) → H'.size = H.size → (∀ q, q ≠ base + a → H'[q]? = H[q]?) → W p l e R s m args below meth c H' (locs ++ [⟨base + a, f.slot⟩]) kc ks Q (F0 m (pc + 3) ls (st.map (z_rv base b))) := by
    intro H' e1 e2 e3
    refine kk ls H' _ hl (hh.set ha e2 e3 ⟨_, hc, by rw [List.length_set]; exact hfl, ?_⟩) (hs.put e2 e3 (Nat.le_add_right base a))
    rw [hsl] at e1
    refine t_OB.to (V := updV (vp_V (fs.map (z_rv base 0))) k (z_rv base b v)) ⟨_, e1, q2, q3, t_set q4 hap hkn _⟩ (fun j _ => ?_)
    rw [List.map_set, he]
    exact vp_updV_set (by rw [List.length_map]; exact hlen) _ j
  by_cases hf : (z_F ci k).2.2.2 = true
  · rw [if_pos hf] at hlay
    have hcf : m.cls = cf := by
      obtain ⟨_, _, c', _, _, _, -, -, hf', -, -, -, hown2, -⟩ := Cond.laysFinal_spec hlay
      have e1 : c' = cf := by have := hi.symm.trans hf'; simp at this; exact this.1.symm
      rw [(hfin hf).2] at hown2
      rw [← e1]; exact Option.some.inj (hown.symm.trans hown2)
    exact W.putFinK hx hb hown (hts _ hw) hi' hst hcf (hini (hfin hf).1) (by rw [q2]; exact u_fits hfc hkC hkind (Or.inr hlay) hi hd hn hfit) q1 q3 hsz rfl rfl hdg fin
  · rw [if_neg hf] at hlay
    exact W.putK hx hb (f := f) ⟨hown, hts _ hw, ⟨_, _, _, hi'⟩, hst⟩ (by rw [q2]; exact u_store hfc hkC hkind hlay hi hd hn hfit) q1 q3 hsz rfl rfl hdg fin
theorem z_in_spec {i : Int32} {n : Nat} (h : z_in i n = true) : ¬ i < 0 ∧ i.toNatClampNeg < n := by
  unfold z_in at h
  simp only [Bool.and_eq_true, decide_eq_true_eq] at h
  exact h
theorem z_in_vp {i : Int32} {n : Nat} (h : z_in i n = true) : ¬ (i < 0 ∨ n ≤ i.toNatClampNeg) := fun q => q.elim (z_in_spec h).1 (Nat.not_le.mpr (z_in_spec h).2)
theorem zs_iaload (C : z_Cx p R s m args meth c D base b sc mi) {a : Nat} {j : Int32} {x : List Int32} (ha : ph[a]? = some (.inr (.inl x))) (hj : z_in j x.length = true) (hdg : decode (z_co mi) pc = .ok (.iaload, 1)) (kk : z_Wt p l e R s m args below meth c Q D base b (z_ml mi) (pc + 1, lv, .int (x.getD j.toNatClampNeg 0) :: st, ph, kc, ks)) : z_Wt p l e R s m args below meth c Q D base b (z_ml mi) (pc, lv, .int j :: .ref a :: st, ph, kc, ks) := by
  intro ls H locs hl hh hs
  obtain ⟨hx, hb, hml, hown, hts, hK, hR, hini, hbase, hscr⟩ := C
  obtain ⟨cA, h1, h2⟩ := hh.2 a _ ha
  exact W.iald (v := .int (x.getD j.toNatClampNeg 0)) hx hb h1 (h2 _ _) (fun q => by cases q) (by rw [arrV_size]; exact z_in_vp hj) (arrV_read _ _ (z_in_spec hj).2) rfl rfl hdg (kk ls H locs hl hh hs)
theorem zs_sload (C : z_Cx p R s m args meth c D base b sc mi) {a : Nat} {j : Int32} (hm : mi = 0) (hj : z_in j sc.length = true) (hdg : decode (z_co mi) pc = .ok (.iaload, 1)) (kk : z_Wt p l e R s m args below meth c Q D base b (z_ml mi) (pc + 1, lv, .int (sc.getD j.toNatClampNeg 0) :: st, ph, kc, ks)) : z_Wt p l e R s m args below meth c Q D base b (z_ml mi) (pc, lv, .int j :: .retAddr a :: st, ph, kc, ks) := by
  intro ls H locs hl hh hs
  obtain ⟨hx, hb, hml, hown, hts, hK, hR, hini, hbase, hscr⟩ := C
  obtain ⟨hX, hbl⟩ := hscr hm
  exact va_sld hx hb hX (Nat.lt_of_lt_of_le hbl hbase) (A := fun q => base ≤ q) (Nat.not_le.mpr hbl) hs (z_in_vp hj) hdg (kk ls H locs hl hh hs)
theorem zs_slen (C : z_Cx p R s m args meth c D base b sc mi) {a : Nat} (hm : mi = 0) (hdg : decode (z_co mi) pc = .ok (.arraylength, 1)) (kk : z_Wt p l e R s m args below meth c Q D base b (z_ml mi) (pc + 1, lv, .int (Int32.ofNat sc.length) :: st, ph, kc, ks)) : z_Wt p l e R s m args below meth c Q D base b (z_ml mi) (pc, lv, .retAddr a :: st, ph, kc, ks) := by
  intro ls H locs hl hh hs
  obtain ⟨hx, hb, hml, hown, hts, hK, hR, hini, hbase, hscr⟩ := C
  obtain ⟨hX, hbl⟩ := hscr hm
  exact va_slen hx hb hX (Nat.lt_of_lt_of_le hbl hbase) (A := fun q => base ≤ q) (Nat.not_le.mpr hbl) hs hdg (kk ls H locs hl hh hs)
theorem zs_ilen (C : z_Cx p R s m args meth c D base b sc mi) {a : Nat} {x : List Int32} (ha : ph[a]? = some (.inr (.inl x))) (hdg : decode (z_co mi) pc = .ok (.arraylength, 1)) (kk : z_Wt p l e R s m args below meth c Q D base b (z_ml mi) (pc + 1, lv, .int (Int32.ofNat x.length) :: st, ph, kc, ks)) : z_Wt p l e R s m args below meth c Q D base b (z_ml mi) (pc, lv, .ref a :: st, ph, kc, ks) := by
  intro ls H locs hl hh hs
  obtain ⟨hx, hb, hml, hown, hts, hK, hR, hini, hbase, hscr⟩ := C
  obtain ⟨cA, h1, h2⟩ := hh.2 a _ ha
  exact W.alen (n := Int32.ofNat x.length) hx hb h1 (h2 _ _) (by rw [arrV_size] <;> rfl) rfl rfl hdg (kk ls H locs hl hh hs)
theorem zs_alen (C : z_Cx p R s m args meth c D base b sc mi) {a : Nat} {x : List (Option Nat)} (ha : ph[a]? = some (.inr (.inr x))) (hdg : decode (z_co mi) pc = .ok (.arraylength, 1)) (kk : z_Wt p l e R s m args below meth c Q D base b (z_ml mi) (pc + 1, lv, .int (Int32.ofNat x.length) :: st, ph, kc, ks)) : z_Wt p l e R s m args below meth c Q D base b (z_ml mi) (pc, lv, .ref a :: st, ph, kc, ks) := by
  intro ls H locs hl hh hs
  obtain ⟨hx, hb, hml, hown, hts, hK, hR, hini, hbase, hscr⟩ := C
  obtain ⟨cA, h1, h2, h3⟩ := hh.2 a _ ha
  exact W.alen (n := Int32.ofNat x.length) hx hb h1 (h2 _ _) (by rw [arrV_size] <;> rfl) rfl rfl hdg (kk ls H locs hl hh hs)
theorem zs_iastore (C : z_Cx p R s m args meth c D base b sc mi) {a : Nat} {j v : Int32} {x : List Int32} (ha : ph[a]? = some (.inr (.inl x))) (hj : z_in j x.length = true) (hdg : decode (z_co mi) pc = .ok (.iastore, 1)) (kk : z_Wt p l e R s m args below meth c Q D base b (z_ml mi) (pc + 1, lv, st, ph.set a (.inr (.inl (x.set j.toNatClampNeg v))), kc, ks)) : z_Wt p l e R s m args below meth c Q D base b (z_ml mi) (pc, lv, .int v :: .int j :: .ref a :: st, ph, kc, ks) := by
  intro ls H locs hl hh hs
  obtain ⟨hx, hb, hml, hown, hts, hK, hR, hini, hbase, hscr⟩ := C
  obtain ⟨cA, h1, h2⟩ := hh.2 a _ ha
  refine W.iast hx hb h1 (h2 _ _) (fun q => by cases q) (by rw [arrV_size]; exact z_in_vp hj) rfl rfl hdg fun H1 e z oq => kk ls H1 _ hl (hh.set ha z oq ⟨cA, ?_, h2⟩) (hs.put z oq (Nat.le_add_right base a))
  rw [e, arrV_store, List.length_set]
  congr 2
  funext i
  have hlt := (z_in_spec hj).2
  by_cases hi : i = j.toNatClampNeg
  · subst hi
    simp [updV, List.getD, hlt]
  · simp [updV, List.getD, hi, List.getElem?_set_ne (Ne.symm hi)]
theorem zs_aaload (C : z_Cx p R s m args meth c D base b sc mi) {a v : Nat} {j : Int32} {x : List (Option Nat)} (ha : ph[a]? = some (.inr (.inr x))) (hj : z_in j x.length = true) (hv : x.getD j.toNatClampNeg none = some v) (hdg : decode (z_co mi) pc = .ok (.aaload, 1)) (kk : z_Wt p l e R s m args below meth c Q D base b (z_ml mi) (pc + 1, lv, .ref v :: st, ph, kc, ks)) : z_Wt p l e R s m args below meth c Q D base b (z_ml mi) (pc, lv, .int j :: .ref a :: st, ph, kc, ks) := by
  intro ls H locs hl hh hs
  obtain ⟨hx, hb, hml, hown, hts, hK, hR, hini, hbase, hscr⟩ := C
  obtain ⟨cA, h1, h2, h3⟩ := hh.2 a _ ha
  exact W.aald (v := .ref (base + v)) hx hb h1 (h2 _ _) rfl (fun q => by cases q) (by rw [arrV_size]; exact z_in_vp hj) (by rw [arrV_read _ _ (z_in_spec hj).2, hv]; rfl) rfl rfl hdg (kk ls H locs hl hh hs)
theorem zs_aastore (C : z_Cx p R s m args meth c D base b sc mi) {a v : Nat} {j : Int32} {x : List (Option Nat)} {fs : List Value} (ha : ph[a]? = some (.inr (.inr x))) (hv : ph[v]? = some (.inl (3, fs))) (hj : z_in j x.length = true) (hdg : decode (z_co mi) pc = .ok (.aastore, 1)) (kk : z_Wt p l e R s m args below meth c Q D base b (z_ml mi) (pc + 1, lv, st, ph.set a (.inr (.inr (x.set j.toNatClampNeg (some v)))), kc, ks)) : z_Wt p l e R s m args below meth c Q D base b (z_ml mi) (pc, lv, .ref v :: .int j :: .ref a :: st, ph, kc, ks) := by
  intro ls H locs hl hh hs
  obtain ⟨hx, hb, hml, hown, hts, hK, hR, hini, hbase, hscr⟩ := C
  obtain ⟨cA, h1, h2, kA, comp, k1, k2, k3, k4⟩ := hh.2 a _ ha
  obtain ⟨r, hr, hfl, cell, q1, q2, q3, q4⟩ := hh.2 v _ hv
  have hc := z_cl_at 3 (by decide)
  have hcls := (hK.1.1 3 _ hc).2
  have hcomp : comp = D.1 3 := Option.some.inj (k3.symm.trans hcls.1)
  subst hcomp
  obtain ⟨kC, hkC, hkind⟩ := id hcls.2
  refine W.aast (k := kA) (kv := kC) (kcomp := kC) (comp := D.1 3) (t := .object RX3) hx hb h1 (fun q => by intro hq; cases hq) (fun q => by cases q) k1 k2 rfl hkC ⟨(z_in_spec hj).1, by rw [arrV_size]; exact (z_in_spec hj).2⟩ q1 (fun q => by rw [q3]; intro hq; cases hq) (by rw [q2]; exact hkC) (by rw [q2]; exact va_assign hcls) rfl rfl hdg fun H1 e z oq => kk ls H1 _ hl (hh.set ha z oq ⟨cA, ?_, h2, kA, D.1 3, k1, k2, k3, k4⟩) (hs.put z oq (Nat.le_add_right base a))
  rw [e, arrV_store, List.length_set]
  congr 2
  funext i
  have hlt := (z_in_spec hj).2
  by_cases hi : i = j.toNatClampNeg
  · subst hi
    simp [updV, List.getD, hlt, va_rf]
  · simp [updV, List.getD, hi, List.getElem?_set_ne (Ne.symm hi)]
theorem z_grow {A : Nat → Prop} {H0 H H1 : Heap} {locs : List Loc} (h : va_S A H0 H locs) (z : H1.size = H.size + 1) (oq : ∀ q, q < H.size → H1[q]? = H[q]?) : va_S A H0 H1 locs :=
  ⟨by rw [z]; exact Nat.le_succ_of_le h.1, fun q h1 h2 => (oq q (Nat.lt_of_lt_of_le h1 h.1)).trans (h.2.1 q h1 h2), h.2.2⟩
theorem zs_new (C : z_Cx p R s m args meth c D base b sc mi) {idx ci : Nat} (h0 : z_nw mi idx = some ci) (h1 : kc + 1 ≤ z_mc mi) (h2 : ks + z_nf ci ≤ z_ms mi) (hdg : decode (z_co mi) pc = .ok (.new idx, 3)) (kk : z_Wt p l e R s m args below meth c Q D base b (z_ml mi) (pc + 3, lv, .ref ph.length :: st, ph ++ [.inl (ci, z_f0 ci)], kc + 1, ks + z_nf ci)) : z_Wt p l e R s m args below meth c Q D base b (z_ml mi) (pc, lv, st, ph, kc, ks) := by
  intro ls H locs hl hh hs
  obtain ⟨hx, hb, hml, hown, hts, hK, hR, hini, hbase, hscr⟩ := C
  obtain ⟨w1, w2, w3, hc9⟩ := z_nw_spec h0
  have hc := z_cl_at ci hc9
  have hKn := hK.1.1 ci _ hc
  refine W.newcK hx hb hown (hts _ w1) (hts _ w2) (hts _ w3) rfl hdg (by rw [hR]; exact h1) (by rw [hR]; exact h2) hKn.2.1 hh.1 fun H1 kC hkC e1 z1 o1 => ?_
  refine kk ls H1 locs hl (hh.push (by rw [hh.1]; exact z1) (by rw [hh.1]; exact o1) ⟨_, hc, z_f0_len ci hc9, ?_⟩) (z_grow hs (by rw [hh.1]; exact z1) (by rw [hh.1]; exact o1))
  refine t_OB.to (u_born (z_ty ci) hts (z_wsIn ci hc9) hKn hkC e1 (z_tyOk ci hc9)) fun k hk => ?_
  show _ = vp_V ((z_f0 ci).map (z_rv base 0)) k
  rw [z_f0_rv hc9]
  exact (z_f0_ok ci hc9 k hk).symm
theorem z_wArr : Cond.arrayClass .int ∈ z_tbl := z_wd_in (Bool.and_eq_true_iff.mp z_wMath).2
theorem zs_newarray (C : z_Cx p R s m args meth c D base b sc mi) {n : Int32} (hn : ¬ n < 0) (h3 : n.toNatClampNeg ≤ 65536) (h1 : kc + 1 ≤ z_mc mi) (h2 : ks + n.toNatClampNeg ≤ z_ms mi) (hdg : decode (z_co mi) pc = .ok (.newarray .int, 2)) (kk : z_Wt p l e R s m args below meth c Q D base b (z_ml mi) (pc + 2, lv, .ref ph.length :: st, ph ++ [.inr (.inl (List.replicate n.toNatClampNeg 0))], kc + 1, ks + n.toNatClampNeg)) : z_Wt p l e R s m args below meth c Q D base b (z_ml mi) (pc, lv, .int n :: st, ph, kc, ks) := by
  intro ls H locs hl hh hs
  obtain ⟨hx, hb, hml, hown, hts, hK, hR, hini, hbase, hscr⟩ := C
  refine va_newaK (atype := .int) hx hb (hts _ z_wArr) rfl hdg rfl hn rfl (by show n.toNatClampNeg * 4 ≤ 536870912; omega) (by rw [hR]; exact h1) (by rw [hR]; exact h2) hh.1 fun H1 cA e1 z1 o1 hAr hNm => ?_
  refine kk ls H1 locs hl (hh.push (by rw [hh.1]; exact z1) (by rw [hh.1]; exact o1) ⟨cA, ?_, hAr⟩) (z_grow hs (by rw [hh.1]; exact z1) (by rw [hh.1]; exact o1))
  rw [e1, List.length_replicate]
  congr 2
  funext i
  show Value.int 0 = _
  congr 1
  simp only [List.getD, List.getElem?_replicate]
  split <;> rfl
theorem zs_anewarray (C : z_Cx p R s m args meth c D base b sc mi) {idx : Nat} {n : Int32} (h0 : z_nw mi idx = some 3) (hn : ¬ n < 0) (h3 : n.toNatClampNeg ≤ 65536) (h1 : kc + 1 ≤ z_mc mi) (h2 : ks + n.toNatClampNeg ≤ z_ms mi) (hdg : decode (z_co mi) pc = .ok (.anewarray idx, 3)) (kk : z_Wt p l e R s m args below meth c Q D base b (z_ml mi) (pc + 3, lv, .ref ph.length :: st, ph ++ [.inr (.inr (List.replicate n.toNatClampNeg none))], kc + 1, ks + n.toNatClampNeg)) : z_Wt p l e R s m args below meth c Q D base b (z_ml mi) (pc, lv, .int n :: st, ph, kc, ks) := by
  intro ls H locs hl hh hs
  obtain ⟨hx, hb, hml, hown, hts, hK, hR, hini, hbase, hscr⟩ := C
  obtain ⟨w1, w2, w3, hc9⟩ := z_nw_spec h0
  have e0 : (base + ph.length) = H.size := hh.1.symm
  refine W.anew (C := RX3) hx hb hown (hts _ w1) (va_AO.use hK.2.2) rfl hdg rfl hn (by omega) (by rw [hR]; exact h1) (by rw [hR]; exact h2) fun cA kA comp f1 f2 f3 f4 => ?_
  show W p l e R s m args below meth c _ locs _ _ Q (F0 m (pc + 3) ls (.ref H.size :: st.map (z_rv base b)))
  rw [← e0]
  have z1 : ∀ x : Cell, (H.push x).size = H.size + 1 := fun x => by rw [Array.size_push]
  have o1 : ∀ (x : Cell) (q : Nat), q < H.size → (H.push x)[q]? = H[q]? := fun x q hq => by rw [Array.getElem?_push, if_neg (Nat.ne_of_lt hq)]
  refine kk ls _ locs hl (hh.push (z1 _) (o1 _) ⟨cA, ?_, fun n z => ⟨fun k h => (by cases h), kA, f2, comp, f3⟩, kA, comp, f2, f3, f4, f1⟩) (z_grow hs (z1 _) (o1 _))
  rw [e0, Array.getElem?_push_size, List.length_replicate, arrV_new]
  congr 2
  funext i
  simp only [List.getD, List.getElem?_replicate]
  split <;> rfl
end ZH
