/-! one instruction, one call, all of it -/
section ZE
variable {p : Program} {l : Launch} {e : Env} {R : Room} {s : State} {m : MethodId} {args : Array Value} {below : List Frame} {meth : Method} {c : Code} {Q : State → Prop} {D : va_G} {base b : Nat} {sc : List Int32} {mi pc kc ks : Nat} {lv : List (Option Value)} {st : List Value} {ph : z_H}
theorem z_nx_eq {pc kc ks : Nat} {lv : List (Option Value)} {st : List Value} {ph : z_H} {S : z_S} (h : z_nx pc lv st ph kc ks = some (.inl S)) : S = (pc, lv, st, ph, kc, ks) := by
  unfold z_nx at h
  cases h
  rfl
theorem z_step_ok (C : z_Cx p R s m args meth c D base b sc mi) {i : Instr} {len : Nat} {S : z_S} (hdg : decode (z_co mi) pc = .ok (i, len)) (hlen : z_len i len = true) (h : z_step sc mi i pc lv st ph kc ks = some (.inl S)) (kk : z_Wt p l e R s m args below meth c Q D base b (z_ml mi) S) : z_Wt p l e R s m args below meth c Q D base b (z_ml mi) (pc, lv, st, ph, kc, ks) := by
  cases i <;> simp only [z_step] at h <;> first
    | cases h
    | skip
  case iload_n k =>
    obtain rfl : len = 1 := by simpa [z_len] using hlen
    split at h
    · rename_i hv
      rw [z_nx_eq h] at kk
      exact zs_iload_n C hv hdg kk
    · cases h
  case iload k =>
    obtain rfl : len = 2 := by simpa [z_len] using hlen
    split at h
    · rename_i hv
      rw [z_nx_eq h] at kk
      exact zs_iload C hv hdg kk
    · cases h
  case lload_n k =>
    obtain rfl : len = 1 := by simpa [z_len] using hlen
    split at h
    · rename_i hv
      rw [z_nx_eq h] at kk
      exact zs_lload_n C hv hdg kk
    · cases h
  case lload k =>
    obtain rfl : len = 2 := by simpa [z_len] using hlen
    split at h
    · rename_i hv
      rw [z_nx_eq h] at kk
      exact zs_lload C hv hdg kk
    · cases h
  case aload_n k =>
    obtain rfl : len = 1 := by simpa [z_len] using hlen
    split at h
    · rename_i hv
      rw [z_nx_eq h] at kk
      exact zs_aload_n C hv hdg kk
    · rename_i hv
      rw [z_nx_eq h] at kk
      exact zs_aload_s C hv hdg kk
    · cases h
  case aload k =>
    obtain rfl : len = 2 := by simpa [z_len] using hlen
    split at h
    · rename_i hv
      rw [z_nx_eq h] at kk
      exact zs_aload C hv hdg kk
    · cases h
  case istore_n k =>
    obtain rfl : len = 1 := by simpa [z_len] using hlen
    split at h
    · split at h
      · rename_i hv
        rw [z_nx_eq h] at kk
        exact zs_istore_n C hv hdg kk
      · cases h
    · cases h
  case istore k =>
    obtain rfl : len = 2 := by simpa [z_len] using hlen
    split at h
    · split at h
      · rename_i hv
        rw [z_nx_eq h] at kk
        exact zs_istore C hv hdg kk
      · cases h
    · cases h
  case astore_n k =>
    obtain rfl : len = 1 := by simpa [z_len] using hlen
    split at h
    · split at h
      · rename_i hv
        rw [z_nx_eq h] at kk
        exact zs_astore_n C hv hdg kk
      · cases h
    · cases h
  case astore k =>
    obtain rfl : len = 2 := by simpa [z_len] using hlen
    split at h
    · split at h
      · rename_i hv
        rw [z_nx_eq h] at kk
        exact zs_astore C hv hdg kk
      · cases h
    · cases h
  case lstore_n k =>
    obtain rfl : len = 1 := by simpa [z_len] using hlen
    split at h
    · split at h
      · rename_i hv
        rw [z_nx_eq h] at kk
        exact zs_lstore_n C hv hdg kk
      · cases h
    · cases h
  case lstore k =>
    obtain rfl : len = 2 := by simpa [z_len] using hlen
    split at h
    · split at h
      · rename_i hv
        rw [z_nx_eq h] at kk
        exact zs_lstore C hv hdg kk
      · cases h
    · cases h
  case iinc k n =>
    obtain rfl : len = 3 := by simpa [z_len] using hlen
    split at h
    · rename_i hv
      split at h
      · rename_i hk
        rw [z_nx_eq h] at kk
        exact zs_iinc C hv hk hdg kk
      · cases h
    · cases h
  case iconst n =>
    obtain rfl : len = 1 := by simpa [z_len] using hlen
    exact zs_iconst C hdg kk
  case bipush n =>
    obtain rfl : len = 2 := by simpa [z_len] using hlen
    exact zs_bipush C hdg kk
  case sipush n =>
    obtain rfl : len = 3 := by simpa [z_len] using hlen
    exact zs_sipush C hdg kk
  case lconst n =>
    obtain rfl : len = 1 := by simpa [z_len] using hlen
    exact zs_lconst C hdg kk
  case ldc k =>
    obtain rfl : len = 2 := by simpa [z_len] using hlen
    split at h
    · rename_i hv
      rw [z_nx_eq h] at kk
      exact zs_ldc C (z_ki_spec hv) hdg kk
    · cases h
  case ldc_w k =>
    obtain rfl : len = 3 := by simpa [z_len] using hlen
    split at h
    · rename_i hv
      rw [z_nx_eq h] at kk
      exact zs_ldc_w C (z_ki_spec hv) hdg kk
    · cases h
  case ldc2_w k =>
    obtain rfl : len = 3 := by simpa [z_len] using hlen
    split at h
    · rename_i hv
      rw [z_nx_eq h] at kk
      exact zs_ldc2_w C (z_kl_spec hv) hdg kk
    · cases h
  case iadd =>
    obtain rfl : len = 1 := by simpa [z_len] using hlen
    split at h
    · rw [z_nx_eq h] at kk
      exact zs_iadd C hdg kk
    · cases h
  case isub =>
    obtain rfl : len = 1 := by simpa [z_len] using hlen
    split at h
    · rw [z_nx_eq h] at kk
      exact zs_isub C hdg kk
    · cases h
  case imul =>
    obtain rfl : len = 1 := by simpa [z_len] using hlen
    split at h
    · rw [z_nx_eq h] at kk
      exact zs_imul C hdg kk
    · cases h
  case ineg =>
    obtain rfl : len = 1 := by simpa [z_len] using hlen
    split at h
    · rw [z_nx_eq h] at kk
      exact zs_ineg C hdg kk
    · cases h
  case ishl =>
    obtain rfl : len = 1 := by simpa [z_len] using hlen
    split at h
    · rw [z_nx_eq h] at kk
      exact zs_ishl C hdg kk
    · cases h
  case ishr =>
    obtain rfl : len = 1 := by simpa [z_len] using hlen
    split at h
    · rw [z_nx_eq h] at kk
      exact zs_ishr C hdg kk
    · cases h
  case iushr =>
    obtain rfl : len = 1 := by simpa [z_len] using hlen
    split at h
    · rw [z_nx_eq h] at kk
      exact zs_iushr C hdg kk
    · cases h
  case iand =>
    obtain rfl : len = 1 := by simpa [z_len] using hlen
    split at h
    · rw [z_nx_eq h] at kk
      exact zs_iand C hdg kk
    · cases h
  case ior =>
    obtain rfl : len = 1 := by simpa [z_len] using hlen
    split at h
    · rw [z_nx_eq h] at kk
      exact zs_ior C hdg kk
    · cases h
  case ixor =>
    obtain rfl : len = 1 := by simpa [z_len] using hlen
    split at h
    · rw [z_nx_eq h] at kk
      exact zs_ixor C hdg kk
    · cases h
  case ladd =>
    obtain rfl : len = 1 := by simpa [z_len] using hlen
    split at h
    · rw [z_nx_eq h] at kk
      exact zs_ladd C hdg kk
    · cases h
  case lsub =>
    obtain rfl : len = 1 := by simpa [z_len] using hlen
    split at h
    · rw [z_nx_eq h] at kk
      exact zs_lsub C hdg kk
    · cases h
  case land =>
    obtain rfl : len = 1 := by simpa [z_len] using hlen
    split at h
    · rw [z_nx_eq h] at kk
      exact zs_land C hdg kk
    · cases h
  case lor =>
    obtain rfl : len = 1 := by simpa [z_len] using hlen
    split at h
    · rw [z_nx_eq h] at kk
      exact zs_lor C hdg kk
    · cases h
  case lxor =>
    obtain rfl : len = 1 := by simpa [z_len] using hlen
    split at h
    · rw [z_nx_eq h] at kk
      exact zs_lxor C hdg kk
    · cases h
  case lshl =>
    obtain rfl : len = 1 := by simpa [z_len] using hlen
    split at h
    · rw [z_nx_eq h] at kk
      exact zs_lshl C hdg kk
    · cases h
  case lushr =>
    obtain rfl : len = 1 := by simpa [z_len] using hlen
    split at h
    · rw [z_nx_eq h] at kk
      exact zs_lushr C hdg kk
    · cases h
  case lcmp =>
    obtain rfl : len = 1 := by simpa [z_len] using hlen
    split at h
    · rw [z_nx_eq h] at kk
      exact zs_lcmp C hdg kk
    · cases h
  case i2l =>
    obtain rfl : len = 1 := by simpa [z_len] using hlen
    split at h
    · rw [z_nx_eq h] at kk
      exact zs_i2l C hdg kk
    · cases h
  case l2i =>
    obtain rfl : len = 1 := by simpa [z_len] using hlen
    split at h
    · rw [z_nx_eq h] at kk
      exact zs_l2i C hdg kk
    · cases h
  case dup2 =>
    obtain rfl : len = 1 := by simpa [z_len] using hlen
    split at h
    · rw [z_nx_eq h] at kk
      exact zs_dup2 C hdg kk
    · cases h
  case dup_x1 =>
    obtain rfl : len = 1 := by simpa [z_len] using hlen
    split at h
    · rw [z_nx_eq h] at kk
      exact zs_dup_x1 C hdg kk
    · cases h
  case pop =>
    obtain rfl : len = 1 := by simpa [z_len] using hlen
    split at h
    · rw [z_nx_eq h] at kk
      exact zs_pop C hdg kk
    · cases h
  case idiv =>
    obtain rfl : len = 1 := by simpa [z_len] using hlen
    split at h
    · split at h
      · cases h
      · rename_i hv
        rw [z_nx_eq h] at kk
        exact zs_idiv C hv hdg kk
    · cases h
  case irem =>
    obtain rfl : len = 1 := by simpa [z_len] using hlen
    split at h
    · split at h
      · cases h
      · rename_i hv
        rw [z_nx_eq h] at kk
        exact zs_irem C hv hdg kk
    · cases h
  case dup =>
    obtain rfl : len = 1 := by simpa [z_len] using hlen
    split at h
    · rw [z_nx_eq h] at kk
      exact zs_dupi C hdg kk
    · rw [z_nx_eq h] at kk
      exact zs_dupa C hdg kk
    · cases h
  case goto off =>
    obtain rfl : len = 3 := by simpa [z_len] using hlen
    unfold z_go at h
    split at h
    · rename_i h0
      rw [z_nx_eq h] at kk
      exact zs_goto C h0 hdg kk
    · cases h
  case if_icmp cn off =>
    obtain rfl : len = 3 := by simpa [z_len] using hlen
    split at h
    · split at h
      · rename_i h0
        refine zs_if_icmp C h0 hdg (fun hc => ?_) (fun hc => ?_)
        · rw [if_pos hc] at h
          rw [z_nx_eq h] at kk
          exact kk
        · rw [if_neg (by rw [hc]; decide)] at h
          rw [z_nx_eq h] at kk
          exact kk
      · cases h
    · cases h
  case ifCond cn off =>
    obtain rfl : len = 3 := by simpa [z_len] using hlen
    split at h
    · split at h
      · rename_i h0
        refine zs_ifCond C h0 hdg (fun hc => ?_) (fun hc => ?_)
        · rw [if_pos hc] at h
          rw [z_nx_eq h] at kk
          exact kk
        · rw [if_neg (by rw [hc]; decide)] at h
          rw [z_nx_eq h] at kk
          exact kk
      · cases h
    · cases h
  case tableswitch dflt lo hi offs =>
    split at h
    · split at h
      · rename_i h1
        unfold z_go at h
        split at h
        · rename_i h0
          rw [z_nx_eq h] at kk
          exact zs_tsd C hdg h1 h0 kk
        · cases h
      · rename_i h1
        split at h
        · rename_i ho
          unfold z_go at h
          split at h
          · rename_i h0
            rw [z_nx_eq h] at kk
            exact zs_tsw C hdg h1 ho h0 kk
          · cases h
        · cases h
    · cases h
  case getfield idx =>
    obtain rfl : len = 3 := by simpa [z_len] using hlen
    split at h
    · rename_i h0
      split at h
      · rename_i ha
        split at h
        · rename_i hci
          subst hci
          split at h
          · rename_i hv
            rw [z_nx_eq h] at kk
            exact zs_getfield C h0 ha hv rfl hdg kk
          · rename_i hv
            rw [z_nx_eq h] at kk
            exact zs_getfield C h0 ha hv rfl hdg kk
          · rename_i hv
            rw [z_nx_eq h] at kk
            exact zs_getfield C h0 ha hv rfl hdg kk
          · cases h
        · cases h
      · cases h
    · cases h
  case putfield idx =>
    obtain rfl : len = 3 := by simpa [z_len] using hlen
    split at h
    · rename_i h0
      split at h
      · rename_i ha
        split at h
        · rename_i hci
          obtain ⟨rfl, g1, g2, g3⟩ := hci
          rw [z_nx_eq h] at kk
          exact zs_putfield C h0 ha g1 g2 g3 hdg kk
        · cases h
      · cases h
    · cases h
  case iaload =>
    obtain rfl : len = 1 := by simpa [z_len] using hlen
    split at h
    · split at h
      · rename_i ha
        split at h
        · rename_i hj
          rw [z_nx_eq h] at kk
          exact zs_iaload C ha hj hdg kk
        · cases h
      · cases h
    · split at h
      · rename_i hj
        rw [z_nx_eq h] at kk
        exact zs_sload C hj.1 hj.2 hdg kk
      · cases h
    · cases h
  case iastore =>
    obtain rfl : len = 1 := by simpa [z_len] using hlen
    split at h
    · split at h
      · rename_i ha
        split at h
        · rename_i hj
          rw [z_nx_eq h] at kk
          exact zs_iastore C ha hj hdg kk
        · cases h
      · cases h
    · cases h
  case aaload =>
    obtain rfl : len = 1 := by simpa [z_len] using hlen
    split at h
    · split at h
      · rename_i ha
        split at h
        · rename_i hj
          split at h
          · rename_i hv
            rw [z_nx_eq h] at kk
            exact zs_aaload C ha hj hv hdg kk
          · cases h
        · cases h
      · cases h
    · cases h
  case aastore =>
    obtain rfl : len = 1 := by simpa [z_len] using hlen
    split at h
    · split at h
      · rename_i ha hv
        split at h
        · rename_i hj
          rw [z_nx_eq h] at kk
          exact zs_aastore C ha hv hj hdg kk
        · cases h
      · cases h
    · cases h
  case arraylength =>
    obtain rfl : len = 1 := by simpa [z_len] using hlen
    split at h
    · split at h
      · rename_i ha
        rw [z_nx_eq h] at kk
        exact zs_ilen C ha hdg kk
      · rename_i ha
        rw [z_nx_eq h] at kk
        exact zs_alen C ha hdg kk
      · cases h
    · split at h
      · rename_i hm
        rw [z_nx_eq h] at kk
        exact zs_slen C hm hdg kk
      · cases h
    · cases h
  case new idx =>
    obtain rfl : len = 3 := by simpa [z_len] using hlen
    split at h
    · rename_i h0
      split at h
      · rename_i hk
        rw [z_nx_eq h] at kk
        exact zs_new C h0 hk.1 hk.2 hdg kk
      · cases h
    · cases h
  case newarray ty =>
    obtain rfl : len = 2 := by simpa [z_len] using hlen
    split at h
    · split at h
      · rename_i hk
        rw [z_nx_eq h] at kk
        exact zs_newarray C hk.1 hk.2.1 hk.2.2.1 hk.2.2.2 hdg kk
      · cases h
    · cases h
  case anewarray idx =>
    obtain rfl : len = 3 := by simpa [z_len] using hlen
    split at h
    · rename_i h0
      split at h
      · rename_i hk
        rw [z_nx_eq h] at kk
        exact zs_anewarray C h0 hk.1 hk.2.1 hk.2.2.1 hk.2.2.2 hdg kk
      · cases h
    · cases h
  case ireturn =>
    (repeat' split at h) <;> cases h
  case lreturn =>
    (repeat' split at h) <;> cases h
  case return_ =>
    (repeat' split at h) <;> cases h
end ZE
section ZF
variable {p : Program} {l : Launch} {e : Env} {R : Room} {s : State} {m : MethodId} {args : Array Value} {below : List Frame} {meth : Method} {c : Code} {Q : State → Prop} {D : va_G} {base b : Nat} {sc : List Int32} {mi pc kc ks : Nat} {lv : List (Option Value)} {st : List Value} {ph : z_H}
theorem z_wM : (Cond.static Lib.Math.max.name ∈ z_tbl ∧ Cond.static Lib.Math.min.name ∈ z_tbl ∧ Cond.static Lib.Math.abs.name ∈ z_tbl ∧ Cond.initialized "java/lang/Math" ∈ z_tbl ∧ Cond.code Lib.Math.max.name Lib.Math.max.code 2 (some .int) ∈ z_tbl) ∧ Cond.code Lib.Math.min.name Lib.Math.min.code 2 (some .int) ∈ z_tbl ∧ Cond.code Lib.Math.abs.name Lib.Math.abs.code 1 (some .int) ∈ z_tbl ∧ Cond.instanceMethod objectInit ∈ z_tbl ∧ Cond.code objectInit ⟨#[0xb1]⟩ 1 none ∈ z_tbl := by
  have h := z_wMath
  simp only [Bool.and_eq_true] at h
  obtain ⟨⟨⟨⟨⟨⟨⟨⟨⟨h1, h2⟩, h3⟩, h4⟩, h5⟩, h6⟩, h7⟩, h8⟩, h9⟩, -⟩ := h
  exact ⟨⟨z_wd_in h1, z_wd_in h2, z_wd_in h3, z_wd_in h4, z_wd_in h5⟩, z_wd_in h6, z_wd_in h7, z_wd_in h8, z_wd_in h9⟩
theorem z_sum (base b : Nat) (st : List Value) : ((st.map (z_rv base b)).map fun v => v.category).sum = (st.map fun v => v.category).sum := by
  rw [List.map_map]
  congr 1
  exact List.map_congr_left fun v _ => z_rv_cat base b v
/-- the calls that a row of the kit serves -/
theorem z_lib_ok (C : z_Cx p R s m args meth c D base b sc mi) {k y idx w : Nat} {i : Instr} {st' : List Value} (hi : z_idx i = some (w, idx)) (hc : z_cl2 mi idx = some (k, y)) (hk : z_kk w k = true) (h4 : k = 6 ∨ k = 7 ∨ k = 8 ∨ k = 9) (h : z_lib k mi st = some st') (h1 : kc ≤ z_mc mi) (h2 : ks ≤ z_ms mi) {len : Nat} (hdg : decode (z_co mi) pc = .ok (i, len)) (hlen : z_len i len = true) (kk : z_Wt p l e R s m args below meth c Q D base b (z_ml mi) (pc + 3, lv, st', ph, kc, ks)) : z_Wt p l e R s m args below meth c Q D base b (z_ml mi) (pc, lv, st, ph, kc, ks) := by
  intro ls H locs hl hh hs
  obtain ⟨hx, hb, hml, hown, hts, hK, hR, hini, hbase, hscr⟩ := id C
  obtain ⟨w9, w6, w7, w8, -, -⟩ := z_cl2_spec hc
  obtain ⟨⟨m1, m2, m3, m4, m5⟩, m6, m7, m8, m9⟩ := z_wM
  have hsz : ls.size = c.maxLocals := hl.1.trans hml.symm
  have k3 := kk ls H locs hl hh hs
  rcases h4 with rfl | rfl | rfl | rfl
  · have hw : i = .invokestatic idx := by
      cases i <;> simp only [z_idx] at hi <;> cases hi <;> first | rfl | cases hk
    subst hw
    obtain rfl : len = 3 := by simpa [z_len] using hlen
    simp only [z_lib] at h
    split at h
    · split at h
      · rename_i hr
        cases h
        exact va_mmax hx hb hsz.symm hown (hts _ (w6 rfl)) (hts _ m1) (hts _ m4) (hts _ m5) (by rw [hR]; exact hr.2) (by rw [hR, z_sum]; exact hr.1) (by rw [hR]; exact h1) (by rw [hR]; exact h2) hdg k3
      · cases h
    · cases h
  · have hw : i = .invokestatic idx := by
      cases i <;> simp only [z_idx] at hi <;> cases hi <;> first | rfl | cases hk
    subst hw
    obtain rfl : len = 3 := by simpa [z_len] using hlen
    simp only [z_lib] at h
    split at h
    · split at h
      · rename_i hr
        cases h
        exact va_mmin hx hb hsz.symm hown (hts _ (w7 rfl)) (hts _ m2) (hts _ m4) (hts _ m6) (by rw [hR]; exact hr.2) (by rw [hR, z_sum]; exact hr.1) (by rw [hR]; exact h1) (by rw [hR]; exact h2) hdg k3
      · cases h
    · cases h
  · have hw : i = .invokestatic idx := by
      cases i <;> simp only [z_idx] at hi <;> cases hi <;> first | rfl | cases hk
    subst hw
    obtain rfl : len = 3 := by simpa [z_len] using hlen
    simp only [z_lib] at h
    split at h
    · split at h
      · rename_i hr
        cases h
        exact va_mabs hx hb hsz.symm hown (hts _ (w8 rfl)) (hts _ m3) (hts _ m4) (hts _ m7) (by rw [hR]; exact hr.2) (by rw [hR, z_sum]; exact hr.1) (by rw [hR]; exact h1) (by rw [hR]; exact h2) hdg k3
      · cases h
    · cases h
  · have hw : i = .invokespecial idx := by
      cases i <;> simp only [z_idx] at hi <;> cases hi <;> first | rfl | cases hk
    subst hw
    obtain rfl : len = 3 := by simpa [z_len] using hlen
    simp only [z_lib] at h
    split at h
    · split at h
      · rename_i hr
        cases h
        exact W.objInit hx hb hown (hts _ (w9 rfl)) (hts _ m8) (hts _ m9) rfl hsz rfl hdg (by rw [hR]; exact hr.2) (by rw [hR, z_sum]; have := hr.1; show 2 * 0 + _ + 12 ≤ z_lo mi; omega) k3
      · cases h
    · cases h
/-- a call of a method -/
theorem z_call_ok {n : Nat} (hn : z_Ok sc n) (C : z_Cx p R s m args meth c D base b sc mi) {k y idx w : Nat} {i : Instr} {o : z_O} {as rest : List Value} (hi : z_idx i = some (w, idx)) (hc : z_cl2 mi idx = some (k, y)) (hk : z_kk w k = true) (h4 : ¬ (k = 6 ∨ k = 7 ∨ k = 8 ∨ k = 9)) (hok : z_okc mi k y as rest ph kc ks = true) (hst : st = as.reverse ++ rest) (h : z_ex sc n y 0 (z_init y as) [] ph 0 0 = some o) (ho : z_out o.1 = true) {len : Nat} (hdg : decode (z_co mi) pc = .ok (i, len)) (hlen : z_len i len = true) (kk : z_Wt p l e R s m args below meth c Q D base b (z_ml mi) (pc + 3, lv, o.1.toList ++ rest, o.2, kc + z_mc y, ks + z_ms y)) : z_Wt p l e R s m args below meth c Q D base b (z_ml mi) (pc, lv, st, ph, kc, ks) := by
  intro ls H locs hl hh hs
  subst hst
  obtain ⟨hx, hb, hml, hown, hts, hK, hR, hini, hbase, hscr⟩ := id C
  obtain ⟨-, -, -, -, wA, wB⟩ := z_cl2_spec hc
  unfold z_okc at hok
  simp only [Bool.and_eq_true, decide_eq_true_eq] at hok
  obtain ⟨⟨⟨⟨⟨⟨⟨⟨o1, o2⟩, o3⟩, o4⟩, o5⟩, o6⟩, o7⟩, o8⟩, o9⟩ := hok
  have hk5 : k = 0 ∨ k = 1 ∨ k = 2 ∨ k = 4 ∨ k = 5 := by
    unfold z_kk at hk
    split at hk <;> simp only [Bool.or_eq_true, beq_iff_eq] at hk <;> omega
  have hy : 0 < y ∧ y < 184 := by
    rcases hk5 with q | q | q | q | q
    · exact (wA (by omega)).2
    · exact (wA (by omega)).2
    · exact (wA (by omega)).2
    · exact (wB (by omega)).2
    · exact (wB (by omega)).2
  obtain ⟨y1, y2⟩ := hy
  obtain ⟨g1, g2, g3, g4, g5⟩ := z_m_rest y1 y2
  have hM : z_Mt l D base ph as y o := z_met hn h y1 y2 o7
  have hG := z_wsGood y1 y2
  have hRm : (z_rm y).frames + 1 ≤ R.frames ∧ 8 + (z_ml y + 11) + (z_rm y).locals ≤ R.locals := by rw [hR]; exact ⟨o2, o3⟩
  have hfin := hts _ (z_m_ini y1 y2)
  have hPc : ∀ U : State, U.heap = H → s.WarmedH U.vm → z_Pc D base ph as (as.map (z_rv base 0)).toArray U := fun U hU hW => ⟨rfl, by rw [hU]; exact hh.moved hW.alike, hK.warm hW⟩
  have hsize : (F0 m pc ls ((as.reverse ++ rest).map (z_rv base b))).locals.size = z_ml mi := hl.1
  have hf : kc + z_mc y ≤ R.cells ∧ ks + z_ms y ≤ R.slots := by rw [hR]; exact ⟨o4, o5⟩
  have hW8 : 2 * (F0 m pc ls ((as.reverse ++ rest).map (z_rv base b))).monitorRoom + ((rest.map (z_rv base b)).map fun v => v.category).sum ≤ 8 := by rw [z_sum]; show 2 * 0 + _ ≤ 8; omega
  have has : as.map (z_rv base b) = as.map (z_rv base 0) := List.map_congr_left fun v hv => z_rv_nr (List.all_eq_true.mp o6 v hv)
  have S : CallFix p m c (z_co mi) (z_ml mi) s args z_tbl (z_rn (z_ci mi)) := ⟨hx, hb, hml, hown, hts⟩
  have fin : ∀ aa : Array Value, va_Run p l e R s m args below meth c H locs kc ks (z_mc y) (z_ms y) (F0 m pc ls ((as.reverse ++ rest).map (z_rv base b))) (rest.map (z_rv base b)) (z_Qc D base o aa) (fun q => base ≤ q) → W p l e R s m args below meth c H locs kc ks Q (F0 m pc ls ((as.reverse ++ rest).map (z_rv base b))) := by
    intro aa hr
    refine z_after hr hs fun H1 locs1 hh1 hs1 => ?_
    have e1 : ((o.1.map (z_rv base 0)).toList ++ rest.map (z_rv base b)) = (o.1.toList ++ rest).map (z_rv base b) := by
      rw [List.map_append]
      congr 1
      rcases o with ⟨r, ph1⟩
      rcases r with _ | v
      · rfl
      · cases v <;> first | rfl | cases ho
    rw [e1]
    exact kk ls H1 locs1 hl hh1 hs1
  have hstk : (as.reverse ++ rest).map (z_rv base b) = (as.map (z_rv base 0)).reverse ++ rest.map (z_rv base b) := by
    rw [List.map_append, List.map_reverse, has]
  rcases hk5 with rfl | rfl | rfl | rfl | rfl
  · -- virtual
    have hw : i = .invokevirtual idx := by
      cases i <;> simp only [z_idx] at hi <;> cases hi <;> first | rfl | cases hk
    subst hw
    obtain rfl : len = 3 := by simpa [z_len] using hlen
    simp only [Bool.and_eq_true, Bool.not_eq_true'] at o9
    obtain ⟨⟨p1, p2⟩, p3⟩ := o9
    obtain ⟨wl, -⟩ := wA (by omega)
    obtain ⟨wi, wsel⟩ := z_m_inst y1 y2 p1
    rcases as with _ | ⟨v, As⟩
    · cases p3
    rcases v with _ | _ | _ | _ | _ | a | _ <;> first | cases p3 | skip
    simp only [z_rcv] at p3
    split at p3 <;> first | cases p3 | skip
    rename_i ci fs hrec
    have p4 : ci = z_ci y := by simpa using p3
    subst p4
    obtain ⟨r, hr, hfl, cell, q1, q2, q3, q4⟩ := hh.2 a _ hrec
    have hcls := (hK.1.1 (z_ci y) _ hr).2.1
    have hn1 : As.length = z_np y := by simpa [z_na] using o8
    refine fin _ (va_runV (b := base + a) (As := As.map (z_rv base 0)) (n := z_np y) (C := (z_nm y).cls) S hM ⟨callB_of (z_np y) hts hG rfl rfl rfl hfin (hts _ wl) ⟨g2.1, g2.2, g5⟩ hRm, hts _ wi, hts _ (wsel p2)⟩ ⟨z_blind, ⟨cell, q1, by rw [q3]; rfl, ?_⟩, hPc⟩ rfl (by rw [List.length_map]; exact hn1) hsize ?_ hW8 hdg hf)
    · rw [q2, g1]
      have e2 : r.1 = z_rn (z_ci y) := by
        have hlt : z_ci y < 9 := (List.getElem?_eq_some_iff.mp hr).1
        have := hr.symm.trans (z_cl_at (z_ci y) hlt)
        cases this
        rfl
      rw [← e2]
      exact hcls
    · show ((Value.ref a :: As).reverse ++ rest).map (z_rv base b) = _
      rw [hstk]
      simp [z_rv]
  · -- static
    have hw : i = .invokestatic idx := by
      cases i <;> simp only [z_idx] at hi <;> cases hi <;> first | rfl | cases hk
    subst hw
    obtain rfl : len = 3 := by simpa [z_len] using hlen
    obtain ⟨wl, -⟩ := wA (by omega)
    have hn1 : as.length = z_np y := by simpa [z_na] using o8
    exact fin _ (va_runS (As := as.map (z_rv base 0)) (n := z_np y) S hM ⟨callB_of (z_np y) hts hG rfl rfl rfl hfin (hts _ wl) ⟨g2.1, g2.2, g5⟩ hRm, hts _ (z_m_stat y1 y2 o9)⟩ ⟨z_blind, hPc⟩ rfl (by rw [List.length_map]; exact hn1) hsize hstk hW8 hdg hf)
  · -- a constructor
    have hw : i = .invokespecial idx := by
      cases i <;> simp only [z_idx] at hi <;> cases hi <;> first | rfl | cases hk
    subst hw
    obtain rfl : len = 3 := by simpa [z_len] using hlen
    simp only [Bool.and_eq_true, Bool.not_eq_true'] at o9
    obtain ⟨⟨p1, p2⟩, p3⟩ := o9
    obtain ⟨wl, -⟩ := wA (by omega)
    obtain ⟨wi, -⟩ := z_m_inst y1 y2 p2
    obtain ⟨i1, i2⟩ := g4 p1
    rcases as with _ | ⟨v, As⟩
    · cases p3
    rcases v with _ | _ | _ | _ | _ | a | _ <;> first | cases p3 | skip
    have hn1 : As.length = z_np y := by simpa [z_na] using o8
    refine fin _ (va_runI (b := base + a) (As := As.map (z_rv base 0)) (n := z_np y) S hM ⟨callB_of (z_np y) hts hG (by unfold z_ws; rw [i2]) rfl rfl hfin (hts _ wl) ⟨g2.1, g2.2, g5⟩ hRm, i1, hts _ wi⟩ ⟨z_blind, hPc⟩ rfl (by rw [List.length_map]; exact hn1) hsize ?_ hW8 hdg hf)
    show ((Value.ref a :: As).reverse ++ rest).map (z_rv base b) = _
    rw [hstk]
    simp [z_rv]
  · -- a static of a nest mate
    have hw : i = .invokestatic idx := by
      cases i <;> simp only [z_idx] at hi <;> cases hi <;> first | rfl | cases hk
    subst hw
    obtain rfl : len = 3 := by simpa [z_len] using hlen
    obtain ⟨wl, -⟩ := wB (by omega)
    have hn1 : as.length = z_np y := by simpa [z_na] using o8
    exact fin _ (va_runSN (As := as.map (z_rv base 0)) (n := z_np y) S hM ⟨va_cnB (z_np y) hts hG rfl rfl rfl (hK.2.1 _ wl) hfin ⟨g2.1, g2.2, g5⟩ hRm, hts _ (z_m_stat y1 y2 o9), trivial⟩ ⟨z_blind, hPc⟩ rfl (by rw [List.length_map]; exact hn1) hsize hstk hW8 hdg hf)
  · -- a constructor of a nest mate
    have hw : i = .invokespecial idx := by
      cases i <;> simp only [z_idx] at hi <;> cases hi <;> first | rfl | cases hk
    subst hw
    obtain rfl : len = 3 := by simpa [z_len] using hlen
    simp only [Bool.and_eq_true, Bool.not_eq_true'] at o9
    obtain ⟨⟨p1, p2⟩, p3⟩ := o9
    obtain ⟨wl, -⟩ := wB (by omega)
    obtain ⟨wi, -⟩ := z_m_inst y1 y2 p2
    obtain ⟨i1, i2⟩ := g4 p1
    rcases as with _ | ⟨v, As⟩
    · cases p3
    rcases v with _ | _ | _ | _ | _ | a | _ <;> first | cases p3 | skip
    have hn1 : As.length = z_np y := by simpa [z_na] using o8
    refine fin _ (va_runIN (b := base + a) (As := As.map (z_rv base 0)) (n := z_np y) S hM ⟨va_cnB (z_np y) hts hG (by unfold z_ws; rw [i2]) rfl rfl (hK.2.1 _ wl) hfin ⟨g2.1, g2.2, g5⟩ hRm, i1, hts _ wi⟩ ⟨z_blind, hPc⟩ rfl (by rw [List.length_map]; exact hn1) hsize ?_ hW8 hdg hf)
    show ((Value.ref a :: As).reverse ++ rest).map (z_rv base b) = _
    rw [hstk]
    simp [z_rv]
/-- THE MACHINE OF PART 05 IS THE JVM'S -/
theorem z_sound (sc : List Int32) : ∀ n, z_Ok sc n := by
  intro n
  induction n with
  | zero =>
    intro p l e R s m args below meth c Q D base b mi pc kc ks lv st ph o C h
    unfold z_ex at h
    cases h
  | succ n ih =>
    intro p l e R s m args below meth c Q D base b mi pc kc ks lv st ph o C h hret
    unfold z_ex at h
    split at h
    · cases h
    · rename_i i len hdg
      split at h
      · rename_i hlen
        split at h
        · split at h
          · cases h
          · rename_i r hst
            split at h
            · rename_i hk
              cases h
              exact hret _ _ _ _ _ _ _ _ hdg hlen hst hk.1 hk.2
            · cases h
          · rename_i pc' lv' st' ph' kc' ks' hst
            exact z_step_ok C hdg hlen hst (ih p l e R s m args below meth c Q D base b mi pc' kc' ks' lv' st' ph' o C h hret)
        · rename_i w idx hi
          split at h
          · cases h
          · rename_i k y hc
            split at h
            · rename_i hk
              split at h
              · rename_i h4
                split at h
                · cases h
                · rename_i st' hl
                  split at h
                  · rename_i hb
                    exact z_lib_ok C hi hc hk h4 hl hb.1 hb.2 hdg hlen (ih p l e R s m args below meth c Q D base b mi (pc + 3) kc ks lv st' ph o C h hret)
                  · cases h
              · rename_i h4
                split at h
                · rename_i hok
                  split at h
                  · cases h
                  · rename_i r ph' hex
                    split at h
                    · rename_i ho
                      exact z_call_ok (o := (r, ph')) ih C hi hc hk h4 hok (by rw [List.reverse_reverse, List.take_append_drop]) hex ho hdg hlen (ih p l e R s m args below meth c Q D base b mi (pc + 3) (kc + z_mc y) (ks + z_ms y) lv _ ph' o C h hret)
                    · cases h
                · cases h
            · cases h
      · cases h
end ZF
