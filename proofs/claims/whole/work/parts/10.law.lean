/-! the law's own body: what z_ex answers for it is the claim -/
theorem z_known {s : State} {args : Array Value} (hts : ∀ w ∈ z_tbl, w.before args s = true) : ∀ c, c < 9 → ∃ (cC : ClassId) (iS : Nat → Nat), u_Kn s (z_rn c) (z_F c) (z_nf c) cC iS := by
  have hin : ∀ c, c < 9 → Cond.instantiable (z_rn c) (z_nf c) ∈ z_tbl := by
    have h : ∀ c, c < 9 → (z_NT.any fun e => e.2.2.1 == c) = true := by decide +kernel
    intro c hc
    obtain ⟨e, he, h1⟩ := List.any_eq_true.mp (h c hc)
    have h2 := List.all_eq_true.mp z_NT_ok e he
    unfold z_okN at h2
    simp only [Bool.and_eq_true, decide_eq_true_eq] at h2
    simp only [beq_iff_eq] at h1
    rw [← h1]
    exact z_wd_in h2.1.1.2
  exact fun c hc => u_known hts (z_wsIn c hc) (hts _ (hin c hc))
theorem z_whole (hlaw : ∀ sc : List Int32, sc.length ≤ 2048 → ∃ (n : Nat) (ph : z_H), z_ex sc n 0 0 (z_init 0 [.retAddr 0]) [] [] 0 0 = some (some (.int 1), ph))
    {p : Program} {e : Env} {s : State} {m : MethodId} {below : List Frame} {meth : Method} {c : Code} {Q : State → Prop} (l : Launch) {b L : Nat} {xs : Nat → Int32} (hL : L ≤ 2048)
    (hx : p.tables.exec = Jvm.exec) (hb : c.code = code) (hr : meth.sig.returnType = ret) (hml : c.maxLocals = 4) (hown : s.vm.findClass RL = some m.cls) (hts0 : ∀ w ∈ lw_tbl, w.before #[Value.ref b] s = true) (hX : va_X b L xs s s.heap) (hbl : b < s.heap.size) (hlocks : meth.locks = false)
    (hend : ∀ {pc : Nat} {H : Heap} {ls : Array Slot}, decode code pc = .ok (.ireturn, 1) → W p l e room_1 s m #[Value.ref b] below meth c H [] 600000 7302249 Q (F0 m pc ls [.int 1])) :
    W p l e room_1 s m #[Value.ref b] below meth c s.heap [] 0 0 Q (entryFrame m ([Value.ref b] : List Value).toArray 4) := by
  have hts : ∀ w ∈ z_tbl, w.before #[Value.ref b] s = true := fun w hw => hts0 w (List.mem_filter.mp hw).1
  obtain ⟨dC, dI, hKc⟩ : ∃ (dC : Nat → ClassId) (dI : Nat → Nat → Nat), ∀ c, c < 9 → u_Kn s (z_rn c) (z_F c) (z_nf c) (dC c) (dI c) := by
    have h : ∀ c, ∃ q : ClassId × (Nat → Nat), c < 9 → u_Kn s (z_rn c) (z_F c) (z_nf c) q.1 q.2 := by
      intro c
      by_cases hc : c < 9
      · obtain ⟨a, i, h⟩ := z_known hts c hc
        exact ⟨(a, i), fun _ => h⟩
      · exact ⟨(0, fun _ => 0), fun h => absurd h hc⟩
    exact ⟨fun c => (Classical.choose (h c)).1, fun c => (Classical.choose (h c)).2, fun c hc => Classical.choose_spec (h c) hc⟩
  have hK : z_Kx (dC, dI) s := by
    refine ⟨⟨fun c q hq => ?_, fun k q h => by simp at h⟩, fun w hw => ?_, va_AO.of (hts0 _ (List.mem_of_getElem? z_wOver))⟩
    · have hc : c < 9 := (List.getElem?_eq_some_iff.mp hq).1
      have h1 := hq.symm.trans (z_cl_at c hc)
      cases h1
      exact hKc c hc
    · have h1 := List.mem_filter.mp hw
      have h2 := hts0 w h1.1
      have h3 := h1.2
      cases w <;> first | exact va_Nw.of rfl h2 | cases h3
  obtain ⟨n, ph, hex⟩ := hlaw ((List.range L).map xs) (by rw [List.length_map, List.length_range]; exact hL)
  have hlen : ((List.range L).map xs).length = L := by rw [List.length_map, List.length_range]
  have hX' : va_X b ((List.range L).map xs).length (fun j => ((List.range L).map xs).getD j 0) s s.heap := by
    rw [hlen]
    obtain ⟨scr, h1, h2, h3, h4, h5⟩ := hX
    refine ⟨scr, h1, h2, h3, h4, fun j hj => ?_⟩
    rw [h5 j hj]
    simp [List.getD, hj]
  have C : z_Cx p room_1 s m #[Value.ref b] meth c (dC, dI) s.heap.size b ((List.range L).map xs) 0 :=
    ⟨hx, hb, hml, hown, hts, hK, rfl, (fun h => by cases h), Nat.le_refl _, fun _ => ⟨hX', hbl⟩⟩
  rw [lg_entry_eq]
  have hl := lv_entry ([.ref b]) (n := 4) (Nat.le_of_ble_eq_true rfl)
  refine z_sound ((List.range L).map xs) n p l e room_1 s m _ below meth c Q (dC, dI) s.heap.size b 0 0 0 0 (z_init 0 [.retAddr 0]) [] [] _ C hex ?_ _ s.heap [] ?_ ⟨rfl, fun k c h => by simp at h⟩ va_S.rf
  · intro pc kc ks lv st ph1 i len hdg hlen hst h1 h2 ls H locs hll hh hs
    have hi : i = .ireturn ∧ st = [.int 1] := by
      cases i <;> simp only [z_step] at hst
      case ireturn =>
        split at hst
        · split at hst
          · cases hst; exact ⟨rfl, rfl⟩
          · split at hst
            · cases hst; exact ⟨rfl, rfl⟩
            · cases hst
          · cases hst
        · cases hst
      case lreturn => (repeat' split at hst) <;> cases hst
      case return_ => (repeat' split at hst) <;> cases hst
      all_goals first
        | cases hst
        | (exfalso; simp only [z_nx, z_go] at hst; (repeat' split at hst) <;> cases hst)
    obtain ⟨rfl, rfl⟩ := hi
    obtain rfl : len = 1 := by simpa [z_len] using hlen
    exact va_forget hs.2.2 (W.widen h1 h2 (hend hdg))
  · refine ⟨hl.1, hl.2.1, fun q hq => hl.2.2 q ?_⟩
    exact z_ent (base := s.heap.size) (b := b) (r := 3) [.retAddr 0] 0 hq
