/-! THE TEXT: letters that come, tokens -/
def TM_at (σ : z_G) (n : Nat) (txt : Nat → Nat) : Prop := n ≤ 120 ∧ σ.1 76 0 = nI n ∧ ∀ k, k < n → σ.1 77 k = nI (txt k) ∧ txt k < 256
def tyF (txt : Nat → Nat) (n x : Nat) : Nat → Nat := fun k => if k = n then x else txt k
theorem an2 : z_an 2 = 120 := by decide +kernel
theorem an9 : z_an 9 = 3 := by decide +kernel
theorem z_uu {σ : z_G} {a k : Nat} {x y : Int32} : z_ui (z_ui σ a k x) a k y = z_ui σ a k y := by
  unfold z_ui
  refine Prod.ext (funext fun p => funext fun j => ?_) rfl
  dsimp only
  split <;> rfl
-- the spec of tokens
def skF (txt : Nat → Nat) : Nat → Nat → Nat
  | 0, s => s
  | d + 1, s => if txt s = 32 then skF txt d (s + 1) else s
def capF (x : Nat) : Nat := if 100 < x then 100 else x
def dgF (txt : Nat → Nat) : Nat → Nat → Nat → Nat × Nat
  | 0, s, v => (s, v)
  | d + 1, s, v => if 48 ≤ txt s ∧ txt s ≤ 57 then dgF txt d (s + 1) (capF (10 * v + txt s - 48)) else (s, v)
def tk1 (n : Nat) (txt : Nat → Nat) (b : Nat) : Nat × Nat × Nat × Nat :=
  if b < n then (if 48 ≤ txt b ∧ txt b ≤ 57 then (if 99 < (dgF txt (n - b) b 0).2 ∨ (txt b = 48 ∧ 1 < (dgF txt (n - b) b 0).1 - b) then 2 else 1, (dgF txt (n - b) b 0).2, b, (dgF txt (n - b) b 0).1) else (3 + txt b, 0, b, b + 1)) else (0, 0, b, b)
/-- the token at s: what it is (0 the end, 1 a number, 2 a wrong one, 3 and more a letter), the number, where it begins, where it ends -/
def tkF (n : Nat) (txt : Nat → Nat) (s : Nat) : Nat × Nat × Nat × Nat := tk1 n txt (skF txt (n - s) s)
def kcF (k : Nat) : Int32 := if k = 0 then -1 else if k = 1 then -2 else if k = 2 then -3 else if k - 3 = 110 ∨ k - 3 = 111 ∨ k - 3 = 109 ∨ k - 3 = 103 ∨ k - 3 = 59 then nI (k - 3) else -3
theorem sk_le (txt : Nat → Nat) : ∀ d s, s ≤ skF txt d s ∧ skF txt d s ≤ s + d
  | 0, s => ⟨Nat.le_refl _, Nat.le_refl _⟩
  | d + 1, s => by
    have h := sk_le txt d (s + 1)
    unfold skF
    split <;> omega
theorem cap_le (x : Nat) : capF x ≤ 100 := by unfold capF; split <;> omega
theorem dg_le (txt : Nat → Nat) : ∀ d s v, v ≤ 100 → (s ≤ (dgF txt d s v).1 ∧ (dgF txt d s v).1 ≤ s + d) ∧ (dgF txt d s v).2 ≤ 100
  | 0, s, v, h => ⟨⟨Nat.le_refl _, Nat.le_refl _⟩, h⟩
  | d + 1, s, v, h => by
    have h1 := dg_le txt d (s + 1) _ (cap_le (10 * v + txt s - 48))
    unfold dgF
    split
    · omega
    · exact ⟨⟨Nat.le_refl _, by omega⟩, h⟩
theorem dg_lt (txt : Nat → Nat) {d s v : Nat} (hd : 0 < d) (h : 48 ≤ txt s ∧ txt s ≤ 57) : s < (dgF txt d s v).1 := by
  cases d with
  | zero => omega
  | succ d =>
    have h1 := (dg_le txt d (s + 1) _ (cap_le (10 * v + txt s - 48))).1.1
    unfold dgF
    rw [if_pos h]
    omega
theorem tk_b (n : Nat) (txt : Nat → Nat) (s : Nat) : (tkF n txt s).2.2.1 = skF txt (n - s) s := by
  unfold tkF tk1
  split
  · split <;> rfl
  · rfl
theorem tk_ok {n : Nat} {txt : Nat → Nat} {s : Nat} (hs : s ≤ n) : (s ≤ (tkF n txt s).2.2.1 ∧ (tkF n txt s).2.2.1 ≤ n) ∧ ((tkF n txt s).1 ≠ 0 → s < (tkF n txt s).2.2.2 ∧ (tkF n txt s).2.2.2 ≤ n) ∧ ((tkF n txt s).1 = 0 → (tkF n txt s).2.2.1 = n ∧ (tkF n txt s).2.2.2 = n) ∧ ((tkF n txt s).1 ≠ 0 → (tkF n txt s).2.2.1 < n) ∧ ((tkF n txt s).1 = 1 → (tkF n txt s).2.1 < 100) := by
  have h1 := sk_le txt (n - s) s
  unfold tkF tk1
  generalize skF txt (n - s) s = b at *
  by_cases q : b < n
  · have h2 := dg_le txt (n - b) b 0 (by omega)
    rw [if_pos q]
    by_cases q2 : 48 ≤ txt b ∧ txt b ≤ 57
    · have h3 := dg_lt txt (v := 0) (show 0 < n - b by omega) q2
      rw [if_pos q2]
      dsimp only
      refine ⟨by omega, fun _ => by omega, fun e => ?_, fun _ => by omega, fun e => ?_⟩
      · split at e <;> omega
      · split at e
        · omega
        · rename_i h4
          omega
    · rw [if_neg q2]
      dsimp only
      omega
  · rw [if_neg q]
    dsimp only
    omega
/-- the class's reading state: at, place, kind, value -/
def tx (σ : z_G) (a p k v : Int32) : z_G := (fun q j => if q = 1 ∧ j = 2 then a else if q = 1 ∧ j = 3 then p else if q = 1 ∧ j = 4 then k else if q = 1 ∧ j = 5 then v else σ.1 q j, σ.2)
section TX
variable {σ : z_G} {a p k v x : Int32}
theorem tx_self : tx σ (σ.1 1 2) (σ.1 1 3) (σ.1 1 4) (σ.1 1 5) = σ := by
  unfold tx
  refine Prod.ext (funext fun q => funext fun j => ?_) rfl
  dsimp only
  split
  · rename_i h; rw [h.1, h.2]
  · split
    · rename_i h; rw [h.1, h.2]
    · split
      · rename_i h; rw [h.1, h.2]
      · split
        · rename_i h; rw [h.1, h.2]
        · rfl
theorem tx_u2 : z_ui (tx σ a p k v) 1 2 x = tx σ x p k v := by
  unfold tx z_ui
  refine Prod.ext (funext fun q => funext fun j => ?_) rfl
  dsimp only
  by_cases h : q = 1 ∧ j = 2
  · obtain ⟨rfl, rfl⟩ := h
    simp
  · simp only [h, if_false]
theorem tx_u3 : z_ui (tx σ a p k v) 1 3 x = tx σ a x k v := by
  unfold tx z_ui
  refine Prod.ext (funext fun q => funext fun j => ?_) rfl
  dsimp only
  by_cases h : q = 1 ∧ j = 3
  · obtain ⟨rfl, rfl⟩ := h
    simp
  · simp only [h, if_false]
theorem tx_u4 : z_ui (tx σ a p k v) 1 4 x = tx σ a p x v := by
  unfold tx z_ui
  refine Prod.ext (funext fun q => funext fun j => ?_) rfl
  dsimp only
  by_cases h : q = 1 ∧ j = 4
  · obtain ⟨rfl, rfl⟩ := h
    simp
  · simp only [h, if_false]
theorem tx_u5 : z_ui (tx σ a p k v) 1 5 x = tx σ a p k x := by
  unfold tx z_ui
  refine Prod.ext (funext fun q => funext fun j => ?_) rfl
  dsimp only
  by_cases h : q = 1 ∧ j = 5
  · obtain ⟨rfl, rfl⟩ := h
    simp
  · simp only [h, if_false]
theorem tx_2 : (tx σ a p k v).1 1 2 = a := by simp [tx]
theorem tx_3 : (tx σ a p k v).1 1 3 = p := by simp [tx]
theorem tx_4 : (tx σ a p k v).1 1 4 = k := by simp [tx]
theorem tx_5 : (tx σ a p k v).1 1 5 = v := by simp [tx]
theorem tx_1 : (tx σ a p k v).1 1 1 = σ.1 1 1 := by simp [tx]
def Qt (p k : Nat) : Prop := ¬ (p = 1 ∧ 2 ≤ k)
theorem tx_sf : z_sf Qt σ (tx σ a p k v) := fun q j h => ⟨by
  unfold Qt at h
  unfold tx
  dsimp only
  rw [if_neg (by omega), if_neg (by omega), if_neg (by omega), if_neg (by omega)], rfl⟩
theorem T_sf {Q : Nat → Nat → Prop} {τ : z_G} {n : Nat} {txt : Nat → Nat} (h : T_at σ n txt) (hs : z_sf Q σ τ) (hQ : Q 1 1 ∧ ∀ k, Q 2 k) : T_at τ n txt :=
  ⟨h.1, ((hs _ _ hQ.1).1).trans h.2.1, fun j hj => ⟨((hs _ _ (hQ.2 j)).1).trans (h.2.2 j hj).1, (h.2.2 j hj).2⟩⟩
theorem tx_T {n : Nat} {txt : Nat → Nat} (h : T_at σ n txt) : T_at (tx σ a p k v) n txt := T_sf h tx_sf ⟨by unfold Qt; omega, fun k => by unfold Qt; omega⟩
end TX
section TEXT
variable {σ : z_G} {n : Nat} {txt : Nat → Nat}
theorem s46 : z_call 46 [.ref 1] (z_enc σ) = some (none, z_enc (z_ui σ 1 1 0)) := by
  simp only [en46, e46_0, e46_1, e46_2, e46_5, p1_1]
theorem s47 (hT : T_at σ n txt) {x : Nat} : z_call 47 [.ref 1, .int (nI x)] (z_enc σ) = if n < 120 then some (some (.int 1), z_enc (z_ui (z_ui σ 2 n (nI x)) 1 1 (nI (n + 1)))) else some (some (.int 0), z_enc σ) := by
  have hn := hT.1
  by_cases q : n < 120
  · have t1 : (nI n < 120) = True := eq_true (nI_lt q (by decide))
    have e1 : (z_ui σ 2 n (nI x)).1 1 1 = nI n := (z_ui_ne (by omega)).trans hT.2.1
    rw [if_pos q]
    simp only [en47, e47_0, e47_1, e47_4, e47_6, e47_9, e47_10, e47_11, e47_12, e47_15, e47_16, e47_19, e47_20, e47_23, e47_24, e47_25, e47_28, e47_29, e47_30, e47_33, e47_34, g1_1, hT.2.1, t1, if_true, g1_0, s96 an2 q (by decide), z_bd_i, z_bd_l, z_bd_v, List.cons_append, List.nil_append, z_nk_i, z_nk_r, z_nk_n, v0, v1, v3, v19, v61, v71, v76, e1, nI_1, p1_1, z_b_ok1]
  · have t1 : (nI n < 120) = False := eq_false (nI_nlt (a := n) (b := 120) (by omega) (by omega))
    rw [if_neg q]
    simp only [en47, e47_0, e47_1, e47_4, e47_6, e47_9, e47_10, e47_11, e47_12, e47_15, e47_16, e47_19, e47_20, e47_23, e47_24, e47_25, e47_28, e47_29, e47_30, e47_33, e47_34, g1_1, hT.2.1, t1, if_false, z_b_ok0, if_true]
theorem s59 (hT : T_at σ n txt) {x : Nat} (hx : x < 256) : z_call 59 [.ref 0, .int (nI x)] (z_enc σ) = if n < 120 then some (some (.int (nI (n + 1))), z_enc (z_ui (z_ui σ 2 n (nI x)) 1 1 (nI (n + 1)))) else some (some (.int (-3)), z_enc σ) := by
  have b1 : (nI x < 0) = False := eq_false (nI_pos (by omega))
  have b2 : ((255 : Int32) < nI x) = False := eq_false (nI_nlt (a := 255) (b := x) (by omega) (by decide))
  have o1 : ((1 : Int32) = 0) = False := by decide
  by_cases q : n < 120
  · simp only [en59, e59_0, e59_1, e59_4, e59_5, e59_8, e59_11, e59_12, e59_13, e59_14, e59_17, e59_18, e59_21, e59_24, e59_25, e59_28, e59_31, e59_34, e59_36, b1, b2, if_false, g0_0, v1, s47 hT, q, if_true, z_bd_i, z_bd_l, z_bd_v, List.cons_append, List.nil_append, z_nk_i, z_nk_r, z_nk_n, v0, v1, v3, v19, v61, v71, v76, o1, g1_1, z_ui_eq]
  · simp only [en59, e59_0, e59_1, e59_4, e59_5, e59_8, e59_11, e59_12, e59_13, e59_14, e59_17, e59_18, e59_21, e59_24, e59_25, e59_28, e59_31, e59_34, e59_36, b1, b2, if_false, g0_0, v1, s47 hT, q, if_true, z_bd_i, z_bd_l, z_bd_v, List.cons_append, List.nil_append, z_nk_i, z_nk_r, z_nk_n, v0, v1, v3, v19, v61, v71, v76]
theorem s59b {x : Int32} (hb : ¬ (¬ x < 0 ∧ ¬ 255 < x)) : z_call 59 [.ref 0, .int x] (z_enc σ) = some (some (.int (-1)), z_enc σ) := by
  by_cases h1 : x < 0
  · simp only [en59, e59_0, e59_1, e59_4, e59_5, e59_8, e59_11, e59_12, e59_13, e59_14, e59_17, e59_18, e59_21, e59_24, e59_25, e59_28, e59_31, e59_34, e59_36, eq_true h1, if_true]
  · have h2 : 255 < x := Classical.byContradiction fun q => hb ⟨h1, q⟩
    simp only [en59, e59_0, e59_1, e59_4, e59_5, e59_8, e59_11, e59_12, e59_13, e59_14, e59_17, e59_18, e59_21, e59_24, e59_25, e59_28, e59_31, e59_34, e59_36, eq_false h1, eq_true h2, if_false, if_true]
theorem s60 (hT : T_at σ n txt) : z_call 60 [.ref 0] (z_enc σ) = some (some (.int (nI n)), z_enc (z_ui σ 1 1 0)) := by
  simp only [en60, e60_0, e60_1, e60_4, e60_7, e60_8, e60_9, e60_12, e60_15, e60_16, g0_0, g1_1, hT.2.1, v1, s46, z_bd_i, z_bd_l, z_bd_v, List.cons_append, List.nil_append, z_nk_i, z_nk_r, z_nk_n, v0, v1, v3, v19, v61, v71, v76]
theorem s120 (hT : TM_at σ n txt) {x : Nat} (hx : x < 256) : z_call 120 [.ref 76, .int (nI x)] (z_enc σ) = if n < 120 then some (some (.int (nI (n + 1))), z_enc (z_ui (z_ui σ 77 n (nI x)) 76 0 (nI (n + 1)))) else some (some (.int (-3)), z_enc σ) := by
  have hn := hT.1
  have b1 : (¬ nI x < 0 ∧ ¬ (255 : Int32) < nI x) = True := eq_true ⟨nI_pos (by omega), nI_nlt (a := 255) (b := x) (by omega) (by decide)⟩
  have e2 : (nI n = 120) = (n = 120) := propext (nI_eq (b := 120) (by omega) (by decide))
  by_cases q : n < 120
  · have q2 : ¬ n = 120 := by omega
    have e1 : (z_ui σ 77 n (nI x)).1 76 0 = nI n := (z_ui_ne (by omega)).trans hT.2.1
    rw [if_pos q]
    simp only [en120, e120_0, e120_1, e120_2, e120_5, e120_8, e120_11, e120_12, e120_13, e120_14, e120_17, e120_19, e120_22, e120_24, e120_25, e120_26, e120_29, e120_30, e120_33, e120_34, e120_35, e120_36, e120_37, e120_40, e120_41, e120_42, e120_45, e120_46, e120_49, s115, z_bd_i, z_bd_l, z_bd_v, List.cons_append, List.nil_append, z_nk_i, z_nk_r, z_nk_n, v0, v1, v3, v19, v61, v71, v76, z_b_0, b1, not_true, if_false, g76_0, hT.2.1, e2, eq_false q2, g76_1, g_isn an77 q (by decide), e1, nI_1, p76_0, z_ui_eq]
  · have q2 : n = 120 := by omega
    rw [if_neg q]
    simp only [en120, e120_0, e120_1, e120_2, e120_5, e120_8, e120_11, e120_12, e120_13, e120_14, e120_17, e120_19, e120_22, e120_24, e120_25, e120_26, e120_29, e120_30, e120_33, e120_34, e120_35, e120_36, e120_37, e120_40, e120_41, e120_42, e120_45, e120_46, e120_49, s115, z_bd_i, z_bd_l, z_bd_v, List.cons_append, List.nil_append, z_nk_i, z_nk_r, z_nk_n, v0, v1, v3, v19, v61, v71, v76, z_b_0, b1, not_true, if_false, g76_0, hT.2.1, e2, eq_true q2, if_true]
theorem s120b {x : Int32} (hb : ¬ (¬ x < 0 ∧ ¬ 255 < x)) : z_call 120 [.ref 76, .int x] (z_enc σ) = some (some (.int (-1)), z_enc σ) := by
  simp only [en120, e120_0, e120_1, e120_2, e120_5, e120_8, e120_11, e120_12, e120_13, e120_14, e120_17, e120_19, e120_22, e120_24, e120_25, e120_26, e120_29, e120_30, e120_33, e120_34, e120_35, e120_36, e120_37, e120_40, e120_41, e120_42, e120_45, e120_46, e120_49, s115, z_bd_i, z_bd_l, z_bd_v, List.cons_append, List.nil_append, z_nk_i, z_nk_r, z_nk_n, v0, v1, v3, v19, v61, v71, v76, z_b_0, eq_false hb, not_false_iff, if_true]
theorem s121 (hT : TM_at σ n txt) : z_call 121 [.ref 76] (z_enc σ) = some (some (.int (nI n)), z_enc (z_ui σ 76 0 0)) := by
  simp only [en121, e121_0, e121_1, e121_4, e121_5, e121_6, e121_7, e121_10, e121_11, g76_0, hT.2.1, p76_0]
-- the class's tokens
theorem s49i (hT : T_at σ n txt) {i : Nat} (hi : i < n) : z_call 49 [.ref 1, .int (nI i)] (z_enc σ) = some (some (.int (nI (txt i))), z_enc σ) := by
  have hn := hT.1
  have t1 : (nI i < nI n) = True := eq_true (nI_lt hi (by omega))
  simp only [en49, e49_0, e49_1, e49_2, e49_5, e49_8, e49_9, e49_12, e49_13, e49_16, e49_19, e49_20, g1_1, hT.2.1, t1, if_true, g1_0, s95 an2 (show i < 120 by omega) (by decide), z_bd_i, z_bd_l, z_bd_v, List.cons_append, List.nil_append, z_nk_i, z_nk_r, z_nk_n, v0, v1, v3, v19, v61, v71, v76, (hT.2.2 i hi).1]
theorem s49o (hT : T_at σ n txt) {i : Nat} (hi : ¬ i < n) (h2 : i < 1000) : z_call 49 [.ref 1, .int (nI i)] (z_enc σ) = some (some (.int (-1)), z_enc σ) := by
  have t1 : (nI i < nI n) = False := eq_false (nI_nlt (by omega) (by omega))
  simp only [en49, e49_0, e49_1, e49_2, e49_5, e49_8, e49_9, e49_12, e49_13, e49_16, e49_19, e49_20, g1_1, hT.2.1, t1, if_false]
theorem s52 (x : Int32) (ph : z_H) : z_call 52 [.int x] ph = some (some (.int (z_b (¬ x < 48 ∧ ¬ 57 < x))), ph) := by
  simp only [en52, e52_0, e52_1, e52_3, e52_6, e52_7, e52_9, e52_12, e52_13, e52_16, e52_17]
  by_cases h1 : x < 48 <;> by_cases h2 : 57 < x <;> simp only [h1, h2, if_true, if_false, z_b_ok0, z_b_ok1, z_b, not_true, not_false_iff, and_self, and_true, true_and, and_false, false_and]
theorem s53 (x : Int32) (ph : z_H) : z_call 53 [.int x] ph = some (some (.int (z_b (x = 110 ∨ x = 111 ∨ x = 109 ∨ x = 103 ∨ x = 59))), ph) := by
  simp only [en53, e53_0, e53_1, e53_3, e53_6, e53_7, e53_9, e53_12, e53_13, e53_15, e53_18, e53_19, e53_21, e53_24, e53_25, e53_27, e53_30, e53_31, e53_34, e53_35]
  by_cases h1 : x = 110
  · simp only [eq_true h1, if_true, z_b_ok1, z_b, true_or]
  · by_cases h2 : x = 111
    · simp only [eq_false h1, eq_true h2, if_true, if_false, z_b_ok1, z_b, true_or, or_true]
    · by_cases h3 : x = 109
      · simp only [eq_false h1, eq_false h2, eq_true h3, if_true, if_false, z_b_ok1, z_b, true_or, or_true]
      · by_cases h4 : x = 103
        · simp only [eq_false h1, eq_false h2, eq_false h3, eq_true h4, if_true, if_false, z_b_ok1, z_b, true_or, or_true]
        · by_cases h5 : x = 59
          · simp only [eq_false h1, eq_false h2, eq_false h3, eq_false h4, eq_true h5, if_true, if_false, z_b_ok1, z_b, or_true]
          · simp only [eq_false h1, eq_false h2, eq_false h3, eq_false h4, eq_false h5, if_true, if_false, z_b_ok0, z_b, or_self]
theorem dig_ok {c : Nat} (hc : c < 256) : (¬ nI c < 48 ∧ ¬ (57 : Int32) < nI c) = (48 ≤ c ∧ c ≤ 57) := by
  have h1 : (nI c < 48) = (c < 48) := propext (nI_ltI (b := 48) (by omega) (by decide))
  have h2 : ((57 : Int32) < nI c) = (57 < c) := propext (nI_ltI (a := 57) (by decide) (by omega))
  rw [h1, h2]
  apply propext
  omega
theorem cap_ok {v c : Nat} (hv : v ≤ 100) (hc : 48 ≤ c ∧ c ≤ 57) : (if (100 : Int32) < 10 * nI v + nI c - 48 then 100 else 10 * nI v + nI c - 48) = nI (capF (10 * v + c - 48)) := by
  have a1 : (10 : Int32) * nI v + nI c - 48 = nI (10 * v + c - 48) := by rw [l_10, l_48, pk_mul, nI_add, pk_sub (by omega)]
  have a2 : (100 : Int32) < nI (10 * v + c - 48) ↔ 100 < 10 * v + c - 48 := nI_ltI (a := 100) (by decide) (by omega)
  rw [a1]
  unfold capF
  by_cases q : 100 < 10 * v + c - 48
  · rw [if_pos (a2.mpr q), if_pos q]
    rfl
  · rw [if_neg (fun h => q (a2.mp h)), if_neg q]
theorem l51 (hT : T_at σ n txt) (p k : Int32) (l1 : Option Value) : ∀ d s v, d + s = n → v ≤ 100 → z_r [] 0 0 51 5 [some (.ref 1), l1] [] (z_enc (tx σ (nI s) p k (nI v))) = z_r [] 0 0 51 71 [some (.ref 1), l1] [] (z_enc (tx σ (nI (dgF txt d s v).1) p k (nI (dgF txt d s v).2))) := by
  have hn := hT.1
  intro d
  induction d with
  | zero =>
    intro s v hd hv
    have b1 : (nI s < nI n) = False := eq_false (nI_nlt (by omega) (by omega))
    rw [e51_5]
    simp only [e51_0, e51_1, e51_2, e51_6, e51_9, e51_10, e51_13, e51_16, e51_17, e51_18, e51_21, e51_24, e51_27, e51_30, e51_31, e51_33, e51_34, e51_37, e51_38, e51_39, e51_40, e51_43, e51_46, e51_47, e51_49, e51_50, e51_52, e51_55, e51_58, e51_59, e51_60, e51_63, e51_64, e51_65, e51_68, e51_72, e51_73, e51_76, e51_79, e51_81, e51_84, e51_85, e51_88, e51_89, e51_92, e51_93, e51_94, e51_97, e51_98, e51_101, e51_102, e51_103, e51_104, e51_105, e51_108, e51_110, e51_113, e51_114, e51_117, e51_119, e51_122, e51_124, e51_127, g1_2, tx_2, g1_1, tx_1, hT.2.1, b1, if_false, dgF]
  | succ d ih =>
    intro s v hd hv
    have hs : s < n := by omega
    have b1 : (nI s < nI n) = True := eq_true (nI_lt hs (by omega))
    have hc := (hT.2.2 s hs).2
    rw [e51_5]
    by_cases q : 48 ≤ txt s ∧ txt s ≤ 57
    · have e := ih (s + 1) _ (by omega) (cap_le (10 * v + txt s - 48))
      simp only [e51_0, e51_1, e51_2, e51_6, e51_9, e51_10, e51_13, e51_16, e51_17, e51_18, e51_21, e51_24, e51_27, e51_30, e51_31, e51_33, e51_34, e51_37, e51_38, e51_39, e51_40, e51_43, e51_46, e51_47, e51_49, e51_50, e51_52, e51_55, e51_58, e51_59, e51_60, e51_63, e51_64, e51_65, e51_68, e51_72, e51_73, e51_76, e51_79, e51_81, e51_84, e51_85, e51_88, e51_89, e51_92, e51_93, e51_94, e51_97, e51_98, e51_101, e51_102, e51_103, e51_104, e51_105, e51_108, e51_110, e51_113, e51_114, e51_117, e51_119, e51_122, e51_124, e51_127, g1_2, tx_2, g1_1, tx_1, hT.2.1, b1, if_true, v1, s49i (tx_T hT) hs, z_bd_i, z_bd_l, z_bd_v, List.cons_append, List.nil_append, z_nk_i, z_nk_r, z_nk_n, v0, v1, v3, v19, v61, v71, v76, s52, z_b_0, dig_ok hc, eq_true q, not_true, if_false, g1_5, tx_5, cap_ok hv q, p1_5, tx_u5, p1_2, tx_u2, nI_1, dgF]
      exact e
    · simp only [e51_0, e51_1, e51_2, e51_6, e51_9, e51_10, e51_13, e51_16, e51_17, e51_18, e51_21, e51_24, e51_27, e51_30, e51_31, e51_33, e51_34, e51_37, e51_38, e51_39, e51_40, e51_43, e51_46, e51_47, e51_49, e51_50, e51_52, e51_55, e51_58, e51_59, e51_60, e51_63, e51_64, e51_65, e51_68, e51_72, e51_73, e51_76, e51_79, e51_81, e51_84, e51_85, e51_88, e51_89, e51_92, e51_93, e51_94, e51_97, e51_98, e51_101, e51_102, e51_103, e51_104, e51_105, e51_108, e51_110, e51_113, e51_114, e51_117, e51_119, e51_122, e51_124, e51_127, g1_2, tx_2, g1_1, tx_1, hT.2.1, b1, if_true, v1, s49i (tx_T hT) hs, z_bd_i, z_bd_l, z_bd_v, List.cons_append, List.nil_append, z_nk_i, z_nk_r, z_nk_n, v0, v1, v3, v19, v61, v71, v76, s52, z_b_0, dig_ok hc, eq_false q, not_false_iff, if_false, dgF]
theorem s51 (hT : T_at σ n txt) {b : Nat} (hb : b < n) (hd : 48 ≤ txt b ∧ txt b ≤ 57) (k v : Int32) : z_call 51 [.ref 1] (z_enc (tx σ (nI b) (nI b) k v)) = some (none, z_enc (tx σ (nI (dgF txt (n - b) b 0).1) (nI b) (if 99 < (dgF txt (n - b) b 0).2 ∨ (txt b = 48 ∧ 1 < (dgF txt (n - b) b 0).1 - b) then -3 else -2) (nI (dgF txt (n - b) b 0).2))) := by
  have hn := hT.1
  have e := l51 hT (nI b) k none (n - b) b 0 (by omega) (by omega)
  have h2 := dg_le txt (n - b) b 0 (by omega)
  have z0 : (0 : Int32) = nI 0 := rfl
  simp only [en51, e51_0, e51_1, e51_2, e51_6, e51_9, e51_10, e51_13, e51_16, e51_17, e51_18, e51_21, e51_24, e51_27, e51_30, e51_31, e51_33, e51_34, e51_37, e51_38, e51_39, e51_40, e51_43, e51_46, e51_47, e51_49, e51_50, e51_52, e51_55, e51_58, e51_59, e51_60, e51_63, e51_64, e51_65, e51_68, e51_72, e51_73, e51_76, e51_79, e51_81, e51_84, e51_85, e51_88, e51_89, e51_92, e51_93, e51_94, e51_97, e51_98, e51_101, e51_102, e51_103, e51_104, e51_105, e51_108, e51_110, e51_113, e51_114, e51_117, e51_119, e51_122, e51_124, e51_127, p1_5, tx_u5, z0]
  rw [e, e51_71]
  generalize (dgF txt (n - b) b 0).1 = s1 at *
  generalize (dgF txt (n - b) b 0).2 = v1' at *
  have b1 : (nI (txt b) = 48) = (txt b = 48) := propext (nI_eq (b := 48) (by omega) (by decide))
  have b2 : nI s1 - nI b = nI (s1 - b) := pk_sub (by omega)
  have b3 : ((1 : Int32) < nI (s1 - b)) = (1 < s1 - b) := propext (nI_ltI (a := 1) (by decide) (by omega))
  have b4 : ((99 : Int32) < nI v1') = (99 < v1') := propext (nI_ltI (a := 99) (by decide) (by omega))
  have o1 : ((1 : Int32) = 0) = False := by decide
  have o0 : (nI 0 = 0) = True := by decide
  have o2 : ((0 : Int32) = 0) = True := by decide
  by_cases q1 : txt b = 48
  · by_cases q2 : 1 < s1 - b
    · by_cases q3 : 99 < v1'
      · simp only [e51_0, e51_1, e51_2, e51_6, e51_9, e51_10, e51_13, e51_16, e51_17, e51_18, e51_21, e51_24, e51_27, e51_30, e51_31, e51_33, e51_34, e51_37, e51_38, e51_39, e51_40, e51_43, e51_46, e51_47, e51_49, e51_50, e51_52, e51_55, e51_58, e51_59, e51_60, e51_63, e51_64, e51_65, e51_68, e51_72, e51_73, e51_76, e51_79, e51_81, e51_84, e51_85, e51_88, e51_89, e51_92, e51_93, e51_94, e51_97, e51_98, e51_101, e51_102, e51_103, e51_104, e51_105, e51_108, e51_110, e51_113, e51_114, e51_117, e51_119, e51_122, e51_124, e51_127, g1_3, tx_3, v1, s49i (tx_T hT) hb, z_bd_i, z_bd_l, z_bd_v, List.cons_append, List.nil_append, z_nk_i, z_nk_r, z_nk_n, v0, v1, v3, v19, v61, v71, v76, b1, eq_true q1, if_true, g1_2, tx_2, b2, b3, eq_true q2, g1_5, tx_5, b4, eq_true q3, p1_4, tx_u4, and_self, or_self]
      · simp only [e51_0, e51_1, e51_2, e51_6, e51_9, e51_10, e51_13, e51_16, e51_17, e51_18, e51_21, e51_24, e51_27, e51_30, e51_31, e51_33, e51_34, e51_37, e51_38, e51_39, e51_40, e51_43, e51_46, e51_47, e51_49, e51_50, e51_52, e51_55, e51_58, e51_59, e51_60, e51_63, e51_64, e51_65, e51_68, e51_72, e51_73, e51_76, e51_79, e51_81, e51_84, e51_85, e51_88, e51_89, e51_92, e51_93, e51_94, e51_97, e51_98, e51_101, e51_102, e51_103, e51_104, e51_105, e51_108, e51_110, e51_113, e51_114, e51_117, e51_119, e51_122, e51_124, e51_127, g1_3, tx_3, v1, s49i (tx_T hT) hb, z_bd_i, z_bd_l, z_bd_v, List.cons_append, List.nil_append, z_nk_i, z_nk_r, z_nk_n, v0, v1, v3, v19, v61, v71, v76, b1, eq_true q1, if_true, g1_2, tx_2, b2, b3, eq_true q2, g1_5, tx_5, b4, eq_false q3, if_false, o1, p1_4, tx_u4, and_self, or_true]
    · by_cases q3 : 99 < v1'
      · simp only [e51_0, e51_1, e51_2, e51_6, e51_9, e51_10, e51_13, e51_16, e51_17, e51_18, e51_21, e51_24, e51_27, e51_30, e51_31, e51_33, e51_34, e51_37, e51_38, e51_39, e51_40, e51_43, e51_46, e51_47, e51_49, e51_50, e51_52, e51_55, e51_58, e51_59, e51_60, e51_63, e51_64, e51_65, e51_68, e51_72, e51_73, e51_76, e51_79, e51_81, e51_84, e51_85, e51_88, e51_89, e51_92, e51_93, e51_94, e51_97, e51_98, e51_101, e51_102, e51_103, e51_104, e51_105, e51_108, e51_110, e51_113, e51_114, e51_117, e51_119, e51_122, e51_124, e51_127, g1_3, tx_3, v1, s49i (tx_T hT) hb, z_bd_i, z_bd_l, z_bd_v, List.cons_append, List.nil_append, z_nk_i, z_nk_r, z_nk_n, v0, v1, v3, v19, v61, v71, v76, b1, eq_true q1, if_true, g1_2, tx_2, b2, b3, eq_false q2, if_false, g1_5, tx_5, b4, eq_true q3, p1_4, tx_u4, and_false, or_false, z0]
      · simp only [e51_0, e51_1, e51_2, e51_6, e51_9, e51_10, e51_13, e51_16, e51_17, e51_18, e51_21, e51_24, e51_27, e51_30, e51_31, e51_33, e51_34, e51_37, e51_38, e51_39, e51_40, e51_43, e51_46, e51_47, e51_49, e51_50, e51_52, e51_55, e51_58, e51_59, e51_60, e51_63, e51_64, e51_65, e51_68, e51_72, e51_73, e51_76, e51_79, e51_81, e51_84, e51_85, e51_88, e51_89, e51_92, e51_93, e51_94, e51_97, e51_98, e51_101, e51_102, e51_103, e51_104, e51_105, e51_108, e51_110, e51_113, e51_114, e51_117, e51_119, e51_122, e51_124, e51_127, g1_3, tx_3, v1, s49i (tx_T hT) hb, z_bd_i, z_bd_l, z_bd_v, List.cons_append, List.nil_append, z_nk_i, z_nk_r, z_nk_n, v0, v1, v3, v19, v61, v71, v76, b1, eq_true q1, if_true, g1_2, tx_2, b2, b3, eq_false q2, if_false, g1_5, tx_5, b4, eq_false q3, o2, p1_4, tx_u4, and_false, or_false]
  · by_cases q3 : 99 < v1'
    · simp only [e51_0, e51_1, e51_2, e51_6, e51_9, e51_10, e51_13, e51_16, e51_17, e51_18, e51_21, e51_24, e51_27, e51_30, e51_31, e51_33, e51_34, e51_37, e51_38, e51_39, e51_40, e51_43, e51_46, e51_47, e51_49, e51_50, e51_52, e51_55, e51_58, e51_59, e51_60, e51_63, e51_64, e51_65, e51_68, e51_72, e51_73, e51_76, e51_79, e51_81, e51_84, e51_85, e51_88, e51_89, e51_92, e51_93, e51_94, e51_97, e51_98, e51_101, e51_102, e51_103, e51_104, e51_105, e51_108, e51_110, e51_113, e51_114, e51_117, e51_119, e51_122, e51_124, e51_127, g1_3, tx_3, v1, s49i (tx_T hT) hb, z_bd_i, z_bd_l, z_bd_v, List.cons_append, List.nil_append, z_nk_i, z_nk_r, z_nk_n, v0, v1, v3, v19, v61, v71, v76, b1, eq_false q1, if_false, g1_5, tx_5, b4, eq_true q3, if_true, p1_4, tx_u4, false_and, or_false]
    · simp only [e51_0, e51_1, e51_2, e51_6, e51_9, e51_10, e51_13, e51_16, e51_17, e51_18, e51_21, e51_24, e51_27, e51_30, e51_31, e51_33, e51_34, e51_37, e51_38, e51_39, e51_40, e51_43, e51_46, e51_47, e51_49, e51_50, e51_52, e51_55, e51_58, e51_59, e51_60, e51_63, e51_64, e51_65, e51_68, e51_72, e51_73, e51_76, e51_79, e51_81, e51_84, e51_85, e51_88, e51_89, e51_92, e51_93, e51_94, e51_97, e51_98, e51_101, e51_102, e51_103, e51_104, e51_105, e51_108, e51_110, e51_113, e51_114, e51_117, e51_119, e51_122, e51_124, e51_127, g1_3, tx_3, v1, s49i (tx_T hT) hb, z_bd_i, z_bd_l, z_bd_v, List.cons_append, List.nil_append, z_nk_i, z_nk_r, z_nk_n, v0, v1, v3, v19, v61, v71, v76, b1, eq_false q1, if_false, g1_5, tx_5, b4, eq_false q3, o2, if_true, p1_4, tx_u4, false_and, or_false]
theorem l50 (hT : T_at σ n txt) (p k v : Int32) (l1 : Option Value) : ∀ d s, d + s = n → z_r [] 0 0 50 0 [some (.ref 1), l1] [] (z_enc (tx σ (nI s) p k v)) = z_r [] 0 0 50 37 [some (.ref 1), l1] [] (z_enc (tx σ (nI (skF txt d s)) p k v)) := by
  have hn := hT.1
  intro d
  induction d with
  | zero =>
    intro s hd
    have b1 : (nI s < nI n) = False := eq_false (nI_nlt (by omega) (by omega))
    rw [e50_0]
    simp only [e50_1, e50_4, e50_5, e50_8, e50_11, e50_12, e50_13, e50_16, e50_19, e50_21, e50_24, e50_25, e50_26, e50_29, e50_30, e50_31, e50_34, e50_38, e50_39, e50_42, e50_45, e50_46, e50_47, e50_50, e50_53, e50_54, e50_55, e50_58, e50_61, e50_62, e50_65, e50_66, e50_67, e50_68, e50_71, e50_72, e50_73, e50_76, e50_77, e50_78, e50_79, e50_82, e50_83, e50_86, e50_89, e50_90, e50_93, e50_95, e50_98, g1_2, tx_2, g1_1, tx_1, hT.2.1, b1, if_false, skF]
  | succ d ih =>
    intro s hd
    have hs : s < n := by omega
    have b1 : (nI s < nI n) = True := eq_true (nI_lt hs (by omega))
    have hc := (hT.2.2 s hs).2
    have b2 : (nI (txt s) = 32) = (txt s = 32) := propext (nI_eq (b := 32) (by omega) (by decide))
    rw [e50_0]
    by_cases q : txt s = 32
    · have e := ih (s + 1) (by omega)
      simp only [e50_1, e50_4, e50_5, e50_8, e50_11, e50_12, e50_13, e50_16, e50_19, e50_21, e50_24, e50_25, e50_26, e50_29, e50_30, e50_31, e50_34, e50_38, e50_39, e50_42, e50_45, e50_46, e50_47, e50_50, e50_53, e50_54, e50_55, e50_58, e50_61, e50_62, e50_65, e50_66, e50_67, e50_68, e50_71, e50_72, e50_73, e50_76, e50_77, e50_78, e50_79, e50_82, e50_83, e50_86, e50_89, e50_90, e50_93, e50_95, e50_98, g1_2, tx_2, g1_1, tx_1, hT.2.1, b1, if_true, v1, s49i (tx_T hT) hs, z_bd_i, z_bd_l, z_bd_v, List.cons_append, List.nil_append, z_nk_i, z_nk_r, z_nk_n, v0, v1, v3, v19, v61, v71, v76, b2, eq_true q, p1_2, tx_u2, nI_1, skF]
      exact e
    · simp only [e50_1, e50_4, e50_5, e50_8, e50_11, e50_12, e50_13, e50_16, e50_19, e50_21, e50_24, e50_25, e50_26, e50_29, e50_30, e50_31, e50_34, e50_38, e50_39, e50_42, e50_45, e50_46, e50_47, e50_50, e50_53, e50_54, e50_55, e50_58, e50_61, e50_62, e50_65, e50_66, e50_67, e50_68, e50_71, e50_72, e50_73, e50_76, e50_77, e50_78, e50_79, e50_82, e50_83, e50_86, e50_89, e50_90, e50_93, e50_95, e50_98, g1_2, tx_2, g1_1, tx_1, hT.2.1, b1, if_true, v1, s49i (tx_T hT) hs, z_bd_i, z_bd_l, z_bd_v, List.cons_append, List.nil_append, z_nk_i, z_nk_r, z_nk_n, v0, v1, v3, v19, v61, v71, v76, b2, eq_false q, if_false, skF]
theorem s50 (hT : T_at σ n txt) {s : Nat} (hs : s ≤ n) (p k v : Int32) : z_call 50 [.ref 1] (z_enc (tx σ (nI s) p k v)) = some (none, z_enc (tx σ (nI (if (tkF n txt s).1 = 0 then n + 1 else (tkF n txt s).2.2.2)) (nI (tkF n txt s).2.2.1) (kcF (tkF n txt s).1) (if (tkF n txt s).1 = 1 ∨ (tkF n txt s).1 = 2 then nI (tkF n txt s).2.1 else v))) := by
  have hn := hT.1
  have e := l50 hT p k v none (n - s) s (by omega)
  have h1 := sk_le txt (n - s) s
  rw [en50, e, e50_37]
  unfold tkF
  generalize skF txt (n - s) s = b at *
  have m1 : (¬ (-1 : Int32) < 48 ∧ ¬ (57 : Int32) < -1) = False := by decide
  have m2 : ((-1 : Int32) = -1) = True := by decide
  unfold tk1
  by_cases q : b < n
  · have hc := (hT.2.2 b q).2
    rw [if_pos q]
    by_cases q2 : 48 ≤ txt b ∧ txt b ≤ 57
    · rw [if_pos q2]
      simp only [e50_1, e50_4, e50_5, e50_8, e50_11, e50_12, e50_13, e50_16, e50_19, e50_21, e50_24, e50_25, e50_26, e50_29, e50_30, e50_31, e50_34, e50_38, e50_39, e50_42, e50_45, e50_46, e50_47, e50_50, e50_53, e50_54, e50_55, e50_58, e50_61, e50_62, e50_65, e50_66, e50_67, e50_68, e50_71, e50_72, e50_73, e50_76, e50_77, e50_78, e50_79, e50_82, e50_83, e50_86, e50_89, e50_90, e50_93, e50_95, e50_98, g1_2, tx_2, p1_3, tx_u3, v1, s49i (tx_T hT) q, z_bd_i, z_bd_l, z_bd_v, List.cons_append, List.nil_append, z_nk_i, z_nk_r, z_nk_n, v0, v1, v3, v19, v61, v71, v76, s52, z_b_0, dig_ok hc, eq_true q2, not_true, if_false, s51 hT q q2]
      by_cases q3 : 99 < (dgF txt (n - b) b 0).2 ∨ (txt b = 48 ∧ 1 < (dgF txt (n - b) b 0).1 - b)
      · rw [if_pos q3, if_pos q3]
        rfl
      · rw [if_neg q3, if_neg q3]
        rfl
    · rw [if_neg q2]
      have b1 : (nI (txt b) = -1) = False := m_1 (by omega)
      have f1 : (nI (txt b) = 110) = (txt b = 110) := propext (nI_eq (b := 110) (by omega) (by decide))
      have f2 : (nI (txt b) = 111) = (txt b = 111) := propext (nI_eq (b := 111) (by omega) (by decide))
      have f3 : (nI (txt b) = 109) = (txt b = 109) := propext (nI_eq (b := 109) (by omega) (by decide))
      have f4 : (nI (txt b) = 103) = (txt b = 103) := propext (nI_eq (b := 103) (by omega) (by decide))
      have f5 : (nI (txt b) = 59) = (txt b = 59) := propext (nI_eq (b := 59) (by omega) (by decide))
      have c0 : ¬ 3 + txt b = 0 := by omega
      have c1 : ¬ (3 + txt b = 1 ∨ 3 + txt b = 2) := by omega
      have c2 : kcF (3 + txt b) = if txt b = 110 ∨ txt b = 111 ∨ txt b = 109 ∨ txt b = 103 ∨ txt b = 59 then nI (txt b) else -3 := by
        unfold kcF
        rw [if_neg c0, if_neg (by omega), if_neg (by omega), show 3 + txt b - 3 = txt b by omega]
      dsimp only
      rw [if_neg c0, if_neg c1, c2]
      by_cases q3 : txt b = 110 ∨ txt b = 111 ∨ txt b = 109 ∨ txt b = 103 ∨ txt b = 59
      · simp only [e50_1, e50_4, e50_5, e50_8, e50_11, e50_12, e50_13, e50_16, e50_19, e50_21, e50_24, e50_25, e50_26, e50_29, e50_30, e50_31, e50_34, e50_38, e50_39, e50_42, e50_45, e50_46, e50_47, e50_50, e50_53, e50_54, e50_55, e50_58, e50_61, e50_62, e50_65, e50_66, e50_67, e50_68, e50_71, e50_72, e50_73, e50_76, e50_77, e50_78, e50_79, e50_82, e50_83, e50_86, e50_89, e50_90, e50_93, e50_95, e50_98, g1_2, tx_2, p1_3, tx_u3, v1, s49i (tx_T hT) q, z_bd_i, z_bd_l, z_bd_v, List.cons_append, List.nil_append, z_nk_i, z_nk_r, z_nk_n, v0, v1, v3, v19, v61, v71, v76, s52, z_b_0, dig_ok hc, eq_false q2, not_false_iff, if_true, p1_2, tx_u2, nI_1, b1, if_false, s53, f1, f2, f3, f4, f5, eq_true q3, not_true, p1_4, tx_u4]
      · simp only [e50_1, e50_4, e50_5, e50_8, e50_11, e50_12, e50_13, e50_16, e50_19, e50_21, e50_24, e50_25, e50_26, e50_29, e50_30, e50_31, e50_34, e50_38, e50_39, e50_42, e50_45, e50_46, e50_47, e50_50, e50_53, e50_54, e50_55, e50_58, e50_61, e50_62, e50_65, e50_66, e50_67, e50_68, e50_71, e50_72, e50_73, e50_76, e50_77, e50_78, e50_79, e50_82, e50_83, e50_86, e50_89, e50_90, e50_93, e50_95, e50_98, g1_2, tx_2, p1_3, tx_u3, v1, s49i (tx_T hT) q, z_bd_i, z_bd_l, z_bd_v, List.cons_append, List.nil_append, z_nk_i, z_nk_r, z_nk_n, v0, v1, v3, v19, v61, v71, v76, s52, z_b_0, dig_ok hc, eq_false q2, not_false_iff, if_true, p1_2, tx_u2, nI_1, b1, if_false, s53, f1, f2, f3, f4, f5, eq_false q3, p1_4, tx_u4]
  · rw [if_neg q]
    obtain rfl : b = n := by omega
    simp only [e50_1, e50_4, e50_5, e50_8, e50_11, e50_12, e50_13, e50_16, e50_19, e50_21, e50_24, e50_25, e50_26, e50_29, e50_30, e50_31, e50_34, e50_38, e50_39, e50_42, e50_45, e50_46, e50_47, e50_50, e50_53, e50_54, e50_55, e50_58, e50_61, e50_62, e50_65, e50_66, e50_67, e50_68, e50_71, e50_72, e50_73, e50_76, e50_77, e50_78, e50_79, e50_82, e50_83, e50_86, e50_89, e50_90, e50_93, e50_95, e50_98, g1_2, tx_2, p1_3, tx_u3, v1, s49o (tx_T hT) q (show b < 1000 by omega), z_bd_i, z_bd_l, z_bd_v, List.cons_append, List.nil_append, z_nk_i, z_nk_r, z_nk_n, v0, v1, v3, v19, v61, v71, v76, s52, z_b_0, m1, not_false_iff, if_true, p1_2, tx_u2, nI_1, m2, p1_4, tx_u4, kcF, or_self, if_false, show ¬ (0 = 1) by decide, show ¬ (0 = 2) by decide]
end TEXT
