/-! ===== the law's helpers: what they read of the script ===== -/
theorem popn_s (x : Int32) (k : Nat) : nI (popn x k) + bI (bt x k) = nI (popn x (k + 1)) := by
  have e : popn x (k + 1) = if bt x k then popn x k + 1 else popn x k := rfl
  rw [e]
  cases h : bt x k
  · exact add0 _
  · exact nI_1 _
def fgt : List (Option Value) → List (Option Value) → Prop
  | [], [] => True
  | a :: l, b :: r => (b = none ∨ b = a) ∧ fgt l r
  | _, _ => False
theorem fgt_n : fgt [] [] := trivial
theorem fgt_c {a b : Option Value} {l r : List (Option Value)} (h : b = none ∨ b = a) (k : fgt l r) : fgt (a :: l) (b :: r) := ⟨h, k⟩
theorem fgt_nth : ∀ {l r : List (Option Value)} {j : Nat} {v : Value}, fgt l r → nth r j = some v → nth l j = some v
  | [], [], j, v, _, h => h
  | a :: l, b :: r, 0, v, hf, h => by
    rcases hf.1 with e | e
    · rw [e] at h; exact absurd h (by intro q; cases q)
    · rw [← h, e]; rfl
  | a :: l, b :: r, j + 1, v, hf, h => fgt_nth (l := l) (r := r) (j := j) hf.2 h
  | [], b :: r, j, v, hf, h => hf.elim
  | a :: l, [], j, v, hf, h => hf.elim
theorem fgt_len : ∀ {l r : List (Option Value)}, fgt l r → l.length = r.length
  | [], [], _ => rfl
  | a :: l, b :: r, hf => by rw [List.length_cons, List.length_cons, fgt_len hf.2]
  | [], b :: r, hf => hf.elim
  | a :: l, [], hf => hf.elim
theorem Lw.fg {X : XC} {pc : Nat} {ls ls' : List (Option Value)} {st : List Value} {σ : Mem} (hf : fgt ls ls') (kk : Lw X pc ls' st σ) : Lw X pc ls st σ := by
  obtain ⟨p, l, e, R, s, m, args, below, meth, c, cells, slots, Q, A, D, ad, cs, H0⟩ := X
  intro H locs lsA hP hS hl
  refine kk H locs lsA hP hS ?_
  rw [← fgt_len hf]
  refine lv_keep hl (fun q hq => ?_)
  obtain ⟨j, v, h1, h2⟩ := lvl_mem.mp hq
  exact lvl_mem.mpr ⟨j, v, fgt_nth hf h1, h2⟩
theorem Vw.fg {X : XC} {pc : Nat} {ls ls' : List (Option Value)} {st : List Value} {σ : Mem} (hf : fgt ls ls') (kk : Vw X pc ls' st σ) : Vw X pc ls st σ := by
  obtain ⟨p, l, e, R, s, m, args, below, meth, c, cells, slots, Q, A, D, ad, cs, H0⟩ := X
  intro H locs lsA hP hS hl
  refine kk H locs lsA hP hS ?_
  rw [← fgt_len hf]
  refine lv_keep hl (fun q hq => ?_)
  obtain ⟨j, v, h1, h2⟩ := lvl_mem.mp hq
  exact lvl_mem.mpr ⟨j, v, fgt_nth hf h1, h2⟩
/-- an int of the script, or what stands for it -/
def cellF (L : Nat) (xs : Nat → Int32) (k : Nat) : Int32 := if k < L then xs k else nI 1013904223 * (nI k + nI 1)
def lowN (v : Int32) (n : Nat) : Nat := tn (v &&& nI 2147483647) % n
theorem lowN_lt {v : Int32} {n : Nat} (h : 0 < n) : lowN v n < n := Nat.mod_lt _ h
theorem low_eq {v : Int32} {n : Nat} (h0 : 0 < n) (hn : n < 2 ^ 31) : (v &&& nI 2147483647) - (v &&& nI 2147483647) / nI n * nI n = nI (lowN v n) := by
  obtain ⟨j, hj, e⟩ := pk_andE v (m := nI 2147483647) 31 (by decide +kernel)
  unfold lowN
  rw [e, tn_nI hj, pk_rem hj h0 hn]
theorem nI_ne00 {n : Nat} (h0 : 0 < n) (hn : n < 2 ^ 31) : ¬ nI n = 0 := fun q => by
  have h9 := congrArg Int32.toInt q
  have h8 : (0 : Int32).toInt = 0 := (by decide +kernel)
  rw [nI_toInt hn, h8] at h9
  omega
/-- a set's things, its cost, how many sets -/
def thX (x : Int32) : Int32 := (((x >>> (nI 8 &&& 31)) &&& (x >>> (nI 16 &&& 31))) &&& nI 4095) ||| (nI 1 <<< (nI (lowN (x >>> (nI 4 &&& 31)) 12) &&& 31))
def thF (L : Nat) (xs : Nat → Int32) (k : Nat) : Int32 := thX (cellF L xs (1 + k))
def coN (L : Nat) (xs : Nat → Int32) (k : Nat) : Nat := 1 + lowN (cellF L xs (1 + k)) 40
def nsN (L : Nat) (xs : Nat → Int32) : Nat := 1 + lowN (cellF L xs 0) 9
theorem coN_le {L : Nat} {xs : Nat → Int32} {k : Nat} : 1 ≤ coN L xs k ∧ coN L xs k ≤ 40 := by
  have := lowN_lt (v := cellF L xs (1 + k)) (n := 40) (by decide)
  unfold coN
  omega
theorem nsN_le {L : Nat} {xs : Nat → Int32} : 1 ≤ nsN L xs ∧ nsN L xs ≤ 9 := by
  have := lowN_lt (v := cellF L xs 0) (n := 9) (by decide)
  unfold nsN
  omega
theorem b_4095 (i : Nat) : bt (nI 4095) i = decide (i < 12) := by
  rcases Nat.lt_or_ge i 32 with h | h
  · exact (by decide +kernel : ∀ i, i < 32 → bt (nI 4095) i = decide (i < 12)) i h
  · rw [b_big h, decide_eq_false (by omega)]
theorem thX_ok (x : Int32) : ∃ m : Nat, 1 ≤ m ∧ m < 4096 ∧ thX x = nI m := by
  have hl := lowN_lt (v := x >>> (nI 4 &&& 31)) (n := 12) (by decide)
  have hb : ∀ i, bt (thX x) i = true → i < 12 := by
    intro i hi
    unfold thX at hi
    rw [b_or, b_and, b_4095, bt_sh (by omega), Bool.or_eq_true, Bool.and_eq_true, decide_eq_true_iff, decide_eq_true_iff] at hi
    rcases hi with hi | hi
    · exact hi.2
    · omega
  obtain ⟨m, hm, e⟩ := bits_nI (N := 12) (by decide) hb
  refine ⟨m, ?_, hm, e⟩
  rcases Nat.eq_zero_or_pos m with h0 | h0
  · exfalso
    have h1 : bt (thX x) (lowN (x >>> (nI 4 &&& 31)) 12) = true := by
      unfold thX
      rw [b_or, bt_sh (by omega), decide_eq_true rfl, Bool.or_true]
    rw [e, h0, nI_0, b_0] at h1
    exact absurd h1 (by decide)
  · exact h0
set_option maxRecDepth 100000 in
set_option maxHeartbeats 4000000 in
theorem c_cell {L : Nat} {xs : Nat → Int32} (hL : L < 2 ^ 31) (k : Nat) (hk : k < 1000) (σ : Mem) : Cs L xs yL_cell cL_cell 2 (some .int) 0 [.ref 52, .int (nI k)] σ (rI (cellF L xs k) σ) := by
  refine Cs.intro (by decide +kernel) [some (.ref 52), some (.int (nI k))] (fun _ => rfl) rfl (fun _ => Nat.le_of_ble_eq_true rfl) ?_
  intro X hX hR hr hs
  refine V_iload_n (pc := 0) (i := 1) hX dL_cell_0 rfl rfl ?_
  refine V_aload_n (pc := 1) (i := 0) hX dL_cell_1 rfl rfl ?_
  refine V_slen (pc := 2) hX hs dL_cell_2 ?_
  refine V_icmp_geN (pc := 3) (tgt := 12) hX dL_cell_3 (by decide) (by omega) (by omega) (fun h3 => ?_) (fun h3 => ?_)
  · refine V_ldc (pc := 12) hX kL_7 dL_cell_12 ?_
    refine V_iload_n (pc := 14) (i := 1) hX dL_cell_14 rfl rfl ?_
    refine V_iconst (pc := 15) (v := (nI 1)) hX dL_cell_15 (by decide +kernel) ?_
    refine V_iadd (pc := 16) hX dL_cell_16 ?_
    refine V_imul (pc := 17) hX dL_cell_17 ?_
    exact V_iret (pc := 18) (st := []) hX hr (by first | rfl | exact bI_nar _ | decide +kernel) dL_cell_18 (⟨by rw [cellF, if_neg (by omega)], rfl⟩)
  · refine V_aload_n (pc := 6) (i := 0) hX dL_cell_6 rfl rfl ?_
    refine V_iload_n (pc := 7) (i := 1) hX dL_cell_7 rfl rfl ?_
    refine V_sld (pc := 8) hX hs hL dL_cell_8 (rfl) (by omega) ?_
    refine V_goto (pc := 9) (tgt := 18) hX dL_cell_9 (by decide) ?_
    exact V_iret (pc := 18) (st := []) hX hr (by first | rfl | exact bI_nar _ | decide +kernel) dL_cell_18 (⟨by rw [cellF, if_pos (by omega)], rfl⟩)
set_option maxRecDepth 100000 in
set_option maxHeartbeats 4000000 in
theorem c_low {L : Nat} {xs : Nat → Int32} (v : Int32) (n : Nat) (h0 : 0 < n) (hn : n < 2 ^ 31) (σ : Mem) : Cs L xs yL_low cL_low 2 (some .int) 0 [.int v, .int (nI n)] σ (rI (nI (lowN v n)) σ) := by
  refine Cs.intro (by decide +kernel) [some (.int v), some (.int (nI n))] (fun _ => rfl) rfl (fun _ => Nat.le_of_ble_eq_true rfl) ?_
  intro X hX hR hr hs
  refine V_iload_n (pc := 0) (i := 0) hX dL_low_0 rfl rfl ?_
  refine V_ldc (pc := 1) hX kL_8 dL_low_1 ?_
  refine V_iand (pc := 3) hX dL_low_3 ?_
  refine V_iload_n (pc := 4) (i := 1) hX dL_low_4 rfl rfl ?_
  refine V_irem (pc := 5) hX dL_low_5 (nI_ne00 h0 hn) ?_
  exact V_iret (pc := 6) (st := []) hX hr (by first | rfl | exact bI_nar _ | decide +kernel) dL_low_6 (⟨by rw [low_eq h0 hn], rfl⟩)
set_option maxRecDepth 100000 in
set_option maxHeartbeats 4000000 in
theorem c_things {L : Nat} {xs : Nat → Int32} (hL : L < 2 ^ 31) (k : Nat) (hk : k < 100) (σ : Mem) : Cs L xs yL_things cL_things 3 (some .int) 1 [.ref 52, .int (nI k)] σ (rI (thF L xs k) σ) := by
  refine Cs.intro (by decide +kernel) [some (.ref 52), some (.int (nI k)), none] (fun _ => rfl) rfl (fun _ => Nat.le_of_ble_eq_true rfl) ?_
  intro X hX hR hr hs
  refine V_aload_n (pc := 0) (i := 0) hX dL_things_0 rfl rfl ?_
  refine V_iconst (pc := 1) (v := (nI 1)) hX dL_things_1 (by decide +kernel) ?_
  refine V_iload_n (pc := 2) (i := 1) hX dL_things_2 rfl rfl ?_
  refine V_iadd (pc := 3) hX dL_things_3 ?_
  rw [nI_add]
  refine V_callSsi (pc := 4) hX (hR.mono (by omega)) mL_9 hs (c_cell hL _ (by omega) _) dL_things_4 rfl rfl rfl (Nat.le_of_ble_eq_true rfl) ?_
  refine V_istore2 (pc := 7) hX dL_things_7 rfl ?_
  refine V_iload_n (pc := 8) (i := 2) hX dL_things_8 rfl rfl ?_
  refine V_bipush (pc := 9) (v := (nI 8)) hX dL_things_9 (by decide +kernel) ?_
  refine V_ishr (pc := 11) hX dL_things_11 ?_
  refine V_iload_n (pc := 12) (i := 2) hX dL_things_12 rfl rfl ?_
  refine V_bipush (pc := 13) (v := (nI 16)) hX dL_things_13 (by decide +kernel) ?_
  refine V_ishr (pc := 15) hX dL_things_15 ?_
  refine V_iand (pc := 16) hX dL_things_16 ?_
  refine V_sipush (pc := 17) (v := (nI 4095)) hX dL_things_17 (by decide +kernel) ?_
  refine V_iand (pc := 20) hX dL_things_20 ?_
  refine V_iconst (pc := 21) (v := (nI 1)) hX dL_things_21 (by decide +kernel) ?_
  refine V_iload_n (pc := 22) (i := 2) hX dL_things_22 rfl rfl ?_
  refine V_iconst (pc := 23) (v := (nI 4)) hX dL_things_23 (by decide +kernel) ?_
  refine V_ishr (pc := 24) hX dL_things_24 ?_
  refine V_bipush (pc := 25) (v := (nI 12)) hX dL_things_25 (by decide +kernel) ?_
  refine V_callSsi (pc := 27) hX (hR.mono (by omega)) mL_15 hs (c_low _ _ (by decide) (by decide) _) dL_things_27 rfl rfl rfl (Nat.le_of_ble_eq_true rfl) ?_
  refine V_ishl (pc := 30) hX dL_things_30 ?_
  refine V_ior (pc := 31) hX dL_things_31 ?_
  exact V_iret (pc := 32) (st := []) hX hr (by first | rfl | exact bI_nar _ | decide +kernel) dL_things_32 (⟨rfl, rfl⟩)
set_option maxRecDepth 100000 in
set_option maxHeartbeats 4000000 in
theorem c_cost {L : Nat} {xs : Nat → Int32} (hL : L < 2 ^ 31) (k : Nat) (hk : k < 100) (σ : Mem) : Cs L xs yL_cost cL_cost 2 (some .int) 1 [.ref 52, .int (nI k)] σ (rI (nI (coN L xs k)) σ) := by
  refine Cs.intro (by decide +kernel) [some (.ref 52), some (.int (nI k))] (fun _ => rfl) rfl (fun _ => Nat.le_of_ble_eq_true rfl) ?_
  intro X hX hR hr hs
  refine V_iconst (pc := 0) (v := (nI 1)) hX dL_cost_0 (by decide +kernel) ?_
  refine V_aload_n (pc := 1) (i := 0) hX dL_cost_1 rfl rfl ?_
  refine V_iconst (pc := 2) (v := (nI 1)) hX dL_cost_2 (by decide +kernel) ?_
  refine V_iload_n (pc := 3) (i := 1) hX dL_cost_3 rfl rfl ?_
  refine V_iadd (pc := 4) hX dL_cost_4 ?_
  rw [nI_add]
  refine V_callSsi (pc := 5) hX (hR.mono (by omega)) mL_9 hs (c_cell hL _ (by omega) _) dL_cost_5 rfl rfl rfl (Nat.le_of_ble_eq_true rfl) ?_
  refine V_bipush (pc := 8) (v := (nI 40)) hX dL_cost_8 (by decide +kernel) ?_
  refine V_callSsi (pc := 10) hX (hR.mono (by omega)) mL_15 hs (c_low _ _ (by decide) (by decide) _) dL_cost_10 rfl rfl rfl (Nat.le_of_ble_eq_true rfl) ?_
  refine V_iadd (pc := 13) hX dL_cost_13 ?_
  rw [nI_add]
  exact V_iret (pc := 14) (st := []) hX hr (by first | rfl | exact bI_nar _ | decide +kernel) dL_cost_14 (⟨rfl, rfl⟩)

