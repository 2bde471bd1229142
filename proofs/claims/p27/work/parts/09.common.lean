theorem mX2_57 : Cond.methodLink RX2 57 Lib.Math.min.name ∈ lw_w := lw_mem 246 (by decide +kernel) (by decide +kernel)
theorem mX2_74 : Cond.methodLink RX2 74 Lib.Math.max.name ∈ lw_w := lw_mem 277 (by decide +kernel) (by decide +kernel)

set_option maxRecDepth 100000 in
set_option maxHeartbeats 4000000 in
theorem c_isUnder (x b : Int32) (σ : Mem) : Cc yX5_isUnder cX5_isUnder 2 (some .boolean) 0 [.int x, .int b] σ (rI (bI (decide (0 ≤ x ∧ x < b))) σ) := by
  refine Cc.intro (by decide +kernel) [some (.int x), some (.int b)] (fun _ => rfl) rfl (fun _ => Nat.le_of_ble_eq_true rfl) ?_
  intro X hX hR hr
  refine V_iload_n (pc := 0) (i := 0) hX dX5_isUnder_0 rfl rfl ?_
  refine V_if_lt (pc := 1) (tgt := 13) hX dX5_isUnder_1 (by decide) (fun h1 => ?_) (fun h1 => ?_)
  · refine V_iconst (pc := 13) (v := (nI 0)) hX dX5_isUnder_13 (by decide +kernel) ?_
    exact V_iret (pc := 14) (st := []) hX hr (by first | rfl | exact bI_nar _ | decide +kernel) dX5_isUnder_14 (⟨by rw [decide_eq_false (fun h => Int32.not_le.mpr h1 h.1)]; rfl, rfl⟩)
  · refine V_iload_n (pc := 4) (i := 0) hX dX5_isUnder_4 rfl rfl ?_
    refine V_iload_n (pc := 5) (i := 1) hX dX5_isUnder_5 rfl rfl ?_
    refine V_icmp_ge (pc := 6) (tgt := 13) hX dX5_isUnder_6 (by decide) (fun h6 => ?_) (fun h6 => ?_)
    · refine V_iconst (pc := 13) (v := (nI 0)) hX dX5_isUnder_13 (by decide +kernel) ?_
      exact V_iret (pc := 14) (st := []) hX hr (by first | rfl | exact bI_nar _ | decide +kernel) dX5_isUnder_14 (⟨by rw [decide_eq_false (fun h => Int32.not_le.mpr h.2 h6)]; rfl, rfl⟩)
    · refine V_iconst (pc := 9) (v := (nI 1)) hX dX5_isUnder_9 (by decide +kernel) ?_
      refine V_goto (pc := 10) (tgt := 14) hX dX5_isUnder_10 (by decide) ?_
      exact V_iret (pc := 14) (st := []) hX hr (by first | rfl | exact bI_nar _ | decide +kernel) dX5_isUnder_14 (⟨by rw [decide_eq_true (⟨Int32.not_lt.mp h1, Int32.not_le.mp h6⟩)]; rfl, rfl⟩)

set_option maxRecDepth 100000 in
set_option maxHeartbeats 4000000 in
theorem c_isWithin (x a b : Int32) (σ : Mem) : Cc yX5_isWithin cX5_isWithin 3 (some .boolean) 0 [.int x, .int a, .int b] σ (rI (bI (decide (a ≤ x ∧ x ≤ b))) σ) := by
  refine Cc.intro (by decide +kernel) [some (.int x), some (.int a), some (.int b)] (fun _ => rfl) rfl (fun _ => Nat.le_of_ble_eq_true rfl) ?_
  intro X hX hR hr
  refine V_iload_n (pc := 0) (i := 0) hX dX5_isWithin_0 rfl rfl ?_
  refine V_iload_n (pc := 1) (i := 1) hX dX5_isWithin_1 rfl rfl ?_
  refine V_icmp_lt (pc := 2) (tgt := 14) hX dX5_isWithin_2 (by decide) (fun h2 => ?_) (fun h2 => ?_)
  · refine V_iconst (pc := 14) (v := (nI 0)) hX dX5_isWithin_14 (by decide +kernel) ?_
    exact V_iret (pc := 15) (st := []) hX hr (by first | rfl | exact bI_nar _ | decide +kernel) dX5_isWithin_15 (⟨by rw [decide_eq_false (fun h => Int32.not_le.mpr h2 h.1)]; rfl, rfl⟩)
  · refine V_iload_n (pc := 5) (i := 0) hX dX5_isWithin_5 rfl rfl ?_
    refine V_iload_n (pc := 6) (i := 2) hX dX5_isWithin_6 rfl rfl ?_
    refine V_icmp_gt (pc := 7) (tgt := 14) hX dX5_isWithin_7 (by decide) (fun h7 => ?_) (fun h7 => ?_)
    · refine V_iconst (pc := 14) (v := (nI 0)) hX dX5_isWithin_14 (by decide +kernel) ?_
      exact V_iret (pc := 15) (st := []) hX hr (by first | rfl | exact bI_nar _ | decide +kernel) dX5_isWithin_15 (⟨by rw [decide_eq_false (fun h => Int32.not_le.mpr h7 h.2)]; rfl, rfl⟩)
    · refine V_iconst (pc := 10) (v := (nI 1)) hX dX5_isWithin_10 (by decide +kernel) ?_
      refine V_goto (pc := 11) (tgt := 15) hX dX5_isWithin_11 (by decide) ?_
      exact V_iret (pc := 15) (st := []) hX hr (by first | rfl | exact bI_nar _ | decide +kernel) dX5_isWithin_15 (⟨by rw [decide_eq_true (⟨Int32.not_lt.mp h2, Int32.not_lt.mp h7⟩)]; rfl, rfl⟩)

theorem bit1 (x : Int32) : (x &&& nI 1 = 0) ↔ bt x 0 = false := by
  constructor
  · intro h
    have h1 : bt (x &&& nI 1) 0 = false := by rw [h]; exact b_0 0
    rw [b_and] at h1
    have h2 : bt (nI 1) 0 = true := by decide +kernel
    rw [h2, Bool.and_true] at h1
    exact h1
  · intro h
    apply b_ext
    intro i hi
    rw [b_and, b_0]
    by_cases h0 : i = 0
    · subst h0; rw [h]; rfl
    · have h2 : ∀ i, i < 32 → i ≠ 0 → bt (nI 1) i = false := by decide +kernel
      rw [h2 i hi h0, Bool.and_false]

set_option maxRecDepth 100000 in
set_option maxHeartbeats 4000000 in
theorem c_holds (x : Int32) (k : Nat) (hk : k < 32) (σ : Mem) : Cc yX5_holds cX5_holds 2 (some .boolean) 0 [.int x, .int (nI k)] σ (rI (bI (bt x k)) σ) := by
  refine Cc.intro (by decide +kernel) [some (.int x), some (.int (nI k))] (fun _ => rfl) rfl (fun _ => Nat.le_of_ble_eq_true rfl) ?_
  intro X hX hR hr
  refine V_iload_n (pc := 0) (i := 0) hX dX5_holds_0 rfl rfl ?_
  refine V_iload_n (pc := 1) (i := 1) hX dX5_holds_1 rfl rfl ?_
  refine V_iushr (pc := 2) hX dX5_holds_2 ?_
  refine V_iconst (pc := 3) (v := (nI 1)) hX dX5_holds_3 (by decide +kernel) ?_
  refine V_iand (pc := 4) hX dX5_holds_4 ?_
  refine V_if_eq (pc := 5) (tgt := 12) hX dX5_holds_5 (by decide) (fun h5 => ?_) (fun h5 => ?_)
  · refine V_iconst (pc := 12) (v := (nI 0)) hX dX5_holds_12 (by decide +kernel) ?_
    exact V_iret (pc := 13) (st := []) hX hr (by first | rfl | exact bI_nar _ | decide +kernel) dX5_holds_13 (⟨by
      rw [bit1, b_ushr k hk, Nat.add_zero] at h5
      rw [h5]; rfl, rfl⟩)
  · refine V_iconst (pc := 8) (v := (nI 1)) hX dX5_holds_8 (by decide +kernel) ?_
    refine V_goto (pc := 9) (tgt := 13) hX dX5_holds_9 (by decide) ?_
    exact V_iret (pc := 13) (st := []) hX hr (by first | rfl | exact bI_nar _ | decide +kernel) dX5_holds_13 (⟨by
      rw [bit1, b_ushr k hk, Nat.add_zero] at h5
      rw [Bool.not_eq_false] at h5
      rw [h5]; rfl, rfl⟩)
