def nextF (L : Nat → Nat) (n l : Nat) : Bool := decide (n = 0 ∨ (2 * L (n - 1) ≤ l ∧ l % L (n - 1) = 0))
set_option maxRecDepth 100000 in
set_option maxHeartbeats 4000000 in
theorem c_isNext (n l : Nat) (L : Nat → Nat) (σ : Mem) (hn : σ 3 6 = nI n) (hL : lok σ 20 n L) (hn4 : n ≤ 4) (hl : l ≤ 64) : Cc yX1_isNextLength cX1_isNextLength 3 (some .boolean) 1 [.ref 3, .int (nI l)] σ (rI (bI (nextF L n l)) σ) := by
  refine Cc.intro (by decide +kernel) [some (.ref 3), some (.int (nI l)), none] (fun _ => rfl) rfl (fun _ => Nat.le_of_ble_eq_true rfl) ?_
  intro X hX hR hr
  refine V_aload_n (pc := 0) (i := 0) hX dX1_isNextLength_0 rfl rfl ?_
  refine V_getf (pc := 1) hX fX1_35 dX1_isNextLength_1 rfl rfl ?_
  rw [hn]
  refine V_if_ne (pc := 4) (tgt := 9) hX dX1_isNextLength_4 (by decide) (fun h4 => ?_) (fun h4 => ?_)
  · have hn0 : n ≠ 0 := fun q => h4 (by rw [q]; exact nI_0)
    obtain ⟨e, l1, l2⟩ := hL (n - 1) (by omega)
    refine V_aload_n (pc := 9) (i := 0) hX dX1_isNextLength_9 rfl rfl ?_
    refine V_getr (pc := 10) hX fX1_9 dX1_isNextLength_10 rfl rfl ?_
    refine V_aload_n (pc := 13) (i := 0) hX dX1_isNextLength_13 rfl rfl ?_
    refine V_getf (pc := 14) hX fX1_35 dX1_isNextLength_14 rfl rfl ?_
    refine V_iconst (pc := 17) (v := (nI 1)) hX dX1_isNextLength_17 (by decide +kernel) ?_
    refine V_isub (pc := 18) hX dX1_isNextLength_18 ?_
    rw [hn, pk_sub (by omega)]
    refine V_iald (pc := 19) hX dX1_isNextLength_19 (rfl) (rfl) (by omega) (by decide) ?_
    rw [e]
    refine V_istore2 (pc := 20) hX dX1_isNextLength_20 rfl ?_
    refine V_iload_n (pc := 21) (i := 1) hX dX1_isNextLength_21 rfl rfl ?_
    refine V_iconst (pc := 22) (v := (nI 2)) hX dX1_isNextLength_22 (by decide +kernel) ?_
    refine V_iload_n (pc := 23) (i := 2) hX dX1_isNextLength_23 rfl rfl ?_
    refine V_imul (pc := 24) hX dX1_isNextLength_24 ?_
    rw [pk_mul]
    refine V_icmp_ltN (pc := 25) (tgt := 40) hX dX1_isNextLength_25 (by decide) (by omega) (by omega) (fun h25 => ?_) (fun h25 => ?_)
    · refine V_iconst (pc := 40) (v := (nI 0)) hX dX1_isNextLength_40 (by decide +kernel) ?_
      exact V_iret (pc := 41) (st := []) hX hr (by first | rfl | exact bI_nar _ | decide +kernel) dX1_isNextLength_41 (⟨by rw [nextF, decide_eq_false (fun q => q.elim hn0 (fun q => by omega))]; rfl, rfl⟩)
    · refine V_iload_n (pc := 28) (i := 1) hX dX1_isNextLength_28 rfl rfl ?_
      refine V_iload_n (pc := 29) (i := 2) hX dX1_isNextLength_29 rfl rfl ?_
      refine V_callSi (pc := 30) hX (hR.mono (by omega)) mX1_38 (c_isMultiple l (L (n - 1)) _ (by omega) (by omega) l1) dX1_isNextLength_30 rfl rfl rfl (Nat.le_of_ble_eq_true rfl) ?_
      refine V_if_eqB (pc := 33) (tgt := 40) hX dX1_isNextLength_33 (by decide) (fun h33 => ?_) (fun h33 => ?_)
      · refine V_iconst (pc := 40) (v := (nI 0)) hX dX1_isNextLength_40 (by decide +kernel) ?_
        exact V_iret (pc := 41) (st := []) hX hr (by first | rfl | exact bI_nar _ | decide +kernel) dX1_isNextLength_41 (⟨by rw [nextF, decide_eq_false (fun q => q.elim hn0 (fun q => of_decide_eq_false h33 q.2))]; rfl, rfl⟩)
      · refine V_iconst (pc := 36) (v := (nI 1)) hX dX1_isNextLength_36 (by decide +kernel) ?_
        refine V_goto (pc := 37) (tgt := 41) hX dX1_isNextLength_37 (by decide) ?_
        exact V_iret (pc := 41) (st := []) hX hr (by first | rfl | exact bI_nar _ | decide +kernel) dX1_isNextLength_41 (⟨by rw [nextF, decide_eq_true (Or.inr ⟨by omega, of_decide_eq_true h33⟩)]; rfl, rfl⟩)
  · refine V_iconst (pc := 7) (v := (nI 1)) hX dX1_isNextLength_7 (by decide +kernel) ?_
    exact V_iret (pc := 8) (st := []) hX hr (by first | rfl | exact bI_nar _ | decide +kernel) dX1_isNextLength_8 (⟨by rw [nextF, decide_eq_true (Or.inl ((nI_eq (by omega) (by decide)).mp (h4.trans nI_0.symm)))]; rfl, rfl⟩)
def laddM (σ : Mem) (n : Nat) (l c : Int32) : Mem := mu (mu (mu σ 20 n l) 21 n c) 3 6 (nI (n + 1))
set_option maxRecDepth 100000 in
set_option maxHeartbeats 4000000 in
theorem c_addL (n : Nat) (l c : Int32) (σ : Mem) (hn : σ 3 6 = nI n) (hn4 : n < 4) : Cc yX1_add cX1_add 3 (some .int) 0 [.ref 3, .int l, .int c] σ (rI (nI n) (laddM σ n l c)) := by
  refine Cc.intro (by decide +kernel) [some (.ref 3), some (.int l), some (.int c)] (fun _ => rfl) rfl (fun _ => Nat.le_of_ble_eq_true rfl) ?_
  intro X hX hR hr
  refine V_aload_n (pc := 0) (i := 0) hX dX1_add_0 rfl rfl ?_
  refine V_getr (pc := 1) hX fX1_9 dX1_add_1 rfl rfl ?_
  refine V_aload_n (pc := 4) (i := 0) hX dX1_add_4 rfl rfl ?_
  refine V_getf (pc := 5) hX fX1_35 dX1_add_5 rfl rfl ?_
  rw [hn]
  refine V_iload_n (pc := 8) (i := 1) hX dX1_add_8 rfl rfl ?_
  refine V_iast (pc := 9) hX dX1_add_9 (rfl) (rfl) (by omega) (by decide) ?_
  refine V_aload_n (pc := 10) (i := 0) hX dX1_add_10 rfl rfl ?_
  refine V_getr (pc := 11) hX fX1_15 dX1_add_11 rfl rfl ?_
  refine V_aload_n (pc := 14) (i := 0) hX dX1_add_14 rfl rfl ?_
  refine V_getf (pc := 15) hX fX1_35 dX1_add_15 rfl rfl ?_
  simp only [mu_f, Nat.reduceEqDiff, ↓reduceIte, hn]
  refine V_iload_n (pc := 18) (i := 2) hX dX1_add_18 rfl rfl ?_
  refine V_iast (pc := 19) hX dX1_add_19 (rfl) (rfl) (by omega) (by decide) ?_
  refine V_aload_n (pc := 20) (i := 0) hX dX1_add_20 rfl rfl ?_
  refine V_dup (pc := 21) hX dX1_add_21 rfl ?_
  refine V_getf (pc := 22) hX fX1_35 dX1_add_22 rfl rfl ?_
  simp only [mu_f, Nat.reduceEqDiff, ↓reduceIte, hn]
  refine V_iconst (pc := 25) (v := (nI 1)) hX dX1_add_25 (by decide +kernel) ?_
  refine V_iadd (pc := 26) hX dX1_add_26 ?_
  rw [nI_add]
  refine V_putf (pc := 27) hX fX1_35 gi1_6 dX1_add_27 rfl rfl ?_
  refine V_aload_n (pc := 30) (i := 0) hX dX1_add_30 rfl rfl ?_
  refine V_getf (pc := 31) hX fX1_35 dX1_add_31 rfl rfl ?_
  refine V_iconst (pc := 34) (v := (nI 1)) hX dX1_add_34 (by decide +kernel) ?_
  refine V_isub (pc := 35) hX dX1_add_35 ?_
  simp only [mu_at]
  rw [pk_sub (by omega)]
  exact V_iret (pc := 36) (st := []) hX hr (by first | rfl | exact bI_nar _ | decide +kernel) dX1_add_36 (⟨rfl, rfl⟩)
def leOK (l c : Int32) : Bool := inr2 l 1 64 && inr2 c 1 1000
/-- lease: BAD, STATE, FULL, or the number; q: whether a day was asked -/
def leaseF (L : Nat → Nat) (n : Nat) (q : Bool) (l c : Int32) : Int32 := if leOK l c then (if q || !(nextF L n (tn l)) then (-1000002) else if n < 4 then nI n else (-1000003)) else (-1000001)
def leaseM (σ : Mem) (L : Nat → Nat) (n : Nat) (q : Bool) (l c : Int32) : Mem := if leOK l c then (if q || !(nextF L n (tn l)) then σ else if n < 4 then laddM σ n l c else σ) else σ
set_option maxRecDepth 100000 in
set_option maxHeartbeats 4000000 in
theorem c_lease (n : Nat) (L : Nat → Nat) (l c : Int32) (σ : Mem) (hn : σ 3 6 = nI n) (hL : lok σ 20 n L) (hn4 : n ≤ 4) : Cc yX5_lease cX5_lease 3 (some .int) 2 [.ref 0, .int l, .int c] σ (rI (leaseF L n (decide (0 < σ 3 8)) l c) (leaseM σ L n (decide (0 < σ 3 8)) l c)) := by
  refine Cc.intro (by decide +kernel) [some (.ref 0), some (.int l), some (.int c)] (fun _ => rfl) rfl (fun _ => Nat.le_of_ble_eq_true rfl) ?_
  intro X hX hR hr
  refine V_iload_n (pc := 0) (i := 1) hX dX5_lease_0 rfl rfl ?_
  refine V_iconst (pc := 1) (v := (nI 1)) hX dX5_lease_1 (by decide +kernel) ?_
  refine V_bipush (pc := 2) (v := (nI 64)) hX dX5_lease_2 (by decide +kernel) ?_
  refine V_callSi (pc := 4) hX (hR.mono (by omega)) mX5_79 (c_isWithinN l 1 64 (by decide) (by decide) _) dX5_lease_4 rfl rfl rfl (Nat.le_of_ble_eq_true rfl) ?_
  refine V_if_eqB (pc := 7) (tgt := 21) hX dX5_lease_7 (by decide) (fun h7 => ?_) (fun h7 => ?_)
  · refine V_ldc (pc := 21) hX kX5_52 dX5_lease_21 ?_
    exact V_iret (pc := 23) (st := []) hX hr (by first | rfl | exact bI_nar _ | decide +kernel) dX5_lease_23 (⟨by rw [leaseF, leOK, h7]; rfl, by rw [leaseM, leOK, h7]; rfl⟩)
  · refine V_iload_n (pc := 10) (i := 2) hX dX5_lease_10 rfl rfl ?_
    refine V_iconst (pc := 11) (v := (nI 1)) hX dX5_lease_11 (by decide +kernel) ?_
    refine V_sipush (pc := 12) (v := (nI 1000)) hX dX5_lease_12 (by decide +kernel) ?_
    refine V_callSi (pc := 15) hX (hR.mono (by omega)) mX5_79 (c_isWithinN c 1 1000 (by decide) (by decide) _) dX5_lease_15 rfl rfl rfl (Nat.le_of_ble_eq_true rfl) ?_
    refine V_if_neB (pc := 18) (tgt := 24) hX dX5_lease_18 (by decide) (fun h18 => ?_) (fun h18 => ?_)
    · obtain ⟨l', l1, l2, rfl⟩ := inr2_of h7 (by decide)
      have eo : leOK (nI l') c = true := by rw [leOK, h7, h18]; rfl
      have tl : tn (nI l') = l' := tn_nI (by omega)
      refine V_aload_n (pc := 24) (i := 0) hX dX5_lease_24 rfl rfl ?_
      refine V_getr (pc := 25) hX fX5_26 dX5_lease_25 rfl rfl ?_
      refine V_getf (pc := 28) hX fX5_142 dX5_lease_28 rfl rfl ?_
      refine V_if_gt (pc := 31) (tgt := 45) hX dX5_lease_31 (by decide) (fun h31 => ?_) (fun h31 => ?_)
      · refine V_ldc (pc := 45) hX kX5_86 dX5_lease_45 ?_
        exact V_iret (pc := 47) (st := []) hX hr (by first | rfl | exact bI_nar _ | decide +kernel) dX5_lease_47 (⟨by rw [leaseF, eo, if_pos rfl, decide_eq_true h31]; rfl, by rw [leaseM, eo, if_pos rfl, decide_eq_true h31]; rfl⟩)
      · refine V_aload_n (pc := 34) (i := 0) hX dX5_lease_34 rfl rfl ?_
        refine V_getr (pc := 35) hX fX5_26 dX5_lease_35 rfl rfl ?_
        refine V_iload_n (pc := 38) (i := 1) hX dX5_lease_38 rfl rfl ?_
        refine V_callVi (pc := 39) hX (hR.mono (by omega)) mX5_145 (c_isNext n l' L _ hn hL hn4 l2) dX5_lease_39 rfl rfl rfl rfl (Nat.le_of_ble_eq_true rfl) ?_
        refine V_if_neB (pc := 42) (tgt := 48) hX dX5_lease_42 (by decide) (fun h42 => ?_) (fun h42 => ?_)
        · refine V_aload_n (pc := 48) (i := 0) hX dX5_lease_48 rfl rfl ?_
          refine V_getr (pc := 49) hX fX5_26 dX5_lease_49 rfl rfl ?_
          refine V_getf (pc := 52) hX fX5_148 dX5_lease_52 rfl rfl ?_
          refine V_iconst (pc := 55) (v := (nI 4)) hX dX5_lease_55 (by decide +kernel) ?_
          rw [hn]
          refine V_icmp_geN (pc := 56) (tgt := 71) hX dX5_lease_56 (by decide) (by omega) (by omega) (fun h56 => ?_) (fun h56 => ?_)
          · refine V_ldc (pc := 71) hX kX5_94 dX5_lease_71 ?_
            exact V_iret (pc := 73) (st := []) hX hr (by first | rfl | exact bI_nar _ | decide +kernel) dX5_lease_73 (⟨by rw [leaseF, eo, if_pos rfl, decide_eq_false h31, tl, h42]; exact congrArg (fun z => some (Value.int z)) (if_neg (by omega)).symm, by rw [leaseM, eo, if_pos rfl, decide_eq_false h31, tl, h42]; exact (if_neg (by omega)).symm⟩)
          · refine V_aload_n (pc := 59) (i := 0) hX dX5_lease_59 rfl rfl ?_
            refine V_getr (pc := 60) hX fX5_26 dX5_lease_60 rfl rfl ?_
            refine V_iload_n (pc := 63) (i := 1) hX dX5_lease_63 rfl rfl ?_
            refine V_iload_n (pc := 64) (i := 2) hX dX5_lease_64 rfl rfl ?_
            refine V_callVi (pc := 65) hX (hR.mono (by omega)) mX5_149 (c_addL n _ _ _ hn (by omega)) dX5_lease_65 rfl rfl rfl rfl (Nat.le_of_ble_eq_true rfl) ?_
            refine V_goto (pc := 68) (tgt := 73) hX dX5_lease_68 (by decide) ?_
            exact V_iret (pc := 73) (st := []) hX hr (by first | rfl | exact bI_nar _ | decide +kernel) dX5_lease_73 (⟨by rw [leaseF, eo, if_pos rfl, decide_eq_false h31, tl, h42]; exact congrArg (fun z => some (Value.int z)) (if_pos h56).symm, by rw [leaseM, eo, if_pos rfl, decide_eq_false h31, tl, h42]; exact (if_pos h56).symm⟩)
        · refine V_ldc (pc := 45) hX kX5_86 dX5_lease_45 ?_
          exact V_iret (pc := 47) (st := []) hX hr (by first | rfl | exact bI_nar _ | decide +kernel) dX5_lease_47 (⟨by rw [leaseF, eo, if_pos rfl, decide_eq_false h31, tl, h42]; rfl, by rw [leaseM, eo, if_pos rfl, decide_eq_false h31, tl, h42]; rfl⟩)
    · refine V_ldc (pc := 21) hX kX5_52 dX5_lease_21 ?_
      exact V_iret (pc := 23) (st := []) hX hr (by first | rfl | exact bI_nar _ | decide +kernel) dX5_lease_23 (⟨by rw [leaseF, leOK, h7, h18]; rfl, by rw [leaseM, leOK, h7, h18]; rfl⟩)
def dayV (σ : Mem) (L : Nat → Nat) (n : Nat) (x : Int32) : Int32 := if inr x 128 then (if 0 < n ∧ σ 3 7 < x then meetLV σ L n (tn x) else (-1000002)) else (-1000001)
def dayM (σ : Mem) (L : Nat → Nat) (n : Nat) (x : Int32) : Mem := if inr x 128 then (if 0 < n ∧ σ 3 7 < x then meetLM σ L n (tn x) else σ) else σ
set_option maxRecDepth 100000 in
set_option maxHeartbeats 4000000 in
theorem c_day (n : Nat) (L : Nat → Nat) (x : Int32) (σ : Mem) (hn : σ 3 6 = nI n) (hL : lok σ 20 n L) (hn4 : n ≤ 4) : Cc yX5_day cX5_day 2 (some .int) 4 [.ref 0, .int x] σ (rI (dayV σ L n x) (dayM σ L n x)) := by
  refine Cc.intro (by decide +kernel) [some (.ref 0), some (.int x)] (fun _ => rfl) rfl (fun _ => Nat.le_of_ble_eq_true rfl) ?_
  intro X hX hR hr
  refine V_iload_n (pc := 0) (i := 1) hX dX5_day_0 rfl rfl ?_
  refine V_sipush (pc := 1) (v := (nI 128)) hX dX5_day_1 (by decide +kernel) ?_
  refine V_callSi (pc := 4) hX (hR.mono (by omega)) mX5_48 (c_isUnderN x 128 (by decide) _) dX5_day_4 rfl rfl rfl (Nat.le_of_ble_eq_true rfl) ?_
  refine V_if_neB (pc := 7) (tgt := 13) hX dX5_day_7 (by decide) (fun h7 => ?_) (fun h7 => ?_)
  · obtain ⟨d, hd, rfl⟩ := inr_of h7 (by decide)
    have td : tn (nI d) = d := tn_nI (by omega)
    refine V_aload_n (pc := 13) (i := 0) hX dX5_day_13 rfl rfl ?_
    refine V_getr (pc := 14) hX fX5_26 dX5_day_14 rfl rfl ?_
    refine V_getf (pc := 17) hX fX5_148 dX5_day_17 rfl rfl ?_
    rw [hn]
    refine V_if_le (pc := 20) (tgt := 45) hX dX5_day_20 (by decide) (fun h20 => ?_) (fun h20 => ?_)
    · refine V_ldc (pc := 45) hX kX5_86 dX5_day_45 ?_
      exact V_iret (pc := 47) (st := []) hX hr (by first | rfl | exact bI_nar _ | decide +kernel) dX5_day_47 (⟨by rw [dayV, h7, if_pos rfl, if_neg (fun q => nI_nle q.1 (by omega) h20)], by rw [dayM, h7, if_pos rfl, if_neg (fun q => nI_nle q.1 (by omega) h20)]⟩)
    · refine V_iload_n (pc := 23) (i := 1) hX dX5_day_23 rfl rfl ?_
      refine V_aload_n (pc := 24) (i := 0) hX dX5_day_24 rfl rfl ?_
      refine V_getr (pc := 25) hX fX5_26 dX5_day_25 rfl rfl ?_
      refine V_getf (pc := 28) hX fX5_150 dX5_day_28 rfl rfl ?_
      refine V_icmp_le (pc := 31) (tgt := 45) hX dX5_day_31 (by decide) (fun h31 => ?_) (fun h31 => ?_)
      · refine V_ldc (pc := 45) hX kX5_86 dX5_day_45 ?_
        exact V_iret (pc := 47) (st := []) hX hr (by first | rfl | exact bI_nar _ | decide +kernel) dX5_day_47 (⟨by rw [dayV, h7, if_pos rfl, if_neg (fun q => Int32.not_le.mpr q.2 h31)], by rw [dayM, h7, if_pos rfl, if_neg (fun q => Int32.not_le.mpr q.2 h31)]⟩)
      · refine V_aload_n (pc := 34) (i := 0) hX dX5_day_34 rfl rfl ?_
        refine V_getr (pc := 35) hX fX5_26 dX5_day_35 rfl rfl ?_
        refine V_iload_n (pc := 38) (i := 1) hX dX5_day_38 rfl rfl ?_
        refine V_callVi (pc := 39) hX (hR.mono (by omega)) mX5_153 (c_meetL n d L _ hn hL hn4 hd) dX5_day_39 rfl rfl rfl rfl (Nat.le_of_ble_eq_true rfl) ?_
        refine V_goto (pc := 42) (tgt := 47) hX dX5_day_42 (by decide) ?_
        exact V_iret (pc := 47) (st := []) hX hr (by first | rfl | exact bI_nar _ | decide +kernel) dX5_day_47 (⟨by rw [dayV, h7, if_pos rfl, if_pos ⟨Nat.pos_of_ne_zero (fun q => h20 (by rw [q, nI_0]; decide)), Int32.not_le.mp h31⟩, td], by rw [dayM, h7, if_pos rfl, if_pos ⟨Nat.pos_of_ne_zero (fun q => h20 (by rw [q, nI_0]; decide)), Int32.not_le.mp h31⟩, td]⟩)
  · refine V_ldc (pc := 10) hX kX5_52 dX5_day_10 ?_
    exact V_iret (pc := 12) (st := []) hX hr (by first | rfl | exact bI_nar _ | decide +kernel) dX5_day_12 (⟨by rw [dayV, h7]; rfl, by rw [dayM, h7]; rfl⟩)
def coveredF (b : Nat → Bool) (x : Int32) : Int32 := if inr x 128 then bI (b (tn x)) else (-1000001)
set_option maxRecDepth 100000 in
set_option maxHeartbeats 4000000 in
theorem c_covered (n : Nat) (L : Nat → Nat) (x : Int32) (σ : Mem) (hn : σ 3 6 = nI n) (hL : lok σ 20 n L) (hn4 : n ≤ 4) : Cc yX5_covered cX5_covered 2 (some .int) 2 [.ref 0, .int x] σ (rI (coveredF (fun d => metf (σ 24) L d n) x) σ) := by
  refine Cc.intro (by decide +kernel) [some (.ref 0), some (.int x)] (fun _ => rfl) rfl (fun _ => Nat.le_of_ble_eq_true rfl) ?_
  intro X hX hR hr
  refine V_iload_n (pc := 0) (i := 1) hX dX5_covered_0 rfl rfl ?_
  refine V_sipush (pc := 1) (v := (nI 128)) hX dX5_covered_1 (by decide +kernel) ?_
  refine V_callSi (pc := 4) hX (hR.mono (by omega)) mX5_48 (c_isUnderN x 128 (by decide) _) dX5_covered_4 rfl rfl rfl (Nat.le_of_ble_eq_true rfl) ?_
  refine V_if_neB (pc := 7) (tgt := 13) hX dX5_covered_7 (by decide) (fun h7 => ?_) (fun h7 => ?_)
  · obtain ⟨d, hd, rfl⟩ := inr_of h7 (by decide)
    have td : tn (nI d) = d := tn_nI (by omega)
    refine V_aload_n (pc := 13) (i := 0) hX dX5_covered_13 rfl rfl ?_
    refine V_getr (pc := 14) hX fX5_26 dX5_covered_14 rfl rfl ?_
    refine V_iload_n (pc := 17) (i := 1) hX dX5_covered_17 rfl rfl ?_
    refine V_callVi (pc := 18) hX (hR.mono (by omega)) mX5_162 (c_isMet n d L _ hn hL hn4 hd) dX5_covered_18 rfl rfl rfl rfl (Nat.le_of_ble_eq_true rfl) ?_
    refine V_if_eqB (pc := 21) (tgt := 28) hX dX5_covered_21 (by decide) (fun h21 => ?_) (fun h21 => ?_)
    · refine V_iconst (pc := 28) (v := (nI 0)) hX dX5_covered_28 (by decide +kernel) ?_
      exact V_iret (pc := 29) (st := []) hX hr (by first | rfl | exact bI_nar _ | decide +kernel) dX5_covered_29 (⟨by rw [coveredF, h7, if_pos rfl, td, h21]; rfl, rfl⟩)
    · refine V_iconst (pc := 24) (v := (nI 1)) hX dX5_covered_24 (by decide +kernel) ?_
      refine V_goto (pc := 25) (tgt := 29) hX dX5_covered_25 (by decide) ?_
      exact V_iret (pc := 29) (st := []) hX hr (by first | rfl | exact bI_nar _ | decide +kernel) dX5_covered_29 (⟨by rw [coveredF, h7, if_pos rfl, td, h21]; rfl, rfl⟩)
  · refine V_ldc (pc := 10) hX kX5_52 dX5_covered_10 ?_
    exact V_iret (pc := 12) (st := []) hX hr (by first | rfl | exact bI_nar _ | decide +kernel) dX5_covered_12 (⟨by rw [coveredF, h7]; rfl, rfl⟩)
/-- what leases(what) answers; b: the least -/
def leasesF (paid pr b das sp w : Int32) : Int32 := if w = nI 0 then paid else if w = nI 1 then pr else if w = nI 2 then b else if w = nI 3 then das else if w = nI 4 then sp else (-1000001)
def leasesM (σ : Mem) (L : Nat → Nat) (n D : Nat) (w : Int32) : Mem := if w = nI 2 then mf σ 25 (lsf (σ 21) L (σ 23) D n (clrf (σ 25) (n + 1)) D) else σ
set_option maxRecDepth 100000 in
set_option maxHeartbeats 4000000 in
theorem c_leases (n D : Nat) (L : Nat → Nat) (w : Int32) (σ : Mem) (hn : σ 3 6 = nI n) (hL : lok σ 20 n L) (hn4 : n ≤ 4) (hD : D ≤ 128) (hl : σ 3 7 = nI D - nI 1) : Cc yX5_leases cX5_leases 2 (some .int) 3 [.ref 0, .int w] σ (rI (leasesF (σ 3 10) (ps (σ 22) 0 128) (lsf (σ 21) L (σ 23) D n (clrf (σ 25) (n + 1)) D n) (σ 3 8) (σ 3 9) w) (leasesM σ L n D w)) := by
  refine Cc.intro (by decide +kernel) [some (.ref 0), some (.int w)] (fun _ => rfl) rfl (fun _ => Nat.le_of_ble_eq_true rfl) ?_
  intro X hX hR hr
  have hne : ∀ {a b : Nat}, a < 10 → b < 10 → a ≠ b → w = nI a → ¬ w = nI b := fun {a b} ha hb hab e q => hab ((nI_eq (by omega) (by omega)).mp (e.symm.trans q))
  refine V_iload_n (pc := 0) (i := 1) hX dX5_leases_0 rfl rfl ?_
  rcases Classical.em (w = nI 0) with e1_0 | e1_0
  · refine V_tableIn (pc := 1) (off := 35) (tgt := 36) hX dX5_leases_1 (by rw [e1_0]; decide +kernel) (by rw [e1_0]; decide +kernel) (by rw [e1_0]; decide +kernel) (by decide) ?_
    refine V_aload_n (pc := 36) (i := 0) hX dX5_leases_36 rfl rfl ?_
    refine V_getr (pc := 37) hX fX5_26 dX5_leases_37 rfl rfl ?_
    refine V_getf (pc := 40) hX fX5_154 dX5_leases_40 rfl rfl ?_
    exact V_iret (pc := 43) (st := []) hX hr (by first | rfl | exact bI_nar _ | decide +kernel) dX5_leases_43 (⟨by rw [leasesF, if_pos e1_0], by rw [leasesM, if_neg (hne (by decide) (by decide) (by decide) e1_0)]⟩)
  · skip
    rcases Classical.em (w = nI 1) with e1_1 | e1_1
    · refine V_tableIn (pc := 1) (off := 43) (tgt := 44) hX dX5_leases_1 (by rw [e1_1]; decide +kernel) (by rw [e1_1]; decide +kernel) (by rw [e1_1]; decide +kernel) (by decide) ?_
      refine V_aload_n (pc := 44) (i := 0) hX dX5_leases_44 rfl rfl ?_
      refine V_getr (pc := 45) hX fX5_26 dX5_leases_45 rfl rfl ?_
      refine V_iconst (pc := 48) (v := (nI 0)) hX dX5_leases_48 (by decide +kernel) ?_
      refine V_sipush (pc := 49) (v := (nI 128)) hX dX5_leases_49 (by decide +kernel) ?_
      refine V_callVi (pc := 52) hX (hR.mono (by omega)) mX5_155 (c_pricesOfD 0 128 _ (by decide) (by decide) (by decide)) dX5_leases_52 rfl rfl rfl rfl (Nat.le_of_ble_eq_true rfl) ?_
      exact V_iret (pc := 55) (st := []) hX hr (by first | rfl | exact bI_nar _ | decide +kernel) dX5_leases_55 (⟨by rw [leasesF, if_neg e1_0, if_pos e1_1], by rw [leasesM, if_neg (hne (by decide) (by decide) (by decide) e1_1)]⟩)
    · skip
      rcases Classical.em (w = nI 2) with e1_2 | e1_2
      · refine V_tableIn (pc := 1) (off := 55) (tgt := 56) hX dX5_leases_1 (by rw [e1_2]; decide +kernel) (by rw [e1_2]; decide +kernel) (by rw [e1_2]; decide +kernel) (by decide) ?_
        refine V_aload_n (pc := 56) (i := 0) hX dX5_leases_56 rfl rfl ?_
        refine V_getr (pc := 57) hX fX5_26 dX5_leases_57 rfl rfl ?_
        refine V_callVi (pc := 60) hX (hR.mono (by omega)) mX5_158 (c_leastL n D L _ hn hL hn4 hD hl) dX5_leases_60 rfl rfl rfl rfl (Nat.le_of_ble_eq_true rfl) ?_
        exact V_iret (pc := 63) (st := []) hX hr (by first | rfl | exact bI_nar _ | decide +kernel) dX5_leases_63 (⟨by rw [leasesF, if_neg e1_0, if_neg e1_1, if_pos e1_2], by rw [leasesM, if_pos e1_2]⟩)
      · skip
        rcases Classical.em (w = nI 3) with e1_3 | e1_3
        · refine V_tableIn (pc := 1) (off := 63) (tgt := 64) hX dX5_leases_1 (by rw [e1_3]; decide +kernel) (by rw [e1_3]; decide +kernel) (by rw [e1_3]; decide +kernel) (by decide) ?_
          refine V_aload_n (pc := 64) (i := 0) hX dX5_leases_64 rfl rfl ?_
          refine V_getr (pc := 65) hX fX5_26 dX5_leases_65 rfl rfl ?_
          refine V_getf (pc := 68) hX fX5_142 dX5_leases_68 rfl rfl ?_
          exact V_iret (pc := 71) (st := []) hX hr (by first | rfl | exact bI_nar _ | decide +kernel) dX5_leases_71 (⟨by rw [leasesF, if_neg e1_0, if_neg e1_1, if_neg e1_2, if_pos e1_3], by rw [leasesM, if_neg (hne (by decide) (by decide) (by decide) e1_3)]⟩)
        · skip
          rcases Classical.em (w = nI 4) with e1_4 | e1_4
          · refine V_tableIn (pc := 1) (off := 71) (tgt := 72) hX dX5_leases_1 (by rw [e1_4]; decide +kernel) (by rw [e1_4]; decide +kernel) (by rw [e1_4]; decide +kernel) (by decide) ?_
            refine V_aload_n (pc := 72) (i := 0) hX dX5_leases_72 rfl rfl ?_
            refine V_getr (pc := 73) hX fX5_26 dX5_leases_73 rfl rfl ?_
            refine V_getf (pc := 76) hX fX5_159 dX5_leases_76 rfl rfl ?_
            exact V_iret (pc := 79) (st := []) hX hr (by first | rfl | exact bI_nar _ | decide +kernel) dX5_leases_79 (⟨by rw [leasesF, if_neg e1_0, if_neg e1_1, if_neg e1_2, if_neg e1_3, if_pos e1_4], by rw [leasesM, if_neg (hne (by decide) (by decide) (by decide) e1_4)]⟩)
          · skip
            refine V_tableOut (pc := 1) (tgt := 80) hX dX5_leases_1 (tsw_out 4 (by
                intro j hj
                rcases (show j = 0 ∨ j = 1 ∨ j = 2 ∨ j = 3 ∨ j = 4 by omega) with rfl | rfl | rfl | rfl | rfl
                · exact e1_0
                · exact e1_1
                · exact e1_2
                · exact e1_3
                · exact e1_4)) (by decide) ?_
            refine V_ldc (pc := 80) hX kX5_52 dX5_leases_80 ?_
            exact V_iret (pc := 82) (st := []) hX hr (by first | rfl | exact bI_nar _ | decide +kernel) dX5_leases_82 (⟨by rw [leasesF, if_neg e1_0, if_neg e1_1, if_neg e1_2, if_neg e1_3, if_neg e1_4], by rw [leasesM, if_neg e1_2]⟩)

