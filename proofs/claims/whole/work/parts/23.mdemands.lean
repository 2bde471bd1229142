/-! ===== DEMANDS of a sheet's items, the reference's ===== -/
theorem mdemM_r {σ : Mem} {n t q : Nat} (h : q ≠ 52) (h2 : q ≠ 58) : mdemM σ n t q = σ q := by
  unfold mdemM
  split
  · split
    · exact (mu_ne h).symm
    · rw [← mu_ne h, mmB_r h]
      unfold mraise2 mask2
      rw [← mu_ne h2, ← mu_ne h]
  · rfl
theorem mdemM_c {σ : Mem} {n t : Nat} : mdemM σ n t 52 5 = σ 52 5 := by
  unfold mdemM
  split
  · split
    · exact mu_ni (by decide)
    · rw [mu_ni (by decide), mmB_c (by decide)]
      unfold mraise2 mask2
      rw [mu_np (by decide), mu_ni (by decide)]
  · rfl
theorem mdemandM_r {σ : Mem} {n q : Nat} {x : Int32} (h : q ≠ 52) (h2 : q ≠ 58) : mdemandM σ n x q = σ q := by
  unfold mdemandM
  split
  · exact mdemM_r h h2
  · rfl
theorem mdemandM_c {σ : Mem} {n : Nat} {x : Int32} : mdemandM σ n x 52 5 = σ 52 5 := by
  unfold mdemandM
  split
  · exact mdemM_c
  · rfl
def mdstV (σ : Mem) (n : Nat) (x : Int32) : Int32 := if 0 < mdemandV σ n x then mdemandV σ n x else nI 0
def mdfM (σ : Mem) (n : Nat) (it : Nat → Int32) : Nat → Mem
  | 0 => σ
  | k + 1 => mdemandM (mdfM σ n it k) n (it k)
def mdfV (σ : Mem) (n : Nat) (it : Nat → Int32) : Nat → Int32
  | 0 => nI 0
  | k + 1 => mdfV σ n it k + mdstV (mdfM σ n it k) n (it k)
theorem mdfM_r {σ : Mem} {n q : Nat} {it : Nat → Int32} (h : q ≠ 52) (h2 : q ≠ 58) : ∀ k, mdfM σ n it k q = σ q
  | 0 => rfl
  | k + 1 => by rw [mdfM, mdemandM_r h h2, mdfM_r h h2 k]
theorem mdfM_c {σ : Mem} {n : Nat} {it : Nat → Int32} : ∀ k, mdfM σ n it k 52 5 = σ 52 5
  | 0 => rfl
  | k + 1 => by rw [mdfM, mdemandM_c, mdfM_c k]
set_option maxRecDepth 100000 in
set_option maxHeartbeats 4000000 in
theorem l_mdemands {s i m n : Nat} {z : Option Value} {X : XC} {P : Option Value → Mem → Prop} {σ : Mem} (hX : Cok X RX6 cX6_demands 7) (hR : Rok X 2) (hr : Ret X (some .int) P) (hz : nol [z] = true) (hn : σ 52 5 = nI n) (hn10 : n ≤ 10) (hs : s < 8) (hi : i + m ≤ 60) (hp : P (some (.int (mdfV σ n (fun k => σ 55 (60 * s + i + k)) m))) (mdfM σ n (fun k => σ 55 (60 * s + i + k)) m)) (k : Nat) (hk : k ≤ m) :
    Vw X 79 [some (.ref 52), some (.int (nI s)), some (.int (nI i)), some (.int (nI m)), some (.int (mdfV σ n (fun k => σ 55 (60 * s + i + k)) k)), some (.int (nI k)), z] [] (mdfM σ n (fun k => σ 55 (60 * s + i + k)) k) := by
  have it : mdfM σ n (fun k => σ 55 (60 * s + i + k)) k 55 = σ 55 := by rw [mdfM_r (by decide) (by decide)]
  have hc : mdfM σ n (fun k => σ 55 (60 * s + i + k)) k 52 5 = nI n := by rw [mdfM_c]; exact hn
  have ih := fun (h : k < m) (z : Option Value) (hz : nol [z] = true) => l_mdemands hX hR hr (z := z) hz hn hn10 hs hi hp (k + 1) h
  refine V_iload (pc := 79) (i := 5) hX dX6_demands_79 rfl ?_
  refine V_iload_n (pc := 81) (i := 3) hX dX6_demands_81 rfl rfl ?_
  refine V_icmp_geN (pc := 82) (tgt := 127) hX dX6_demands_82 (by decide) (by omega) (by omega) (fun h82 => ?_) (fun h82 => ?_)
  · obtain rfl : k = m := by omega
    refine V_iload (pc := 127) (i := 4) hX dX6_demands_127 rfl ?_
    exact V_iret (pc := 129) (st := []) hX hr (by first | rfl | exact bI_nar _ | decide +kernel) dX6_demands_129 (hp)
  · refine V_aload_n (pc := 85) (i := 0) hX dX6_demands_85 rfl rfl ?_
    refine V_aload_n (pc := 86) (i := 0) hX dX6_demands_86 rfl rfl ?_
    refine V_getr (pc := 87) hX fX6_16 dX6_demands_87 rfl rfl ?_
    refine V_bipush (pc := 90) (v := (nI 60)) hX dX6_demands_90 (by decide +kernel) ?_
    refine V_iload_n (pc := 92) (i := 1) hX dX6_demands_92 rfl rfl ?_
    refine V_imul (pc := 93) hX dX6_demands_93 ?_
    refine V_iload_n (pc := 94) (i := 2) hX dX6_demands_94 rfl rfl ?_
    refine V_iadd (pc := 95) hX dX6_demands_95 ?_
    refine V_iload (pc := 96) (i := 5) hX dX6_demands_96 rfl ?_
    refine V_iadd (pc := 98) hX dX6_demands_98 ?_
    refine V_iald (pc := 99) hX dX6_demands_99 (rfl) (show _ = nI (60 * s + i + k) by rw [pk_mul, nI_add, nI_add]) (by omega) (by decide) ?_
    rw [it]
    refine V_callVi (pc := 100) hX (hR.mono (by omega)) mX6_121 (c_mdemG n _ _ hc hn10) dX6_demands_100 rfl rfl rfl rfl (Nat.le_of_ble_eq_true rfl) ?_
    refine V_istore6 (pc := 103) hX dX6_demands_103 hz ?_
    have ihk := ih h82 (some (.int (mdemandV (mdfM σ n (fun k => σ 55 (60 * s + i + k)) k) n (σ 55 (60 * s + i + k))))) rfl
    rw [mdfV, mdfM, mdstV] at ihk
    refine V_iload (pc := 105) (i := 4) hX dX6_demands_105 rfl ?_
    refine V_iload (pc := 107) (i := 6) hX dX6_demands_107 rfl ?_
    refine V_if_le (pc := 109) (tgt := 117) hX dX6_demands_109 (by decide) (fun h109 => ?_) (fun h109 => ?_)
    · rw [if_neg (Int32.not_lt.mpr h109)] at ihk
      refine V_iconst (pc := 117) (v := (nI 0)) hX dX6_demands_117 (by decide +kernel) ?_
      refine V_iadd (pc := 118) hX dX6_demands_118 ?_
      refine V_istore4 (pc := 119) hX dX6_demands_119 rfl ?_
      refine V_iinc5 (pc := 121) hX dX6_demands_121 rfl (iinc1 _) ?_
      refine V_goto (pc := 124) (tgt := 79) hX dX6_demands_124 (by decide) ?_
      exact ihk
    · rw [if_pos (Int32.not_le.mp h109)] at ihk
      refine V_iload (pc := 112) (i := 6) hX dX6_demands_112 rfl ?_
      refine V_goto (pc := 114) (tgt := 118) hX dX6_demands_114 (by decide) ?_
      refine V_iadd (pc := 118) hX dX6_demands_118 ?_
      refine V_istore4 (pc := 119) hX dX6_demands_119 rfl ?_
      refine V_iinc5 (pc := 121) hX dX6_demands_121 rfl (iinc1 _) ?_
      refine V_goto (pc := 124) (tgt := 79) hX dX6_demands_124 (by decide) ?_
      exact ihk
termination_by m - k
def mfi (σ : Mem) (x i m : Int32) : Int32 := if σ 53 (tn x) = (-1) then nI 1 else if rowM (σ 54 (tn x)) i m then nI 0 else nI 2
def mdemandsV (σ : Mem) (n : Nat) (x i m : Int32) : Int32 := if dsOK x m then (if mfi σ x i m = 0 then mdfV (m1 σ) n (fun k => σ 55 (60 * tn x + tn i + k)) (tn m) else (-1000010) - mfi σ x i m) else (-1000001)
def mdemandsM (σ : Mem) (n : Nat) (x i m : Int32) : Mem := if dsOK x m then (if mfi σ x i m = 0 then mdfM (m1 σ) n (fun k => σ 55 (60 * tn x + tn i + k)) (tn m) else mu (m1 σ) 52 1 (mfi σ x i m)) else m0 σ
set_option maxRecDepth 100000 in
set_option maxHeartbeats 4000000 in
theorem c_mdemands (n : Nat) (x i m : Int32) (σ : Mem) (hn : σ 52 5 = nI n) (hn10 : n ≤ 10) (hz : mzok σ) : Cc yX6_demands cX6_demands 7 (some .int) 3 [.ref 52, .int x, .int i, .int m] σ (rI (mdemandsV σ n x i m) (mdemandsM σ n x i m)) := by
  refine Cc.intro (by decide +kernel) [some (.ref 52), some (.int x), some (.int i), some (.int m), none, none, none] (fun _ => rfl) rfl (fun _ => Nat.le_of_ble_eq_true rfl) ?_
  intro X hX hR hr
  have b53 : m1 σ 53 = σ 53 := m1_r (by decide)
  have b54 : m1 σ 54 = σ 54 := m1_r (by decide)
  have b55 : m1 σ 55 = σ 55 := m1_r (by decide)
  have b5 : m1 σ 52 5 = nI n := by rw [m1_c (by decide) (by decide)]; exact hn
  have pos : ∀ {x : Int32}, ¬ x < 0 → 0 ≤ x.toInt := fun {x} h => by
    rw [Int32.lt_iff_toInt_lt, Int32.toInt_zero] at h
    omega
  have neg : ∀ {x : Int32}, x < 0 → ¬ 0 ≤ x.toInt := fun {x} h q => by
    rw [Int32.lt_iff_toInt_lt, Int32.toInt_zero] at h
    omega
  refine V_aload_n (pc := 0) (i := 0) hX dX6_demands_0 rfl rfl ?_
  refine V_iconst (pc := 1) (v := (nI 0)) hX dX6_demands_1 (by decide +kernel) ?_
  refine V_putf (pc := 2) hX fX6_66 gi6_0 dX6_demands_2 rfl rfl ?_
  refine Vw.mem (rfl : m0 σ = _) ?_
  refine V_iload_n (pc := 5) (i := 1) hX dX6_demands_5 rfl rfl ?_
  refine V_callSi (pc := 6) hX (hR.mono (by omega)) mX6_79 (c_misSheet _ _) dX6_demands_6 rfl rfl rfl (Nat.le_of_ble_eq_true rfl) ?_
  refine V_if_eqB (pc := 9) (tgt := 24) hX dX6_demands_9 (by decide) (fun h9 => ?_) (fun h9 => ?_)
  · refine V_ldc (pc := 24) hX kX6_85 dX6_demands_24 ?_
    exact V_iret (pc := 26) (st := []) hX hr (by first | rfl | exact bI_nar _ | decide +kernel) dX6_demands_26 (⟨by rw [mdemandsV, dsOK, h9]; rfl, by rw [mdemandsM, dsOK, h9]; rfl⟩)
  · refine V_iload_n (pc := 12) (i := 3) hX dX6_demands_12 rfl rfl ?_
    refine V_i2l (pc := 13) hX dX6_demands_13 ?_
    refine V_lconst (pc := 14) (v := lN 1) hX dX6_demands_14 (by decide +kernel) ?_
    refine V_ldc2 (pc := 15) hX kX6_124 dX6_demands_15 ?_
    refine V_callSi (pc := 18) hX (hR.mono (by omega)) mX6_75 (c_inN m 1 60 (by decide) (by decide) _) dX6_demands_18 rfl rfl rfl (Nat.le_of_ble_eq_true rfl) ?_
    refine V_if_neB (pc := 21) (tgt := 27) hX dX6_demands_21 (by decide) (fun h21 => ?_) (fun h21 => ?_)
    · obtain ⟨s, hs, rfl⟩ := inr_of h9 (by decide)
      obtain ⟨hl, z, hz60, ez⟩ := hz s hs
      obtain ⟨m', hm1, hm60, rfl⟩ := inr2_of h21 (by decide)
      have eo : dsOK (nI s) (nI m') = true := by rw [dsOK, h9, h21]; rfl
      have ts : tn (nI s) = s := tn_nI (by omega)
      have bad : ∀ k : Nat, 0 < k → k < 6 → mfi σ (nI s) i (nI m') = nI k → some (Value.int ((-1000010) - nI k)) = some (Value.int (mdemandsV σ n (nI s) i (nI m'))) ∧ mu (m1 σ) 52 1 (nI k) = mdemandsM σ n (nI s) i (nI m') := by
        intro k h0 h6 e
        have h7 : ¬ nI k = 0 := nI_ne0 h0 (by omega)
        exact ⟨by rw [mdemandsV, eo, if_pos rfl, e, if_neg h7], by rw [mdemandsM, eo, if_pos rfl, e, if_neg h7]⟩
      refine V_aload_n (pc := 27) (i := 0) hX dX6_demands_27 rfl rfl ?_
      refine V_iconst (pc := 28) (v := (nI 0)) hX dX6_demands_28 (by decide +kernel) ?_
      refine V_putf (pc := 29) hX fX6_69 gi6_1 dX6_demands_29 rfl rfl ?_
      refine Vw.mem (rfl : m1 σ = _) ?_
      refine V_aload_n (pc := 32) (i := 0) hX dX6_demands_32 rfl rfl ?_
      refine V_getr (pc := 33) hX fX6_7 dX6_demands_33 rfl rfl ?_
      refine V_iload_n (pc := 36) (i := 1) hX dX6_demands_36 rfl rfl ?_
      refine V_iald (pc := 37) hX dX6_demands_37 (rfl) (rfl) (by omega) (by decide) ?_
      rw [b53]
      refine V_if_ge (pc := 38) (tgt := 47) hX dX6_demands_38 (by decide) (fun h38 => ?_) (fun h38 => ?_)
      · refine V_iload_n (pc := 47) (i := 2) hX dX6_demands_47 rfl rfl ?_
        refine V_if_lt (pc := 48) (tgt := 67) hX dX6_demands_48 (by decide) (fun h48 => ?_) (fun h48 => ?_)
        · refine V_aload_n (pc := 67) (i := 0) hX dX6_demands_67 rfl rfl ?_
          refine V_iconst (pc := 68) (v := (nI 2)) hX dX6_demands_68 (by decide +kernel) ?_
          refine V_callVi (pc := 69) hX (hR.mono (by omega)) mX6_86 (c_found _ _) dX6_demands_69 rfl rfl rfl rfl (Nat.le_of_ble_eq_true rfl) ?_
          exact V_iret (pc := 72) (st := []) hX hr (by first | rfl | exact bI_nar _ | decide +kernel) dX6_demands_72 (bad 2 (by decide) (by decide) (by rw [mfi, ts, if_neg (lane_pos h38), rowM, decide_eq_false (fun q => neg h48 q.1)]; rfl))
        · refine V_iload_n (pc := 51) (i := 2) hX dX6_demands_51 rfl rfl ?_
          refine V_i2l (pc := 52) hX dX6_demands_52 ?_
          refine V_iload_n (pc := 53) (i := 3) hX dX6_demands_53 rfl rfl ?_
          refine V_i2l (pc := 54) hX dX6_demands_54 ?_
          refine V_ladd (pc := 55) hX dX6_demands_55 ?_
          refine V_aload_n (pc := 56) (i := 0) hX dX6_demands_56 rfl rfl ?_
          refine V_getr (pc := 57) hX fX6_13 dX6_demands_57 rfl rfl ?_
          refine V_iload_n (pc := 60) (i := 1) hX dX6_demands_60 rfl rfl ?_
          refine V_iald (pc := 61) hX dX6_demands_61 (rfl) (rfl) (by omega) (by decide) ?_
          refine V_i2l (pc := 62) hX dX6_demands_62 ?_
          rw [b54]
          refine V_lcmp (pc := 63) hX dX6_demands_63 ?_
          refine V_if_le (pc := 64) (tgt := 73) hX dX6_demands_64 (by decide) (fun h64 => ?_) (fun h64 => ?_)
          · have ra : rowM (σ 54 s) i (nI m') = true := decide_eq_true ⟨pos h48, by rw [nI_toInt (by omega)]; omega, row_le (Int32.not_lt.mpr h64)⟩
            have e0 : mfi σ (nI s) i (nI m') = nI 0 := by rw [mfi, ts, if_neg (lane_pos h38), ra, if_pos rfl]
            rw [ez] at ra
            obtain ⟨i', n', rfl, e5, hl1⟩ := rowM_of hz60 ra
            obtain rfl : m' = n' := by
              have := congrArg Int32.toInt e5
              rw [nI_toInt (by omega), nI_toInt (by omega)] at this
              omega
            refine V_iconst (pc := 73) (v := (nI 0)) hX dX6_demands_73 (by decide +kernel) ?_
            refine V_istore4 (pc := 74) hX dX6_demands_74 rfl ?_
            refine V_iconst (pc := 76) (v := (nI 0)) hX dX6_demands_76 (by decide +kernel) ?_
            refine V_istore5 (pc := 77) hX dX6_demands_77 rfl ?_
            refine l_mdemands (z := none) hX (hR.mono (by omega)) hr rfl b5 hn10 hs (by omega) ?_ 0 (by omega)
            exact ⟨by rw [mdemandsV, eo, if_pos rfl, e0, if_pos nI_0, b55, ts, tn_nI (by omega), tn_nI (by omega)], by rw [mdemandsM, eo, if_pos rfl, e0, if_pos nI_0, b55, ts, tn_nI (by omega), tn_nI (by omega)]⟩
          · refine V_aload_n (pc := 67) (i := 0) hX dX6_demands_67 rfl rfl ?_
            refine V_iconst (pc := 68) (v := (nI 2)) hX dX6_demands_68 (by decide +kernel) ?_
            refine V_callVi (pc := 69) hX (hR.mono (by omega)) mX6_86 (c_found _ _) dX6_demands_69 rfl rfl rfl rfl (Nat.le_of_ble_eq_true rfl) ?_
            exact V_iret (pc := 72) (st := []) hX hr (by first | rfl | exact bI_nar _ | decide +kernel) dX6_demands_72 (bad 2 (by decide) (by decide) (by rw [mfi, ts, if_neg (lane_pos h38), rowM, decide_eq_false (fun q => row_gt (Int32.not_le.mp h64) q.2.2)]; rfl))
      · refine V_aload_n (pc := 41) (i := 0) hX dX6_demands_41 rfl rfl ?_
        refine V_iconst (pc := 42) (v := (nI 1)) hX dX6_demands_42 (by decide +kernel) ?_
        refine V_callVi (pc := 43) hX (hR.mono (by omega)) mX6_86 (c_found _ _) dX6_demands_43 rfl rfl rfl rfl (Nat.le_of_ble_eq_true rfl) ?_
        exact V_iret (pc := 46) (st := []) hX hr (by first | rfl | exact bI_nar _ | decide +kernel) dX6_demands_46 (bad 1 (by decide) (by decide) (by rw [mfi, ts, if_pos (lane_neg hz hs h38)]))
    · refine V_ldc (pc := 24) hX kX6_85 dX6_demands_24 ?_
      exact V_iret (pc := 26) (st := []) hX hr (by first | rfl | exact bI_nar _ | decide +kernel) dX6_demands_26 (⟨by rw [mdemandsV, dsOK, h9, h21]; rfl, by rw [mdemandsM, dsOK, h9, h21]; rfl⟩)

