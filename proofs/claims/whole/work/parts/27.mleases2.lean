def mleOK (l c : Int32) : Bool := leOK l c
/-- whether the reference refuses a length: not the next -/
def mnextF (L : Nat → Nat) (n l : Nat) : Bool := decide (n = 0 ∨ (l % L (n - 1) = 0 ∧ l ≠ L (n - 1)))
def mleaseF (L : Nat → Nat) (n : Nat) (q : Bool) (l c : Int32) : Int32 := if leOK l c then (if q || !(mnextF L n (tn l)) then (-1000002) else if n = 4 then (-1000003) else nI n) else (-1000001)
def mladdM (σ : Mem) (n : Nat) (l c : Int32) : Mem := mu (mu (mu σ 59 n l) 60 n c) 52 12 (nI (n + 1))
def mleaseM (σ : Mem) (L : Nat → Nat) (n : Nat) (q : Bool) (l c : Int32) : Mem := if leOK l c then (if q || !(mnextF L n (tn l)) then σ else if n = 4 then σ else mladdM σ n l c) else σ
set_option maxRecDepth 100000 in
set_option maxHeartbeats 4000000 in
theorem c_mlease (n : Nat) (L : Nat → Nat) (l c : Int32) (σ : Mem) (hn : σ 52 12 = nI n) (hL : lok σ 59 n L) (hn4 : n ≤ 4) : Cc yX6_lease cX6_lease 3 (some .int) 1 [.ref 52, .int l, .int c] σ (rI (mleaseF L n (decide (0 ≤ σ 52 18)) l c) (mleaseM (m0 σ) L n (decide (0 ≤ σ 52 18)) l c)) := by
  refine Cc.intro (by decide +kernel) [some (.ref 52), some (.int l), some (.int c)] (fun _ => rfl) rfl (fun _ => Nat.le_of_ble_eq_true rfl) ?_
  intro X hX hR hr
  have a12 : m0 σ 52 12 = nI n := by rw [m0_c (by decide)]; exact hn
  have a18 : m0 σ 52 18 = σ 52 18 := m0_c (by decide)
  have a59 : m0 σ 59 = σ 59 := m0_r (by decide)
  refine V_aload_n (pc := 0) (i := 0) hX dX6_lease_0 rfl rfl ?_
  refine V_iconst (pc := 1) (v := (nI 0)) hX dX6_lease_1 (by decide +kernel) ?_
  refine V_putf (pc := 2) hX fX6_66 gi6_0 dX6_lease_2 rfl rfl ?_
  refine Vw.mem (rfl : m0 σ = _) ?_
  refine V_iload_n (pc := 5) (i := 1) hX dX6_lease_5 rfl rfl ?_
  refine V_i2l (pc := 6) hX dX6_lease_6 ?_
  refine V_lconst (pc := 7) (v := lN 1) hX dX6_lease_7 (by decide +kernel) ?_
  refine V_ldc2 (pc := 8) hX kX6_138 dX6_lease_8 ?_
  refine V_callSi (pc := 11) hX (hR.mono (by omega)) mX6_75 (c_inN l 1 64 (by decide) (by decide) _) dX6_lease_11 rfl rfl rfl (Nat.le_of_ble_eq_true rfl) ?_
  refine V_if_eqB (pc := 14) (tgt := 29) hX dX6_lease_14 (by decide) (fun h14 => ?_) (fun h14 => ?_)
  · refine V_ldc (pc := 29) hX kX6_85 dX6_lease_29 ?_
    exact V_iret (pc := 31) (st := []) hX hr (by first | rfl | exact bI_nar _ | decide +kernel) dX6_lease_31 (⟨by rw [mleaseF, leOK, h14]; rfl, by rw [mleaseM, leOK, h14]; rfl⟩)
  · refine V_iload_n (pc := 17) (i := 2) hX dX6_lease_17 rfl rfl ?_
    refine V_i2l (pc := 18) hX dX6_lease_18 ?_
    refine V_lconst (pc := 19) (v := lN 1) hX dX6_lease_19 (by decide +kernel) ?_
    refine V_ldc2 (pc := 20) hX kX6_96 dX6_lease_20 ?_
    refine V_callSi (pc := 23) hX (hR.mono (by omega)) mX6_75 (c_inN c 1 1000 (by decide) (by decide) _) dX6_lease_23 rfl rfl rfl (Nat.le_of_ble_eq_true rfl) ?_
    refine V_if_neB (pc := 26) (tgt := 32) hX dX6_lease_26 (by decide) (fun h26 => ?_) (fun h26 => ?_)
    · obtain ⟨l', l1, l2, rfl⟩ := inr2_of h14 (by decide)
      have eo : leOK (nI l') c = true := by rw [leOK, h14, h26]; rfl
      have tl : tn (nI l') = l' := tn_nI (by omega)
      refine V_aload_n (pc := 32) (i := 0) hX dX6_lease_32 rfl rfl ?_
      refine V_getf (pc := 33) hX fX6_44 dX6_lease_33 rfl rfl ?_
      rw [a18]
      refine V_if_ge (pc := 36) (tgt := 77) hX dX6_lease_36 (by decide) (fun h36 => ?_) (fun h36 => ?_)
      · refine V_ldc (pc := 77) hX kX6_103 dX6_lease_77 ?_
        exact V_iret (pc := 79) (st := []) hX hr (by first | rfl | exact bI_nar _ | decide +kernel) dX6_lease_79 (⟨by rw [mleaseF, eo, if_pos rfl, decide_eq_true h36]; rfl, by rw [mleaseM, eo, if_pos rfl, decide_eq_true h36]; rfl⟩)
      · refine V_aload_n (pc := 39) (i := 0) hX dX6_lease_39 rfl rfl ?_
        refine V_getf (pc := 40) hX fX6_140 dX6_lease_40 rfl rfl ?_
        rw [a12]
        refine V_if_le (pc := 43) (tgt := 80) hX dX6_lease_43 (by decide) (fun h43 => ?_) (fun h43 => ?_)
        · refine V_aload_n (pc := 80) (i := 0) hX dX6_lease_80 rfl rfl ?_
          refine V_getf (pc := 81) hX fX6_140 dX6_lease_81 rfl rfl ?_
          refine V_iconst (pc := 84) (v := (nI 4)) hX dX6_lease_84 (by decide +kernel) ?_
          rw [a12]
          refine V_icmp_neN (pc := 85) (tgt := 91) hX dX6_lease_85 (by decide) (by omega) (by omega) (fun h85 => ?_) (fun h85 => ?_)
          · refine V_aload_n (pc := 91) (i := 0) hX dX6_lease_91 rfl rfl ?_
            refine V_getr (pc := 92) hX fX6_28 dX6_lease_92 rfl rfl ?_
            refine V_aload_n (pc := 95) (i := 0) hX dX6_lease_95 rfl rfl ?_
            refine V_getf (pc := 96) hX fX6_140 dX6_lease_96 rfl rfl ?_
            rw [a12]
            refine V_iload_n (pc := 99) (i := 1) hX dX6_lease_99 rfl rfl ?_
            refine V_iast (pc := 100) hX dX6_lease_100 (rfl) (rfl) (by omega) (by decide) ?_
            refine V_aload_n (pc := 101) (i := 0) hX dX6_lease_101 rfl rfl ?_
            refine V_getr (pc := 102) hX fX6_31 dX6_lease_102 rfl rfl ?_
            refine V_aload_n (pc := 105) (i := 0) hX dX6_lease_105 rfl rfl ?_
            refine V_getf (pc := 106) hX fX6_140 dX6_lease_106 rfl rfl ?_
            simp only [mu_f, Nat.reduceEqDiff, ↓reduceIte, a12]
            refine V_iload_n (pc := 109) (i := 2) hX dX6_lease_109 rfl rfl ?_
            refine V_iast (pc := 110) hX dX6_lease_110 (rfl) (rfl) (by omega) (by decide) ?_
            refine V_aload_n (pc := 111) (i := 0) hX dX6_lease_111 rfl rfl ?_
            refine V_dup (pc := 112) hX dX6_lease_112 rfl ?_
            refine V_getf (pc := 113) hX fX6_140 dX6_lease_113 rfl rfl ?_
            simp only [mu_f, Nat.reduceEqDiff, ↓reduceIte, a12]
            refine V_iconst (pc := 116) (v := (nI 1)) hX dX6_lease_116 (by decide +kernel) ?_
            refine V_iadd (pc := 117) hX dX6_lease_117 ?_
            rw [nI_add]
            refine V_putf (pc := 118) hX fX6_140 gi6_12 dX6_lease_118 rfl rfl ?_
            refine V_aload_n (pc := 121) (i := 0) hX dX6_lease_121 rfl rfl ?_
            refine V_getf (pc := 122) hX fX6_140 dX6_lease_122 rfl rfl ?_
            refine V_iconst (pc := 125) (v := (nI 1)) hX dX6_lease_125 (by decide +kernel) ?_
            refine V_isub (pc := 126) hX dX6_lease_126 ?_
            simp only [mu_at]
            rw [pk_sub (by omega)]
            exact V_iret (pc := 127) (st := []) hX hr (by first | rfl | exact bI_nar _ | decide +kernel) dX6_lease_127 (by
  have hn0 : n = 0 := by
    rcases Nat.eq_zero_or_pos n with q | q
    · exact q
    · exact absurd h43 (nI_nle q (by omega))
  have hx : mnextF L n l' = true := decide_eq_true (Or.inl hn0)
  exact ⟨by rw [mleaseF, eo, if_pos rfl, decide_eq_false h36, tl, hx]; exact congrArg (fun z => some (Value.int z)) (if_neg (by omega)).symm, by rw [mleaseM, eo, if_pos rfl, decide_eq_false h36, tl, hx]; exact (if_neg (by omega)).symm⟩)
          · refine V_ldc (pc := 88) hX kX6_104 dX6_lease_88 ?_
            exact V_iret (pc := 90) (st := []) hX hr (by first | rfl | exact bI_nar _ | decide +kernel) dX6_lease_90 (by
  have hn0 : n = 0 := by
    rcases Nat.eq_zero_or_pos n with q | q
    · exact q
    · exact absurd h43 (nI_nle q (by omega))
  omega)
        · have hn0 : n ≠ 0 := fun q => h43 (by rw [q, nI_0]; decide)
          obtain ⟨e, k1, k2⟩ := hL (n - 1) (by omega)
          refine V_iload_n (pc := 46) (i := 1) hX dX6_lease_46 rfl rfl ?_
          refine V_aload_n (pc := 47) (i := 0) hX dX6_lease_47 rfl rfl ?_
          refine V_getr (pc := 48) hX fX6_28 dX6_lease_48 rfl rfl ?_
          refine V_aload_n (pc := 51) (i := 0) hX dX6_lease_51 rfl rfl ?_
          refine V_getf (pc := 52) hX fX6_140 dX6_lease_52 rfl rfl ?_
          refine V_iconst (pc := 55) (v := (nI 1)) hX dX6_lease_55 (by decide +kernel) ?_
          refine V_isub (pc := 56) hX dX6_lease_56 ?_
          rw [a12, pk_sub (by omega)]
          refine V_iald (pc := 57) hX dX6_lease_57 (rfl) (rfl) (by omega) (by decide) ?_
          rw [a59, e]
          refine V_irem (pc := 58) hX dX6_lease_58 (nI_ne0 (by omega) (by omega)) ?_
          rw [pk_rem (by omega) (by omega) (by omega)]
          refine V_if_ne (pc := 59) (tgt := 77) hX dX6_lease_59 (by decide) (fun h59 => ?_) (fun h59 => ?_)
          · refine V_ldc (pc := 77) hX kX6_103 dX6_lease_77 ?_
            exact V_iret (pc := 79) (st := []) hX hr (by first | rfl | exact bI_nar _ | decide +kernel) dX6_lease_79 (by
  have hx : mnextF L n l' = false := decide_eq_false (fun q => q.elim hn0 (fun q => h59 (by rw [q.1]; exact nI_0)))
  exact ⟨by rw [mleaseF, eo, if_pos rfl, decide_eq_false h36, tl, hx]; rfl, by rw [mleaseM, eo, if_pos rfl, decide_eq_false h36, tl, hx]; rfl⟩)
          · refine V_iload_n (pc := 62) (i := 1) hX dX6_lease_62 rfl rfl ?_
            refine V_aload_n (pc := 63) (i := 0) hX dX6_lease_63 rfl rfl ?_
            refine V_getr (pc := 64) hX fX6_28 dX6_lease_64 rfl rfl ?_
            refine V_aload_n (pc := 67) (i := 0) hX dX6_lease_67 rfl rfl ?_
            refine V_getf (pc := 68) hX fX6_140 dX6_lease_68 rfl rfl ?_
            refine V_iconst (pc := 71) (v := (nI 1)) hX dX6_lease_71 (by decide +kernel) ?_
            refine V_isub (pc := 72) hX dX6_lease_72 ?_
            rw [a12, pk_sub (by omega)]
            refine V_iald (pc := 73) hX dX6_lease_73 (rfl) (rfl) (by omega) (by decide) ?_
            rw [a59, e]
            refine V_icmp_neN (pc := 74) (tgt := 80) hX dX6_lease_74 (by decide) (by omega) (by omega) (fun h74 => ?_) (fun h74 => ?_)
            · refine V_aload_n (pc := 80) (i := 0) hX dX6_lease_80 rfl rfl ?_
              refine V_getf (pc := 81) hX fX6_140 dX6_lease_81 rfl rfl ?_
              refine V_iconst (pc := 84) (v := (nI 4)) hX dX6_lease_84 (by decide +kernel) ?_
              rw [a12]
              refine V_icmp_neN (pc := 85) (tgt := 91) hX dX6_lease_85 (by decide) (by omega) (by omega) (fun h85 => ?_) (fun h85 => ?_)
              · refine V_aload_n (pc := 91) (i := 0) hX dX6_lease_91 rfl rfl ?_
                refine V_getr (pc := 92) hX fX6_28 dX6_lease_92 rfl rfl ?_
                refine V_aload_n (pc := 95) (i := 0) hX dX6_lease_95 rfl rfl ?_
                refine V_getf (pc := 96) hX fX6_140 dX6_lease_96 rfl rfl ?_
                rw [a12]
                refine V_iload_n (pc := 99) (i := 1) hX dX6_lease_99 rfl rfl ?_
                refine V_iast (pc := 100) hX dX6_lease_100 (rfl) (rfl) (by omega) (by decide) ?_
                refine V_aload_n (pc := 101) (i := 0) hX dX6_lease_101 rfl rfl ?_
                refine V_getr (pc := 102) hX fX6_31 dX6_lease_102 rfl rfl ?_
                refine V_aload_n (pc := 105) (i := 0) hX dX6_lease_105 rfl rfl ?_
                refine V_getf (pc := 106) hX fX6_140 dX6_lease_106 rfl rfl ?_
                simp only [mu_f, Nat.reduceEqDiff, ↓reduceIte, a12]
                refine V_iload_n (pc := 109) (i := 2) hX dX6_lease_109 rfl rfl ?_
                refine V_iast (pc := 110) hX dX6_lease_110 (rfl) (rfl) (by omega) (by decide) ?_
                refine V_aload_n (pc := 111) (i := 0) hX dX6_lease_111 rfl rfl ?_
                refine V_dup (pc := 112) hX dX6_lease_112 rfl ?_
                refine V_getf (pc := 113) hX fX6_140 dX6_lease_113 rfl rfl ?_
                simp only [mu_f, Nat.reduceEqDiff, ↓reduceIte, a12]
                refine V_iconst (pc := 116) (v := (nI 1)) hX dX6_lease_116 (by decide +kernel) ?_
                refine V_iadd (pc := 117) hX dX6_lease_117 ?_
                rw [nI_add]
                refine V_putf (pc := 118) hX fX6_140 gi6_12 dX6_lease_118 rfl rfl ?_
                refine V_aload_n (pc := 121) (i := 0) hX dX6_lease_121 rfl rfl ?_
                refine V_getf (pc := 122) hX fX6_140 dX6_lease_122 rfl rfl ?_
                refine V_iconst (pc := 125) (v := (nI 1)) hX dX6_lease_125 (by decide +kernel) ?_
                refine V_isub (pc := 126) hX dX6_lease_126 ?_
                simp only [mu_at]
                rw [pk_sub (by omega)]
                exact V_iret (pc := 127) (st := []) hX hr (by first | rfl | exact bI_nar _ | decide +kernel) dX6_lease_127 (by
  have hm : l' % L (n - 1) = 0 := (nI_eq (Nat.lt_of_lt_of_le (Nat.mod_lt l' (by omega)) (by omega)) (by decide)).mp (h59.trans nI_0.symm)
  have hx : mnextF L n l' = true := decide_eq_true (Or.inr ⟨hm, h74⟩)
  exact ⟨by rw [mleaseF, eo, if_pos rfl, decide_eq_false h36, tl, hx]; exact congrArg (fun z => some (Value.int z)) (if_neg (by omega)).symm, by rw [mleaseM, eo, if_pos rfl, decide_eq_false h36, tl, hx]; exact (if_neg (by omega)).symm⟩)
              · refine V_ldc (pc := 88) hX kX6_104 dX6_lease_88 ?_
                exact V_iret (pc := 90) (st := []) hX hr (by first | rfl | exact bI_nar _ | decide +kernel) dX6_lease_90 (by
  have hm : l' % L (n - 1) = 0 := (nI_eq (Nat.lt_of_lt_of_le (Nat.mod_lt l' (by omega)) (by omega)) (by decide)).mp (h59.trans nI_0.symm)
  have hx : mnextF L n l' = true := decide_eq_true (Or.inr ⟨hm, h74⟩)
  exact ⟨by rw [mleaseF, eo, if_pos rfl, decide_eq_false h36, tl, hx]; exact congrArg (fun z => some (Value.int z)) (if_pos h85).symm, by rw [mleaseM, eo, if_pos rfl, decide_eq_false h36, tl, hx]; exact (if_pos h85).symm⟩)
            · refine V_ldc (pc := 77) hX kX6_103 dX6_lease_77 ?_
              exact V_iret (pc := 79) (st := []) hX hr (by first | rfl | exact bI_nar _ | decide +kernel) dX6_lease_79 (by
  have hx : mnextF L n l' = false := decide_eq_false (fun q => q.elim hn0 (fun q => q.2 h74))
  exact ⟨by rw [mleaseF, eo, if_pos rfl, decide_eq_false h36, tl, hx]; rfl, by rw [mleaseM, eo, if_pos rfl, decide_eq_false h36, tl, hx]; rfl⟩)
    · refine V_ldc (pc := 29) hX kX6_85 dX6_lease_29 ?_
      exact V_iret (pc := 31) (st := []) hX hr (by first | rfl | exact bI_nar _ | decide +kernel) dX6_lease_31 (⟨by rw [mleaseF, leOK, h14, h26]; rfl, by rw [mleaseM, leOK, h14, h26]; rfl⟩)

