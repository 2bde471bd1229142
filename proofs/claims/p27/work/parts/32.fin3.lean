/-! ===== the law's body: the least of all sets of sets ===== -/
def bstF (c th : Nat → Int32) (dem : Int32) (n : Nat) : Nat → Int32
  | 0 => nI 1000000
  | s + 1 => if dem &&& (allf th s n ^^^ (-1)) = 0 ∧ sumf c s n < bstF c th dem n s then sumf c s n else bstF c th dem n s
theorem sum_s {c : Nat → Int32} {s k : Nat} (h : k < 32) : sumf c s k + ((nI s >>> (nI k &&& 31)) &&& nI 1) * c k = sumf c s (k + 1) := by
  rw [sbit h, sumf]
  cases bt (nI s) k with
  | false => rw [if_neg Bool.false_ne_true, show bI false = nI 0 from rfl, mul0, add0]
  | true => rw [if_pos rfl, show bI true = nI 1 from rfl, mul1]
theorem or0 (x : Int32) : x ||| nI 0 = x := by
  apply b_ext
  intro i hi
  rw [b_or, nI_0, b_0, Bool.or_false]
theorem shl_N : ∀ N, N < 10 → nI 1 <<< (nI N &&& 31) = nI (2 ^ N) := by decide +kernel
set_option maxRecDepth 100000 in
set_option maxHeartbeats 4000000 in
theorem l_sums {L : Nat} {xs : Nat → Int32} {X : XC} (hX : Cok X RL cL_law 15) (hp : Pok X) (hR : Rok X 20) (hs : Scr X L xs) (hL : L < 2 ^ 31) {σ : Mem} {N s : Nat} {dem bo pd all sh near best : Int32} (hN : N ≤ 9) (kk : Lw X 800 [some (.ref 52), some (.ref 0), some (.int (nI N)), some (.int (dem)), some (.int (bo)), some (.int (pd)), some (.ref 53), some (.int (all)), some (.int (sh)), some (.int (near)), some (.int (best)), some (.int (nI s)), some (.int (sumf (cF L xs) s N)), some (.int (allf (thF L xs) s N)), some (.int (nI N))] [] σ) (k : Nat) (hk : k ≤ N) : Lw X 743 [some (.ref 52), some (.ref 0), some (.int (nI N)), some (.int (dem)), some (.int (bo)), some (.int (pd)), some (.ref 53), some (.int (all)), some (.int (sh)), some (.int (near)), some (.int (best)), some (.int (nI s)), some (.int (sumf (cF L xs) s k)), some (.int (allf (thF L xs) s k)), some (.int (nI k))] [] σ := by
  refine L_iload (pc := 743) (i := 14) hX dL_law_743 rfl ?_
  refine L_iload_n (pc := 745) (i := 2) hX dL_law_745 rfl rfl ?_
  refine L_icmp_geN (pc := 746) (tgt := 800) hX dL_law_746 (by decide) (by omega) (by omega) (fun h746 => ?_) (fun h746 => ?_)
  · obtain rfl : k = N := by omega
    exact kk
  · refine L_iload (pc := 749) (i := 12) hX dL_law_749 rfl ?_
    refine L_iload (pc := 751) (i := 11) hX dL_law_751 rfl ?_
    refine L_iload (pc := 753) (i := 14) hX dL_law_753 rfl ?_
    refine L_ishr (pc := 755) hX dL_law_755 ?_
    refine L_iconst (pc := 756) (v := (nI 1)) hX dL_law_756 (by decide +kernel) ?_
    refine L_iand (pc := 757) hX dL_law_757 ?_
    refine L_aload_n (pc := 758) (i := 0) hX dL_law_758 rfl rfl ?_
    refine L_iload (pc := 759) (i := 14) hX dL_law_759 rfl ?_
    refine L_callSsi (pc := 761) hX hp (hR.mono (by omega)) mL_33 hs (c_cost hL _ (by omega) _) dL_law_761 rfl rfl rfl (Nat.le_of_ble_eq_true rfl) (rfl) ?_
    refine L_imul (pc := 764) hX dL_law_764 ?_
    refine L_iadd (pc := 765) hX dL_law_765 ?_
    refine L_istore12 (pc := 766) hX dL_law_766 rfl ?_
    refine L_iload (pc := 768) (i := 13) hX dL_law_768 rfl ?_
    refine L_iload (pc := 770) (i := 11) hX dL_law_770 rfl ?_
    refine L_iload (pc := 772) (i := 14) hX dL_law_772 rfl ?_
    refine L_ishr (pc := 774) hX dL_law_774 ?_
    refine L_iconst (pc := 775) (v := (nI 1)) hX dL_law_775 (by decide +kernel) ?_
    refine L_iand (pc := 776) hX dL_law_776 ?_
    refine L_iconst (pc := 777) (v := (nI 1)) hX dL_law_777 (by decide +kernel) ?_
    refine L_icmp_neS (pc := 778) (tgt := 790) hX dL_law_778 (by decide) (by omega) (fun h778 => ?_) (fun h778 => ?_)
    · refine L_iconst (pc := 790) (v := (nI 0)) hX dL_law_790 (by decide +kernel) ?_
      refine L_ior (pc := 791) hX dL_law_791 ?_
      refine L_istore13 (pc := 792) hX dL_law_792 rfl ?_
      refine L_iinc14 (pc := 794) hX dL_law_794 rfl (iinc1 _) ?_
      refine L_goto (pc := 797) (tgt := 743) hX dL_law_797 (by decide) ?_
      have ih := l_sums hX hp hR hs hL hN kk (k + 1) (by omega)
      rw [allf, h778, if_neg Bool.false_ne_true, ← sum_s (by omega)] at ih
      rw [or0]
      exact ih
    · refine L_aload_n (pc := 781) (i := 0) hX dL_law_781 rfl rfl ?_
      refine L_iload (pc := 782) (i := 14) hX dL_law_782 rfl ?_
      refine L_callSsi (pc := 784) hX hp (hR.mono (by omega)) mL_19 hs (c_things hL _ (by omega) _) dL_law_784 rfl rfl rfl (Nat.le_of_ble_eq_true rfl) (rfl) ?_
      refine L_goto (pc := 787) (tgt := 791) hX dL_law_787 (by decide) ?_
      refine L_ior (pc := 791) hX dL_law_791 ?_
      refine L_istore13 (pc := 792) hX dL_law_792 rfl ?_
      refine L_iinc14 (pc := 794) hX dL_law_794 rfl (iinc1 _) ?_
      refine L_goto (pc := 797) (tgt := 743) hX dL_law_797 (by decide) ?_
      have ih := l_sums hX hp hR hs hL hN kk (k + 1) (by omega)
      rw [allf, h778, if_pos rfl, ← sum_s (by omega)] at ih
      exact ih
termination_by N - k
set_option maxRecDepth 100000 in
set_option maxHeartbeats 4000000 in
theorem l_800 {L : Nat} {xs : Nat → Int32} {X : XC} (hX : Cok X RL cL_law 15) (hp : Pok X) (hR : Rok X 20) (hs : Scr X L xs) (hL : L < 2 ^ 31) {σ : Mem} {N s : Nat} {dem bo pd all sh near v : Int32} (ih : Lw X 726 [some (.ref 52), some (.ref 0), some (.int (nI N)), some (.int (dem)), some (.int (bo)), some (.int (pd)), some (.ref 53), some (.int (all)), some (.int (sh)), some (.int (near)), some (.int (bstF (cF L xs) (thF L xs) dem N (s + 1))), some (.int (nI (s + 1))), none, none, none] [] σ) : Lw X 800 [some (.ref 52), some (.ref 0), some (.int (nI N)), some (.int (dem)), some (.int (bo)), some (.int (pd)), some (.ref 53), some (.int (all)), some (.int (sh)), some (.int (near)), some (.int (bstF (cF L xs) (thF L xs) dem N s)), some (.int (nI s)), some (.int (sumf (cF L xs) s N)), some (.int (allf (thF L xs) s N)), some (.int (v))] [] σ := by
  refine L_iload_n (pc := 800) (i := 3) hX dL_law_800 rfl rfl ?_
  refine L_iload (pc := 801) (i := 13) hX dL_law_801 rfl ?_
  refine L_iconst (pc := 803) (v := (-1)) hX dL_law_803 (by decide +kernel) ?_
  refine L_ixor (pc := 804) hX dL_law_804 ?_
  refine L_iand (pc := 805) hX dL_law_805 ?_
  refine L_if_ne (pc := 806) (tgt := 821) hX dL_law_806 (by decide) (fun h806 => ?_) (fun h806 => ?_)
  · refine L_iload (pc := 821) (i := 10) hX dL_law_821 rfl ?_
    refine L_istore10 (pc := 823) hX dL_law_823 rfl ?_
    refine L_iinc11 (pc := 825) hX dL_law_825 rfl (iinc1 _) ?_
    refine L_goto (pc := 828) (tgt := 726) hX dL_law_828 (by decide) ?_
    rw [bstF, if_neg (fun q => h806 q.1)] at ih
    exact Lw.fg (by repeat (first | exact fgt_n | refine fgt_c (Or.inr rfl) ?_ | refine fgt_c (Or.inl rfl) ?_)) ih
  · refine L_iload (pc := 809) (i := 12) hX dL_law_809 rfl ?_
    refine L_iload (pc := 811) (i := 10) hX dL_law_811 rfl ?_
    refine L_icmp_ge (pc := 813) (tgt := 821) hX dL_law_813 (by decide) (fun h813 => ?_) (fun h813 => ?_)
    · refine L_iload (pc := 821) (i := 10) hX dL_law_821 rfl ?_
      refine L_istore10 (pc := 823) hX dL_law_823 rfl ?_
      refine L_iinc11 (pc := 825) hX dL_law_825 rfl (iinc1 _) ?_
      refine L_goto (pc := 828) (tgt := 726) hX dL_law_828 (by decide) ?_
      rw [bstF, if_neg (fun q => absurd q.2 (Int32.not_lt.mpr h813))] at ih
      exact Lw.fg (by repeat (first | exact fgt_n | refine fgt_c (Or.inr rfl) ?_ | refine fgt_c (Or.inl rfl) ?_)) ih
    · refine L_iload (pc := 816) (i := 12) hX dL_law_816 rfl ?_
      refine L_goto (pc := 818) (tgt := 823) hX dL_law_818 (by decide) ?_
      refine L_istore10 (pc := 823) hX dL_law_823 rfl ?_
      refine L_iinc11 (pc := 825) hX dL_law_825 rfl (iinc1 _) ?_
      refine L_goto (pc := 828) (tgt := 726) hX dL_law_828 (by decide) ?_
      rw [bstF, if_pos ⟨h806, Int32.not_le.mp h813⟩] at ih
      exact Lw.fg (by repeat (first | exact fgt_n | refine fgt_c (Or.inr rfl) ?_ | refine fgt_c (Or.inl rfl) ?_)) ih
set_option maxRecDepth 100000 in
set_option maxHeartbeats 4000000 in
theorem l_best {L : Nat} {xs : Nat → Int32} {X : XC} (hX : Cok X RL cL_law 15) (hp : Pok X) (hR : Rok X 20) (hs : Scr X L xs) (hL : L < 2 ^ 31) {σ : Mem} {N M : Nat} {dem bo pd all sh near : Int32} (hN : N ≤ 9) (hM : nI 1 <<< (nI N &&& 31) = nI M) (hM2 : M ≤ 512) (kk : Lw X 831 [some (.ref 52), some (.ref 0), some (.int (nI N)), some (.int (dem)), some (.int (bo)), some (.int (pd)), some (.ref 53), some (.int (all)), some (.int (sh)), some (.int (near)), some (.int (bstF (cF L xs) (thF L xs) dem N M)), some (.int (nI M)), none, none, none] [] σ) (s : Nat) (hk : s ≤ M) : Lw X 726 [some (.ref 52), some (.ref 0), some (.int (nI N)), some (.int (dem)), some (.int (bo)), some (.int (pd)), some (.ref 53), some (.int (all)), some (.int (sh)), some (.int (near)), some (.int (bstF (cF L xs) (thF L xs) dem N s)), some (.int (nI s)), none, none, none] [] σ := by
  refine L_iload (pc := 726) (i := 11) hX dL_law_726 rfl ?_
  refine L_iconst (pc := 728) (v := (nI 1)) hX dL_law_728 (by decide +kernel) ?_
  refine L_iload_n (pc := 729) (i := 2) hX dL_law_729 rfl rfl ?_
  refine L_ishl (pc := 730) hX dL_law_730 ?_
  rw [hM]
  refine L_icmp_geN (pc := 731) (tgt := 831) hX dL_law_731 (by decide) (by omega) (by omega) (fun h731 => ?_) (fun h731 => ?_)
  · obtain rfl : s = M := by omega
    exact kk
  · refine L_iconst (pc := 734) (v := (nI 0)) hX dL_law_734 (by decide +kernel) ?_
    refine L_istore12 (pc := 735) hX dL_law_735 rfl ?_
    refine L_iconst (pc := 737) (v := (nI 0)) hX dL_law_737 (by decide +kernel) ?_
    refine L_istore13 (pc := 738) hX dL_law_738 rfl ?_
    refine L_iconst (pc := 740) (v := (nI 0)) hX dL_law_740 (by decide +kernel) ?_
    refine L_istore14 (pc := 741) hX dL_law_741 rfl ?_
    exact l_sums hX hp hR hs hL hN (l_800 hX hp hR hs hL (l_best hX hp hR hs hL hN hM hM2 kk (s + 1) (by omega))) 0 (Nat.zero_le _)
termination_by M - s

