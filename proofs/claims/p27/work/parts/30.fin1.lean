/-! ===== the law's body: prices added, share, each set, the best ===== -/
theorem and1 (a b : Int32) : (a &&& b) &&& nI 1 = (a &&& nI 1) &&& (b &&& nI 1) := by
  apply b_ext
  intro i hi
  rw [b_and, b_and, b_and, b_and, b_and]
  cases bt a i <;> cases bt b i <;> cases bt (nI 1) i <;> rfl
theorem sbit2 {a b : Int32} {i : Nat} (h : i < 32) : ((a >>> (nI i &&& 31)) &&& (b >>> (nI i &&& 31))) &&& nI 1 = bI (bt a i && bt b i) := by
  rw [and1, sbit h, sbit h]
  cases bt a i <;> cases bt b i <;> decide +kernel
/-- of the first k sets, how many have the demanded thing i -/
def ofN (dem : Int32) (th : Nat → Int32) (i k : Nat) : Nat := if bt dem i then havf th i k else 0
theorem ofN_s {dem : Int32} {th : Nat → Int32} {i k : Nat} (h : i < 32) : nI (ofN dem th i k) + (((th k >>> (nI i &&& 31)) &&& (dem >>> (nI i &&& 31))) &&& nI 1) = nI (ofN dem th i (k + 1)) := by
  rw [sbit2 h, ofN, ofN, havf]
  cases bt dem i with
  | false =>
    rw [Bool.and_false, if_neg Bool.false_ne_true, if_neg Bool.false_ne_true]
    exact add0 _
  | true =>
    rw [Bool.and_true, if_pos rfl, if_pos rfl]
    cases bt (th k) i with
    | false => rw [if_neg Bool.false_ne_true]; exact add0 _
    | true => rw [if_pos rfl]; exact nI_1 _
theorem ofN_le {dem : Int32} {th : Nat → Int32} {i k : Nat} : ofN dem th i k ≤ k := by
  have := havf_le th i k
  unfold ofN
  split <;> omega
theorem sharf_s {dem : Int32} {th : Nat → Int32} {n i : Nat} (hn : n ≤ 10) : ∃ s : Nat, s ≤ 10 ∧ sharf dem th n i = nI s ∧ sharf dem th n (i + 1) = nI (max s (ofN dem th i n)) := by
  have key : ∀ i, ∃ s : Nat, s ≤ 10 ∧ sharf dem th n i = nI s := by
    intro i
    induction i with
    | zero => exact ⟨0, by omega, rfl⟩
    | succ i ih =>
      obtain ⟨s, h1, h2⟩ := ih
      have := havf_le th i n
      rw [sharf, h2]
      split
      · rw [imax_nI (by omega) (by omega)]
        exact ⟨_, by omega, rfl⟩
      · exact ⟨s, h1, rfl⟩
  obtain ⟨s, h1, h2⟩ := key i
  refine ⟨s, h1, h2, ?_⟩
  have := havf_le th i n
  rw [sharf, h2, ofN]
  split
  · rw [imax_nI (by omega) (by omega)]
  · rw [Nat.max_eq_left (Nat.zero_le s)]
theorem all_s {pr : Nat → Int32} {i : Nat} (h : i < 12) : pf (nI 4095) pr i + pr i = pf (nI 4095) pr (i + 1) := by
  rw [pf, b_4095, decide_eq_true h, if_pos rfl]
set_option maxRecDepth 100000 in
set_option maxHeartbeats 4000000 in
theorem l_of {L : Nat} {xs : Nat → Int32} {X : XC} (hX : Cok X RL cL_law 15) (hp : Pok X) (hR : Rok X 20) (hs : Scr X L xs) (hL : L < 2 ^ 31) {σ : Mem} {N i : Nat} {dem bo pd all sh : Int32} (hN : N ≤ 9) (hi : i < 12) (kk : Lw X 489 [some (.ref 52), some (.ref 0), some (.int (nI N)), some (.int (dem)), some (.int (bo)), some (.int (pd)), some (.ref 53), some (.int (all)), some (.int (sh)), some (.int (nI i)), some (.int (nI (ofN dem (thF L xs) i N))), some (.int (nI N)), none, none, none] [] σ) (k : Nat) (hk : k ≤ N) : Lw X 456 [some (.ref 52), some (.ref 0), some (.int (nI N)), some (.int (dem)), some (.int (bo)), some (.int (pd)), some (.ref 53), some (.int (all)), some (.int (sh)), some (.int (nI i)), some (.int (nI (ofN dem (thF L xs) i k))), some (.int (nI k)), none, none, none] [] σ := by
  refine L_iload (pc := 456) (i := 11) hX dL_law_456 rfl ?_
  refine L_iload_n (pc := 458) (i := 2) hX dL_law_458 rfl rfl ?_
  refine L_icmp_geN (pc := 459) (tgt := 489) hX dL_law_459 (by decide) (by omega) (by omega) (fun h459 => ?_) (fun h459 => ?_)
  · obtain rfl : k = N := by omega
    exact kk
  · refine L_iload (pc := 462) (i := 10) hX dL_law_462 rfl ?_
    refine L_aload_n (pc := 464) (i := 0) hX dL_law_464 rfl rfl ?_
    refine L_iload (pc := 465) (i := 11) hX dL_law_465 rfl ?_
    refine L_callSsi (pc := 467) hX hp (hR.mono (by omega)) mL_19 hs (c_things hL _ (by omega) _) dL_law_467 rfl rfl rfl (Nat.le_of_ble_eq_true rfl) (rfl) ?_
    refine L_iload (pc := 470) (i := 9) hX dL_law_470 rfl ?_
    refine L_ishr (pc := 472) hX dL_law_472 ?_
    refine L_iload_n (pc := 473) (i := 3) hX dL_law_473 rfl rfl ?_
    refine L_iload (pc := 474) (i := 9) hX dL_law_474 rfl ?_
    refine L_ishr (pc := 476) hX dL_law_476 ?_
    refine L_iand (pc := 477) hX dL_law_477 ?_
    refine L_iconst (pc := 478) (v := (nI 1)) hX dL_law_478 (by decide +kernel) ?_
    refine L_iand (pc := 479) hX dL_law_479 ?_
    refine L_iadd (pc := 480) hX dL_law_480 ?_
    refine L_istore10 (pc := 481) hX dL_law_481 rfl ?_
    refine L_iinc11 (pc := 483) hX dL_law_483 rfl (iinc1 _) ?_
    refine L_goto (pc := 486) (tgt := 456) hX dL_law_486 (by decide) ?_
    rw [ofN_s (by omega)]
    exact l_of hX hp hR hs hL hN hi kk (k + 1) (by omega)
termination_by N - k
set_option maxRecDepth 100000 in
set_option maxHeartbeats 4000000 in
theorem l_489 {L : Nat} {xs : Nat → Int32} {X : XC} (hX : Cok X RL cL_law 15) (hp : Pok X) (hR : Rok X 20) (hs : Scr X L xs) (hL : L < 2 ^ 31) {σ : Mem} {N i s w : Nat} {dem bo pd all v : Int32} (hs1 : s ≤ 10) (hw : w ≤ 10) (ih : Lw X 433 [some (.ref 52), some (.ref 0), some (.int (nI N)), some (.int (dem)), some (.int (bo)), some (.int (pd)), some (.ref 53), some (.int (all)), some (.int (nI (max s w))), some (.int (nI (i + 1))), none, none, none, none, none] [] σ) : Lw X 489 [some (.ref 52), some (.ref 0), some (.int (nI N)), some (.int (dem)), some (.int (bo)), some (.int (pd)), some (.ref 53), some (.int (all)), some (.int (nI s)), some (.int (nI i)), some (.int (nI w)), some (.int (v)), none, none, none] [] σ := by
  refine L_iload (pc := 489) (i := 10) hX dL_law_489 rfl ?_
  refine L_iload (pc := 491) (i := 8) hX dL_law_491 rfl ?_
  refine L_icmp_leN (pc := 493) (tgt := 501) hX dL_law_493 (by decide) (by omega) (by omega) (fun h493 => ?_) (fun h493 => ?_)
  · refine L_iload (pc := 501) (i := 8) hX dL_law_501 rfl ?_
    refine L_istore8 (pc := 503) hX dL_law_503 rfl ?_
    refine L_iinc9 (pc := 505) hX dL_law_505 rfl (iinc1 _) ?_
    refine L_goto (pc := 508) (tgt := 433) hX dL_law_508 (by decide) ?_
    rw [Nat.max_eq_left (by omega)] at ih
    exact Lw.fg (by repeat (first | exact fgt_n | refine fgt_c (Or.inr rfl) ?_ | refine fgt_c (Or.inl rfl) ?_)) ih
  · refine L_iload (pc := 496) (i := 10) hX dL_law_496 rfl ?_
    refine L_goto (pc := 498) (tgt := 503) hX dL_law_498 (by decide) ?_
    refine L_istore8 (pc := 503) hX dL_law_503 rfl ?_
    refine L_iinc9 (pc := 505) hX dL_law_505 rfl (iinc1 _) ?_
    refine L_goto (pc := 508) (tgt := 433) hX dL_law_508 (by decide) ?_
    rw [Nat.max_eq_right (by omega)] at ih
    exact Lw.fg (by repeat (first | exact fgt_n | refine fgt_c (Or.inr rfl) ?_ | refine fgt_c (Or.inl rfl) ?_)) ih
set_option maxRecDepth 100000 in
set_option maxHeartbeats 4000000 in
theorem l_all {L : Nat} {xs : Nat → Int32} {X : XC} (hX : Cok X RL cL_law 15) (hp : Pok X) (hR : Rok X 20) (hs : Scr X L xs) (hL : L < 2 ^ 31) {σ : Mem} {N : Nat} {dem bo pd : Int32} (hN : N ≤ 9) (kk : Lw X 511 [some (.ref 52), some (.ref 0), some (.int (nI N)), some (.int (dem)), some (.int (bo)), some (.int (pd)), some (.ref 53), some (.int (pf (nI 4095) (σ 53) 12)), some (.int (sharf dem (thF L xs) N 12)), some (.int (nI 12)), none, none, none, none, none] [] σ) (i : Nat) (hi : i ≤ 12) : Lw X 433 [some (.ref 52), some (.ref 0), some (.int (nI N)), some (.int (dem)), some (.int (bo)), some (.int (pd)), some (.ref 53), some (.int (pf (nI 4095) (σ 53) i)), some (.int (sharf dem (thF L xs) N i)), some (.int (nI i)), none, none, none, none, none] [] σ := by
  refine L_iload (pc := 433) (i := 9) hX dL_law_433 rfl ?_
  refine L_bipush (pc := 435) (v := (nI 12)) hX dL_law_435 (by decide +kernel) ?_
  refine L_icmp_geN (pc := 437) (tgt := 511) hX dL_law_437 (by decide) (by omega) (by omega) (fun h437 => ?_) (fun h437 => ?_)
  · obtain rfl : i = 12 := by omega
    exact kk
  · refine L_iload (pc := 440) (i := 7) hX dL_law_440 rfl ?_
    refine L_aload (pc := 442) (i := 6) hX dL_law_442 rfl ?_
    refine L_iload (pc := 444) (i := 9) hX dL_law_444 rfl ?_
    refine L_pld (pc := 446) hX dL_law_446 (rfl) (by omega) ?_
    refine L_iadd (pc := 447) hX dL_law_447 ?_
    refine L_istore7 (pc := 448) hX dL_law_448 rfl ?_
    refine L_iconst (pc := 450) (v := (nI 0)) hX dL_law_450 (by decide +kernel) ?_
    refine L_istore10 (pc := 451) hX dL_law_451 rfl ?_
    refine L_iconst (pc := 453) (v := (nI 0)) hX dL_law_453 (by decide +kernel) ?_
    refine L_istore11 (pc := 454) hX dL_law_454 rfl ?_
    have ih := l_all hX hp hR hs hL hN kk (i + 1) (by omega)
    rw [all_s (by omega)]
    obtain ⟨s, s1, s2, s3⟩ := sharf_s (dem := dem) (th := thF L xs) (n := N) (i := i) (by omega)
    rw [s3] at ih
    rw [s2]
    have hw := ofN_le (dem := dem) (th := thF L xs) (i := i) (k := N)
    refine Lw.mem rfl (l_of hX hp hR hs hL hN (by omega) (l_489 hX hp hR hs hL s1 (by omega) ih) 0 (Nat.zero_le _) |> fun q => ?_)
    have e0 : ofN dem (thF L xs) i 0 = 0 := by rw [ofN]; split <;> rfl
    rw [e0] at q
    exact q
termination_by 12 - i

