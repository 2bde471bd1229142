/-! ===== the law's body: each set ===== -/
theorem LI.ok {L : Nat} {xs : Nat → Int32} {σ τ : Mem} {N P : Nat} {dem bo : Int32} (h : LI L xs σ N dem bo P) (g : okA σ τ) : LI L xs τ N dem bo P := by
  unfold LI
  rw [g.1 2 (by decide) (by decide) (by decide), g.1 17 (by decide) (by decide) (by decide), g.1 18 (by decide) (by decide) (by decide), g.1 19 (by decide) (by decide) (by decide), g.1 53 (by decide) (by decide) (by decide)]
  exact ⟨h.1, h.2.1, h.2.2.1, h.2.2.2.1, h.2.2.2.2.1, g.2, h.2.2.2.2.2.2⟩
theorem LI_pf {L : Nat} {xs : Nat → Int32} {σ : Mem} {N P k : Nat} {dem bo : Int32} (h : LI L xs σ N dem bo P) (hk : k < N) : pf (σ 18 k) (σ 19) 12 = pf (thF L xs k) (σ 53) 12 := by
  rw [(h.2.1 k hk).2]
  exact (pf_cg 12 h.2.2.2.2.1).symm
theorem LI.fill {L : Nat} {xs : Nat → Int32} {σ : Mem} {N P k : Nat} {dem bo : Int32} (h : LI L xs σ N dem bo P) (hk : k < N) : ∃ y : Nat, pf (thF L xs k) (σ 53) 12 = nI y ∧ y ≤ coN L xs k ∧ (bt bo k = true → y = coN L xs k) := by
  obtain ⟨x, y, a1, a2, a3, a4, a5⟩ := h.2.2.1.1 k hk
  have hc := coN_le (L := L) (xs := xs) (k := k)
  have ex : x = coN L xs k := by
    have e := (h.2.1 k hk).1
    rw [a3] at e
    have e2 := congrArg tn (show nI x = nI (coN L xs k) from e)
    rwa [tn_nI (by omega), tn_nI (by omega)] at e2
  refine ⟨y, by rw [← LI_pf h hk, a5], by omega, fun hb => ?_⟩
  have e := h.2.2.2.2.2.2.1 k hk hb
  rw [a5, a3] at e
  have e2 := congrArg tn e
  rw [tn_nI (by omega), tn_nI (by omega)] at e2
  omega
theorem k_told2 {L : Nat} {xs : Nat → Int32} {σ : Mem} {N P k : Nat} {dem bo : Int32} (h : LI L xs σ N dem bo P) (hk : k < N) : Cc yX5_told cX5_told 3 (some .int) 4 [.ref 0, .int (nI k), .int (nI 2)] σ (rI (pf (thF L xs k) (σ 53) 12) σ) := by
  have c := c_told N (nI k) (nI 2) σ h.n.1 h.n.2
  have hN := h.n.2
  rw [toldF, if_pos (inr_nI hk (by omega)), if_neg (by decide +kernel), if_neg (by decide +kernel), if_pos rfl, tn_nI (by omega), LI_pf h hk] at c
  exact c
theorem k_told3 {L : Nat} {xs : Nat → Int32} {σ : Mem} {N P k : Nat} {dem bo : Int32} (h : LI L xs σ N dem bo P) (hk : k < N) : Cc yX5_told cX5_told 3 (some .int) 4 [.ref 0, .int (nI k), .int (nI 3)] σ (rI (bI (bt bo k)) σ) := by
  have c := c_told N (nI k) (nI 3) σ h.n.1 h.n.2
  have hN := h.n.2
  rw [toldF, if_pos (inr_nI hk (by omega)), if_neg (by decide +kernel), if_neg (by decide +kernel), if_neg (by decide +kernel), if_pos rfl, tn_nI (by omega), h.2.2.2.1.2.1] at c
  exact c
/-- the kind of the set k -/
def kdF (L : Nat) (xs : Nat → Int32) (bo : Int32) (pr : Nat → Int32) (k : Nat) : Int32 := kindf bo k (pf (thF L xs k) pr 12) (nI (coN L xs k))
theorem k_kind {L : Nat} {xs : Nat → Int32} {σ : Mem} {N P k : Nat} {dem bo : Int32} (h : LI L xs σ N dem bo P) (hk : k < N) : Cc yX5_kind cX5_kind 2 (some .int) 5 [.ref 0, .int (nI k)] σ (rI (kdF L xs bo (σ 53) k) σ) := by
  have c := c_kind N (nI k) σ h.n.1 h.n.2
  have hN := h.n.2
  rw [kindF, if_pos (inr_nI hk (by omega)), tn_nI (by omega), LI_pf h hk, h.2.2.2.1.2.1, (h.2.1 k hk).1] at c
  exact c
theorem LI.hs {L : Nat} {xs : Nat → Int32} {σ : Mem} {N P k : Nat} {dem bo : Int32} (h : LI L xs σ N dem bo P) (hk : k < N) : HS N k (coN L xs k) (popn (thF L xs k) 12) (pf (thF L xs k) (σ 53) 12) (kdF L xs bo (σ 53) k) σ := by
  have c := h.2.1 k hk
  obtain ⟨m, m1, m2, m3⟩ := thX_ok (cellF L xs (1 + k))
  have m4 : thF L xs k = nI m := m3
  refine ⟨h.n.1, h.n.2, hk, c.1, ?_, LI_pf h hk, by rw [h.2.2.2.1.2.1]; rfl, h.2.2.2.2.2.1⟩
  rw [c.2, m4, bcF_pop m m2]
set_option maxRecDepth 100000 in
set_option maxHeartbeats 4000000 in
theorem l_fill {L : Nat} {xs : Nat → Int32} {X : XC} (hX : Cok X RL cL_law 15) (hp : Pok X) (hR : Rok X 20) (hs : Scr X L xs) (hL : L < 2 ^ 31) {σ : Mem} {N k : Nat} {dem bo pd all sh near : Int32} (hk : k < 100) (kk : Lw X 564 [some (.ref 52), some (.ref 0), some (.int (nI N)), some (.int (dem)), some (.int (bo)), some (.int (pd)), some (.ref 53), some (.int (all)), some (.int (sh)), some (.int (near)), some (.int (nI k)), some (.int (pf (thF L xs k) (σ 53) 12)), some (.int (nI 12)), none, none] [] σ) (i : Nat) (hi : i ≤ 12) : Lw X 529 [some (.ref 52), some (.ref 0), some (.int (nI N)), some (.int (dem)), some (.int (bo)), some (.int (pd)), some (.ref 53), some (.int (all)), some (.int (sh)), some (.int (near)), some (.int (nI k)), some (.int (pf (thF L xs k) (σ 53) i)), some (.int (nI i)), none, none] [] σ := by
  refine L_iload (pc := 529) (i := 12) hX dL_law_529 rfl ?_
  refine L_bipush (pc := 531) (v := (nI 12)) hX dL_law_531 (by decide +kernel) ?_
  refine L_icmp_geN (pc := 533) (tgt := 564) hX dL_law_533 (by decide) (by omega) (by omega) (fun h533 => ?_) (fun h533 => ?_)
  · obtain rfl : i = 12 := by omega
    exact kk
  · refine L_iload (pc := 536) (i := 11) hX dL_law_536 rfl ?_
    refine L_aload_n (pc := 538) (i := 0) hX dL_law_538 rfl rfl ?_
    refine L_iload (pc := 539) (i := 10) hX dL_law_539 rfl ?_
    refine L_callSsi (pc := 541) hX hp (hR.mono (by omega)) mL_19 hs (c_things hL _ hk _) dL_law_541 rfl rfl rfl (Nat.le_of_ble_eq_true rfl) (rfl) ?_
    refine L_iload (pc := 544) (i := 12) hX dL_law_544 rfl ?_
    refine L_ishr (pc := 546) hX dL_law_546 ?_
    refine L_iconst (pc := 547) (v := (nI 1)) hX dL_law_547 (by decide +kernel) ?_
    refine L_iand (pc := 548) hX dL_law_548 ?_
    refine L_aload (pc := 549) (i := 6) hX dL_law_549 rfl ?_
    refine L_iload (pc := 551) (i := 12) hX dL_law_551 rfl ?_
    refine L_pld (pc := 553) hX dL_law_553 (rfl) (by omega) ?_
    refine L_imul (pc := 554) hX dL_law_554 ?_
    refine L_iadd (pc := 555) hX dL_law_555 ?_
    refine L_istore11 (pc := 556) hX dL_law_556 rfl ?_
    refine L_iinc12 (pc := 558) hX dL_law_558 rfl (iinc1 _) ?_
    refine L_goto (pc := 561) (tgt := 529) hX dL_law_561 (by decide) ?_
    rw [fill_s (by omega)]
    exact l_fill hX hp hR hs hL hk kk (i + 1) (by omega)
termination_by 12 - i
set_option maxRecDepth 100000 in
set_option maxHeartbeats 4000000 in
theorem l_708 {L : Nat} {xs : Nat → Int32} {X : XC} (hX : Cok X RL cL_law 15) (hp : Pok X) (hR : Rok X 20) (hs : Scr X L xs) (hL : L < 2 ^ 31) {σ τ : Mem} {N k : Nat} {dem bo pd all sh near v11 v12 v13 : Int32} {r : Option Value} (hq : r = some (.int (nI 1)) ∧ okA σ τ) (ih : ∀ τ, okA σ τ → Lw X 517 [some (.ref 52), some (.ref 0), some (.int (nI N)), some (.int (dem)), some (.int (bo)), some (.int (pd)), some (.ref 53), some (.int (all)), some (.int (sh)), some (.int (near)), some (.int (nI (k + 1))), none, none, none, none] [] τ) : Lw X 708 [some (.ref 52), some (.ref 0), some (.int (nI N)), some (.int (dem)), some (.int (bo)), some (.int (pd)), some (.ref 53), some (.int (all)), some (.int (sh)), some (.int (near)), some (.int (nI k)), some (.int (v11)), some (.int (v12)), some (.int (v13)), none] (r.toList ++ []) τ := by
  obtain ⟨rfl, hok⟩ := hq
  show Lw X 708 [some (.ref 52), some (.ref 0), some (.int (nI N)), some (.int (dem)), some (.int (bo)), some (.int (pd)), some (.ref 53), some (.int (all)), some (.int (sh)), some (.int (near)), some (.int (nI k)), some (.int (v11)), some (.int (v12)), some (.int (v13)), none] [.int (nI 1)] τ
  refine L_if_ne (pc := 708) (tgt := 713) hX dL_law_708 (by decide) (fun h708 => ?_) (fun h708 => absurd h708 ((by decide +kernel)))
  refine L_iinc10 (pc := 713) hX dL_law_713 rfl (iinc1 _) ?_
  refine L_goto (pc := 716) (tgt := 517) hX dL_law_716 (by decide) ?_
  exact Lw.fg (by repeat (first | exact fgt_n | refine fgt_c (Or.inr rfl) ?_ | refine fgt_c (Or.inl rfl) ?_)) (ih τ hok)
set_option maxRecDepth 100000 in
set_option maxHeartbeats 4000000 in
theorem l_627 {L : Nat} {xs : Nat → Int32} {X : XC} (hX : Cok X RL cL_law 15) (hp : Pok X) (hR : Rok X 20) (hs : Scr X L xs) (hL : L < 2 ^ 31) {σ : Mem} {N P k : Nat} {dem bo pd all sh near : Int32} (h : LI L xs σ N dem bo P) (hk : k < N) (ih : ∀ τ, okA σ τ → Lw X 517 [some (.ref 52), some (.ref 0), some (.int (nI N)), some (.int (dem)), some (.int (bo)), some (.int (pd)), some (.ref 53), some (.int (all)), some (.int (sh)), some (.int (near)), some (.int (nI (k + 1))), none, none, none, none] [] τ) : Lw X 627 [some (.ref 52), some (.ref 0), some (.int (nI N)), some (.int (dem)), some (.int (bo)), some (.int (pd)), some (.ref 53), some (.int (all)), some (.int (sh)), some (.int (near)), some (.int (nI k)), some (.int (pf (thF L xs k) (σ 53) 12)), some (.int (bI (bt bo k))), some (.int (kdF L xs bo (σ 53) k)), none] [] σ := by
  have hN := h.mem.1
  obtain ⟨y, y1, y2, y3⟩ := h.fill hk
  have hc := coN_le (L := L) (xs := xs) (k := k)
  have hle : ¬ nI (coN L xs k) < pf (thF L xs k) (σ 53) 12 := by
    rw [y1, nI_ltI (by omega) (by omega)]
    omega
  have heq : bt bo k = true → pf (thF L xs k) (σ 53) 12 = nI (coN L xs k) := fun q => by rw [y1, y3 q]
  refine L_iload (pc := 627) (i := 11) hX dL_law_627 rfl ?_
  refine L_aload_n (pc := 629) (i := 0) hX dL_law_629 rfl rfl ?_
  refine L_iload (pc := 630) (i := 10) hX dL_law_630 rfl ?_
  refine L_callSsi (pc := 632) hX hp (hR.mono (by omega)) mL_33 hs (c_cost hL _ (by omega) _) dL_law_632 rfl rfl rfl (Nat.le_of_ble_eq_true rfl) (rfl) ?_
  refine L_icmp_gt (pc := 635) (tgt := 711) hX dL_law_635 (by decide) (fun h635 => absurd h635 (hle)) (fun h635 => ?_)
  refine L_iload (pc := 638) (i := 12) hX dL_law_638 rfl ?_
  refine L_if_eqB (pc := 640) (tgt := 654) hX dL_law_640 (by decide) (fun h640 => ?_) (fun h640 => ?_)
  · refine L_aload_n (pc := 654) (i := 1) hX dL_law_654 rfl rfl ?_
    refine L_iload (pc := 655) (i := 10) hX dL_law_655 rfl ?_
    refine L_iconst (pc := 657) (v := (nI 2)) hX dL_law_657 (by decide +kernel) ?_
    refine L_callVi (pc := 658) hX hp (hR.mono (by omega)) mL_48 (k_told2 h hk) dL_law_658 rfl rfl rfl rfl (Nat.le_of_ble_eq_true rfl) (rfl) ?_
    refine L_iload (pc := 661) (i := 11) hX dL_law_661 rfl ?_
    refine L_icmp_ne (pc := 663) (tgt := 711) hX dL_law_663 (by decide) (fun h663 => absurd h663 (fun q => q rfl)) (fun h663 => ?_)
    refine L_aload_n (pc := 666) (i := 1) hX dL_law_666 rfl rfl ?_
    refine L_iload (pc := 667) (i := 10) hX dL_law_667 rfl ?_
    refine L_iconst (pc := 669) (v := (nI 3)) hX dL_law_669 (by decide +kernel) ?_
    refine L_callVi (pc := 670) hX hp (hR.mono (by omega)) mL_48 (k_told3 h hk) dL_law_670 rfl rfl rfl rfl (Nat.le_of_ble_eq_true rfl) (rfl) ?_
    refine L_iload (pc := 673) (i := 12) hX dL_law_673 rfl ?_
    refine L_if_eqB (pc := 675) (tgt := 682) hX dL_law_675 (by decide) (fun h675 => ?_) (fun h675 => ?_)
    · refine L_iconst (pc := 682) (v := (nI 0)) hX dL_law_682 (by decide +kernel) ?_
      refine L_icmp_ne (pc := 683) (tgt := 711) hX dL_law_683 (by decide) (fun h683 => absurd h683 (fun q => q (by rw [h675]; rfl))) (fun h683 => ?_)
      refine L_aload_n (pc := 686) (i := 1) hX dL_law_686 rfl rfl ?_
      refine L_iload (pc := 687) (i := 10) hX dL_law_687 rfl ?_
      refine L_callVi (pc := 689) hX hp (hR.mono (by omega)) mL_51 (k_kind h hk) dL_law_689 rfl rfl rfl rfl (Nat.le_of_ble_eq_true rfl) (rfl) ?_
      refine L_iload (pc := 692) (i := 13) hX dL_law_692 rfl ?_
      refine L_icmp_ne (pc := 694) (tgt := 711) hX dL_law_694 (by decide) (fun h694 => absurd h694 (fun q => q rfl)) (fun h694 => ?_)
      refine L_aload_n (pc := 697) (i := 1) hX dL_law_697 rfl rfl ?_
      refine L_aload_n (pc := 698) (i := 0) hX dL_law_698 rfl rfl ?_
      refine L_iload (pc := 699) (i := 10) hX dL_law_699 rfl ?_
      refine L_iload (pc := 701) (i := 13) hX dL_law_701 rfl ?_
      refine L_iload (pc := 703) (i := 11) hX dL_law_703 rfl ?_
      refine L_callSs (pc := 705) hX hp (hR.mono (by omega)) mL_54 hs (c_asked hL σ (h.hs hk)) dL_law_705 rfl rfl rfl (Nat.le_of_ble_eq_true rfl) (fun r τ q => q.2.1 53 (by decide) (by decide) (by decide)) (fun r τ q => l_708 hX hp hR hs hL q ih)
    · refine L_iconst (pc := 678) (v := (nI 1)) hX dL_law_678 (by decide +kernel) ?_
      refine L_goto (pc := 679) (tgt := 683) hX dL_law_679 (by decide) ?_
      refine L_icmp_ne (pc := 683) (tgt := 711) hX dL_law_683 (by decide) (fun h683 => absurd h683 (fun q => q (by rw [h675]; rfl))) (fun h683 => ?_)
      refine L_aload_n (pc := 686) (i := 1) hX dL_law_686 rfl rfl ?_
      refine L_iload (pc := 687) (i := 10) hX dL_law_687 rfl ?_
      refine L_callVi (pc := 689) hX hp (hR.mono (by omega)) mL_51 (k_kind h hk) dL_law_689 rfl rfl rfl rfl (Nat.le_of_ble_eq_true rfl) (rfl) ?_
      refine L_iload (pc := 692) (i := 13) hX dL_law_692 rfl ?_
      refine L_icmp_ne (pc := 694) (tgt := 711) hX dL_law_694 (by decide) (fun h694 => absurd h694 (fun q => q rfl)) (fun h694 => ?_)
      refine L_aload_n (pc := 697) (i := 1) hX dL_law_697 rfl rfl ?_
      refine L_aload_n (pc := 698) (i := 0) hX dL_law_698 rfl rfl ?_
      refine L_iload (pc := 699) (i := 10) hX dL_law_699 rfl ?_
      refine L_iload (pc := 701) (i := 13) hX dL_law_701 rfl ?_
      refine L_iload (pc := 703) (i := 11) hX dL_law_703 rfl ?_
      refine L_callSs (pc := 705) hX hp (hR.mono (by omega)) mL_54 hs (c_asked hL σ (h.hs hk)) dL_law_705 rfl rfl rfl (Nat.le_of_ble_eq_true rfl) (fun r τ q => q.2.1 53 (by decide) (by decide) (by decide)) (fun r τ q => l_708 hX hp hR hs hL q ih)
  · refine L_iload (pc := 643) (i := 11) hX dL_law_643 rfl ?_
    refine L_aload_n (pc := 645) (i := 0) hX dL_law_645 rfl rfl ?_
    refine L_iload (pc := 646) (i := 10) hX dL_law_646 rfl ?_
    refine L_callSsi (pc := 648) hX hp (hR.mono (by omega)) mL_33 hs (c_cost hL _ (by omega) _) dL_law_648 rfl rfl rfl (Nat.le_of_ble_eq_true rfl) (rfl) ?_
    refine L_icmp_ne (pc := 651) (tgt := 711) hX dL_law_651 (by decide) (fun h651 => absurd h651 (fun q => q (heq h640))) (fun h651 => ?_)
    refine L_aload_n (pc := 654) (i := 1) hX dL_law_654 rfl rfl ?_
    refine L_iload (pc := 655) (i := 10) hX dL_law_655 rfl ?_
    refine L_iconst (pc := 657) (v := (nI 2)) hX dL_law_657 (by decide +kernel) ?_
    refine L_callVi (pc := 658) hX hp (hR.mono (by omega)) mL_48 (k_told2 h hk) dL_law_658 rfl rfl rfl rfl (Nat.le_of_ble_eq_true rfl) (rfl) ?_
    refine L_iload (pc := 661) (i := 11) hX dL_law_661 rfl ?_
    refine L_icmp_ne (pc := 663) (tgt := 711) hX dL_law_663 (by decide) (fun h663 => absurd h663 (fun q => q rfl)) (fun h663 => ?_)
    refine L_aload_n (pc := 666) (i := 1) hX dL_law_666 rfl rfl ?_
    refine L_iload (pc := 667) (i := 10) hX dL_law_667 rfl ?_
    refine L_iconst (pc := 669) (v := (nI 3)) hX dL_law_669 (by decide +kernel) ?_
    refine L_callVi (pc := 670) hX hp (hR.mono (by omega)) mL_48 (k_told3 h hk) dL_law_670 rfl rfl rfl rfl (Nat.le_of_ble_eq_true rfl) (rfl) ?_
    refine L_iload (pc := 673) (i := 12) hX dL_law_673 rfl ?_
    refine L_if_eqB (pc := 675) (tgt := 682) hX dL_law_675 (by decide) (fun h675 => ?_) (fun h675 => ?_)
    · refine L_iconst (pc := 682) (v := (nI 0)) hX dL_law_682 (by decide +kernel) ?_
      refine L_icmp_ne (pc := 683) (tgt := 711) hX dL_law_683 (by decide) (fun h683 => absurd h683 (fun q => q (by rw [h675]; rfl))) (fun h683 => ?_)
      refine L_aload_n (pc := 686) (i := 1) hX dL_law_686 rfl rfl ?_
      refine L_iload (pc := 687) (i := 10) hX dL_law_687 rfl ?_
      refine L_callVi (pc := 689) hX hp (hR.mono (by omega)) mL_51 (k_kind h hk) dL_law_689 rfl rfl rfl rfl (Nat.le_of_ble_eq_true rfl) (rfl) ?_
      refine L_iload (pc := 692) (i := 13) hX dL_law_692 rfl ?_
      refine L_icmp_ne (pc := 694) (tgt := 711) hX dL_law_694 (by decide) (fun h694 => absurd h694 (fun q => q rfl)) (fun h694 => ?_)
      refine L_aload_n (pc := 697) (i := 1) hX dL_law_697 rfl rfl ?_
      refine L_aload_n (pc := 698) (i := 0) hX dL_law_698 rfl rfl ?_
      refine L_iload (pc := 699) (i := 10) hX dL_law_699 rfl ?_
      refine L_iload (pc := 701) (i := 13) hX dL_law_701 rfl ?_
      refine L_iload (pc := 703) (i := 11) hX dL_law_703 rfl ?_
      refine L_callSs (pc := 705) hX hp (hR.mono (by omega)) mL_54 hs (c_asked hL σ (h.hs hk)) dL_law_705 rfl rfl rfl (Nat.le_of_ble_eq_true rfl) (fun r τ q => q.2.1 53 (by decide) (by decide) (by decide)) (fun r τ q => l_708 hX hp hR hs hL q ih)
    · refine L_iconst (pc := 678) (v := (nI 1)) hX dL_law_678 (by decide +kernel) ?_
      refine L_goto (pc := 679) (tgt := 683) hX dL_law_679 (by decide) ?_
      refine L_icmp_ne (pc := 683) (tgt := 711) hX dL_law_683 (by decide) (fun h683 => absurd h683 (fun q => q (by rw [h675]; rfl))) (fun h683 => ?_)
      refine L_aload_n (pc := 686) (i := 1) hX dL_law_686 rfl rfl ?_
      refine L_iload (pc := 687) (i := 10) hX dL_law_687 rfl ?_
      refine L_callVi (pc := 689) hX hp (hR.mono (by omega)) mL_51 (k_kind h hk) dL_law_689 rfl rfl rfl rfl (Nat.le_of_ble_eq_true rfl) (rfl) ?_
      refine L_iload (pc := 692) (i := 13) hX dL_law_692 rfl ?_
      refine L_icmp_ne (pc := 694) (tgt := 711) hX dL_law_694 (by decide) (fun h694 => absurd h694 (fun q => q rfl)) (fun h694 => ?_)
      refine L_aload_n (pc := 697) (i := 1) hX dL_law_697 rfl rfl ?_
      refine L_aload_n (pc := 698) (i := 0) hX dL_law_698 rfl rfl ?_
      refine L_iload (pc := 699) (i := 10) hX dL_law_699 rfl ?_
      refine L_iload (pc := 701) (i := 13) hX dL_law_701 rfl ?_
      refine L_iload (pc := 703) (i := 11) hX dL_law_703 rfl ?_
      refine L_callSs (pc := 705) hX hp (hR.mono (by omega)) mL_54 hs (c_asked hL σ (h.hs hk)) dL_law_705 rfl rfl rfl (Nat.le_of_ble_eq_true rfl) (fun r τ q => q.2.1 53 (by decide) (by decide) (by decide)) (fun r τ q => l_708 hX hp hR hs hL q ih)
set_option maxRecDepth 100000 in
set_option maxHeartbeats 4000000 in
theorem l_611 {L : Nat} {xs : Nat → Int32} {X : XC} (hX : Cok X RL cL_law 15) (hp : Pok X) (hR : Rok X 20) (hs : Scr X L xs) (hL : L < 2 ^ 31) {σ : Mem} {N P k : Nat} {dem bo pd all sh : Int32} (h : LI L xs σ N dem bo P) (hk : k < N) (ih : ∀ τ, okA σ τ → Lw X 517 [some (.ref 52), some (.ref 0), some (.int (nI N)), some (.int (dem)), some (.int (bo)), some (.int (pd)), some (.ref 53), some (.int (all)), some (.int (sh)), some (.int (nI (nearf bo (cF L xs) (thF L xs) (σ 53) (k + 1)))), some (.int (nI (k + 1))), none, none, none, none] [] τ) : Lw X 611 [some (.ref 52), some (.ref 0), some (.int (nI N)), some (.int (dem)), some (.int (bo)), some (.int (pd)), some (.ref 53), some (.int (all)), some (.int (sh)), some (.int (nI (nearf bo (cF L xs) (thF L xs) (σ 53) k))), some (.int (nI k)), some (.int (pf (thF L xs k) (σ 53) 12)), some (.int (bI (bt bo k))), some (.int (kdF L xs bo (σ 53) k)), none] [] σ := by
  refine L_iload (pc := 611) (i := 9) hX dL_law_611 rfl ?_
  refine L_iload (pc := 613) (i := 13) hX dL_law_613 rfl ?_
  refine L_iconst (pc := 615) (v := (nI 2)) hX dL_law_615 (by decide +kernel) ?_
  refine L_icmp_ne (pc := 616) (tgt := 623) hX dL_law_616 (by decide) (fun h616 => ?_) (fun h616 => ?_)
  · refine L_iconst (pc := 623) (v := (nI 0)) hX dL_law_623 (by decide +kernel) ?_
    refine L_iadd (pc := 624) hX dL_law_624 ?_
    refine L_istore9 (pc := 625) hX dL_law_625 rfl ?_
    rw [add0]
    rw [nearf, if_neg (show ¬ kindf bo k (pf (thF L xs k) (σ 53) 12) (cF L xs k) = nI 2 from h616)] at ih
    exact l_627 hX hp hR hs hL h hk ih
  · refine L_iconst (pc := 619) (v := (nI 1)) hX dL_law_619 (by decide +kernel) ?_
    refine L_goto (pc := 620) (tgt := 624) hX dL_law_620 (by decide) ?_
    refine L_iadd (pc := 624) hX dL_law_624 ?_
    refine L_istore9 (pc := 625) hX dL_law_625 rfl ?_
    rw [nI_add]
    rw [nearf, if_pos (show kindf bo k (pf (thF L xs k) (σ 53) 12) (cF L xs k) = nI 2 from h616)] at ih
    exact l_627 hX hp hR hs hL h hk ih
set_option maxRecDepth 100000 in
set_option maxHeartbeats 4000000 in
theorem l_582 {L : Nat} {xs : Nat → Int32} {X : XC} (hX : Cok X RL cL_law 15) (hp : Pok X) (hR : Rok X 20) (hs : Scr X L xs) (hL : L < 2 ^ 31) {σ : Mem} {N P k : Nat} {dem bo pd all sh : Int32} (h : LI L xs σ N dem bo P) (hk : k < N) (ih : ∀ τ, okA σ τ → Lw X 517 [some (.ref 52), some (.ref 0), some (.int (nI N)), some (.int (dem)), some (.int (bo)), some (.int (pd)), some (.ref 53), some (.int (all)), some (.int (sh)), some (.int (nI (nearf bo (cF L xs) (thF L xs) (σ 53) (k + 1)))), some (.int (nI (k + 1))), none, none, none, none] [] τ) : Lw X 582 [some (.ref 52), some (.ref 0), some (.int (nI N)), some (.int (dem)), some (.int (bo)), some (.int (pd)), some (.ref 53), some (.int (all)), some (.int (sh)), some (.int (nI (nearf bo (cF L xs) (thF L xs) (σ 53) k))), some (.int (nI k)), some (.int (pf (thF L xs k) (σ 53) 12)), some (.int (bI (bt bo k))), none, none] [] σ := by
  have hN := h.mem.1
  have r := l_611 hX hp hR hs hL h hk ih
  refine L_iload (pc := 582) (i := 12) hX dL_law_582 rfl ?_
  refine L_if_eqB (pc := 584) (tgt := 591) hX dL_law_584 (by decide) (fun h584 => ?_) (fun h584 => ?_)
  · refine L_iconst (pc := 591) (v := (nI 2)) hX dL_law_591 (by decide +kernel) ?_
    refine L_iload (pc := 592) (i := 11) hX dL_law_592 rfl ?_
    refine L_imul (pc := 594) hX dL_law_594 ?_
    refine L_aload_n (pc := 595) (i := 0) hX dL_law_595 rfl rfl ?_
    refine L_iload (pc := 596) (i := 10) hX dL_law_596 rfl ?_
    refine L_callSsi (pc := 598) hX hp (hR.mono (by omega)) mL_33 hs (c_cost hL _ (by omega) _) dL_law_598 rfl rfl rfl (Nat.le_of_ble_eq_true rfl) (rfl) ?_
    refine L_icmp_lt (pc := 601) (tgt := 608) hX dL_law_601 (by decide) (fun h601 => ?_) (fun h601 => ?_)
    · refine L_iconst (pc := 608) (v := (nI 1)) hX dL_law_608 (by decide +kernel) ?_
      refine L_istore13 (pc := 609) hX dL_law_609 rfl ?_
      rw [kdF, kindf, h584, if_neg Bool.false_ne_true, if_pos h601] at r
      rw [h584]
      exact r
    · refine L_iconst (pc := 604) (v := (nI 2)) hX dL_law_604 (by decide +kernel) ?_
      refine L_goto (pc := 605) (tgt := 609) hX dL_law_605 (by decide) ?_
      refine L_istore13 (pc := 609) hX dL_law_609 rfl ?_
      rw [kdF, kindf, h584, if_neg Bool.false_ne_true, if_neg h601] at r
      rw [h584]
      exact r
  · refine L_iconst (pc := 587) (v := (nI 3)) hX dL_law_587 (by decide +kernel) ?_
    refine L_goto (pc := 588) (tgt := 609) hX dL_law_588 (by decide) ?_
    refine L_istore13 (pc := 609) hX dL_law_609 rfl ?_
    rw [kdF, kindf, h584, if_pos rfl] at r
    rw [h584]
    exact r
set_option maxRecDepth 100000 in
set_option maxHeartbeats 4000000 in
theorem l_564 {L : Nat} {xs : Nat → Int32} {X : XC} (hX : Cok X RL cL_law 15) (hp : Pok X) (hR : Rok X 20) (hs : Scr X L xs) (hL : L < 2 ^ 31) {σ : Mem} {N P k : Nat} {dem bo pd all sh v : Int32} (h : LI L xs σ N dem bo P) (hk : k < N) (ih : ∀ τ, okA σ τ → Lw X 517 [some (.ref 52), some (.ref 0), some (.int (nI N)), some (.int (dem)), some (.int (bo)), some (.int (pd)), some (.ref 53), some (.int (all)), some (.int (sh)), some (.int (nI (nearf bo (cF L xs) (thF L xs) (σ 53) (k + 1)))), some (.int (nI (k + 1))), none, none, none, none] [] τ) : Lw X 564 [some (.ref 52), some (.ref 0), some (.int (nI N)), some (.int (dem)), some (.int (bo)), some (.int (pd)), some (.ref 53), some (.int (all)), some (.int (sh)), some (.int (nI (nearf bo (cF L xs) (thF L xs) (σ 53) k))), some (.int (nI k)), some (.int (pf (thF L xs k) (σ 53) 12)), some (.int (v)), none, none] [] σ := by
  have hN := h.mem.1
  have r := l_582 hX hp hR hs hL h hk ih
  refine L_iload (pc := 564) (i := 4) hX dL_law_564 rfl ?_
  refine L_iload (pc := 566) (i := 10) hX dL_law_566 rfl ?_
  refine L_ishr (pc := 568) hX dL_law_568 ?_
  refine L_iconst (pc := 569) (v := (nI 1)) hX dL_law_569 (by decide +kernel) ?_
  refine L_iand (pc := 570) hX dL_law_570 ?_
  refine L_iconst (pc := 571) (v := (nI 1)) hX dL_law_571 (by decide +kernel) ?_
  refine L_icmp_neS (pc := 572) (tgt := 579) hX dL_law_572 (by decide) (by omega) (fun h572 => ?_) (fun h572 => ?_)
  · refine L_iconst (pc := 579) (v := (nI 0)) hX dL_law_579 (by decide +kernel) ?_
    refine L_istore12 (pc := 580) hX dL_law_580 rfl ?_
    rw [h572] at r
    exact r
  · refine L_iconst (pc := 575) (v := (nI 1)) hX dL_law_575 (by decide +kernel) ?_
    refine L_goto (pc := 576) (tgt := 580) hX dL_law_576 (by decide) ?_
    refine L_istore12 (pc := 580) hX dL_law_580 rfl ?_
    rw [h572] at r
    exact r
set_option maxRecDepth 100000 in
set_option maxHeartbeats 4000000 in
theorem l_sets {L : Nat} {xs : Nat → Int32} {X : XC} (hX : Cok X RL cL_law 15) (hp : Pok X) (hR : Rok X 20) (hs : Scr X L xs) (hL : L < 2 ^ 31) {N P : Nat} {dem bo pd all sh : Int32} {pr : Nat → Int32} (kk : ∀ σ, LI L xs σ N dem bo P → σ 53 = pr → Lw X 719 [some (.ref 52), some (.ref 0), some (.int (nI N)), some (.int (dem)), some (.int (bo)), some (.int (pd)), some (.ref 53), some (.int (all)), some (.int (sh)), some (.int (nI (nearf bo (cF L xs) (thF L xs) pr N))), some (.int (nI N)), none, none, none, none] [] σ) (k : Nat) (hk : k ≤ N) {σ : Mem} (h : LI L xs σ N dem bo P) (hpr : σ 53 = pr) : Lw X 517 [some (.ref 52), some (.ref 0), some (.int (nI N)), some (.int (dem)), some (.int (bo)), some (.int (pd)), some (.ref 53), some (.int (all)), some (.int (sh)), some (.int (nI (nearf bo (cF L xs) (thF L xs) pr k))), some (.int (nI k)), none, none, none, none] [] σ := by
  have hN := h.mem.1
  refine L_iload (pc := 517) (i := 10) hX dL_law_517 rfl ?_
  refine L_iload_n (pc := 519) (i := 2) hX dL_law_519 rfl rfl ?_
  refine L_icmp_geN (pc := 520) (tgt := 719) hX dL_law_520 (by decide) (by omega) (by omega) (fun h520 => ?_) (fun h520 => ?_)
  · obtain rfl : k = N := by omega
    exact kk _ h hpr
  · refine L_iconst (pc := 523) (v := (nI 0)) hX dL_law_523 (by decide +kernel) ?_
    refine L_istore11 (pc := 524) hX dL_law_524 rfl ?_
    refine L_iconst (pc := 526) (v := (nI 0)) hX dL_law_526 (by decide +kernel) ?_
    refine L_istore12 (pc := 527) hX dL_law_527 rfl ?_
    have ih : ∀ τ, okA σ τ → Lw X 517 [some (.ref 52), some (.ref 0), some (.int (nI N)), some (.int (dem)), some (.int (bo)), some (.int (pd)), some (.ref 53), some (.int (all)), some (.int (sh)), some (.int (nI (nearf bo (cF L xs) (thF L xs) (σ 53) (k + 1)))), some (.int (nI (k + 1))), none, none, none, none] [] τ := fun τ g => by
      rw [hpr]
      exact l_sets hX hp hR hs hL kk (k + 1) (by omega) (h.ok g) (by rw [g.1 53 (by decide) (by decide) (by decide)]; exact hpr)
    have r := l_564 hX hp hR hs hL (v := nI 12) h (by omega) ih
    rw [← hpr]
    exact l_fill hX hp hR hs hL (by omega) r 0 (Nat.zero_le _)
termination_by N - k

