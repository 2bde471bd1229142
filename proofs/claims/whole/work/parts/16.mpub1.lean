/-! ===== public methods of SETS, the reference's ===== -/
def m0 (σ : Mem) : Mem := mu σ 52 0 (nI 0)
theorem m0_r {σ : Mem} {q : Nat} (h : q ≠ 52) : m0 σ q = σ q := (mu_ne h).symm
theorem m0_c {σ : Mem} {j : Nat} (h : j ≠ 0) : m0 σ 52 j = σ 52 j := mu_ni h
set_option maxRecDepth 100000 in
set_option maxHeartbeats 4000000 in
theorem c_mprice (x : Int32) (σ : Mem) : Cc yX6_price cX6_price 2 (some .int) 1 [.ref 52, .int x] σ (rI (priceF (σ 58) x) (m0 σ)) := by
  refine Cc.intro (by decide +kernel) [some (.ref 52), some (.int x)] (fun _ => rfl) rfl (fun _ => Nat.le_of_ble_eq_true rfl) ?_
  intro X hX hR hr
  refine V_aload_n (pc := 0) (i := 0) hX dX6_price_0 rfl rfl ?_
  refine V_iconst (pc := 1) (v := (nI 0)) hX dX6_price_1 (by decide +kernel) ?_
  refine V_putf (pc := 2) hX fX6_66 gi6_0 dX6_price_2 rfl rfl ?_
  refine Vw.mem (rfl : m0 σ = _) ?_
  refine V_iload_n (pc := 5) (i := 1) hX dX6_price_5 rfl rfl ?_
  refine V_i2l (pc := 6) hX dX6_price_6 ?_
  refine V_lconst (pc := 7) (v := lN 0) hX dX6_price_7 (by decide +kernel) ?_
  refine V_ldc2 (pc := 8) hX kX6_105 dX6_price_8 ?_
  refine V_callSi (pc := 11) hX (hR.mono (by omega)) mX6_75 (c_inN x 0 11 (by decide) (by decide) _) dX6_price_11 rfl rfl rfl (Nat.le_of_ble_eq_true rfl) ?_
  refine V_if_eqB (pc := 14) (tgt := 26) hX dX6_price_14 (by decide) (fun h14 => ?_) (fun h14 => ?_)
  · rw [inr2_0] at h14
    refine V_ldc (pc := 26) hX kX6_85 dX6_price_26 ?_
    exact V_iret (pc := 28) (st := []) hX hr (by first | rfl | exact bI_nar _ | decide +kernel) dX6_price_28 (⟨by rw [priceF, h14]; rfl, rfl⟩)
  · rw [inr2_0] at h14
    obtain ⟨j, hj, rfl⟩ := inr_of h14 (by decide)
    refine V_aload_n (pc := 17) (i := 0) hX dX6_price_17 rfl rfl ?_
    refine V_getr (pc := 18) hX fX6_25 dX6_price_18 rfl rfl ?_
    refine V_iload_n (pc := 21) (i := 1) hX dX6_price_21 rfl rfl ?_
    refine V_iald (pc := 22) hX dX6_price_22 (rfl) (rfl) (by omega) (by decide) ?_
    refine V_goto (pc := 23) (tgt := 28) hX dX6_price_23 (by decide) ?_
    exact V_iret (pc := 28) (st := []) hX hr (by first | rfl | exact bI_nar _ | decide +kernel) dX6_price_28 (⟨by rw [priceF, h14, if_pos rfl, tn_nI (by omega), m0_r (by decide)], rfl⟩)
set_option maxRecDepth 100000 in
set_option maxHeartbeats 4000000 in
theorem c_mtold (n : Nat) (x w : Int32) (σ : Mem) (hn : σ 52 5 = nI n) (hn10 : n ≤ 10) : Cc yX6_told cX6_told 3 (some .int) 2 [.ref 52, .int x, .int w] σ (rI (toldF n (σ 56) (σ 57) (σ 58) (σ 52 8) x w) (m0 σ)) := by
  refine Cc.intro (by decide +kernel) [some (.ref 52), some (.int x), some (.int w)] (fun _ => rfl) rfl (fun _ => Nat.le_of_ble_eq_true rfl) ?_
  intro X hX hR hr
  have a5 : m0 σ 52 5 = nI n := by rw [m0_c (by decide)]; exact hn
  have a56 : m0 σ 56 = σ 56 := m0_r (by decide)
  have a57 : m0 σ 57 = σ 57 := m0_r (by decide)
  have a58 : m0 σ 58 = σ 58 := m0_r (by decide)
  have a8 : m0 σ 52 8 = σ 52 8 := m0_c (by decide)
  have w3 : inr2 w 0 3 = false → ¬ w = nI 0 ∧ ¬ w = nI 1 ∧ ¬ w = nI 2 ∧ ¬ w = nI 3 := fun h => by
    refine ⟨?_, ?_, ?_, ?_⟩ <;> (rintro rfl; exact absurd h (by decide +kernel))
  have w4 : inr2 w 0 3 = true → ¬ w = nI 0 → ¬ w = nI 1 → ¬ w = nI 2 → w = nI 3 := fun h h0 h1 h2 => by
    obtain ⟨j, -, hj, rfl⟩ := inr2_of h (by decide)
    rcases (show j = 0 ∨ j = 1 ∨ j = 2 ∨ j = 3 by omega) with rfl | rfl | rfl | rfl
    · exact absurd rfl h0
    · exact absurd rfl h1
    · exact absurd rfl h2
    · rfl
  have z0 : ∀ {z : Int32}, z = 0 ↔ z = nI 0 := fun {z} => by rw [nI_0]
  refine V_aload_n (pc := 0) (i := 0) hX dX6_told_0 rfl rfl ?_
  refine V_iconst (pc := 1) (v := (nI 0)) hX dX6_told_1 (by decide +kernel) ?_
  refine V_putf (pc := 2) hX fX6_66 gi6_0 dX6_told_2 rfl rfl ?_
  refine Vw.mem (rfl : m0 σ = _) ?_
  refine V_aload_n (pc := 5) (i := 0) hX dX6_told_5 rfl rfl ?_
  refine V_iload_n (pc := 6) (i := 1) hX dX6_told_6 rfl rfl ?_
  refine V_callVi (pc := 7) hX (hR.mono (by omega)) mX6_133 (c_misSet n _ _ a5 hn10) dX6_told_7 rfl rfl rfl rfl (Nat.le_of_ble_eq_true rfl) ?_
  refine V_if_eqB (pc := 10) (tgt := 25) hX dX6_told_10 (by decide) (fun h10 => ?_) (fun h10 => ?_)
  · refine V_ldc (pc := 25) hX kX6_85 dX6_told_25 ?_
    exact V_iret (pc := 27) (st := []) hX hr (by first | rfl | exact bI_nar _ | decide +kernel) dX6_told_27 (⟨by rw [toldF, h10]; rfl, rfl⟩)
  · obtain ⟨j, hj, rfl⟩ := inr_of h10 (by omega)
    refine V_iload_n (pc := 13) (i := 2) hX dX6_told_13 rfl rfl ?_
    refine V_i2l (pc := 14) hX dX6_told_14 ?_
    refine V_lconst (pc := 15) (v := lN 0) hX dX6_told_15 (by decide +kernel) ?_
    refine V_ldc2 (pc := 16) hX kX6_136 dX6_told_16 ?_
    refine V_callSi (pc := 19) hX (hR.mono (by omega)) mX6_75 (c_inN w 0 3 (by decide) (by decide) _) dX6_told_19 rfl rfl rfl (Nat.le_of_ble_eq_true rfl) ?_
    refine V_if_neB (pc := 22) (tgt := 28) hX dX6_told_22 (by decide) (fun h22 => ?_) (fun h22 => ?_)
    · refine V_iload_n (pc := 28) (i := 2) hX dX6_told_28 rfl rfl ?_
      refine V_if_ne (pc := 29) (tgt := 41) hX dX6_told_29 (by decide) (fun h29 => ?_) (fun h29 => ?_)
      · refine V_iload_n (pc := 41) (i := 2) hX dX6_told_41 rfl rfl ?_
        refine V_iconst (pc := 42) (v := (nI 1)) hX dX6_told_42 (by decide +kernel) ?_
        refine V_icmp_ne (pc := 43) (tgt := 55) hX dX6_told_43 (by decide) (fun h43 => ?_) (fun h43 => ?_)
        · refine V_iload_n (pc := 55) (i := 2) hX dX6_told_55 rfl rfl ?_
          refine V_iconst (pc := 56) (v := (nI 2)) hX dX6_told_56 (by decide +kernel) ?_
          refine V_icmp_ne (pc := 57) (tgt := 68) hX dX6_told_57 (by decide) (fun h57 => ?_) (fun h57 => ?_)
          · refine V_aload_n (pc := 68) (i := 0) hX dX6_told_68 rfl rfl ?_
            refine V_iload_n (pc := 69) (i := 1) hX dX6_told_69 rfl rfl ?_
            refine V_callVi (pc := 70) hX (hR.mono (by omega)) mX6_112 (c_misOwn _ _ (by omega)) dX6_told_70 rfl rfl rfl rfl (Nat.le_of_ble_eq_true rfl) ?_
            refine V_if_eqB (pc := 73) (tgt := 80) hX dX6_told_73 (by decide) (fun h73 => ?_) (fun h73 => ?_)
            · refine V_iconst (pc := 80) (v := (nI 0)) hX dX6_told_80 (by decide +kernel) ?_
              exact V_iret (pc := 81) (st := []) hX hr (by first | rfl | exact bI_nar _ | decide +kernel) dX6_told_81 (⟨by
  rw [toldF, h10, if_pos rfl, tn_nI (by omega), if_neg (fun q => h29 (z0.mpr q)), if_neg h43, if_neg h57, if_pos (w4 h22 (fun q => h29 (z0.mpr q)) h43 h57), ← a8, h73]; rfl, rfl⟩)
            · refine V_iconst (pc := 76) (v := (nI 1)) hX dX6_told_76 (by decide +kernel) ?_
              refine V_goto (pc := 77) (tgt := 81) hX dX6_told_77 (by decide) ?_
              exact V_iret (pc := 81) (st := []) hX hr (by first | rfl | exact bI_nar _ | decide +kernel) dX6_told_81 (⟨by
  rw [toldF, h10, if_pos rfl, tn_nI (by omega), if_neg (fun q => h29 (z0.mpr q)), if_neg h43, if_neg h57, if_pos (w4 h22 (fun q => h29 (z0.mpr q)) h43 h57), ← a8, h73]; rfl, rfl⟩)
          · refine V_aload_n (pc := 60) (i := 0) hX dX6_told_60 rfl rfl ?_
            refine V_iload_n (pc := 61) (i := 1) hX dX6_told_61 rfl rfl ?_
            refine V_callVi (pc := 62) hX (hR.mono (by omega)) mX6_115 (c_mfilled _ _ (by omega)) dX6_told_62 rfl rfl rfl rfl (Nat.le_of_ble_eq_true rfl) ?_
            refine V_goto (pc := 65) (tgt := 81) hX dX6_told_65 (by decide) ?_
            exact V_iret (pc := 81) (st := []) hX hr (by first | rfl | exact bI_nar _ | decide +kernel) dX6_told_81 (⟨by rw [toldF, h10, if_pos rfl, tn_nI (by omega), if_neg (fun q => h29 (z0.mpr q)), if_neg h43, if_pos h57, a57, a58], rfl⟩)
        · refine V_aload_n (pc := 46) (i := 0) hX dX6_told_46 rfl rfl ?_
          refine V_getr (pc := 47) hX fX6_22 dX6_told_47 rfl rfl ?_
          refine V_iload_n (pc := 50) (i := 1) hX dX6_told_50 rfl rfl ?_
          refine V_iald (pc := 51) hX dX6_told_51 (rfl) (rfl) (by omega) (by decide) ?_
          refine V_goto (pc := 52) (tgt := 81) hX dX6_told_52 (by decide) ?_
          exact V_iret (pc := 81) (st := []) hX hr (by first | rfl | exact bI_nar _ | decide +kernel) dX6_told_81 (⟨by rw [toldF, h10, if_pos rfl, tn_nI (by omega), if_neg (fun q => h29 (z0.mpr q)), if_pos h43, a57], rfl⟩)
      · refine V_aload_n (pc := 32) (i := 0) hX dX6_told_32 rfl rfl ?_
        refine V_getr (pc := 33) hX fX6_19 dX6_told_33 rfl rfl ?_
        refine V_iload_n (pc := 36) (i := 1) hX dX6_told_36 rfl rfl ?_
        refine V_iald (pc := 37) hX dX6_told_37 (rfl) (rfl) (by omega) (by decide) ?_
        refine V_goto (pc := 38) (tgt := 81) hX dX6_told_38 (by decide) ?_
        exact V_iret (pc := 81) (st := []) hX hr (by first | rfl | exact bI_nar _ | decide +kernel) dX6_told_81 (⟨by rw [toldF, h10, if_pos rfl, tn_nI (by omega), if_pos (z0.mp h29), a56], rfl⟩)
    · refine V_ldc (pc := 25) hX kX6_85 dX6_told_25 ?_
      exact V_iret (pc := 27) (st := []) hX hr (by first | rfl | exact bI_nar _ | decide +kernel) dX6_told_27 (⟨by rw [toldF, h10, if_pos rfl, if_neg (w3 h22).1, if_neg (w3 h22).2.1, if_neg (w3 h22).2.2.1, if_neg (w3 h22).2.2.2], rfl⟩)
set_option maxRecDepth 100000 in
set_option maxHeartbeats 4000000 in
theorem c_mkind (n : Nat) (x : Int32) (σ : Mem) (hn : σ 52 5 = nI n) (hn10 : n ≤ 10) : Cc yX6_kind cX6_kind 2 (some .int) 2 [.ref 52, .int x] σ (rI (kindF n (σ 56) (σ 57) (σ 58) (σ 52 8) x) (m0 σ)) := by
  refine Cc.intro (by decide +kernel) [some (.ref 52), some (.int x)] (fun _ => rfl) rfl (fun _ => Nat.le_of_ble_eq_true rfl) ?_
  intro X hX hR hr
  have a5 : m0 σ 52 5 = nI n := by rw [m0_c (by decide)]; exact hn
  have a56 : m0 σ 56 = σ 56 := m0_r (by decide)
  have a57 : m0 σ 57 = σ 57 := m0_r (by decide)
  have a58 : m0 σ 58 = σ 58 := m0_r (by decide)
  have a8 : m0 σ 52 8 = σ 52 8 := m0_c (by decide)
  refine V_aload_n (pc := 0) (i := 0) hX dX6_kind_0 rfl rfl ?_
  refine V_iconst (pc := 1) (v := (nI 0)) hX dX6_kind_1 (by decide +kernel) ?_
  refine V_putf (pc := 2) hX fX6_66 gi6_0 dX6_kind_2 rfl rfl ?_
  refine Vw.mem (rfl : m0 σ = _) ?_
  refine V_aload_n (pc := 5) (i := 0) hX dX6_kind_5 rfl rfl ?_
  refine V_iload_n (pc := 6) (i := 1) hX dX6_kind_6 rfl rfl ?_
  refine V_callVi (pc := 7) hX (hR.mono (by omega)) mX6_133 (c_misSet n _ _ a5 hn10) dX6_kind_7 rfl rfl rfl rfl (Nat.le_of_ble_eq_true rfl) ?_
  refine V_if_eqB (pc := 10) (tgt := 21) hX dX6_kind_10 (by decide) (fun h10 => ?_) (fun h10 => ?_)
  · refine V_ldc (pc := 21) hX kX6_85 dX6_kind_21 ?_
    exact V_iret (pc := 23) (st := []) hX hr (by first | rfl | exact bI_nar _ | decide +kernel) dX6_kind_23 (⟨by rw [kindF, h10]; rfl, rfl⟩)
  · obtain ⟨j, hj, rfl⟩ := inr_of h10 (by omega)
    refine V_aload_n (pc := 13) (i := 0) hX dX6_kind_13 rfl rfl ?_
    refine V_iload_n (pc := 14) (i := 1) hX dX6_kind_14 rfl rfl ?_
    refine V_callVi (pc := 15) hX (hR.mono (by omega)) mX6_190 (c_mkindOf _ _ (by omega)) dX6_kind_15 rfl rfl rfl rfl (Nat.le_of_ble_eq_true rfl) ?_
    refine V_goto (pc := 18) (tgt := 23) hX dX6_kind_18 (by decide) ?_
    exact V_iret (pc := 23) (st := []) hX hr (by first | rfl | exact bI_nar _ | decide +kernel) dX6_kind_23 (⟨by rw [kindF, h10, if_pos rfl, tn_nI (by omega), a56, a57, a58, a8], rfl⟩)
def mdemandV (σ : Mem) (n : Nat) (x : Int32) : Int32 := if inr x 12 then mdemV σ n (tn x) else (-1000001)
def mdemandM (σ : Mem) (n : Nat) (x : Int32) : Mem := if inr x 12 then mdemM σ n (tn x) else σ
theorem c_mdemG (n : Nat) (x : Int32) (σ : Mem) (hn : σ 52 5 = nI n) (hn10 : n ≤ 10) : Cc yX6_demanding cX6_demanding 7 (some .int) 1 [.ref 52, .int x] σ (rI (mdemandV σ n x) (mdemandM σ n x)) := by
  cases h : inr x 12 with
  | false =>
    have h2 := c_mdemB x σ h
    rw [mdemandV, mdemandM, h]
    exact h2
  | true =>
    obtain ⟨j, hj, rfl⟩ := inr_of h (by decide)
    have h2 := c_mdem n j σ hn hn10 hj
    rw [mdemandV, mdemandM, h, if_pos rfl, if_pos rfl, tn_nI (by omega)]
    exact h2
set_option maxRecDepth 100000 in
set_option maxHeartbeats 4000000 in
theorem c_mdemand (n : Nat) (x : Int32) (σ : Mem) (hn : σ 52 5 = nI n) (hn10 : n ≤ 10) : Cc yX6_demand cX6_demand 2 (some .int) 2 [.ref 52, .int x] σ (rI (mdemandV (m0 σ) n x) (mdemandM (m0 σ) n x)) := by
  refine Cc.intro (by decide +kernel) [some (.ref 52), some (.int x)] (fun _ => rfl) rfl (fun _ => Nat.le_of_ble_eq_true rfl) ?_
  intro X hX hR hr
  refine V_aload_n (pc := 0) (i := 0) hX dX6_demand_0 rfl rfl ?_
  refine V_iconst (pc := 1) (v := (nI 0)) hX dX6_demand_1 (by decide +kernel) ?_
  refine V_putf (pc := 2) hX fX6_66 gi6_0 dX6_demand_2 rfl rfl ?_
  refine Vw.mem (rfl : m0 σ = _) ?_
  refine V_aload_n (pc := 5) (i := 0) hX dX6_demand_5 rfl rfl ?_
  refine V_iload_n (pc := 6) (i := 1) hX dX6_demand_6 rfl rfl ?_
  refine V_callVi (pc := 7) hX (hR.mono (by omega)) mX6_121 (c_mdemG n x _ (by rw [m0_c (by decide)]; exact hn) hn10) dX6_demand_7 rfl rfl rfl rfl (Nat.le_of_ble_eq_true rfl) ?_
  exact V_iret (pc := 10) (st := []) hX hr (by first | rfl | exact bI_nar _ | decide +kernel) dX6_demand_10 (⟨rfl, rfl⟩)
def maddM (σ : Mem) (n : Nat) (c th : Int32) : Mem := mu (mu (mu σ 56 n c) 57 n th) 52 5 (nI (n + 1))
def mofferM (σ : Mem) (n : Nat) (c th : Int32) : Mem := if inr2 c 1 1000 && inr2 th 1 4095 then (if σ 52 9 = 0 then (if n < 10 then maddM σ n c th else σ) else σ) else σ
set_option maxRecDepth 100000 in
set_option maxHeartbeats 4000000 in
theorem c_moffer (n : Nat) (c th : Int32) (σ : Mem) (hn : σ 52 5 = nI n) (hn10 : n ≤ 10) : Cc yX6_offer cX6_offer 3 (some .int) 1 [.ref 52, .int c, .int th] σ (rI (offerF n (σ 52 9) c th) (mofferM (m0 σ) n c th)) := by
  refine Cc.intro (by decide +kernel) [some (.ref 52), some (.int c), some (.int th)] (fun _ => rfl) rfl (fun _ => Nat.le_of_ble_eq_true rfl) ?_
  intro X hX hR hr
  have a5 : m0 σ 52 5 = nI n := by rw [m0_c (by decide)]; exact hn
  have a9 : m0 σ 52 9 = σ 52 9 := m0_c (by decide)
  refine V_aload_n (pc := 0) (i := 0) hX dX6_offer_0 rfl rfl ?_
  refine V_iconst (pc := 1) (v := (nI 0)) hX dX6_offer_1 (by decide +kernel) ?_
  refine V_putf (pc := 2) hX fX6_66 gi6_0 dX6_offer_2 rfl rfl ?_
  refine Vw.mem (rfl : m0 σ = _) ?_
  refine V_iload_n (pc := 5) (i := 1) hX dX6_offer_5 rfl rfl ?_
  refine V_i2l (pc := 6) hX dX6_offer_6 ?_
  refine V_lconst (pc := 7) (v := lN 1) hX dX6_offer_7 (by decide +kernel) ?_
  refine V_ldc2 (pc := 8) hX kX6_96 dX6_offer_8 ?_
  refine V_callSi (pc := 11) hX (hR.mono (by omega)) mX6_75 (c_inN c 1 1000 (by decide) (by decide) _) dX6_offer_11 rfl rfl rfl (Nat.le_of_ble_eq_true rfl) ?_
  refine V_if_eqB (pc := 14) (tgt := 29) hX dX6_offer_14 (by decide) (fun h14 => ?_) (fun h14 => ?_)
  · refine V_ldc (pc := 29) hX kX6_85 dX6_offer_29 ?_
    exact V_iret (pc := 31) (st := []) hX hr (by first | rfl | exact bI_nar _ | decide +kernel) dX6_offer_31 (⟨by rw [offerF, h14]; rfl, by rw [mofferM, h14]; rfl⟩)
  · refine V_iload_n (pc := 17) (i := 2) hX dX6_offer_17 rfl rfl ?_
    refine V_i2l (pc := 18) hX dX6_offer_18 ?_
    refine V_lconst (pc := 19) (v := lN 1) hX dX6_offer_19 (by decide +kernel) ?_
    refine V_ldc2 (pc := 20) hX kX6_98 dX6_offer_20 ?_
    refine V_callSi (pc := 23) hX (hR.mono (by omega)) mX6_75 (c_inN th 1 4095 (by decide) (by decide) _) dX6_offer_23 rfl rfl rfl (Nat.le_of_ble_eq_true rfl) ?_
    refine V_if_neB (pc := 26) (tgt := 32) hX dX6_offer_26 (by decide) (fun h26 => ?_) (fun h26 => ?_)
    · refine V_aload_n (pc := 32) (i := 0) hX dX6_offer_32 rfl rfl ?_
      refine V_getf (pc := 33) hX fX6_100 dX6_offer_33 rfl rfl ?_
      refine V_if_eq (pc := 36) (tgt := 42) hX dX6_offer_36 (by decide) (fun h36 => ?_) (fun h36 => ?_)
      · refine V_aload_n (pc := 42) (i := 0) hX dX6_offer_42 rfl rfl ?_
        refine V_getf (pc := 43) hX fX6_90 dX6_offer_43 rfl rfl ?_
        refine V_bipush (pc := 46) (v := (nI 10)) hX dX6_offer_46 (by decide +kernel) ?_
        rw [a5]
        refine V_icmp_neN (pc := 48) (tgt := 54) hX dX6_offer_48 (by decide) (by omega) (by omega) (fun h48 => ?_) (fun h48 => ?_)
        · refine V_aload_n (pc := 54) (i := 0) hX dX6_offer_54 rfl rfl ?_
          refine V_getr (pc := 55) hX fX6_19 dX6_offer_55 rfl rfl ?_
          refine V_aload_n (pc := 58) (i := 0) hX dX6_offer_58 rfl rfl ?_
          refine V_getf (pc := 59) hX fX6_90 dX6_offer_59 rfl rfl ?_
          rw [a5]
          refine V_iload_n (pc := 62) (i := 1) hX dX6_offer_62 rfl rfl ?_
          refine V_iast (pc := 63) hX dX6_offer_63 (rfl) (rfl) (by omega) (by decide) ?_
          refine V_aload_n (pc := 64) (i := 0) hX dX6_offer_64 rfl rfl ?_
          refine V_getr (pc := 65) hX fX6_22 dX6_offer_65 rfl rfl ?_
          refine V_aload_n (pc := 68) (i := 0) hX dX6_offer_68 rfl rfl ?_
          refine V_getf (pc := 69) hX fX6_90 dX6_offer_69 rfl rfl ?_
          simp only [mu_f, Nat.reduceEqDiff, ↓reduceIte, a5]
          refine V_iload_n (pc := 72) (i := 2) hX dX6_offer_72 rfl rfl ?_
          refine V_iast (pc := 73) hX dX6_offer_73 (rfl) (rfl) (by omega) (by decide) ?_
          refine V_aload_n (pc := 74) (i := 0) hX dX6_offer_74 rfl rfl ?_
          refine V_dup (pc := 75) hX dX6_offer_75 rfl ?_
          refine V_getf (pc := 76) hX fX6_90 dX6_offer_76 rfl rfl ?_
          simp only [mu_f, Nat.reduceEqDiff, ↓reduceIte, a5]
          refine V_iconst (pc := 79) (v := (nI 1)) hX dX6_offer_79 (by decide +kernel) ?_
          refine V_iadd (pc := 80) hX dX6_offer_80 ?_
          rw [nI_add]
          refine V_putf (pc := 81) hX fX6_90 gi6_5 dX6_offer_81 rfl rfl ?_
          refine V_aload_n (pc := 84) (i := 0) hX dX6_offer_84 rfl rfl ?_
          refine V_getf (pc := 85) hX fX6_90 dX6_offer_85 rfl rfl ?_
          refine V_iconst (pc := 88) (v := (nI 1)) hX dX6_offer_88 (by decide +kernel) ?_
          refine V_isub (pc := 89) hX dX6_offer_89 ?_
          simp only [mu_at]
          rw [pk_sub (by omega)]
          exact V_iret (pc := 90) (st := []) hX hr (by first | rfl | exact bI_nar _ | decide +kernel) dX6_offer_90 (⟨by rw [offerF, h14, h26, Bool.true_and, if_pos rfl, ← a9, if_pos h36, if_pos (by omega)]; rfl, by rw [mofferM, h14, h26, Bool.true_and, if_pos rfl, if_pos h36, if_pos (by omega)]; rfl⟩)
        · refine V_ldc (pc := 51) hX kX6_104 dX6_offer_51 ?_
          exact V_iret (pc := 53) (st := []) hX hr (by first | rfl | exact bI_nar _ | decide +kernel) dX6_offer_53 (⟨by rw [offerF, h14, h26, Bool.true_and, if_pos rfl, ← a9, if_pos h36, if_neg (by omega)], by rw [mofferM, h14, h26, Bool.true_and, if_pos rfl, if_pos h36, if_neg (by omega)]⟩)
      · refine V_ldc (pc := 39) hX kX6_103 dX6_offer_39 ?_
        exact V_iret (pc := 41) (st := []) hX hr (by first | rfl | exact bI_nar _ | decide +kernel) dX6_offer_41 (⟨by rw [offerF, h14, h26, Bool.true_and, if_pos rfl, ← a9, if_neg h36], by rw [mofferM, h14, h26, Bool.true_and, if_pos rfl, if_neg h36]⟩)
    · refine V_ldc (pc := 29) hX kX6_85 dX6_offer_29 ?_
      exact V_iret (pc := 31) (st := []) hX hr (by first | rfl | exact bI_nar _ | decide +kernel) dX6_offer_31 (⟨by rw [offerF, h14, h26]; rfl, by rw [mofferM, h14, h26]; rfl⟩)

