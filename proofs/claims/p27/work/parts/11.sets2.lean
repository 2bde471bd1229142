set_option maxRecDepth 100000 in
set_option maxHeartbeats 4000000 in
theorem l_buyTight {n t : Nat} {X : XC} {P : Option Value → Mem → Prop} {σ : Mem} (hX : Cok X RX2 cX2_buyTight 4) (hR : Rok X 4) (hr : Ret X (some .int) P) (hn : σ 2 3 = nI n) (hn10 : n ≤ 10) (ht : t < 12) (hp : P (some (.int (buyC (σ 17) (σ 18) (σ 19) t n))) (mbuy σ t n)) (k : Nat) (hk : k ≤ n) : Vw X 4 [some (.ref 2), some (.int (nI t)), some (.int (buyC (σ 17) (σ 18) (σ 19) t k)), some (.int (nI k))] [] (mbuy σ t k) := by
  have r17 : mbuy σ t k 17 = σ 17 := mbuy_r (by decide)
  have r18 : mbuy σ t k 18 = σ 18 := mbuy_r (by decide)
  have r19 : mbuy σ t k 19 = σ 19 := mbuy_r (by decide)
  have r23 : mbuy σ t k 2 3 = nI n := by rw [mbuy_c (by decide) (by decide)]; exact hn
  refine V_iload_n (pc := 4) (i := 3) hX dX2_buyTight_4 rfl rfl ?_
  refine V_aload_n (pc := 5) (i := 0) hX dX2_buyTight_5 rfl rfl ?_
  refine V_getf (pc := 6) hX fX2_21 dX2_buyTight_6 rfl rfl ?_
  rw [r23]
  refine V_icmp_geN (pc := 9) (tgt := 81) hX dX2_buyTight_9 (by decide) (by omega) (by omega) (fun h9 => ?_) (fun h9 => ?_)
  · obtain rfl : k = n := by omega
    refine V_iload_n (pc := 81) (i := 2) hX dX2_buyTight_81 rfl rfl ?_
    exact V_iret (pc := 82) (st := []) hX hr (by first | rfl | exact bI_nar _ | decide +kernel) dX2_buyTight_82 (hp)
  · refine V_aload_n (pc := 12) (i := 0) hX dX2_buyTight_12 rfl rfl ?_
    refine V_getr (pc := 13) hX fX2_15 dX2_buyTight_13 rfl rfl ?_
    refine V_iload_n (pc := 16) (i := 3) hX dX2_buyTight_16 rfl rfl ?_
    refine V_iald (pc := 17) hX dX2_buyTight_17 (rfl) (rfl) (by omega) (by decide) ?_
    refine V_iload_n (pc := 18) (i := 1) hX dX2_buyTight_18 rfl rfl ?_
    refine V_callSi (pc := 19) hX (hR.mono (by omega)) mX2_32 (c_holds _ _ (by omega) _) dX2_buyTight_19 rfl rfl rfl (Nat.le_of_ble_eq_true rfl) ?_
    refine V_if_eqB (pc := 22) (tgt := 75) hX dX2_buyTight_22 (by decide) (fun h22 => ?_) (fun h22 => ?_)
    · refine V_iinc3 (pc := 75) hX dX2_buyTight_75 rfl (iinc1 _) ?_
      refine V_goto (pc := 78) (tgt := 4) hX dX2_buyTight_78 (by decide) ?_
      have ih := l_buyTight hX hR hr hn hn10 ht hp (k + 1) (by omega)
      rw [r18] at h22
      rw [mbuy_f (Or.inl h22)] at ih
      simp only [buyC, tight, h22, Bool.false_and, Bool.false_eq_true, ↓reduceIte] at ih
      exact ih
    · refine V_aload_n (pc := 25) (i := 0) hX dX2_buyTight_25 rfl rfl ?_
      refine V_iload_n (pc := 26) (i := 3) hX dX2_buyTight_26 rfl rfl ?_
      refine V_callVi (pc := 27) hX (hR.mono (by omega)) mX2_54 (c_filled _ (by omega) _) dX2_buyTight_27 rfl rfl rfl rfl (Nat.le_of_ble_eq_true rfl) ?_
      refine V_aload_n (pc := 30) (i := 0) hX dX2_buyTight_30 rfl rfl ?_
      refine V_getr (pc := 31) hX fX2_9 dX2_buyTight_31 rfl rfl ?_
      refine V_iload_n (pc := 34) (i := 3) hX dX2_buyTight_34 rfl rfl ?_
      refine V_iald (pc := 35) hX dX2_buyTight_35 (rfl) (rfl) (by omega) (by decide) ?_
      refine V_icmp_ne (pc := 36) (tgt := 75) hX dX2_buyTight_36 (by decide) (fun h36 => ?_) (fun h36 => ?_)
      · refine V_iinc3 (pc := 75) hX dX2_buyTight_75 rfl (iinc1 _) ?_
        refine V_goto (pc := 78) (tgt := 4) hX dX2_buyTight_78 (by decide) ?_
        have ih := l_buyTight hX hR hr hn hn10 ht hp (k + 1) (by omega)
        rw [r17, r18, r19] at h36
        rw [mbuy_f (Or.inr h36)] at ih
        simp only [buyC, tight, decide_eq_false h36, Bool.and_false, Bool.false_eq_true, ↓reduceIte] at ih
        exact ih
      · refine V_aload_n (pc := 39) (i := 0) hX dX2_buyTight_39 rfl rfl ?_
        refine V_dup (pc := 40) hX dX2_buyTight_40 rfl ?_
        refine V_getf (pc := 41) hX fX2_35 dX2_buyTight_41 rfl rfl ?_
        refine V_iconst (pc := 44) (v := (nI 1)) hX dX2_buyTight_44 (by decide +kernel) ?_
        refine V_iload_n (pc := 45) (i := 3) hX dX2_buyTight_45 rfl rfl ?_
        refine V_ishl (pc := 46) hX dX2_buyTight_46 ?_
        refine V_ior (pc := 47) hX dX2_buyTight_47 ?_
        refine V_putf (pc := 48) hX fX2_35 gi2_6 dX2_buyTight_48 rfl rfl ?_
        refine V_aload_n (pc := 51) (i := 0) hX dX2_buyTight_51 rfl rfl ?_
        refine V_dup (pc := 52) hX dX2_buyTight_52 rfl ?_
        refine V_getf (pc := 53) hX fX2_41 dX2_buyTight_53 rfl rfl ?_
        refine V_aload_n (pc := 56) (i := 0) hX dX2_buyTight_56 rfl rfl ?_
        refine V_getr (pc := 57) hX fX2_15 dX2_buyTight_57 rfl rfl ?_
        refine V_iload_n (pc := 60) (i := 3) hX dX2_buyTight_60 rfl rfl ?_
        refine V_iald (pc := 61) hX dX2_buyTight_61 (rfl) (rfl) (by omega) (by decide) ?_
        refine V_ior (pc := 62) hX dX2_buyTight_62 ?_
        refine V_putf (pc := 63) hX fX2_41 gi2_7 dX2_buyTight_63 rfl rfl ?_
        refine V_iload_n (pc := 66) (i := 2) hX dX2_buyTight_66 rfl rfl ?_
        refine V_aload_n (pc := 67) (i := 0) hX dX2_buyTight_67 rfl rfl ?_
        refine V_getr (pc := 68) hX fX2_9 dX2_buyTight_68 rfl rfl ?_
        refine V_iload_n (pc := 71) (i := 3) hX dX2_buyTight_71 rfl rfl ?_
        refine V_iald (pc := 72) hX dX2_buyTight_72 (rfl) (rfl) (by omega) (by decide) ?_
        refine V_iadd (pc := 73) hX dX2_buyTight_73 ?_
        refine V_istore2 (pc := 74) hX dX2_buyTight_74 rfl ?_
        refine V_iinc3 (pc := 75) hX dX2_buyTight_75 rfl (iinc1 _) ?_
        refine V_goto (pc := 78) (tgt := 4) hX dX2_buyTight_78 (by decide) ?_
        have ih := l_buyTight hX hR hr hn hn10 ht hp (k + 1) (by omega)
        rw [r18] at h22
        rw [r17, r18, r19] at h36
        rw [mbuy_t h22 h36] at ih
        simp only [buyC, tight, h22, decide_eq_true h36, Bool.and_true, ↓reduceIte] at ih
        simp only [mu_f, upd_at, r17, r18, Nat.reduceEqDiff, ↓reduceIte]
        exact ih
termination_by n - k
set_option maxRecDepth 100000 in
set_option maxHeartbeats 4000000 in
theorem c_buyTight (n t : Nat) (σ : Mem) (hn : σ 2 3 = nI n) (hn10 : n ≤ 10) (ht : t < 12) : Cc yX2_buyTight cX2_buyTight 4 (some .int) 4 [.ref 2, .int (nI t)] σ (rI (buyC (σ 17) (σ 18) (σ 19) t n) (mbuy σ t n)) := by
  refine Cc.intro (by decide +kernel) [some (.ref 2), some (.int (nI t)), none, none] (fun _ => rfl) rfl (fun _ => Nat.le_of_ble_eq_true rfl) ?_
  intro X hX hR hr
  refine V_iconst (pc := 0) (v := (nI 0)) hX dX2_buyTight_0 (by decide +kernel) ?_
  refine V_istore2 (pc := 1) hX dX2_buyTight_1 rfl ?_
  refine V_iconst (pc := 2) (v := (nI 0)) hX dX2_buyTight_2 (by decide +kernel) ?_
  refine V_istore3 (pc := 3) hX dX2_buyTight_3 rfl ?_
  refine Vw.mem (mbuy_0 σ t) ?_
  exact l_buyTight hX hR hr hn hn10 ht ⟨rfl, rfl⟩ 0 (by omega)
/-- the memory when a thing is asked for, that no bought set has, ahead of the buying -/
def mask (σ : Mem) (t : Nat) : Mem := mu σ 2 5 (σ 2 5 ||| (nI 1 <<< (nI t &&& 31)))
def mraise (σ : Mem) (n t : Nat) : Mem := mu (mask σ t) 19 t (σ 19 t + lgap (σ 17) (σ 18) (σ 19) t n)
def cmeetV (σ : Mem) (n t : Nat) : Int32 := if bt (σ 2 7) t then nI 0 else buyC (σ 17) (σ 18) (mraise σ n t 19) t n
def cmeetM (σ : Mem) (n t : Nat) : Mem := if bt (σ 2 7) t then mask σ t else mu (mbuy (mraise σ n t) t n) 2 8 (σ 2 8 + buyC (σ 17) (σ 18) (mraise σ n t 19) t n)
theorem mask_r {σ : Mem} {t q : Nat} (h : q ≠ 2) : mask σ t q = σ q := (mu_ne h).symm
theorem mask_c {σ : Mem} {t j : Nat} (h : j ≠ 5) : mask σ t 2 j = σ 2 j := mu_ni h
theorem mraise_r {σ : Mem} {n t q : Nat} (h : q ≠ 19) : mraise σ n t q = mask σ t q := (mu_ne h).symm
set_option maxRecDepth 100000 in
set_option maxHeartbeats 4000000 in
theorem c_meet (n t : Nat) (σ : Mem) (hn : σ 2 3 = nI n) (hn10 : n ≤ 10) (ht : t < 12) : Cc yX2_meet cX2_meet 3 (some .int) 5 [.ref 2, .int (nI t)] σ (rI (cmeetV σ n t) (cmeetM σ n t)) := by
  refine Cc.intro (by decide +kernel) [some (.ref 2), some (.int (nI t)), none] (fun _ => rfl) rfl (fun _ => Nat.le_of_ble_eq_true rfl) ?_
  intro X hX hR hr
  have hn1 : mask σ t 2 3 = nI n := by rw [mask_c (by decide)]; exact hn
  have a17 : mask σ t 17 = σ 17 := mask_r (by decide)
  have a18 : mask σ t 18 = σ 18 := mask_r (by decide)
  have a19 : mask σ t 19 = σ 19 := mask_r (by decide)
  have b17 : mraise σ n t 17 = σ 17 := by rw [mraise_r (by decide), a17]
  have b18 : mraise σ n t 18 = σ 18 := by rw [mraise_r (by decide), a18]
  have b2 : mraise σ n t 2 = mask σ t 2 := mraise_r (by decide)
  have hn2 : mraise σ n t 2 3 = nI n := by rw [b2, hn1]
  have b28 : mbuy (mraise σ n t) t n 2 8 = σ 2 8 := by rw [mbuy_c (by decide) (by decide), b2, mask_c (by decide)]
  have e7 : mask σ t 2 7 = σ 2 7 := mask_c (by decide)
  refine V_aload_n (pc := 0) (i := 0) hX dX2_meet_0 rfl rfl ?_
  refine V_dup (pc := 1) hX dX2_meet_1 rfl ?_
  refine V_getf (pc := 2) hX fX2_38 dX2_meet_2 rfl rfl ?_
  refine V_iconst (pc := 5) (v := (nI 1)) hX dX2_meet_5 (by decide +kernel) ?_
  refine V_iload_n (pc := 6) (i := 1) hX dX2_meet_6 rfl rfl ?_
  refine V_ishl (pc := 7) hX dX2_meet_7 ?_
  refine V_ior (pc := 8) hX dX2_meet_8 ?_
  refine V_putf (pc := 9) hX fX2_38 gi2_5 dX2_meet_9 rfl rfl ?_
  refine Vw.mem (rfl : mask σ t = _) ?_
  refine V_aload_n (pc := 12) (i := 0) hX dX2_meet_12 rfl rfl ?_
  refine V_getf (pc := 13) hX fX2_41 dX2_meet_13 rfl rfl ?_
  refine V_iload_n (pc := 16) (i := 1) hX dX2_meet_16 rfl rfl ?_
  refine V_callSi (pc := 17) hX (hR.mono (by omega)) mX2_32 (c_holds _ _ (by omega) _) dX2_meet_17 rfl rfl rfl (Nat.le_of_ble_eq_true rfl) ?_
  refine V_if_eqB (pc := 20) (tgt := 25) hX dX2_meet_20 (by decide) (fun h20 => ?_) (fun h20 => ?_)
  · refine V_aload_n (pc := 25) (i := 0) hX dX2_meet_25 rfl rfl ?_
    refine V_getr (pc := 26) hX fX2_18 dX2_meet_26 rfl rfl ?_
    refine V_iload_n (pc := 29) (i := 1) hX dX2_meet_29 rfl rfl ?_
    refine V_dup2 (pc := 30) hX dX2_meet_30 rfl rfl ?_
    refine V_iald (pc := 31) hX dX2_meet_31 (rfl) (rfl) (by omega) (by decide) ?_
    refine V_aload_n (pc := 32) (i := 0) hX dX2_meet_32 rfl rfl ?_
    refine V_iload_n (pc := 33) (i := 1) hX dX2_meet_33 rfl rfl ?_
    refine V_callVi (pc := 34) hX (hR.mono (by omega)) mX2_44 (c_leastGap n _ _ hn1 hn10 ht) dX2_meet_34 rfl rfl rfl rfl (Nat.le_of_ble_eq_true rfl) ?_
    refine V_iadd (pc := 37) hX dX2_meet_37 ?_
    refine V_iast (pc := 38) hX dX2_meet_38 (rfl) (rfl) (by omega) (by decide) ?_
    refine Vw.mem (σ' := mraise σ n t) (by unfold mraise; rw [a17, a18, a19]) ?_
    refine V_aload_n (pc := 39) (i := 0) hX dX2_meet_39 rfl rfl ?_
    refine V_iload_n (pc := 40) (i := 1) hX dX2_meet_40 rfl rfl ?_
    refine V_callVi (pc := 41) hX (hR.mono (by omega)) mX2_48 (c_buyTight n _ _ hn2 hn10 ht) dX2_meet_41 rfl rfl rfl rfl (Nat.le_of_ble_eq_true rfl) ?_
    refine V_istore2 (pc := 44) hX dX2_meet_44 rfl ?_
    refine V_aload_n (pc := 45) (i := 0) hX dX2_meet_45 rfl rfl ?_
    refine V_dup (pc := 46) hX dX2_meet_46 rfl ?_
    refine V_getf (pc := 47) hX fX2_51 dX2_meet_47 rfl rfl ?_
    refine V_iload_n (pc := 50) (i := 2) hX dX2_meet_50 rfl rfl ?_
    refine V_iadd (pc := 51) hX dX2_meet_51 ?_
    refine V_putf (pc := 52) hX fX2_51 gi2_8 dX2_meet_52 rfl rfl ?_
    refine V_iload_n (pc := 55) (i := 2) hX dX2_meet_55 rfl rfl ?_
    exact V_iret (pc := 56) (st := []) hX hr (by first | rfl | exact bI_nar _ | decide +kernel) dX2_meet_56 (⟨by rw [cmeetV, ← e7, h20, b17, b18]; rfl, by rw [cmeetM, ← e7, h20, b17, b18, b28]; rfl⟩)
  · refine V_iconst (pc := 23) (v := (nI 0)) hX dX2_meet_23 (by decide +kernel) ?_
    exact V_iret (pc := 24) (st := []) hX hr (by first | rfl | exact bI_nar _ | decide +kernel) dX2_meet_24 (⟨by rw [cmeetV, ← e7, h20]; rfl, by rw [cmeetM, ← e7, h20]; rfl⟩)
set_option maxRecDepth 100000 in
set_option maxHeartbeats 4000000 in
theorem l_havers {n t : Nat} {X : XC} {P : Option Value → Mem → Prop} {σ : Mem} (hX : Cok X RX2 cX2_havers 4) (hR : Rok X 1) (hr : Ret X (some .int) P) (hn : σ 2 3 = nI n) (hn10 : n ≤ 10) (ht : t < 12) (hp : P (some (.int (nI (havf (σ 18) t n)))) σ) (k : Nat) (hk : k ≤ n) : Vw X 4 [some (.ref 2), some (.int (nI t)), some (.int (nI (havf (σ 18) t k))), some (.int (nI k))] [] σ := by
  refine V_iload_n (pc := 4) (i := 3) hX dX2_havers_4 rfl rfl ?_
  refine V_aload_n (pc := 5) (i := 0) hX dX2_havers_5 rfl rfl ?_
  refine V_getf (pc := 6) hX fX2_21 dX2_havers_6 rfl rfl ?_
  rw [hn]
  refine V_icmp_geN (pc := 9) (tgt := 34) hX dX2_havers_9 (by decide) (by omega) (by omega) (fun h9 => ?_) (fun h9 => ?_)
  · obtain rfl : k = n := by omega
    refine V_iload_n (pc := 34) (i := 2) hX dX2_havers_34 rfl rfl ?_
    exact V_iret (pc := 35) (st := []) hX hr (by first | rfl | exact bI_nar _ | decide +kernel) dX2_havers_35 (hp)
  · refine V_aload_n (pc := 12) (i := 0) hX dX2_havers_12 rfl rfl ?_
    refine V_getr (pc := 13) hX fX2_15 dX2_havers_13 rfl rfl ?_
    refine V_iload_n (pc := 16) (i := 3) hX dX2_havers_16 rfl rfl ?_
    refine V_iald (pc := 17) hX dX2_havers_17 (rfl) (rfl) (by omega) (by decide) ?_
    refine V_iload_n (pc := 18) (i := 1) hX dX2_havers_18 rfl rfl ?_
    refine V_callSi (pc := 19) hX (hR.mono (by omega)) mX2_32 (c_holds _ _ (by omega) _) dX2_havers_19 rfl rfl rfl (Nat.le_of_ble_eq_true rfl) ?_
    refine V_if_eqB (pc := 22) (tgt := 28) hX dX2_havers_22 (by decide) (fun h22 => ?_) (fun h22 => ?_)
    · refine V_iinc3 (pc := 28) hX dX2_havers_28 rfl (iinc1 _) ?_
      refine V_goto (pc := 31) (tgt := 4) hX dX2_havers_31 (by decide) ?_
      have ih := l_havers hX hR hr hn hn10 ht hp (k + 1) (by omega)
      simp only [havf, h22, ↓reduceIte, Bool.false_eq_true] at ih
      exact ih
    · refine V_iinc2 (pc := 25) hX dX2_havers_25 rfl (iinc1 _) ?_
      refine V_iinc3 (pc := 28) hX dX2_havers_28 rfl (iinc1 _) ?_
      refine V_goto (pc := 31) (tgt := 4) hX dX2_havers_31 (by decide) ?_
      have ih := l_havers hX hR hr hn hn10 ht hp (k + 1) (by omega)
      simp only [havf, h22, ↓reduceIte, Bool.false_eq_true] at ih
      exact ih
termination_by n - k
set_option maxRecDepth 100000 in
set_option maxHeartbeats 4000000 in
theorem c_havers (n t : Nat) (σ : Mem) (hn : σ 2 3 = nI n) (hn10 : n ≤ 10) (ht : t < 12) : Cc yX2_havers cX2_havers 4 (some .int) 1 [.ref 2, .int (nI t)] σ (rI (nI (havf (σ 18) t n)) σ) := by
  refine Cc.intro (by decide +kernel) [some (.ref 2), some (.int (nI t)), none, none] (fun _ => rfl) rfl (fun _ => Nat.le_of_ble_eq_true rfl) ?_
  intro X hX hR hr
  refine V_iconst (pc := 0) (v := (nI 0)) hX dX2_havers_0 (by decide +kernel) ?_
  refine V_istore2 (pc := 1) hX dX2_havers_1 rfl ?_
  refine V_iconst (pc := 2) (v := (nI 0)) hX dX2_havers_2 (by decide +kernel) ?_
  refine V_istore3 (pc := 3) hX dX2_havers_3 rfl ?_
  exact l_havers hX hR hr hn hn10 ht ⟨rfl, rfl⟩ 0 (by omega)
set_option maxRecDepth 100000 in
set_option maxHeartbeats 4000000 in
theorem l_share {n : Nat} {X : XC} {P : Option Value → Mem → Prop} {σ : Mem} (hX : Cok X RX2 cX2_share 3) (hR : Rok X 2) (hr : Ret X (some .int) P) (hn : σ 2 3 = nI n) (hn10 : n ≤ 10) (hp : P (some (.int (sharf (σ 2 5) (σ 18) n 12))) σ) (k : Nat) (hk : k ≤ 12) : Vw X 4 [some (.ref 2), some (.int (sharf (σ 2 5) (σ 18) n k)), some (.int (nI k))] [] σ := by
  refine V_iload_n (pc := 4) (i := 2) hX dX2_share_4 rfl rfl ?_
  refine V_bipush (pc := 5) (v := (nI 12)) hX dX2_share_5 (by decide +kernel) ?_
  refine V_icmp_geN (pc := 7) (tgt := 37) hX dX2_share_7 (by decide) (by omega) (by omega) (fun h7 => ?_) (fun h7 => ?_)
  · obtain rfl : k = 12 := by omega
    refine V_iload_n (pc := 37) (i := 1) hX dX2_share_37 rfl rfl ?_
    exact V_iret (pc := 38) (st := []) hX hr (by first | rfl | exact bI_nar _ | decide +kernel) dX2_share_38 (hp)
  · refine V_aload_n (pc := 10) (i := 0) hX dX2_share_10 rfl rfl ?_
    refine V_getf (pc := 11) hX fX2_38 dX2_share_11 rfl rfl ?_
    refine V_iload_n (pc := 14) (i := 2) hX dX2_share_14 rfl rfl ?_
    refine V_callSi (pc := 15) hX (hR.mono (by omega)) mX2_32 (c_holds _ _ (by omega) _) dX2_share_15 rfl rfl rfl (Nat.le_of_ble_eq_true rfl) ?_
    refine V_if_eqB (pc := 18) (tgt := 31) hX dX2_share_18 (by decide) (fun h18 => ?_) (fun h18 => ?_)
    · refine V_iinc2 (pc := 31) hX dX2_share_31 rfl (iinc1 _) ?_
      refine V_goto (pc := 34) (tgt := 4) hX dX2_share_34 (by decide) ?_
      have ih := l_share hX hR hr hn hn10 hp (k + 1) (by omega)
      simp only [sharf, h18, ↓reduceIte, Bool.false_eq_true] at ih
      exact ih
    · refine V_iload_n (pc := 21) (i := 1) hX dX2_share_21 rfl rfl ?_
      refine V_aload_n (pc := 22) (i := 0) hX dX2_share_22 rfl rfl ?_
      refine V_iload_n (pc := 23) (i := 2) hX dX2_share_23 rfl rfl ?_
      refine V_callVi (pc := 24) hX (hR.mono (by omega)) mX2_71 (c_havers n _ _ hn hn10 (by omega)) dX2_share_24 rfl rfl rfl rfl (Nat.le_of_ble_eq_true rfl) ?_
      refine V_mmax (pc := 27) hX (hR.mono (by omega)) mX2_74 dX2_share_27 rfl (Nat.le_of_ble_eq_true rfl) ?_
      refine V_istore1 (pc := 30) hX dX2_share_30 rfl ?_
      refine V_iinc2 (pc := 31) hX dX2_share_31 rfl (iinc1 _) ?_
      refine V_goto (pc := 34) (tgt := 4) hX dX2_share_34 (by decide) ?_
      have ih := l_share hX hR hr hn hn10 hp (k + 1) (by omega)
      simp only [sharf, h18, ↓reduceIte, Bool.false_eq_true] at ih
      exact ih
termination_by 12 - k
set_option maxRecDepth 100000 in
set_option maxHeartbeats 4000000 in
theorem c_share (n : Nat) (σ : Mem) (hn : σ 2 3 = nI n) (hn10 : n ≤ 10) : Cc yX2_share cX2_share 3 (some .int) 2 [.ref 2] σ (rI (sharf (σ 2 5) (σ 18) n 12) σ) := by
  refine Cc.intro (by decide +kernel) [some (.ref 2), none, none] (fun _ => rfl) rfl (fun _ => Nat.le_of_ble_eq_true rfl) ?_
  intro X hX hR hr
  refine V_iconst (pc := 0) (v := (nI 0)) hX dX2_share_0 (by decide +kernel) ?_
  refine V_istore1 (pc := 1) hX dX2_share_1 rfl ?_
  refine V_iconst (pc := 2) (v := (nI 0)) hX dX2_share_2 (by decide +kernel) ?_
  refine V_istore2 (pc := 3) hX dX2_share_3 rfl ?_
  exact l_share hX hR hr hn hn10 ⟨rfl, rfl⟩ 0 (by omega)
set_option maxRecDepth 100000 in
set_option maxHeartbeats 4000000 in
theorem c_kindOf (s : Nat) (σ : Mem) (hs : s < 10) : Cc yX2_kindOf cX2_kindOf 2 (some .int) 3 [.ref 2, .int (nI s)] σ (rI (kindf (σ 2 6) s (pf (σ 18 s) (σ 19) 12) (σ 17 s)) σ) := by
  refine Cc.intro (by decide +kernel) [some (.ref 2), some (.int (nI s))] (fun _ => rfl) rfl (fun _ => Nat.le_of_ble_eq_true rfl) ?_
  intro X hX hR hr
  refine V_aload_n (pc := 0) (i := 0) hX dX2_kindOf_0 rfl rfl ?_
  refine V_iload_n (pc := 1) (i := 1) hX dX2_kindOf_1 rfl rfl ?_
  refine V_callVi (pc := 2) hX (hR.mono (by omega)) mX2_77 (c_isBought _ hs _) dX2_kindOf_2 rfl rfl rfl rfl (Nat.le_of_ble_eq_true rfl) ?_
  refine V_if_eqB (pc := 5) (tgt := 10) hX dX2_kindOf_5 (by decide) (fun h5 => ?_) (fun h5 => ?_)
  · refine V_iconst (pc := 10) (v := (nI 2)) hX dX2_kindOf_10 (by decide +kernel) ?_
    refine V_aload_n (pc := 11) (i := 0) hX dX2_kindOf_11 rfl rfl ?_
    refine V_iload_n (pc := 12) (i := 1) hX dX2_kindOf_12 rfl rfl ?_
    refine V_callVi (pc := 13) hX (hR.mono (by omega)) mX2_54 (c_filled _ hs _) dX2_kindOf_13 rfl rfl rfl rfl (Nat.le_of_ble_eq_true rfl) ?_
    refine V_imul (pc := 16) hX dX2_kindOf_16 ?_
    refine V_aload_n (pc := 17) (i := 0) hX dX2_kindOf_17 rfl rfl ?_
    refine V_getr (pc := 18) hX fX2_9 dX2_kindOf_18 rfl rfl ?_
    refine V_iload_n (pc := 21) (i := 1) hX dX2_kindOf_21 rfl rfl ?_
    refine V_iald (pc := 22) hX dX2_kindOf_22 (rfl) (rfl) (by omega) (by decide) ?_
    refine V_icmp_lt (pc := 23) (tgt := 30) hX dX2_kindOf_23 (by decide) (fun h23 => ?_) (fun h23 => ?_)
    · refine V_iconst (pc := 30) (v := (nI 1)) hX dX2_kindOf_30 (by decide +kernel) ?_
      exact V_iret (pc := 31) (st := []) hX hr (by first | rfl | exact bI_nar _ | decide +kernel) dX2_kindOf_31 (⟨by simp only [kindf, h5, h23, Bool.false_eq_true, ↓reduceIte], rfl⟩)
    · refine V_iconst (pc := 26) (v := (nI 2)) hX dX2_kindOf_26 (by decide +kernel) ?_
      refine V_goto (pc := 27) (tgt := 31) hX dX2_kindOf_27 (by decide) ?_
      exact V_iret (pc := 31) (st := []) hX hr (by first | rfl | exact bI_nar _ | decide +kernel) dX2_kindOf_31 (⟨by simp only [kindf, h5, h23, Bool.false_eq_true, ↓reduceIte], rfl⟩)
  · refine V_iconst (pc := 8) (v := (nI 3)) hX dX2_kindOf_8 (by decide +kernel) ?_
    exact V_iret (pc := 9) (st := []) hX hr (by first | rfl | exact bI_nar _ | decide +kernel) dX2_kindOf_9 (⟨by simp only [kindf, h5, ↓reduceIte], rfl⟩)
def kisf (k own : Int32) : Bool := decide (k = 0 ∨ k = own ∨ (k = nI 1 ∧ own = nI 2))
set_option maxRecDepth 100000 in
set_option maxHeartbeats 4000000 in
theorem c_isOfKind (s : Nat) (k : Int32) (σ : Mem) (hs : s < 10) : Cc yX2_isOfKind cX2_isOfKind 4 (some .boolean) 4 [.ref 2, .int (nI s), .int k] σ (rI (bI (kisf k (kindf (σ 2 6) s (pf (σ 18 s) (σ 19) 12) (σ 17 s)))) σ) := by
  refine Cc.intro (by decide +kernel) [some (.ref 2), some (.int (nI s)), some (.int k), none] (fun _ => rfl) rfl (fun _ => Nat.le_of_ble_eq_true rfl) ?_
  intro X hX hR hr
  refine V_aload_n (pc := 0) (i := 0) hX dX2_isOfKind_0 rfl rfl ?_
  refine V_iload_n (pc := 1) (i := 1) hX dX2_isOfKind_1 rfl rfl ?_
  refine V_callVi (pc := 2) hX (hR.mono (by omega)) mX2_81 (c_kindOf _ _ hs) dX2_isOfKind_2 rfl rfl rfl rfl (Nat.le_of_ble_eq_true rfl) ?_
  refine V_istore3 (pc := 5) hX dX2_isOfKind_5 rfl ?_
  refine V_iload_n (pc := 6) (i := 2) hX dX2_isOfKind_6 rfl rfl ?_
  refine V_if_eq (pc := 7) (tgt := 25) hX dX2_isOfKind_7 (by decide) (fun h7 => ?_) (fun h7 => ?_)
  · refine V_iconst (pc := 25) (v := (nI 1)) hX dX2_isOfKind_25 (by decide +kernel) ?_
    refine V_goto (pc := 26) (tgt := 30) hX dX2_isOfKind_26 (by decide) ?_
    exact V_iret (pc := 30) (st := []) hX hr (by first | rfl | exact bI_nar _ | decide +kernel) dX2_isOfKind_30 (⟨by rw [kisf, decide_eq_true (Or.inl h7)]; rfl, rfl⟩)
  · refine V_iload_n (pc := 10) (i := 2) hX dX2_isOfKind_10 rfl rfl ?_
    refine V_iload_n (pc := 11) (i := 3) hX dX2_isOfKind_11 rfl rfl ?_
    refine V_icmp_eq (pc := 12) (tgt := 25) hX dX2_isOfKind_12 (by decide) (fun h12 => ?_) (fun h12 => ?_)
    · refine V_iconst (pc := 25) (v := (nI 1)) hX dX2_isOfKind_25 (by decide +kernel) ?_
      refine V_goto (pc := 26) (tgt := 30) hX dX2_isOfKind_26 (by decide) ?_
      exact V_iret (pc := 30) (st := []) hX hr (by first | rfl | exact bI_nar _ | decide +kernel) dX2_isOfKind_30 (⟨by rw [kisf, decide_eq_true (Or.inr (Or.inl h12))]; rfl, rfl⟩)
    · refine V_iload_n (pc := 15) (i := 2) hX dX2_isOfKind_15 rfl rfl ?_
      refine V_iconst (pc := 16) (v := (nI 1)) hX dX2_isOfKind_16 (by decide +kernel) ?_
      refine V_icmp_ne (pc := 17) (tgt := 29) hX dX2_isOfKind_17 (by decide) (fun h17 => ?_) (fun h17 => ?_)
      · refine V_iconst (pc := 29) (v := (nI 0)) hX dX2_isOfKind_29 (by decide +kernel) ?_
        exact V_iret (pc := 30) (st := []) hX hr (by first | rfl | exact bI_nar _ | decide +kernel) dX2_isOfKind_30 (⟨by rw [kisf, decide_eq_false (fun h => h.elim h7 (fun h => h.elim h12 (fun h => h17 h.1)))]; rfl, rfl⟩)
      · refine V_iload_n (pc := 20) (i := 3) hX dX2_isOfKind_20 rfl rfl ?_
        refine V_iconst (pc := 21) (v := (nI 2)) hX dX2_isOfKind_21 (by decide +kernel) ?_
        refine V_icmp_ne (pc := 22) (tgt := 29) hX dX2_isOfKind_22 (by decide) (fun h22 => ?_) (fun h22 => ?_)
        · refine V_iconst (pc := 29) (v := (nI 0)) hX dX2_isOfKind_29 (by decide +kernel) ?_
          exact V_iret (pc := 30) (st := []) hX hr (by first | rfl | exact bI_nar _ | decide +kernel) dX2_isOfKind_30 (⟨by rw [kisf, decide_eq_false (fun h => h.elim h7 (fun h => h.elim h12 (fun h => h22 h.2)))]; rfl, rfl⟩)
        · refine V_iconst (pc := 25) (v := (nI 1)) hX dX2_isOfKind_25 (by decide +kernel) ?_
          refine V_goto (pc := 26) (tgt := 30) hX dX2_isOfKind_26 (by decide) ?_
          exact V_iret (pc := 30) (st := []) hX hr (by first | rfl | exact bI_nar _ | decide +kernel) dX2_isOfKind_30 (⟨by rw [kisf, decide_eq_true (Or.inr (Or.inr ⟨h17, h22⟩))]; rfl, rfl⟩)
set_option maxRecDepth 100000 in
set_option maxHeartbeats 4000000 in
theorem l_nears {n : Nat} {X : XC} {P : Option Value → Mem → Prop} {σ : Mem} (hX : Cok X RX2 cX2_nears 3) (hR : Rok X 4) (hr : Ret X (some .int) P) (hn : σ 2 3 = nI n) (hn10 : n ≤ 10) (hp : P (some (.int (nI (nearf (σ 2 6) (σ 17) (σ 18) (σ 19) n)))) σ) (k : Nat) (hk : k ≤ n) : Vw X 4 [some (.ref 2), some (.int (nI (nearf (σ 2 6) (σ 17) (σ 18) (σ 19) k))), some (.int (nI k))] [] σ := by
  refine V_iload_n (pc := 4) (i := 2) hX dX2_nears_4 rfl rfl ?_
  refine V_aload_n (pc := 5) (i := 0) hX dX2_nears_5 rfl rfl ?_
  refine V_getf (pc := 6) hX fX2_21 dX2_nears_6 rfl rfl ?_
  rw [hn]
  refine V_icmp_geN (pc := 9) (tgt := 30) hX dX2_nears_9 (by decide) (by omega) (by omega) (fun h9 => ?_) (fun h9 => ?_)
  · obtain rfl : k = n := by omega
    refine V_iload_n (pc := 30) (i := 1) hX dX2_nears_30 rfl rfl ?_
    exact V_iret (pc := 31) (st := []) hX hr (by first | rfl | exact bI_nar _ | decide +kernel) dX2_nears_31 (hp)
  · refine V_aload_n (pc := 12) (i := 0) hX dX2_nears_12 rfl rfl ?_
    refine V_iload_n (pc := 13) (i := 2) hX dX2_nears_13 rfl rfl ?_
    refine V_callVi (pc := 14) hX (hR.mono (by omega)) mX2_81 (c_kindOf _ _ (by omega)) dX2_nears_14 rfl rfl rfl rfl (Nat.le_of_ble_eq_true rfl) ?_
    refine V_iconst (pc := 17) (v := (nI 2)) hX dX2_nears_17 (by decide +kernel) ?_
    refine V_icmp_ne (pc := 18) (tgt := 24) hX dX2_nears_18 (by decide) (fun h18 => ?_) (fun h18 => ?_)
    · refine V_iinc2 (pc := 24) hX dX2_nears_24 rfl (iinc1 _) ?_
      refine V_goto (pc := 27) (tgt := 4) hX dX2_nears_27 (by decide) ?_
      have ih := l_nears hX hR hr hn hn10 hp (k + 1) (by omega)
      simp only [nearf, h18, ↓reduceIte] at ih
      exact ih
    · refine V_iinc1 (pc := 21) hX dX2_nears_21 rfl (iinc1 _) ?_
      refine V_iinc2 (pc := 24) hX dX2_nears_24 rfl (iinc1 _) ?_
      refine V_goto (pc := 27) (tgt := 4) hX dX2_nears_27 (by decide) ?_
      have ih := l_nears hX hR hr hn hn10 hp (k + 1) (by omega)
      simp only [nearf, h18, ↓reduceIte] at ih
      exact ih
termination_by n - k
set_option maxRecDepth 100000 in
set_option maxHeartbeats 4000000 in
theorem c_nears (n : Nat) (σ : Mem) (hn : σ 2 3 = nI n) (hn10 : n ≤ 10) : Cc yX2_nears cX2_nears 3 (some .int) 4 [.ref 2] σ (rI (nI (nearf (σ 2 6) (σ 17) (σ 18) (σ 19) n)) σ) := by
  refine Cc.intro (by decide +kernel) [some (.ref 2), none, none] (fun _ => rfl) rfl (fun _ => Nat.le_of_ble_eq_true rfl) ?_
  intro X hX hR hr
  refine V_iconst (pc := 0) (v := (nI 0)) hX dX2_nears_0 (by decide +kernel) ?_
  refine V_istore1 (pc := 1) hX dX2_nears_1 rfl ?_
  refine V_iconst (pc := 2) (v := (nI 0)) hX dX2_nears_2 (by decide +kernel) ?_
  refine V_istore2 (pc := 3) hX dX2_nears_3 rfl ?_
  exact l_nears hX hR hr hn hn10 ⟨rfl, rfl⟩ 0 (by omega)
/-- the least cost of the last m of n sets that have all that is missing -/
def lff (c th : Nat → Int32) (n : Nat) : Nat → Int32 → Int32
  | 0, mis => if mis = 0 then nI 0 else nI 1000000
  | m + 1, mis => if mis = 0 then nI 0 else if th (n - (m + 1)) &&& mis = 0 then lff c th n m mis else imin (lff c th n m mis) (c (n - (m + 1)) + lff c th n m (mis &&& (th (n - (m + 1)) ^^^ (-1))))
set_option maxRecDepth 100000 in
set_option maxHeartbeats 4000000 in
theorem c_leastFrom (n : Nat) (σ : Mem) (hn : σ 2 3 = nI n) (hn10 : n ≤ 10) : ∀ (m : Nat) (hm : m ≤ n) (mis : Int32), Cc yX2_leastFrom cX2_leastFrom 4 (some .int) (m + 1) [.ref 2, .int (nI (n - m)), .int mis] σ (rI (lff (σ 17) (σ 18) n m mis) σ)
  | 0, hm, mis => by
    refine Cc.intro (by decide +kernel) [some (.ref 2), some (.int (nI (n - 0))), some (.int mis), none] (fun _ => rfl) rfl (fun _ => Nat.le_of_ble_eq_true rfl) ?_
    intro X hX hR hr
    refine V_iload_n (pc := 0) (i := 2) hX dX2_leastFrom_0 rfl rfl ?_
    refine V_if_ne (pc := 1) (tgt := 6) hX dX2_leastFrom_1 (by decide) (fun h1 => ?_) (fun h1 => ?_)
    · refine V_iload_n (pc := 6) (i := 1) hX dX2_leastFrom_6 rfl rfl ?_
      refine V_aload_n (pc := 7) (i := 0) hX dX2_leastFrom_7 rfl rfl ?_
      refine V_getf (pc := 8) hX fX2_21 dX2_leastFrom_8 rfl rfl ?_
      rw [hn]
      refine V_icmp_ltN (pc := 11) (tgt := 17) hX dX2_leastFrom_11 (by decide) (by omega) (by omega) (fun h11 => absurd h11 (by omega)) (fun h11 => ?_)
      refine V_ldc (pc := 14) hX kX2_70 dX2_leastFrom_14 ?_
      exact V_iret (pc := 16) (st := []) hX hr (by first | rfl | exact bI_nar _ | decide +kernel) dX2_leastFrom_16 (⟨by rw [lff, if_neg h1], rfl⟩)
    · refine V_iconst (pc := 4) (v := (nI 0)) hX dX2_leastFrom_4 (by decide +kernel) ?_
      exact V_iret (pc := 5) (st := []) hX hr (by first | rfl | exact bI_nar _ | decide +kernel) dX2_leastFrom_5 (⟨by rw [lff, if_pos h1], rfl⟩)
  | m + 1, hm, mis => by
    refine Cc.intro (by decide +kernel) [some (.ref 2), some (.int (nI (n - (m + 1)))), some (.int mis), none] (fun _ => rfl) rfl (fun _ => Nat.le_of_ble_eq_true rfl) ?_
    intro X hX hR hr
    have e1 : nI (n - (m + 1)) + nI 1 = nI (n - m) := by rw [nI_add]; congr 1; omega
    refine V_iload_n (pc := 0) (i := 2) hX dX2_leastFrom_0 rfl rfl ?_
    refine V_if_ne (pc := 1) (tgt := 6) hX dX2_leastFrom_1 (by decide) (fun h1 => ?_) (fun h1 => ?_)
    · refine V_iload_n (pc := 6) (i := 1) hX dX2_leastFrom_6 rfl rfl ?_
      refine V_aload_n (pc := 7) (i := 0) hX dX2_leastFrom_7 rfl rfl ?_
      refine V_getf (pc := 8) hX fX2_21 dX2_leastFrom_8 rfl rfl ?_
      rw [hn]
      refine V_icmp_ltN (pc := 11) (tgt := 17) hX dX2_leastFrom_11 (by decide) (by omega) (by omega) (fun h11 => ?_) (fun h11 => absurd h11 (by omega))
      refine V_aload_n (pc := 17) (i := 0) hX dX2_leastFrom_17 rfl rfl ?_
      refine V_iload_n (pc := 18) (i := 1) hX dX2_leastFrom_18 rfl rfl ?_
      refine V_iconst (pc := 19) (v := (nI 1)) hX dX2_leastFrom_19 (by decide +kernel) ?_
      refine V_iadd (pc := 20) hX dX2_leastFrom_20 ?_
      refine V_iload_n (pc := 21) (i := 2) hX dX2_leastFrom_21 rfl rfl ?_
      rw [e1]
      refine V_callSi (pc := 22) hX (hR.mono (by omega)) mX2_66 (c_leastFrom n σ hn hn10 m (by omega) mis) dX2_leastFrom_22 rfl rfl rfl (Nat.le_of_ble_eq_true rfl) ?_
      refine V_istore3 (pc := 25) hX dX2_leastFrom_25 rfl ?_
      refine V_aload_n (pc := 26) (i := 0) hX dX2_leastFrom_26 rfl rfl ?_
      refine V_getr (pc := 27) hX fX2_15 dX2_leastFrom_27 rfl rfl ?_
      refine V_iload_n (pc := 30) (i := 1) hX dX2_leastFrom_30 rfl rfl ?_
      refine V_iald (pc := 31) hX dX2_leastFrom_31 (rfl) (rfl) (by omega) (by decide) ?_
      refine V_iload_n (pc := 32) (i := 2) hX dX2_leastFrom_32 rfl rfl ?_
      refine V_iand (pc := 33) hX dX2_leastFrom_33 ?_
      refine V_if_ne (pc := 34) (tgt := 39) hX dX2_leastFrom_34 (by decide) (fun h34 => ?_) (fun h34 => ?_)
      · refine V_iload_n (pc := 39) (i := 3) hX dX2_leastFrom_39 rfl rfl ?_
        refine V_aload_n (pc := 40) (i := 0) hX dX2_leastFrom_40 rfl rfl ?_
        refine V_getr (pc := 41) hX fX2_9 dX2_leastFrom_41 rfl rfl ?_
        refine V_iload_n (pc := 44) (i := 1) hX dX2_leastFrom_44 rfl rfl ?_
        refine V_iald (pc := 45) hX dX2_leastFrom_45 (rfl) (rfl) (by omega) (by decide) ?_
        refine V_aload_n (pc := 46) (i := 0) hX dX2_leastFrom_46 rfl rfl ?_
        refine V_iload_n (pc := 47) (i := 1) hX dX2_leastFrom_47 rfl rfl ?_
        refine V_iconst (pc := 48) (v := (nI 1)) hX dX2_leastFrom_48 (by decide +kernel) ?_
        refine V_iadd (pc := 49) hX dX2_leastFrom_49 ?_
        refine V_iload_n (pc := 50) (i := 2) hX dX2_leastFrom_50 rfl rfl ?_
        refine V_aload_n (pc := 51) (i := 0) hX dX2_leastFrom_51 rfl rfl ?_
        refine V_getr (pc := 52) hX fX2_15 dX2_leastFrom_52 rfl rfl ?_
        refine V_iload_n (pc := 55) (i := 1) hX dX2_leastFrom_55 rfl rfl ?_
        refine V_iald (pc := 56) hX dX2_leastFrom_56 (rfl) (rfl) (by omega) (by decide) ?_
        refine V_iconst (pc := 57) (v := (-1)) hX dX2_leastFrom_57 (by decide +kernel) ?_
        refine V_ixor (pc := 58) hX dX2_leastFrom_58 ?_
        refine V_iand (pc := 59) hX dX2_leastFrom_59 ?_
        rw [e1]
        refine V_callSi (pc := 60) hX (hR.mono (by omega)) mX2_66 (c_leastFrom n σ hn hn10 m (by omega) _) dX2_leastFrom_60 rfl rfl rfl (Nat.le_of_ble_eq_true rfl) ?_
        refine V_iadd (pc := 63) hX dX2_leastFrom_63 ?_
        refine V_mmin (pc := 64) hX (hR.mono (by omega)) mX2_57 dX2_leastFrom_64 rfl (Nat.le_of_ble_eq_true rfl) ?_
        exact V_iret (pc := 67) (st := []) hX hr (by first | rfl | exact bI_nar _ | decide +kernel) dX2_leastFrom_67 (⟨by rw [lff, if_neg h1, if_neg h34]; rfl, rfl⟩)
      · refine V_iload_n (pc := 37) (i := 3) hX dX2_leastFrom_37 rfl rfl ?_
        exact V_iret (pc := 38) (st := []) hX hr (by first | rfl | exact bI_nar _ | decide +kernel) dX2_leastFrom_38 (⟨by rw [lff, if_neg h1, if_pos h34], rfl⟩)
    · refine V_iconst (pc := 4) (v := (nI 0)) hX dX2_leastFrom_4 (by decide +kernel) ?_
      exact V_iret (pc := 5) (st := []) hX hr (by first | rfl | exact bI_nar _ | decide +kernel) dX2_leastFrom_5 (⟨by rw [lff, if_pos h1], rfl⟩)
set_option maxRecDepth 100000 in
set_option maxHeartbeats 4000000 in
theorem c_least (n : Nat) (σ : Mem) (hn : σ 2 3 = nI n) (hn10 : n ≤ 10) : Cc yX2_least cX2_least 1 (some .int) 12 [.ref 2] σ (rI (lff (σ 17) (σ 18) n n (σ 2 5)) σ) := by
  refine Cc.intro (by decide +kernel) [some (.ref 2)] (fun _ => rfl) rfl (fun _ => Nat.le_of_ble_eq_true rfl) ?_
  intro X hX hR hr
  have h0 := c_leastFrom n σ hn hn10 n (Nat.le_refl _) (σ 2 5)
  rw [Nat.sub_self] at h0
  refine V_aload_n (pc := 0) (i := 0) hX dX2_least_0 rfl rfl ?_
  refine V_iconst (pc := 1) (v := (nI 0)) hX dX2_least_1 (by decide +kernel) ?_
  refine V_aload_n (pc := 2) (i := 0) hX dX2_least_2 rfl rfl ?_
  refine V_getf (pc := 3) hX fX2_38 dX2_least_3 rfl rfl ?_
  refine V_callSi (pc := 6) hX (hR.mono (by omega)) mX2_66 (h0) dX2_least_6 rfl rfl rfl (Nat.le_of_ble_eq_true rfl) ?_
  exact V_iret (pc := 9) (st := []) hX hr (by first | rfl | exact bI_nar _ | decide +kernel) dX2_least_9 (⟨rfl, rfl⟩)
def caddM (σ : Mem) (n : Nat) (c th : Int32) : Mem := mu (mu (mu (mu σ 17 n c) 18 n th) 2 4 (σ 2 4 ||| th)) 2 3 (nI (n + 1))
set_option maxRecDepth 100000 in
set_option maxHeartbeats 4000000 in
theorem c_add (n : Nat) (c th : Int32) (σ : Mem) (hn : σ 2 3 = nI n) (hn10 : n < 10) : Cc yX2_add cX2_add 3 (some .int) 0 [.ref 2, .int c, .int th] σ (rI (nI n) (caddM σ n c th)) := by
  refine Cc.intro (by decide +kernel) [some (.ref 2), some (.int c), some (.int th)] (fun _ => rfl) rfl (fun _ => Nat.le_of_ble_eq_true rfl) ?_
  intro X hX hR hr
  refine V_aload_n (pc := 0) (i := 0) hX dX2_add_0 rfl rfl ?_
  refine V_getr (pc := 1) hX fX2_9 dX2_add_1 rfl rfl ?_
  refine V_aload_n (pc := 4) (i := 0) hX dX2_add_4 rfl rfl ?_
  refine V_getf (pc := 5) hX fX2_21 dX2_add_5 rfl rfl ?_
  rw [hn]
  refine V_iload_n (pc := 8) (i := 1) hX dX2_add_8 rfl rfl ?_
  refine V_iast (pc := 9) hX dX2_add_9 (rfl) (rfl) (by omega) (by decide) ?_
  refine V_aload_n (pc := 10) (i := 0) hX dX2_add_10 rfl rfl ?_
  refine V_getr (pc := 11) hX fX2_15 dX2_add_11 rfl rfl ?_
  refine V_aload_n (pc := 14) (i := 0) hX dX2_add_14 rfl rfl ?_
  refine V_getf (pc := 15) hX fX2_21 dX2_add_15 rfl rfl ?_
  simp only [mu_f, Nat.reduceEqDiff, ↓reduceIte, hn]
  refine V_iload_n (pc := 18) (i := 2) hX dX2_add_18 rfl rfl ?_
  refine V_iast (pc := 19) hX dX2_add_19 (rfl) (rfl) (by omega) (by decide) ?_
  refine V_aload_n (pc := 20) (i := 0) hX dX2_add_20 rfl rfl ?_
  refine V_dup (pc := 21) hX dX2_add_21 rfl ?_
  refine V_getf (pc := 22) hX fX2_29 dX2_add_22 rfl rfl ?_
  simp only [mu_f, Nat.reduceEqDiff, ↓reduceIte]
  refine V_iload_n (pc := 25) (i := 2) hX dX2_add_25 rfl rfl ?_
  refine V_ior (pc := 26) hX dX2_add_26 ?_
  refine V_putf (pc := 27) hX fX2_29 gi2_4 dX2_add_27 rfl rfl ?_
  refine V_aload_n (pc := 30) (i := 0) hX dX2_add_30 rfl rfl ?_
  refine V_dup (pc := 31) hX dX2_add_31 rfl ?_
  refine V_getf (pc := 32) hX fX2_21 dX2_add_32 rfl rfl ?_
  simp only [mu_f, upd_at, Nat.reduceEqDiff, ↓reduceIte, hn]
  refine V_iconst (pc := 35) (v := (nI 1)) hX dX2_add_35 (by decide +kernel) ?_
  refine V_iadd (pc := 36) hX dX2_add_36 ?_
  rw [nI_add]
  refine V_putf (pc := 37) hX fX2_21 gi2_3 dX2_add_37 rfl rfl ?_
  refine V_aload_n (pc := 40) (i := 0) hX dX2_add_40 rfl rfl ?_
  refine V_getf (pc := 41) hX fX2_21 dX2_add_41 rfl rfl ?_
  simp only [mu_at]
  refine V_iconst (pc := 44) (v := (nI 1)) hX dX2_add_44 (by decide +kernel) ?_
  refine V_isub (pc := 45) hX dX2_add_45 ?_
  exact V_iret (pc := 46) (st := []) hX hr (by first | rfl | exact bI_nar _ | decide +kernel) dX2_add_46 (⟨by rw [pk_sub (by omega)]; rfl, rfl⟩)

