/-! ===== SETS (the reference's) ===== -/
theorem imin_ge {x y : Int32} (h : x ≤ y) : imin x y = x := if_neg (Int32.not_lt.mpr h)
theorem imin_lt {x y : Int32} (h : ¬ x ≤ y) : imin x y = y := if_pos (Int32.not_le.mp h)
theorem shl1 {n : Nat} (hn : n < 31) : nI 1 <<< (nI n &&& 31) = nI (2 ^ n) := by
  have h := pk_shlN (n := 1) (nI n &&& 31) n (s_l n (by omega)) (by rw [Nat.one_mul]; exact Nat.pow_lt_pow_right (by decide) (by omega))
  rw [h, Nat.one_mul]
set_option maxRecDepth 100000 in
set_option maxHeartbeats 4000000 in
theorem c_misSet (n : Nat) (x : Int32) (σ : Mem) (hn : σ 52 5 = nI n) (hn10 : n ≤ 10) : Cc yX6_isSet cX6_isSet 2 (some .boolean) 1 [.ref 52, .int x] σ (rI (bI (inr x n)) σ) := by
  refine Cc.intro (by decide +kernel) [some (.ref 52), some (.int x)] (fun _ => rfl) rfl (fun _ => Nat.le_of_ble_eq_true rfl) ?_
  intro X hX hR hr
  refine V_iload_n (pc := 0) (i := 1) hX dX6_isSet_0 rfl rfl ?_
  refine V_i2l (pc := 1) hX dX6_isSet_1 ?_
  refine V_lconst (pc := 2) (v := lN 0) hX dX6_isSet_2 (by decide +kernel) ?_
  refine V_aload_n (pc := 3) (i := 0) hX dX6_isSet_3 rfl rfl ?_
  refine V_getf (pc := 4) hX fX6_90 dX6_isSet_4 rfl rfl ?_
  rw [hn]
  refine V_iconst (pc := 7) (v := (nI 1)) hX dX6_isSet_7 (by decide +kernel) ?_
  refine V_isub (pc := 8) hX dX6_isSet_8 ?_
  refine V_i2l (pc := 9) hX dX6_isSet_9 ?_
  refine V_callSi (pc := 10) hX (hR.mono (by omega)) mX6_75 (c_inS x n (by omega) σ) dX6_isSet_10 rfl rfl rfl (Nat.le_of_ble_eq_true rfl) ?_
  exact V_iret (pc := 13) (st := []) hX hr (by first | rfl | exact bI_nar _ | decide +kernel) dX6_isSet_13 (⟨rfl, rfl⟩)
set_option maxRecDepth 100000 in
set_option maxHeartbeats 4000000 in
theorem c_misOwn (k : Nat) (σ : Mem) (hk : k < 10) : Cc yX6_isOwn cX6_isOwn 2 (some .boolean) 0 [.ref 52, .int (nI k)] σ (rI (bI (bt (σ 52 8) k)) σ) := by
  refine Cc.intro (by decide +kernel) [some (.ref 52), some (.int (nI k))] (fun _ => rfl) rfl (fun _ => Nat.le_of_ble_eq_true rfl) ?_
  intro X hX hR hr
  refine V_aload_n (pc := 0) (i := 0) hX dX6_isOwn_0 rfl rfl ?_
  refine V_getf (pc := 1) hX fX6_93 dX6_isOwn_1 rfl rfl ?_
  refine V_iload_n (pc := 4) (i := 1) hX dX6_isOwn_4 rfl rfl ?_
  refine V_ishr (pc := 5) hX dX6_isOwn_5 ?_
  refine V_iconst (pc := 6) (v := (nI 1)) hX dX6_isOwn_6 (by decide +kernel) ?_
  refine V_iand (pc := 7) hX dX6_isOwn_7 ?_
  refine V_iconst (pc := 8) (v := (nI 1)) hX dX6_isOwn_8 (by decide +kernel) ?_
  refine V_icmp_neS (pc := 9) (tgt := 16) hX dX6_isOwn_9 (by decide) (by omega) (fun h9 => ?_) (fun h9 => ?_)
  · refine V_iconst (pc := 16) (v := (nI 0)) hX dX6_isOwn_16 (by decide +kernel) ?_
    exact V_iret (pc := 17) (st := []) hX hr (by first | rfl | exact bI_nar _ | decide +kernel) dX6_isOwn_17 (⟨by rw [h9]; rfl, rfl⟩)
  · refine V_iconst (pc := 12) (v := (nI 1)) hX dX6_isOwn_12 (by decide +kernel) ?_
    refine V_goto (pc := 13) (tgt := 17) hX dX6_isOwn_13 (by decide) ?_
    exact V_iret (pc := 17) (st := []) hX hr (by first | rfl | exact bI_nar _ | decide +kernel) dX6_isOwn_17 (⟨by rw [h9]; rfl, rfl⟩)
set_option maxRecDepth 100000 in
set_option maxHeartbeats 4000000 in
theorem c_mhas (k t : Nat) (σ : Mem) (hk : k < 10) (ht : t < 12) : Cc yX6_has cX6_has 3 (some .boolean) 0 [.ref 52, .int (nI k), .int (nI t)] σ (rI (bI (bt (σ 57 k) t)) σ) := by
  refine Cc.intro (by decide +kernel) [some (.ref 52), some (.int (nI k)), some (.int (nI t))] (fun _ => rfl) rfl (fun _ => Nat.le_of_ble_eq_true rfl) ?_
  intro X hX hR hr
  refine V_aload_n (pc := 0) (i := 0) hX dX6_has_0 rfl rfl ?_
  refine V_getr (pc := 1) hX fX6_22 dX6_has_1 rfl rfl ?_
  refine V_iload_n (pc := 4) (i := 1) hX dX6_has_4 rfl rfl ?_
  refine V_iald (pc := 5) hX dX6_has_5 (rfl) (rfl) (by omega) (by decide) ?_
  refine V_iload_n (pc := 6) (i := 2) hX dX6_has_6 rfl rfl ?_
  refine V_ishr (pc := 7) hX dX6_has_7 ?_
  refine V_iconst (pc := 8) (v := (nI 1)) hX dX6_has_8 (by decide +kernel) ?_
  refine V_iand (pc := 9) hX dX6_has_9 ?_
  refine V_iconst (pc := 10) (v := (nI 1)) hX dX6_has_10 (by decide +kernel) ?_
  refine V_icmp_neS (pc := 11) (tgt := 18) hX dX6_has_11 (by decide) (by omega) (fun h11 => ?_) (fun h11 => ?_)
  · refine V_iconst (pc := 18) (v := (nI 0)) hX dX6_has_18 (by decide +kernel) ?_
    exact V_iret (pc := 19) (st := []) hX hr (by first | rfl | exact bI_nar _ | decide +kernel) dX6_has_19 (⟨by rw [h11]; rfl, rfl⟩)
  · refine V_iconst (pc := 14) (v := (nI 1)) hX dX6_has_14 (by decide +kernel) ?_
    refine V_goto (pc := 15) (tgt := 19) hX dX6_has_15 (by decide) ?_
    exact V_iret (pc := 19) (st := []) hX hr (by first | rfl | exact bI_nar _ | decide +kernel) dX6_has_19 (⟨by rw [h11]; rfl, rfl⟩)
set_option maxRecDepth 100000 in
set_option maxHeartbeats 4000000 in
theorem l_mfilled {s : Nat} {X : XC} {P : Option Value → Mem → Prop} {σ : Mem} (hX : Cok X RX6 cX6_filled 4) (hR : Rok X 0) (hr : Ret X (some .int) P) (hs : s < 10) (hp : P (some (.int (pf (σ 57 s) (σ 58) 12))) σ) (k : Nat) (hk : k ≤ 12) : Vw X 4 [some (.ref 52), some (.int (nI s)), some (.int (pf (σ 57 s) (σ 58) k)), some (.int (nI k))] [] σ := by
  refine V_iload_n (pc := 4) (i := 3) hX dX6_filled_4 rfl rfl ?_
  refine V_bipush (pc := 5) (v := (nI 12)) hX dX6_filled_5 (by decide +kernel) ?_
  refine V_icmp_geN (pc := 7) (tgt := 43) hX dX6_filled_7 (by decide) (by omega) (by omega) (fun h7 => ?_) (fun h7 => ?_)
  · obtain rfl : k = 12 := by omega
    refine V_iload_n (pc := 43) (i := 2) hX dX6_filled_43 rfl rfl ?_
    exact V_iret (pc := 44) (st := []) hX hr (by first | rfl | exact bI_nar _ | decide +kernel) dX6_filled_44 (hp)
  · refine V_iload_n (pc := 10) (i := 2) hX dX6_filled_10 rfl rfl ?_
    refine V_aload_n (pc := 11) (i := 0) hX dX6_filled_11 rfl rfl ?_
    refine V_getr (pc := 12) hX fX6_22 dX6_filled_12 rfl rfl ?_
    refine V_iload_n (pc := 15) (i := 1) hX dX6_filled_15 rfl rfl ?_
    refine V_iald (pc := 16) hX dX6_filled_16 (rfl) (rfl) (by omega) (by decide) ?_
    refine V_iload_n (pc := 17) (i := 3) hX dX6_filled_17 rfl rfl ?_
    refine V_ishr (pc := 18) hX dX6_filled_18 ?_
    refine V_iconst (pc := 19) (v := (nI 1)) hX dX6_filled_19 (by decide +kernel) ?_
    refine V_iand (pc := 20) hX dX6_filled_20 ?_
    refine V_iconst (pc := 21) (v := (nI 1)) hX dX6_filled_21 (by decide +kernel) ?_
    refine V_icmp_neS (pc := 22) (tgt := 34) hX dX6_filled_22 (by decide) (by omega) (fun h22 => ?_) (fun h22 => ?_)
    · refine V_iconst (pc := 34) (v := (nI 0)) hX dX6_filled_34 (by decide +kernel) ?_
      refine V_iadd (pc := 35) hX dX6_filled_35 ?_
      refine V_istore2 (pc := 36) hX dX6_filled_36 rfl ?_
      refine V_iinc3 (pc := 37) hX dX6_filled_37 rfl (iinc1 _) ?_
      refine V_goto (pc := 40) (tgt := 4) hX dX6_filled_40 (by decide) ?_
      have ih := l_mfilled hX hR hr hs hp (k + 1) (by omega)
      simp only [pf, h22, ↓reduceIte, Bool.false_eq_true] at ih
      rw [add0]
      exact ih
    · refine V_aload_n (pc := 25) (i := 0) hX dX6_filled_25 rfl rfl ?_
      refine V_getr (pc := 26) hX fX6_25 dX6_filled_26 rfl rfl ?_
      refine V_iload_n (pc := 29) (i := 3) hX dX6_filled_29 rfl rfl ?_
      refine V_iald (pc := 30) hX dX6_filled_30 (rfl) (rfl) (by omega) (by decide) ?_
      refine V_goto (pc := 31) (tgt := 35) hX dX6_filled_31 (by decide) ?_
      refine V_iadd (pc := 35) hX dX6_filled_35 ?_
      refine V_istore2 (pc := 36) hX dX6_filled_36 rfl ?_
      refine V_iinc3 (pc := 37) hX dX6_filled_37 rfl (iinc1 _) ?_
      refine V_goto (pc := 40) (tgt := 4) hX dX6_filled_40 (by decide) ?_
      have ih := l_mfilled hX hR hr hs hp (k + 1) (by omega)
      simp only [pf, h22, ↓reduceIte, Bool.false_eq_true] at ih
      exact ih
termination_by 12 - k
set_option maxRecDepth 100000 in
set_option maxHeartbeats 4000000 in
theorem c_mfilled (s : Nat) (σ : Mem) (hs : s < 10) : Cc yX6_filled cX6_filled 4 (some .int) 0 [.ref 52, .int (nI s)] σ (rI (pf (σ 57 s) (σ 58) 12) σ) := by
  refine Cc.intro (by decide +kernel) [some (.ref 52), some (.int (nI s)), none, none] (fun _ => rfl) rfl (fun _ => Nat.le_of_ble_eq_true rfl) ?_
  intro X hX hR hr
  refine V_iconst (pc := 0) (v := (nI 0)) hX dX6_filled_0 (by decide +kernel) ?_
  refine V_istore2 (pc := 1) hX dX6_filled_1 rfl ?_
  refine V_iconst (pc := 2) (v := (nI 0)) hX dX6_filled_2 (by decide +kernel) ?_
  refine V_istore3 (pc := 3) hX dX6_filled_3 rfl ?_
  exact l_mfilled hX hR hr hs ⟨rfl, rfl⟩ 0 (by omega)
/-- whether one of the first k sets has t; whether a bought one has; the least gap -/
def smf (th : Nat → Int32) (t : Nat) : Nat → Bool
  | 0 => false
  | k + 1 => if bt (th k) t then true else smf th t k
def owf (bo : Int32) (th : Nat → Int32) (t : Nat) : Nat → Bool
  | 0 => false
  | k + 1 => if bt (th k) t then owf bo th t k || bt bo k else owf bo th t k
def lgm (c th : Nat → Int32) (pr : Nat → Int32) (t : Nat) : Nat → Int32
  | 0 => nI 1000000
  | k + 1 => if bt (th k) t then imin (lgm c th pr t k) (c k - pf (th k) pr 12) else lgm c th pr t k
set_option maxRecDepth 100000 in
set_option maxHeartbeats 4000000 in
theorem l_mdem1 {n t : Nat} {z6 : Option Value} {X : XC} {P : Option Value → Mem → Prop} {σ : Mem} (hX : Cok X RX6 cX6_demanding 7) (hR : Rok X 1) (hr : Ret X (some .int) P) (hz : nol [z6] = true) (hn : σ 52 5 = nI n) (hn10 : n ≤ 10) (ht : t < 12)
    (kk : Vw X 112 [some (.ref 52), some (.int (nI t)), some (.int (bI (smf (σ 57) t n))), some (.int (bI (owf (σ 52 8) (σ 57) t n))), some (.int (lgm (σ 56) (σ 57) (σ 58) t n)), some (.int (nI n)), none] [] σ) (k : Nat) (hk : k ≤ n) :
    Vw X 26 [some (.ref 52), some (.int (nI t)), some (.int (bI (smf (σ 57) t k))), some (.int (bI (owf (σ 52 8) (σ 57) t k))), some (.int (lgm (σ 56) (σ 57) (σ 58) t k)), some (.int (nI k)), none] [] σ := by
  refine V_iload (pc := 26) (i := 5) hX dX6_demanding_26 rfl ?_
  refine V_aload_n (pc := 28) (i := 0) hX dX6_demanding_28 rfl rfl ?_
  refine V_getf (pc := 29) hX fX6_90 dX6_demanding_29 rfl rfl ?_
  rw [hn]
  refine V_icmp_geN (pc := 32) (tgt := 112) hX dX6_demanding_32 (by decide) (by omega) (by omega) (fun h32 => ?_) (fun h32 => ?_)
  · obtain rfl : k = n := by omega
    exact kk
  · refine V_aload_n (pc := 35) (i := 0) hX dX6_demanding_35 rfl rfl ?_
    refine V_iload (pc := 36) (i := 5) hX dX6_demanding_36 rfl ?_
    refine V_iload_n (pc := 38) (i := 1) hX dX6_demanding_38 rfl rfl ?_
    refine V_callVi (pc := 39) hX (hR.mono (by omega)) mX6_108 (c_mhas _ _ _ (by omega) (by omega)) dX6_demanding_39 rfl rfl rfl rfl (Nat.le_of_ble_eq_true rfl) ?_
    refine V_if_eqB (pc := 42) (tgt := 106) hX dX6_demanding_42 (by decide) (fun h42 => ?_) (fun h42 => ?_)
    · refine V_iinc5 (pc := 106) hX dX6_demanding_106 rfl (iinc1 _) ?_
      refine V_goto (pc := 109) (tgt := 26) hX dX6_demanding_109 (by decide) ?_
      have ih := l_mdem1 hX hR hr hz hn hn10 ht kk (k + 1) (by omega)
      simp only [smf, owf, lgm, h42, ↓reduceIte, Bool.false_eq_true] at ih
      exact ih
    · refine V_iconst (pc := 45) (v := (nI 1)) hX dX6_demanding_45 (by decide +kernel) ?_
      refine V_istore2 (pc := 46) hX dX6_demanding_46 rfl ?_
      refine V_iload_n (pc := 47) (i := 3) hX dX6_demanding_47 rfl rfl ?_
      refine V_if_neB (pc := 48) (tgt := 60) hX dX6_demanding_48 (by decide) (fun h48 => ?_) (fun h48 => ?_)
      · refine V_iconst (pc := 60) (v := (nI 1)) hX dX6_demanding_60 (by decide +kernel) ?_
        refine V_goto (pc := 61) (tgt := 65) hX dX6_demanding_61 (by decide) ?_
        refine V_istore3 (pc := 65) hX dX6_demanding_65 rfl ?_
        refine V_aload_n (pc := 66) (i := 0) hX dX6_demanding_66 rfl rfl ?_
        refine V_getr (pc := 67) hX fX6_19 dX6_demanding_67 rfl rfl ?_
        refine V_iload (pc := 70) (i := 5) hX dX6_demanding_70 rfl ?_
        refine V_iald (pc := 72) hX dX6_demanding_72 (rfl) (rfl) (by omega) (by decide) ?_
        refine V_aload_n (pc := 73) (i := 0) hX dX6_demanding_73 rfl rfl ?_
        refine V_iload (pc := 74) (i := 5) hX dX6_demanding_74 rfl ?_
        refine V_callVi (pc := 76) hX (hR.mono (by omega)) mX6_115 (c_mfilled _ _ (by omega)) dX6_demanding_76 rfl rfl rfl rfl (Nat.le_of_ble_eq_true rfl) ?_
        refine V_isub (pc := 79) hX dX6_demanding_79 ?_
        refine V_iload (pc := 80) (i := 4) hX dX6_demanding_80 rfl ?_
        refine V_icmp_ge (pc := 82) (tgt := 102) hX dX6_demanding_82 (by decide) (fun h82 => ?_) (fun h82 => ?_)
        · refine V_iload (pc := 102) (i := 4) hX dX6_demanding_102 rfl ?_
          refine V_istore4 (pc := 104) hX dX6_demanding_104 rfl ?_
          refine V_iinc5 (pc := 106) hX dX6_demanding_106 rfl (iinc1 _) ?_
          refine V_goto (pc := 109) (tgt := 26) hX dX6_demanding_109 (by decide) ?_
          have ih := l_mdem1 hX hR hr hz hn hn10 ht kk (k + 1) (by omega)
          simp only [smf, owf, lgm, h42, ↓reduceIte, Bool.false_eq_true] at ih
          first
            | rw [h48, Bool.true_or] at ih
            | rw [h48, h57, Bool.false_or] at ih
          first
            | rw [imin_ge h82] at ih
            | rw [imin_lt h82] at ih
          exact ih
        · refine V_aload_n (pc := 85) (i := 0) hX dX6_demanding_85 rfl rfl ?_
          refine V_getr (pc := 86) hX fX6_19 dX6_demanding_86 rfl rfl ?_
          refine V_iload (pc := 89) (i := 5) hX dX6_demanding_89 rfl ?_
          refine V_iald (pc := 91) hX dX6_demanding_91 (rfl) (rfl) (by omega) (by decide) ?_
          refine V_aload_n (pc := 92) (i := 0) hX dX6_demanding_92 rfl rfl ?_
          refine V_iload (pc := 93) (i := 5) hX dX6_demanding_93 rfl ?_
          refine V_callVi (pc := 95) hX (hR.mono (by omega)) mX6_115 (c_mfilled _ _ (by omega)) dX6_demanding_95 rfl rfl rfl rfl (Nat.le_of_ble_eq_true rfl) ?_
          refine V_isub (pc := 98) hX dX6_demanding_98 ?_
          refine V_goto (pc := 99) (tgt := 104) hX dX6_demanding_99 (by decide) ?_
          refine V_istore4 (pc := 104) hX dX6_demanding_104 rfl ?_
          refine V_iinc5 (pc := 106) hX dX6_demanding_106 rfl (iinc1 _) ?_
          refine V_goto (pc := 109) (tgt := 26) hX dX6_demanding_109 (by decide) ?_
          have ih := l_mdem1 hX hR hr hz hn hn10 ht kk (k + 1) (by omega)
          simp only [smf, owf, lgm, h42, ↓reduceIte, Bool.false_eq_true] at ih
          first
            | rw [h48, Bool.true_or] at ih
            | rw [h48, h57, Bool.false_or] at ih
          first
            | rw [imin_ge h82] at ih
            | rw [imin_lt h82] at ih
          exact ih
      · refine V_aload_n (pc := 51) (i := 0) hX dX6_demanding_51 rfl rfl ?_
        refine V_iload (pc := 52) (i := 5) hX dX6_demanding_52 rfl ?_
        refine V_callVi (pc := 54) hX (hR.mono (by omega)) mX6_112 (c_misOwn _ _ (by omega)) dX6_demanding_54 rfl rfl rfl rfl (Nat.le_of_ble_eq_true rfl) ?_
        refine V_if_eqB (pc := 57) (tgt := 64) hX dX6_demanding_57 (by decide) (fun h57 => ?_) (fun h57 => ?_)
        · refine V_iconst (pc := 64) (v := (nI 0)) hX dX6_demanding_64 (by decide +kernel) ?_
          refine V_istore3 (pc := 65) hX dX6_demanding_65 rfl ?_
          refine V_aload_n (pc := 66) (i := 0) hX dX6_demanding_66 rfl rfl ?_
          refine V_getr (pc := 67) hX fX6_19 dX6_demanding_67 rfl rfl ?_
          refine V_iload (pc := 70) (i := 5) hX dX6_demanding_70 rfl ?_
          refine V_iald (pc := 72) hX dX6_demanding_72 (rfl) (rfl) (by omega) (by decide) ?_
          refine V_aload_n (pc := 73) (i := 0) hX dX6_demanding_73 rfl rfl ?_
          refine V_iload (pc := 74) (i := 5) hX dX6_demanding_74 rfl ?_
          refine V_callVi (pc := 76) hX (hR.mono (by omega)) mX6_115 (c_mfilled _ _ (by omega)) dX6_demanding_76 rfl rfl rfl rfl (Nat.le_of_ble_eq_true rfl) ?_
          refine V_isub (pc := 79) hX dX6_demanding_79 ?_
          refine V_iload (pc := 80) (i := 4) hX dX6_demanding_80 rfl ?_
          refine V_icmp_ge (pc := 82) (tgt := 102) hX dX6_demanding_82 (by decide) (fun h82 => ?_) (fun h82 => ?_)
          · refine V_iload (pc := 102) (i := 4) hX dX6_demanding_102 rfl ?_
            refine V_istore4 (pc := 104) hX dX6_demanding_104 rfl ?_
            refine V_iinc5 (pc := 106) hX dX6_demanding_106 rfl (iinc1 _) ?_
            refine V_goto (pc := 109) (tgt := 26) hX dX6_demanding_109 (by decide) ?_
            have ih := l_mdem1 hX hR hr hz hn hn10 ht kk (k + 1) (by omega)
            simp only [smf, owf, lgm, h42, ↓reduceIte, Bool.false_eq_true] at ih
            first
              | rw [h48, Bool.true_or] at ih
              | rw [h48, h57, Bool.false_or] at ih
            first
              | rw [imin_ge h82] at ih
              | rw [imin_lt h82] at ih
            exact ih
          · refine V_aload_n (pc := 85) (i := 0) hX dX6_demanding_85 rfl rfl ?_
            refine V_getr (pc := 86) hX fX6_19 dX6_demanding_86 rfl rfl ?_
            refine V_iload (pc := 89) (i := 5) hX dX6_demanding_89 rfl ?_
            refine V_iald (pc := 91) hX dX6_demanding_91 (rfl) (rfl) (by omega) (by decide) ?_
            refine V_aload_n (pc := 92) (i := 0) hX dX6_demanding_92 rfl rfl ?_
            refine V_iload (pc := 93) (i := 5) hX dX6_demanding_93 rfl ?_
            refine V_callVi (pc := 95) hX (hR.mono (by omega)) mX6_115 (c_mfilled _ _ (by omega)) dX6_demanding_95 rfl rfl rfl rfl (Nat.le_of_ble_eq_true rfl) ?_
            refine V_isub (pc := 98) hX dX6_demanding_98 ?_
            refine V_goto (pc := 99) (tgt := 104) hX dX6_demanding_99 (by decide) ?_
            refine V_istore4 (pc := 104) hX dX6_demanding_104 rfl ?_
            refine V_iinc5 (pc := 106) hX dX6_demanding_106 rfl (iinc1 _) ?_
            refine V_goto (pc := 109) (tgt := 26) hX dX6_demanding_109 (by decide) ?_
            have ih := l_mdem1 hX hR hr hz hn hn10 ht kk (k + 1) (by omega)
            simp only [smf, owf, lgm, h42, ↓reduceIte, Bool.false_eq_true] at ih
            first
              | rw [h48, Bool.true_or] at ih
              | rw [h48, h57, Bool.false_or] at ih
            first
              | rw [imin_ge h82] at ih
              | rw [imin_lt h82] at ih
            exact ih
        · refine V_iconst (pc := 60) (v := (nI 1)) hX dX6_demanding_60 (by decide +kernel) ?_
          refine V_goto (pc := 61) (tgt := 65) hX dX6_demanding_61 (by decide) ?_
          refine V_istore3 (pc := 65) hX dX6_demanding_65 rfl ?_
          refine V_aload_n (pc := 66) (i := 0) hX dX6_demanding_66 rfl rfl ?_
          refine V_getr (pc := 67) hX fX6_19 dX6_demanding_67 rfl rfl ?_
          refine V_iload (pc := 70) (i := 5) hX dX6_demanding_70 rfl ?_
          refine V_iald (pc := 72) hX dX6_demanding_72 (rfl) (rfl) (by omega) (by decide) ?_
          refine V_aload_n (pc := 73) (i := 0) hX dX6_demanding_73 rfl rfl ?_
          refine V_iload (pc := 74) (i := 5) hX dX6_demanding_74 rfl ?_
          refine V_callVi (pc := 76) hX (hR.mono (by omega)) mX6_115 (c_mfilled _ _ (by omega)) dX6_demanding_76 rfl rfl rfl rfl (Nat.le_of_ble_eq_true rfl) ?_
          refine V_isub (pc := 79) hX dX6_demanding_79 ?_
          refine V_iload (pc := 80) (i := 4) hX dX6_demanding_80 rfl ?_
          refine V_icmp_ge (pc := 82) (tgt := 102) hX dX6_demanding_82 (by decide) (fun h82 => ?_) (fun h82 => ?_)
          · refine V_iload (pc := 102) (i := 4) hX dX6_demanding_102 rfl ?_
            refine V_istore4 (pc := 104) hX dX6_demanding_104 rfl ?_
            refine V_iinc5 (pc := 106) hX dX6_demanding_106 rfl (iinc1 _) ?_
            refine V_goto (pc := 109) (tgt := 26) hX dX6_demanding_109 (by decide) ?_
            have ih := l_mdem1 hX hR hr hz hn hn10 ht kk (k + 1) (by omega)
            simp only [smf, owf, lgm, h42, ↓reduceIte, Bool.false_eq_true] at ih
            first
              | rw [h48, Bool.true_or] at ih
              | rw [h48, h57, Bool.false_or] at ih
            first
              | rw [imin_ge h82] at ih
              | rw [imin_lt h82] at ih
            exact ih
          · refine V_aload_n (pc := 85) (i := 0) hX dX6_demanding_85 rfl rfl ?_
            refine V_getr (pc := 86) hX fX6_19 dX6_demanding_86 rfl rfl ?_
            refine V_iload (pc := 89) (i := 5) hX dX6_demanding_89 rfl ?_
            refine V_iald (pc := 91) hX dX6_demanding_91 (rfl) (rfl) (by omega) (by decide) ?_
            refine V_aload_n (pc := 92) (i := 0) hX dX6_demanding_92 rfl rfl ?_
            refine V_iload (pc := 93) (i := 5) hX dX6_demanding_93 rfl ?_
            refine V_callVi (pc := 95) hX (hR.mono (by omega)) mX6_115 (c_mfilled _ _ (by omega)) dX6_demanding_95 rfl rfl rfl rfl (Nat.le_of_ble_eq_true rfl) ?_
            refine V_isub (pc := 98) hX dX6_demanding_98 ?_
            refine V_goto (pc := 99) (tgt := 104) hX dX6_demanding_99 (by decide) ?_
            refine V_istore4 (pc := 104) hX dX6_demanding_104 rfl ?_
            refine V_iinc5 (pc := 106) hX dX6_demanding_106 rfl (iinc1 _) ?_
            refine V_goto (pc := 109) (tgt := 26) hX dX6_demanding_109 (by decide) ?_
            have ih := l_mdem1 hX hR hr hz hn hn10 ht kk (k + 1) (by omega)
            simp only [smf, owf, lgm, h42, ↓reduceIte, Bool.false_eq_true] at ih
            first
              | rw [h48, Bool.true_or] at ih
              | rw [h48, h57, Bool.false_or] at ih
            first
              | rw [imin_ge h82] at ih
              | rw [imin_lt h82] at ih
            exact ih
termination_by n - k
def mmB (σ : Mem) (t k : Nat) : Mem := mu σ 52 8 (buyB (σ 56) (σ 57) (σ 58) t (σ 52 8) k)
theorem mmB_0 (σ : Mem) (t : Nat) : mmB σ t 0 = σ := by
  unfold mmB buyB
  exact mu_self σ 52 8
theorem mmB_r {σ : Mem} {t k q : Nat} (h : q ≠ 52) : mmB σ t k q = σ q := (mu_ne h).symm
theorem mmB_c {σ : Mem} {t k j : Nat} (h : j ≠ 8) : mmB σ t k 52 j = σ 52 j := mu_ni h
theorem mmB_t {σ : Mem} {t k : Nat} (h1 : bt (σ 57 k) t = true) (h2 : pf (σ 57 k) (σ 58) 12 = σ 56 k) : mmB σ t (k + 1) = mu (mmB σ t k) 52 8 (mmB σ t k 52 8 ||| (nI 1 <<< (nI k &&& 31))) := by
  have ht : tight (σ 56) (σ 57) (σ 58) t k = true := by simp [tight, h1, h2]
  unfold mmB
  rw [mu_mu, mu_at]
  simp only [buyB, ht, ↓reduceIte]
theorem mmB_f {σ : Mem} {t k : Nat} (h1 : bt (σ 57 k) t = false ∨ pf (σ 57 k) (σ 58) 12 ≠ σ 56 k) : mmB σ t (k + 1) = mmB σ t k := by
  have ht : tight (σ 56) (σ 57) (σ 58) t k = false := by
    rcases h1 with h | h <;> simp [tight, h]
  unfold mmB
  simp only [buyB, ht, Bool.false_eq_true, ↓reduceIte]
set_option maxRecDepth 100000 in
set_option maxHeartbeats 4000000 in
theorem l_mdem2 {n t : Nat} {a b c : Int32} {X : XC} {P : Option Value → Mem → Prop} {σ : Mem} (hX : Cok X RX6 cX6_demanding 7) (hR : Rok X 1) (hr : Ret X (some .int) P) (hn : σ 52 5 = nI n) (hn10 : n ≤ 10) (ht : t < 12)
    (kk : Vw X 220 [some (.ref 52), some (.int (nI t)), some (.int a), some (.int b), some (.int c), some (.int (buyC (σ 56) (σ 57) (σ 58) t n)), some (.int (nI n))] [] (mmB σ t n)) (k : Nat) (hk : k ≤ n) :
    Vw X 154 [some (.ref 52), some (.int (nI t)), some (.int a), some (.int b), some (.int c), some (.int (buyC (σ 56) (σ 57) (σ 58) t k)), some (.int (nI k))] [] (mmB σ t k) := by
  have r56 : mmB σ t k 56 = σ 56 := mmB_r (by decide)
  have r57 : mmB σ t k 57 = σ 57 := mmB_r (by decide)
  have r58 : mmB σ t k 58 = σ 58 := mmB_r (by decide)
  have r5 : mmB σ t k 52 5 = nI n := by rw [mmB_c (by decide)]; exact hn
  refine V_iload (pc := 154) (i := 6) hX dX6_demanding_154 rfl ?_
  refine V_aload_n (pc := 156) (i := 0) hX dX6_demanding_156 rfl rfl ?_
  refine V_getf (pc := 157) hX fX6_90 dX6_demanding_157 rfl rfl ?_
  rw [r5]
  refine V_icmp_geN (pc := 160) (tgt := 220) hX dX6_demanding_160 (by decide) (by omega) (by omega) (fun h160 => ?_) (fun h160 => ?_)
  · obtain rfl : k = n := by omega
    exact kk
  · refine V_aload_n (pc := 163) (i := 0) hX dX6_demanding_163 rfl rfl ?_
    refine V_iload (pc := 164) (i := 6) hX dX6_demanding_164 rfl ?_
    refine V_iload_n (pc := 166) (i := 1) hX dX6_demanding_166 rfl rfl ?_
    refine V_callVi (pc := 167) hX (hR.mono (by omega)) mX6_108 (c_mhas _ _ _ (by omega) (by omega)) dX6_demanding_167 rfl rfl rfl rfl (Nat.le_of_ble_eq_true rfl) ?_
    refine V_if_eqB (pc := 170) (tgt := 214) hX dX6_demanding_170 (by decide) (fun h170 => ?_) (fun h170 => ?_)
    · refine V_iinc6 (pc := 214) hX dX6_demanding_214 rfl (iinc1 _) ?_
      refine V_goto (pc := 217) (tgt := 154) hX dX6_demanding_217 (by decide) ?_
      have ih := l_mdem2 hX hR hr hn hn10 ht kk (k + 1) (by omega)
      rw [r57] at h170
      rw [mmB_f (Or.inl h170)] at ih
      simp only [buyC, tight, h170, Bool.false_and, Bool.false_eq_true, ↓reduceIte] at ih
      exact ih
    · refine V_aload_n (pc := 173) (i := 0) hX dX6_demanding_173 rfl rfl ?_
      refine V_iload (pc := 174) (i := 6) hX dX6_demanding_174 rfl ?_
      refine V_callVi (pc := 176) hX (hR.mono (by omega)) mX6_115 (c_mfilled _ _ (by omega)) dX6_demanding_176 rfl rfl rfl rfl (Nat.le_of_ble_eq_true rfl) ?_
      refine V_aload_n (pc := 179) (i := 0) hX dX6_demanding_179 rfl rfl ?_
      refine V_getr (pc := 180) hX fX6_19 dX6_demanding_180 rfl rfl ?_
      refine V_iload (pc := 183) (i := 6) hX dX6_demanding_183 rfl ?_
      refine V_iald (pc := 185) hX dX6_demanding_185 (rfl) (rfl) (by omega) (by decide) ?_
      refine V_icmp_ne (pc := 186) (tgt := 214) hX dX6_demanding_186 (by decide) (fun h186 => ?_) (fun h186 => ?_)
      · refine V_iinc6 (pc := 214) hX dX6_demanding_214 rfl (iinc1 _) ?_
        refine V_goto (pc := 217) (tgt := 154) hX dX6_demanding_217 (by decide) ?_
        have ih := l_mdem2 hX hR hr hn hn10 ht kk (k + 1) (by omega)
        rw [r56, r57, r58] at h186
        rw [mmB_f (Or.inr h186)] at ih
        simp only [buyC, tight, decide_eq_false h186, Bool.and_false, Bool.false_eq_true, ↓reduceIte] at ih
        exact ih
      · refine V_aload_n (pc := 189) (i := 0) hX dX6_demanding_189 rfl rfl ?_
        refine V_dup (pc := 190) hX dX6_demanding_190 rfl ?_
        refine V_getf (pc := 191) hX fX6_93 dX6_demanding_191 rfl rfl ?_
        refine V_iconst (pc := 194) (v := (nI 1)) hX dX6_demanding_194 (by decide +kernel) ?_
        refine V_iload (pc := 195) (i := 6) hX dX6_demanding_195 rfl ?_
        refine V_ishl (pc := 197) hX dX6_demanding_197 ?_
        refine V_ior (pc := 198) hX dX6_demanding_198 ?_
        refine V_putf (pc := 199) hX fX6_93 gi6_8 dX6_demanding_199 rfl rfl ?_
        refine V_iload (pc := 202) (i := 5) hX dX6_demanding_202 rfl ?_
        refine V_aload_n (pc := 204) (i := 0) hX dX6_demanding_204 rfl rfl ?_
        refine V_getr (pc := 205) hX fX6_19 dX6_demanding_205 rfl rfl ?_
        refine V_iload (pc := 208) (i := 6) hX dX6_demanding_208 rfl ?_
        refine V_iald (pc := 210) hX dX6_demanding_210 (rfl) (rfl) (by omega) (by decide) ?_
        refine V_iadd (pc := 211) hX dX6_demanding_211 ?_
        refine V_istore5 (pc := 212) hX dX6_demanding_212 rfl ?_
        refine V_iinc6 (pc := 214) hX dX6_demanding_214 rfl (iinc1 _) ?_
        refine V_goto (pc := 217) (tgt := 154) hX dX6_demanding_217 (by decide) ?_
        have ih := l_mdem2 hX hR hr hn hn10 ht kk (k + 1) (by omega)
        rw [r57] at h170
        rw [r56, r57, r58] at h186
        rw [mmB_t h170 h186] at ih
        simp only [buyC, tight, h170, decide_eq_true h186, Bool.and_true, ↓reduceIte] at ih
        simp only [mu_f, upd_at, r56, r57, Nat.reduceEqDiff, ↓reduceIte]
        exact ih
termination_by n - k
def mask2 (σ : Mem) (t : Nat) : Mem := mu σ 52 9 (σ 52 9 ||| (nI 1 <<< (nI t &&& 31)))
def mraise2 (σ : Mem) (n t : Nat) : Mem := mu (mask2 σ t) 58 t (σ 58 t + lgm (σ 56) (σ 57) (σ 58) t n)
def mdemV (σ : Mem) (n t : Nat) : Int32 := if smf (σ 57) t n then (if owf (σ 52 8) (σ 57) t n then nI 0 else buyC (σ 56) (σ 57) (mraise2 σ n t 58) t n) else (-1000002)
def mdemM (σ : Mem) (n t : Nat) : Mem := if smf (σ 57) t n then (if owf (σ 52 8) (σ 57) t n then mask2 σ t else mu (mmB (mraise2 σ n t) t n) 52 11 (σ 52 11 + buyC (σ 56) (σ 57) (mraise2 σ n t 58) t n)) else σ
set_option maxRecDepth 100000 in
set_option maxHeartbeats 4000000 in
theorem c_mdemB (x : Int32) (σ : Mem) (hx : inr x 12 = false) : Cc yX6_demanding cX6_demanding 7 (some .int) 1 [.ref 52, .int x] σ (rI (-1000001) σ) := by
  refine Cc.intro (by decide +kernel) [some (.ref 52), some (.int x), none, none, none, none, none] (fun _ => rfl) rfl (fun _ => Nat.le_of_ble_eq_true rfl) ?_
  intro X hX hR hr
  have hx2 : inr2 x 0 11 = false := by rw [inr2_0]; exact hx
  refine V_iload_n (pc := 0) (i := 1) hX dX6_demanding_0 rfl rfl ?_
  refine V_i2l (pc := 1) hX dX6_demanding_1 ?_
  refine V_lconst (pc := 2) (v := lN 0) hX dX6_demanding_2 (by decide +kernel) ?_
  refine V_ldc2 (pc := 3) hX kX6_105 dX6_demanding_3 ?_
  refine V_callSi (pc := 6) hX (hR.mono (by omega)) mX6_75 (c_inN x 0 11 (by decide) (by decide) σ) dX6_demanding_6 rfl rfl rfl (Nat.le_of_ble_eq_true rfl) ?_
  refine V_if_neB (pc := 9) (tgt := 15) hX dX6_demanding_9 (by decide) (fun h9 => absurd h9 (by rw [hx2]; decide)) (fun h9 => ?_)
  refine V_ldc (pc := 12) hX kX6_85 dX6_demanding_12 ?_
  exact V_iret (pc := 14) (st := []) hX hr (by first | rfl | exact bI_nar _ | decide +kernel) dX6_demanding_14 (⟨rfl, rfl⟩)
set_option maxRecDepth 100000 in
set_option maxHeartbeats 4000000 in
theorem c_mdem (n t : Nat) (σ : Mem) (hn : σ 52 5 = nI n) (hn10 : n ≤ 10) (ht : t < 12) : Cc yX6_demanding cX6_demanding 7 (some .int) 1 [.ref 52, .int (nI t)] σ (rI (mdemV σ n t) (mdemM σ n t)) := by
  refine Cc.intro (by decide +kernel) [some (.ref 52), some (.int (nI t)), none, none, none, none, none] (fun _ => rfl) rfl (fun _ => Nat.le_of_ble_eq_true rfl) ?_
  intro X hX hR hr
  have hx2 : inr2 (nI t) 0 11 = true := by rw [inr2_0]; exact inr_nI ht (by decide)
  have a5 : mask2 σ t 52 5 = nI n := by rw [← hn]; exact mu_ni (by decide)
  have a56 : mask2 σ t 56 = σ 56 := (mu_ne (by decide)).symm
  have a57 : mask2 σ t 57 = σ 57 := (mu_ne (by decide)).symm
  have a58 : mask2 σ t 58 = σ 58 := (mu_ne (by decide)).symm
  have b52 : mraise2 σ n t 52 = mask2 σ t 52 := (mu_ne (by decide)).symm
  have b5 : mraise2 σ n t 52 5 = nI n := by rw [b52, a5]
  have b56 : mraise2 σ n t 56 = σ 56 := by rw [← a56]; exact (mu_ne (by decide)).symm
  have b57 : mraise2 σ n t 57 = σ 57 := by rw [← a57]; exact (mu_ne (by decide)).symm
  have b11 : mmB (mraise2 σ n t) t n 52 11 = σ 52 11 := by rw [mmB_c (by decide), b52]; exact mu_ni (by decide)
  have k220 : smf (σ 57) t n = true → owf (σ 52 8) (σ 57) t n = false → ∀ (a b c : Int32), Vw X 220 [some (.ref 52), some (.int (nI t)), some (.int a), some (.int b), some (.int c), some (.int (buyC (mraise2 σ n t 56) (mraise2 σ n t 57) (mraise2 σ n t 58) t n)), some (.int (nI n))] [] (mmB (mraise2 σ n t) t n) := by
    intro h1 h2 a b c
    rw [b56, b57]
    refine V_aload_n (pc := 220) (i := 0) hX dX6_demanding_220 rfl rfl ?_
    refine V_dup (pc := 221) hX dX6_demanding_221 rfl ?_
    refine V_getf (pc := 222) hX fX6_118 dX6_demanding_222 rfl rfl ?_
    refine V_iload (pc := 225) (i := 5) hX dX6_demanding_225 rfl ?_
    refine V_iadd (pc := 227) hX dX6_demanding_227 ?_
    refine V_putf (pc := 228) hX fX6_118 gi6_11 dX6_demanding_228 rfl rfl ?_
    refine V_iload (pc := 231) (i := 5) hX dX6_demanding_231 rfl ?_
    exact V_iret (pc := 233) (st := []) hX hr (by first | rfl | exact bI_nar _ | decide +kernel) dX6_demanding_233 (⟨by rw [mdemV, h1, h2]; rfl, by rw [mdemM, h1, h2, b11]; rfl⟩)
  have k112 : Vw X 112 [some (.ref 52), some (.int (nI t)), some (.int (bI (smf (σ 57) t n))), some (.int (bI (owf (σ 52 8) (σ 57) t n))), some (.int (lgm (σ 56) (σ 57) (σ 58) t n)), some (.int (nI n)), none] [] σ := by
    refine V_iload_n (pc := 112) (i := 2) hX dX6_demanding_112 rfl rfl ?_
    refine V_if_neB (pc := 113) (tgt := 119) hX dX6_demanding_113 (by decide) (fun h113 => ?_) (fun h113 => ?_)
    · refine V_aload_n (pc := 119) (i := 0) hX dX6_demanding_119 rfl rfl ?_
      refine V_dup (pc := 120) hX dX6_demanding_120 rfl ?_
      refine V_getf (pc := 121) hX fX6_100 dX6_demanding_121 rfl rfl ?_
      refine V_iconst (pc := 124) (v := (nI 1)) hX dX6_demanding_124 (by decide +kernel) ?_
      refine V_iload_n (pc := 125) (i := 1) hX dX6_demanding_125 rfl rfl ?_
      refine V_ishl (pc := 126) hX dX6_demanding_126 ?_
      refine V_ior (pc := 127) hX dX6_demanding_127 ?_
      refine V_putf (pc := 128) hX fX6_100 gi6_9 dX6_demanding_128 rfl rfl ?_
      refine Vw.mem (rfl : mask2 σ t = _) ?_
      refine V_iload_n (pc := 131) (i := 3) hX dX6_demanding_131 rfl rfl ?_
      refine V_if_eqB (pc := 132) (tgt := 137) hX dX6_demanding_132 (by decide) (fun h132 => ?_) (fun h132 => ?_)
      · refine V_aload_n (pc := 137) (i := 0) hX dX6_demanding_137 rfl rfl ?_
        refine V_getr (pc := 138) hX fX6_25 dX6_demanding_138 rfl rfl ?_
        refine V_iload_n (pc := 141) (i := 1) hX dX6_demanding_141 rfl rfl ?_
        refine V_dup2 (pc := 142) hX dX6_demanding_142 rfl rfl ?_
        refine V_iald (pc := 143) hX dX6_demanding_143 (rfl) (rfl) (by omega) (by decide) ?_
        refine V_iload (pc := 144) (i := 4) hX dX6_demanding_144 rfl ?_
        refine V_iadd (pc := 146) hX dX6_demanding_146 ?_
        refine V_iast (pc := 147) hX dX6_demanding_147 (rfl) (rfl) (by omega) (by decide) ?_
        refine Vw.mem (σ' := mraise2 σ n t) (by unfold mraise2; rw [a58]) ?_
        refine V_iconst (pc := 148) (v := (nI 0)) hX dX6_demanding_148 (by decide +kernel) ?_
        refine V_istore5 (pc := 149) hX dX6_demanding_149 rfl ?_
        refine V_iconst (pc := 151) (v := (nI 0)) hX dX6_demanding_151 (by decide +kernel) ?_
        refine V_istore6 (pc := 152) hX dX6_demanding_152 rfl ?_
        refine Vw.mem (mmB_0 (mraise2 σ n t) t) ?_
        exact l_mdem2 hX hR hr b5 hn10 ht (k220 h113 h132 _ _ _) 0 (by omega)
      · refine V_iconst (pc := 135) (v := (nI 0)) hX dX6_demanding_135 (by decide +kernel) ?_
        exact V_iret (pc := 136) (st := []) hX hr (by first | rfl | exact bI_nar _ | decide +kernel) dX6_demanding_136 (⟨by rw [mdemV, h113, h132]; rfl, by rw [mdemM, h113, h132]; rfl⟩)
    · refine V_ldc (pc := 116) hX kX6_103 dX6_demanding_116 ?_
      exact V_iret (pc := 118) (st := []) hX hr (by first | rfl | exact bI_nar _ | decide +kernel) dX6_demanding_118 (⟨by rw [mdemV, h113]; rfl, by rw [mdemM, h113]; rfl⟩)
  refine V_iload_n (pc := 0) (i := 1) hX dX6_demanding_0 rfl rfl ?_
  refine V_i2l (pc := 1) hX dX6_demanding_1 ?_
  refine V_lconst (pc := 2) (v := lN 0) hX dX6_demanding_2 (by decide +kernel) ?_
  refine V_ldc2 (pc := 3) hX kX6_105 dX6_demanding_3 ?_
  refine V_callSi (pc := 6) hX (hR.mono (by omega)) mX6_75 (c_inN _ 0 11 (by decide) (by decide) σ) dX6_demanding_6 rfl rfl rfl (Nat.le_of_ble_eq_true rfl) ?_
  refine V_if_neB (pc := 9) (tgt := 15) hX dX6_demanding_9 (by decide) (fun h9 => ?_) (fun h9 => absurd h9 (by rw [hx2]; decide))
  refine V_iconst (pc := 15) (v := (nI 0)) hX dX6_demanding_15 (by decide +kernel) ?_
  refine V_istore2 (pc := 16) hX dX6_demanding_16 rfl ?_
  refine V_iconst (pc := 17) (v := (nI 0)) hX dX6_demanding_17 (by decide +kernel) ?_
  refine V_istore3 (pc := 18) hX dX6_demanding_18 rfl ?_
  refine V_ldc (pc := 19) hX kX6_107 dX6_demanding_19 ?_
  refine V_istore4 (pc := 21) hX dX6_demanding_21 rfl ?_
  refine V_iconst (pc := 23) (v := (nI 0)) hX dX6_demanding_23 (by decide +kernel) ?_
  refine V_istore5 (pc := 24) hX dX6_demanding_24 rfl ?_
  exact l_mdem1 (z6 := none) hX hR hr rfl hn hn10 ht k112 0 (by omega)

