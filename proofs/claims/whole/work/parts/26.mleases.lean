/-! ===== LEASES, the reference's: 52: 12 leases, 18 last, 19 leased; 59 length, 60 rate, 61 isAsked, 62 toll, 63 isBought, 64 least ===== -/
set_option maxRecDepth 100000 in
set_option maxHeartbeats 4000000 in
theorem c_misDay (x : Int32) (σ : Mem) : Cc yX6_isDay cX6_isDay 1 (some .boolean) 1 [.int x] σ (rI (bI (inr x 128)) σ) := by
  refine Cc.intro (by decide +kernel) [some (.int x)] (fun _ => rfl) rfl (fun _ => Nat.le_of_ble_eq_true rfl) ?_
  intro X hX hR hr
  refine V_iload_n (pc := 0) (i := 0) hX dX6_isDay_0 rfl rfl ?_
  refine V_i2l (pc := 1) hX dX6_isDay_1 ?_
  refine V_lconst (pc := 2) (v := lN 0) hX dX6_isDay_2 (by decide +kernel) ?_
  refine V_ldc2 (pc := 3) hX kX6_143 dX6_isDay_3 ?_
  refine V_callSi (pc := 6) hX (hR.mono (by omega)) mX6_75 (c_inN x 0 127 (by decide) (by decide) _) dX6_isDay_6 rfl rfl rfl (Nat.le_of_ble_eq_true rfl) ?_
  exact V_iret (pc := 9) (st := []) hX hr (by first | rfl | exact bI_nar _ | decide +kernel) dX6_isDay_9 (⟨by rw [inr2_0], rfl⟩)
set_option maxRecDepth 100000 in
set_option maxHeartbeats 4000000 in
theorem c_mfirst (n k d : Nat) (L : Nat → Nat) (σ : Mem) (hL : lok σ 59 n L) (hn4 : n ≤ 4) (hk : k < n) (hd : d < 128) : Cc yX6_firstOf cX6_firstOf 3 (some .int) 0 [.ref 52, .int (nI k), .int (nI d)] σ (rI (nI (fo (L k) d)) σ) := by
  refine Cc.intro (by decide +kernel) [some (.ref 52), some (.int (nI k)), some (.int (nI d))] (fun _ => rfl) rfl (fun _ => Nat.le_of_ble_eq_true rfl) ?_
  intro X hX hR hr
  obtain ⟨e, l1, l2⟩ := hL k hk
  refine V_iload_n (pc := 0) (i := 2) hX dX6_firstOf_0 rfl rfl ?_
  refine V_iload_n (pc := 1) (i := 2) hX dX6_firstOf_1 rfl rfl ?_
  refine V_aload_n (pc := 2) (i := 0) hX dX6_firstOf_2 rfl rfl ?_
  refine V_getr (pc := 3) hX fX6_28 dX6_firstOf_3 rfl rfl ?_
  refine V_iload_n (pc := 6) (i := 1) hX dX6_firstOf_6 rfl rfl ?_
  refine V_iald (pc := 7) hX dX6_firstOf_7 (rfl) (rfl) (by omega) (by decide) ?_
  rw [e]
  refine V_irem (pc := 8) hX dX6_firstOf_8 (nI_ne0 (by omega) (by omega)) ?_
  rw [pk_rem (by omega) (by omega) (by omega)]
  refine V_isub (pc := 9) hX dX6_firstOf_9 ?_
  rw [pk_sub (Nat.mod_le _ _)]
  exact V_iret (pc := 10) (st := []) hX hr (by first | rfl | exact bI_nar _ | decide +kernel) dX6_firstOf_10 (⟨rfl, rfl⟩)
def covf (ib : Nat → Int32) (L : Nat → Nat) (d : Nat) : Nat → Bool
  | 0 => false
  | k + 1 => covf ib L d k || decide (¬ ib (128 * k + fo (L k) d) = 0)
set_option maxRecDepth 100000 in
set_option maxHeartbeats 4000000 in
theorem l_mcovered {n d : Nat} {L : Nat → Nat} {X : XC} {P : Option Value → Mem → Prop} {σ : Mem} (hX : Cok X RX6 cX6_isCovered 4) (hR : Rok X 1) (hr : Ret X (some .boolean) P) (hn : σ 52 12 = nI n) (hL : lok σ 59 n L) (hn4 : n ≤ 4) (hd : d < 128) (hp : P (some (.int (bI (covf (σ 63) L d n)))) σ) (k : Nat) (hk : k ≤ n) : Vw X 4 [some (.ref 52), some (.int (nI d)), some (.int (bI (covf (σ 63) L d k))), some (.int (nI k))] [] σ := by
  have hf := fo_le (L k) d
  refine V_iload_n (pc := 4) (i := 3) hX dX6_isCovered_4 rfl rfl ?_
  refine V_aload_n (pc := 5) (i := 0) hX dX6_isCovered_5 rfl rfl ?_
  refine V_getf (pc := 6) hX fX6_140 dX6_isCovered_6 rfl rfl ?_
  rw [hn]
  refine V_icmp_geN (pc := 9) (tgt := 48) hX dX6_isCovered_9 (by decide) (by omega) (by omega) (fun h9 => ?_) (fun h9 => ?_)
  · obtain rfl : k = n := by omega
    refine V_iload_n (pc := 48) (i := 2) hX dX6_isCovered_48 rfl rfl ?_
    exact V_iret (pc := 49) (st := []) hX hr (by first | rfl | exact bI_nar _ | decide +kernel) dX6_isCovered_49 (hp)
  · refine V_iload_n (pc := 12) (i := 2) hX dX6_isCovered_12 rfl rfl ?_
    refine V_if_neB (pc := 13) (tgt := 36) hX dX6_isCovered_13 (by decide) (fun h13 => ?_) (fun h13 => ?_)
    · refine V_iconst (pc := 36) (v := (nI 1)) hX dX6_isCovered_36 (by decide +kernel) ?_
      refine V_goto (pc := 37) (tgt := 41) hX dX6_isCovered_37 (by decide) ?_
      refine V_istore2 (pc := 41) hX dX6_isCovered_41 rfl ?_
      refine V_iinc3 (pc := 42) hX dX6_isCovered_42 rfl (iinc1 _) ?_
      refine V_goto (pc := 45) (tgt := 4) hX dX6_isCovered_45 (by decide) ?_
      have ih := l_mcovered hX hR hr hn hL hn4 hd hp (k + 1) (by omega)
      rw [covf] at ih
      first
        | rw [h13, Bool.true_or] at ih
        | rw [h13, decide_eq_true h33] at ih
        | rw [h13, decide_eq_false (fun q => q h33)] at ih
      exact ih
    · refine V_aload_n (pc := 16) (i := 0) hX dX6_isCovered_16 rfl rfl ?_
      refine V_getr (pc := 17) hX fX6_41 dX6_isCovered_17 rfl rfl ?_
      refine V_sipush (pc := 20) (v := (nI 128)) hX dX6_isCovered_20 (by decide +kernel) ?_
      refine V_iload_n (pc := 23) (i := 3) hX dX6_isCovered_23 rfl rfl ?_
      refine V_imul (pc := 24) hX dX6_isCovered_24 ?_
      refine V_aload_n (pc := 25) (i := 0) hX dX6_isCovered_25 rfl rfl ?_
      refine V_iload_n (pc := 26) (i := 3) hX dX6_isCovered_26 rfl rfl ?_
      refine V_iload_n (pc := 27) (i := 1) hX dX6_isCovered_27 rfl rfl ?_
      refine V_callVi (pc := 28) hX (hR.mono (by omega)) mX6_145 (c_mfirst n k d L _ hL hn4 h9 hd) dX6_isCovered_28 rfl rfl rfl rfl (Nat.le_of_ble_eq_true rfl) ?_
      refine V_iadd (pc := 31) hX dX6_isCovered_31 ?_
      refine V_zald (pc := 32) hX dX6_isCovered_32 (rfl) (show _ = nI (128 * k + fo (L k) d) by rw [pk_mul, nI_add]) (by omega) (by decide) ?_
      refine V_if_eq (pc := 33) (tgt := 40) hX dX6_isCovered_33 (by decide) (fun h33 => ?_) (fun h33 => ?_)
      · refine V_iconst (pc := 40) (v := (nI 0)) hX dX6_isCovered_40 (by decide +kernel) ?_
        refine V_istore2 (pc := 41) hX dX6_isCovered_41 rfl ?_
        refine V_iinc3 (pc := 42) hX dX6_isCovered_42 rfl (iinc1 _) ?_
        refine V_goto (pc := 45) (tgt := 4) hX dX6_isCovered_45 (by decide) ?_
        have ih := l_mcovered hX hR hr hn hL hn4 hd hp (k + 1) (by omega)
        rw [covf] at ih
        first
          | rw [h13, Bool.true_or] at ih
          | rw [h13, decide_eq_true h33] at ih
          | rw [h13, decide_eq_false (fun q => q h33)] at ih
        exact ih
      · refine V_iconst (pc := 36) (v := (nI 1)) hX dX6_isCovered_36 (by decide +kernel) ?_
        refine V_goto (pc := 37) (tgt := 41) hX dX6_isCovered_37 (by decide) ?_
        refine V_istore2 (pc := 41) hX dX6_isCovered_41 rfl ?_
        refine V_iinc3 (pc := 42) hX dX6_isCovered_42 rfl (iinc1 _) ?_
        refine V_goto (pc := 45) (tgt := 4) hX dX6_isCovered_45 (by decide) ?_
        have ih := l_mcovered hX hR hr hn hL hn4 hd hp (k + 1) (by omega)
        rw [covf] at ih
        first
          | rw [h13, Bool.true_or] at ih
          | rw [h13, decide_eq_true h33] at ih
          | rw [h13, decide_eq_false (fun q => q h33)] at ih
        exact ih
termination_by n - k
set_option maxRecDepth 100000 in
set_option maxHeartbeats 4000000 in
theorem c_mcovered (n d : Nat) (L : Nat → Nat) (σ : Mem) (hn : σ 52 12 = nI n) (hL : lok σ 59 n L) (hn4 : n ≤ 4) (hd : d < 128) : Cc yX6_isCovered cX6_isCovered 4 (some .boolean) 1 [.ref 52, .int (nI d)] σ (rI (bI (covf (σ 63) L d n)) σ) := by
  refine Cc.intro (by decide +kernel) [some (.ref 52), some (.int (nI d)), none, none] (fun _ => rfl) rfl (fun _ => Nat.le_of_ble_eq_true rfl) ?_
  intro X hX hR hr
  refine V_iconst (pc := 0) (v := (nI 0)) hX dX6_isCovered_0 (by decide +kernel) ?_
  refine V_istore2 (pc := 1) hX dX6_isCovered_1 rfl ?_
  refine V_iconst (pc := 2) (v := (nI 0)) hX dX6_isCovered_2 (by decide +kernel) ?_
  refine V_istore3 (pc := 3) hX dX6_isCovered_3 rfl ?_
  exact l_mcovered hX hR hr hn hL hn4 hd ⟨rfl, rfl⟩ 0 (by omega)
set_option maxRecDepth 100000 in
set_option maxHeartbeats 4000000 in
theorem l_mtoll {n k a : Nat} {L : Nat → Nat} {X : XC} {P : Option Value → Mem → Prop} {σ : Mem} (hX : Cok X RX6 cX6_tollOf 5) (hR : Rok X 0) (hr : Ret X (some .int) P) (hL : lok σ 59 n L) (hn4 : n ≤ 4) (hk : k < n) (ha : a < 128) (hp : P (some (.int (ps (σ 62) a (L k)))) σ) (j : Nat) (hj : j ≤ L k) (hj2 : a + j ≤ 128) : Vw X 5 [some (.ref 52), some (.int (nI k)), some (.int (nI a)), some (.int (ps (σ 62) a j)), some (.int (nI (a + j)))] [] σ := by
  obtain ⟨e, l1, l2⟩ := hL k hk
  refine V_iload (pc := 5) (i := 4) hX dX6_tollOf_5 rfl ?_
  refine V_iload_n (pc := 7) (i := 2) hX dX6_tollOf_7 rfl rfl ?_
  refine V_aload_n (pc := 8) (i := 0) hX dX6_tollOf_8 rfl rfl ?_
  refine V_getr (pc := 9) hX fX6_28 dX6_tollOf_9 rfl rfl ?_
  refine V_iload_n (pc := 12) (i := 1) hX dX6_tollOf_12 rfl rfl ?_
  refine V_iald (pc := 13) hX dX6_tollOf_13 (rfl) (rfl) (by omega) (by decide) ?_
  rw [e]
  refine V_iadd (pc := 14) hX dX6_tollOf_14 ?_
  rw [nI_add]
  refine V_icmp_geN (pc := 15) (tgt := 42) hX dX6_tollOf_15 (by decide) (by omega) (by omega) (fun h15 => ?_) (fun h15 => ?_)
  · refine V_iload_n (pc := 42) (i := 3) hX dX6_tollOf_42 rfl rfl ?_
    exact V_iret (pc := 43) (st := []) hX hr (by first | rfl | exact bI_nar _ | decide +kernel) dX6_tollOf_43 (by rw [show j = L k by omega]; exact hp)
  · refine V_iload (pc := 18) (i := 4) hX dX6_tollOf_18 rfl ?_
    refine V_sipush (pc := 20) (v := (nI 128)) hX dX6_tollOf_20 (by decide +kernel) ?_
    refine V_icmp_geN (pc := 23) (tgt := 42) hX dX6_tollOf_23 (by decide) (by omega) (by omega) (fun h23 => ?_) (fun h23 => ?_)
    · refine V_iload_n (pc := 42) (i := 3) hX dX6_tollOf_42 rfl rfl ?_
      exact V_iret (pc := 43) (st := []) hX hr (by first | rfl | exact bI_nar _ | decide +kernel) dX6_tollOf_43 (by rw [← ps_stop (σ 62) a j (by omega) (L k - j), show j + (L k - j) = L k by omega]; exact hp)
    · refine V_iload_n (pc := 26) (i := 3) hX dX6_tollOf_26 rfl rfl ?_
      refine V_aload_n (pc := 27) (i := 0) hX dX6_tollOf_27 rfl rfl ?_
      refine V_getr (pc := 28) hX fX6_38 dX6_tollOf_28 rfl rfl ?_
      refine V_iload (pc := 31) (i := 4) hX dX6_tollOf_31 rfl ?_
      refine V_iald (pc := 33) hX dX6_tollOf_33 (rfl) (rfl) (by omega) (by decide) ?_
      refine V_iadd (pc := 34) hX dX6_tollOf_34 ?_
      refine V_istore3 (pc := 35) hX dX6_tollOf_35 rfl ?_
      refine V_iinc4 (pc := 36) hX dX6_tollOf_36 rfl (iinc1 _) ?_
      refine V_goto (pc := 39) (tgt := 5) hX dX6_tollOf_39 (by decide) ?_
      have ih := l_mtoll hX hR hr hL hn4 hk ha hp (j + 1) (by omega) (by omega)
      rw [ps, if_pos (by omega)] at ih
      exact ih
termination_by L k - j
set_option maxRecDepth 100000 in
set_option maxHeartbeats 4000000 in
theorem c_mtoll (n k a : Nat) (L : Nat → Nat) (σ : Mem) (hL : lok σ 59 n L) (hn4 : n ≤ 4) (hk : k < n) (ha : a < 128) : Cc yX6_tollOf cX6_tollOf 5 (some .int) 0 [.ref 52, .int (nI k), .int (nI a)] σ (rI (ps (σ 62) a (L k)) σ) := by
  refine Cc.intro (by decide +kernel) [some (.ref 52), some (.int (nI k)), some (.int (nI a)), none, none] (fun _ => rfl) rfl (fun _ => Nat.le_of_ble_eq_true rfl) ?_
  intro X hX hR hr
  refine V_iconst (pc := 0) (v := (nI 0)) hX dX6_tollOf_0 (by decide +kernel) ?_
  refine V_istore3 (pc := 1) hX dX6_tollOf_1 rfl ?_
  refine V_iload_n (pc := 2) (i := 2) hX dX6_tollOf_2 rfl rfl ?_
  refine V_istore4 (pc := 3) hX dX6_tollOf_3 rfl ?_
  exact l_mtoll hX hR hr hL hn4 hk ha ⟨rfl, rfl⟩ 0 (by omega) (by omega)
def lgLm (c : Nat → Int32) (pr : Nat → Int32) (L : Nat → Nat) (d : Nat) : Nat → Int32
  | 0 => nI 1000000
  | k + 1 => imin (lgLm c pr L d k) (c k - ps pr (fo (L k) d) (L k))
set_option maxRecDepth 100000 in
set_option maxHeartbeats 4000000 in
theorem l_mday1 {n d : Nat} {L : Nat → Nat} {z : Option Value} {X : XC} {P : Option Value → Mem → Prop} {σ : Mem} (hX : Cok X RX6 cX6_day 5) (hR : Rok X 2) (hr : Ret X (some .int) P) (hz : nol [z] = true) (hn : σ 52 12 = nI n) (hL : lok σ 59 n L) (hn4 : n ≤ 4) (hd : d < 128) (kk : ∀ z, nol [z] = true → Vw X 107 [some (.ref 52), some (.int (nI d)), some (.int (lgLm (σ 60) (σ 62) L d n)), some (.int (nI n)), z] [] σ) (k : Nat) (hk : k ≤ n) : Vw X 60 [some (.ref 52), some (.int (nI d)), some (.int (lgLm (σ 60) (σ 62) L d k)), some (.int (nI k)), z] [] σ := by
  have hf := fo_le (L k) d
  refine V_iload_n (pc := 60) (i := 3) hX dX6_day_60 rfl rfl ?_
  refine V_aload_n (pc := 61) (i := 0) hX dX6_day_61 rfl rfl ?_
  refine V_getf (pc := 62) hX fX6_140 dX6_day_62 rfl rfl ?_
  rw [hn]
  refine V_icmp_geN (pc := 65) (tgt := 107) hX dX6_day_65 (by decide) (by omega) (by omega) (fun h65 => ?_) (fun h65 => ?_)
  · obtain rfl : k = n := by omega
    exact kk z hz
  · refine V_aload_n (pc := 68) (i := 0) hX dX6_day_68 rfl rfl ?_
    refine V_getr (pc := 69) hX fX6_31 dX6_day_69 rfl rfl ?_
    refine V_iload_n (pc := 72) (i := 3) hX dX6_day_72 rfl rfl ?_
    refine V_iald (pc := 73) hX dX6_day_73 (rfl) (rfl) (by omega) (by decide) ?_
    refine V_aload_n (pc := 74) (i := 0) hX dX6_day_74 rfl rfl ?_
    refine V_iload_n (pc := 75) (i := 3) hX dX6_day_75 rfl rfl ?_
    refine V_aload_n (pc := 76) (i := 0) hX dX6_day_76 rfl rfl ?_
    refine V_iload_n (pc := 77) (i := 3) hX dX6_day_77 rfl rfl ?_
    refine V_iload_n (pc := 78) (i := 1) hX dX6_day_78 rfl rfl ?_
    refine V_callVi (pc := 79) hX (hR.mono (by omega)) mX6_145 (c_mfirst n k d L _ hL hn4 h65 hd) dX6_day_79 rfl rfl rfl rfl (Nat.le_of_ble_eq_true rfl) ?_
    refine V_callVi (pc := 82) hX (hR.mono (by omega)) mX6_155 (c_mtoll n k _ L _ hL hn4 h65 (by omega)) dX6_day_82 rfl rfl rfl rfl (Nat.le_of_ble_eq_true rfl) ?_
    refine V_isub (pc := 85) hX dX6_day_85 ?_
    refine V_istore4 (pc := 86) hX dX6_day_86 hz ?_
    have ih := l_mday1 (z := some (.int (σ 60 k - ps (σ 62) (fo (L k) d) (L k)))) hX hR hr rfl hn hL hn4 hd kk (k + 1) (by omega)
    rw [lgLm] at ih
    refine V_iload (pc := 88) (i := 4) hX dX6_day_88 rfl ?_
    refine V_iload_n (pc := 90) (i := 2) hX dX6_day_90 rfl rfl ?_
    refine V_icmp_ge (pc := 91) (tgt := 99) hX dX6_day_91 (by decide) (fun h91 => ?_) (fun h91 => ?_)
    · rw [imin_ge h91] at ih
      refine V_iload_n (pc := 99) (i := 2) hX dX6_day_99 rfl rfl ?_
      refine V_istore2 (pc := 100) hX dX6_day_100 rfl ?_
      refine V_iinc3 (pc := 101) hX dX6_day_101 rfl (iinc1 _) ?_
      refine V_goto (pc := 104) (tgt := 60) hX dX6_day_104 (by decide) ?_
      exact ih
    · rw [imin_lt h91] at ih
      refine V_iload (pc := 94) (i := 4) hX dX6_day_94 rfl ?_
      refine V_goto (pc := 96) (tgt := 100) hX dX6_day_96 (by decide) ?_
      refine V_istore2 (pc := 100) hX dX6_day_100 rfl ?_
      refine V_iinc3 (pc := 101) hX dX6_day_101 rfl (iinc1 _) ?_
      refine V_goto (pc := 104) (tgt := 60) hX dX6_day_104 (by decide) ?_
      exact ih
termination_by n - k
def ibF (c : Nat → Int32) (pr : Nat → Int32) (L : Nat → Nat) (d : Nat) (ib : Nat → Int32) : Nat → Nat → Int32
  | 0 => ib
  | k + 1 => if tiL c pr L d k then upd (ibF c pr L d ib k) (128 * k + fo (L k) d) (nI 1) else ibF c pr L d ib k
def mbM (σ : Mem) (L : Nat → Nat) (d k : Nat) : Mem := mf σ 63 (ibF (σ 60) (σ 62) L d (σ 63) k)
set_option maxRecDepth 100000 in
set_option maxHeartbeats 4000000 in
theorem l_mday2 {n d : Nat} {L : Nat → Nat} {b : Int32} {X : XC} {P : Option Value → Mem → Prop} {σ : Mem} (hX : Cok X RX6 cX6_day 5) (hR : Rok X 2) (hr : Ret X (some .int) P) (hn : σ 52 12 = nI n) (hL : lok σ 59 n L) (hn4 : n ≤ 4) (hd : d < 128) (kk : Vw X 187 [some (.ref 52), some (.int (nI d)), some (.int b), some (.int (bcL (σ 60) (σ 62) L d n)), some (.int (nI n))] [] (mbM σ L d n)) (k : Nat) (hk : k ≤ n) : Vw X 119 [some (.ref 52), some (.int (nI d)), some (.int b), some (.int (bcL (σ 60) (σ 62) L d k)), some (.int (nI k))] [] (mbM σ L d k) := by
  have hf := fo_le (L k) d
  have r60 : mbM σ L d k 60 = σ 60 := (mf_ne (by decide)).symm
  have r62 : mbM σ L d k 62 = σ 62 := (mf_ne (by decide)).symm
  have r12 : mbM σ L d k 52 12 = nI n := hn
  have hL2 : lok (mbM σ L d k) 59 n L := hL
  refine V_iload (pc := 119) (i := 4) hX dX6_day_119 rfl ?_
  refine V_aload_n (pc := 121) (i := 0) hX dX6_day_121 rfl rfl ?_
  refine V_getf (pc := 122) hX fX6_140 dX6_day_122 rfl rfl ?_
  rw [r12]
  refine V_icmp_geN (pc := 125) (tgt := 187) hX dX6_day_125 (by decide) (by omega) (by omega) (fun h125 => ?_) (fun h125 => ?_)
  · obtain rfl : k = n := by omega
    exact kk
  · refine V_aload_n (pc := 128) (i := 0) hX dX6_day_128 rfl rfl ?_
    refine V_iload (pc := 129) (i := 4) hX dX6_day_129 rfl ?_
    refine V_aload_n (pc := 131) (i := 0) hX dX6_day_131 rfl rfl ?_
    refine V_iload (pc := 132) (i := 4) hX dX6_day_132 rfl ?_
    refine V_iload_n (pc := 134) (i := 1) hX dX6_day_134 rfl rfl ?_
    refine V_callVi (pc := 135) hX (hR.mono (by omega)) mX6_145 (c_mfirst n k d L _ hL2 hn4 h125 hd) dX6_day_135 rfl rfl rfl rfl (Nat.le_of_ble_eq_true rfl) ?_
    refine V_callVi (pc := 138) hX (hR.mono (by omega)) mX6_155 (c_mtoll n k _ L _ hL2 hn4 h125 (by omega)) dX6_day_138 rfl rfl rfl rfl (Nat.le_of_ble_eq_true rfl) ?_
    refine V_aload_n (pc := 141) (i := 0) hX dX6_day_141 rfl rfl ?_
    refine V_getr (pc := 142) hX fX6_31 dX6_day_142 rfl rfl ?_
    refine V_iload (pc := 145) (i := 4) hX dX6_day_145 rfl ?_
    refine V_iald (pc := 147) hX dX6_day_147 (rfl) (rfl) (by omega) (by decide) ?_
    refine V_icmp_ne (pc := 148) (tgt := 181) hX dX6_day_148 (by decide) (fun h148 => ?_) (fun h148 => ?_)
    · refine V_iinc4 (pc := 181) hX dX6_day_181 rfl (iinc1 _) ?_
      refine V_goto (pc := 184) (tgt := 119) hX dX6_day_184 (by decide) ?_
      have ih := l_mday2 hX hR hr hn hL hn4 hd kk (k + 1) (by omega)
      rw [r60, r62] at h148
      have ht : tiL (σ 60) (σ 62) L d k = false := decide_eq_false h148
      unfold mbM at ih
      simp only [bcL, ibF, ht, Bool.false_eq_true, ↓reduceIte] at ih
      exact ih
    · refine V_aload_n (pc := 151) (i := 0) hX dX6_day_151 rfl rfl ?_
      refine V_getr (pc := 152) hX fX6_41 dX6_day_152 rfl rfl ?_
      refine V_sipush (pc := 155) (v := (nI 128)) hX dX6_day_155 (by decide +kernel) ?_
      refine V_iload (pc := 158) (i := 4) hX dX6_day_158 rfl ?_
      refine V_imul (pc := 160) hX dX6_day_160 ?_
      refine V_aload_n (pc := 161) (i := 0) hX dX6_day_161 rfl rfl ?_
      refine V_iload (pc := 162) (i := 4) hX dX6_day_162 rfl ?_
      refine V_iload_n (pc := 164) (i := 1) hX dX6_day_164 rfl rfl ?_
      refine V_callVi (pc := 165) hX (hR.mono (by omega)) mX6_145 (c_mfirst n k d L _ hL2 hn4 h125 hd) dX6_day_165 rfl rfl rfl rfl (Nat.le_of_ble_eq_true rfl) ?_
      refine V_iadd (pc := 168) hX dX6_day_168 ?_
      refine V_iconst (pc := 169) (v := (nI 1)) hX dX6_day_169 (by decide +kernel) ?_
      refine V_zast (pc := 170) hX dX6_day_170 (rfl) (show _ = nI (128 * k + fo (L k) d) by rw [pk_mul, nI_add]) (by omega) (by decide) (by decide +kernel) ?_
      refine V_iload_n (pc := 171) (i := 3) hX dX6_day_171 rfl rfl ?_
      refine V_aload_n (pc := 172) (i := 0) hX dX6_day_172 rfl rfl ?_
      refine V_getr (pc := 173) hX fX6_31 dX6_day_173 rfl rfl ?_
      refine V_iload (pc := 176) (i := 4) hX dX6_day_176 rfl ?_
      refine V_iald (pc := 178) hX dX6_day_178 (rfl) (rfl) (by omega) (by decide) ?_
      refine V_iadd (pc := 179) hX dX6_day_179 ?_
      refine V_istore3 (pc := 180) hX dX6_day_180 rfl ?_
      refine V_iinc4 (pc := 181) hX dX6_day_181 rfl (iinc1 _) ?_
      refine V_goto (pc := 184) (tgt := 119) hX dX6_day_184 (by decide) ?_
      have ih := l_mday2 hX hR hr hn hL hn4 hd kk (k + 1) (by omega)
      rw [r60, r62] at h148
      have ht : tiL (σ 60) (σ 62) L d k = true := decide_eq_true h148
      unfold mbM at ih
      simp only [bcL, ibF, ht, ↓reduceIte] at ih
      simp only [mu_f, upd_at, r60, Nat.reduceEqDiff, ↓reduceIte]
      unfold mbM
      rw [mf_mu]
      exact ih
termination_by n - k
def mlask (σ : Mem) (d : Nat) : Mem := mu (mu σ 52 18 (nI d)) 61 d (nI 1)
def mlraise (σ : Mem) (L : Nat → Nat) (n d : Nat) : Mem := mu (mlask σ d) 62 d (lgLm (σ 60) (σ 62) L d n)
def mmeetLV (σ : Mem) (L : Nat → Nat) (n d : Nat) : Int32 := if covf (σ 63) L d n then nI 0 else bcL (σ 60) (mlraise σ L n d 62) L d n
def mmeetLM (σ : Mem) (L : Nat → Nat) (n d : Nat) : Mem := if covf (σ 63) L d n then mlask σ d else mu (mbM (mlraise σ L n d) L d n) 52 19 (σ 52 19 + bcL (σ 60) (mlraise σ L n d 62) L d n)
def mdayV (σ : Mem) (L : Nat → Nat) (n : Nat) (x : Int32) : Int32 := if inr x 128 then (if 0 < n ∧ σ 52 18 < x then mmeetLV σ L n (tn x) else (-1000002)) else (-1000001)
def mdayM (σ : Mem) (L : Nat → Nat) (n : Nat) (x : Int32) : Mem := if inr x 128 then (if 0 < n ∧ σ 52 18 < x then mmeetLM (m0 σ) L n (tn x) else m0 σ) else m0 σ
set_option maxRecDepth 100000 in
set_option maxHeartbeats 4000000 in
theorem c_mday (n : Nat) (L : Nat → Nat) (x : Int32) (σ : Mem) (hn : σ 52 12 = nI n) (hL : lok σ 59 n L) (hn4 : n ≤ 4) : Cc yX6_day cX6_day 5 (some .int) 2 [.ref 52, .int x] σ (rI (mdayV σ L n x) (mdayM σ L n x)) := by
  refine Cc.intro (by decide +kernel) [some (.ref 52), some (.int x), none, none, none] (fun _ => rfl) rfl (fun _ => Nat.le_of_ble_eq_true rfl) ?_
  intro X hX hR hr
  have a12 : m0 σ 52 12 = nI n := by rw [m0_c (by decide)]; exact hn
  have a18 : m0 σ 52 18 = σ 52 18 := m0_c (by decide)
  have e19 : m0 σ 52 19 = σ 52 19 := m0_c (by decide)
  have e60 : m0 σ 60 = σ 60 := m0_r (by decide)
  have e62 : m0 σ 62 = σ 62 := m0_r (by decide)
  have e63 : m0 σ 63 = σ 63 := m0_r (by decide)
  refine V_aload_n (pc := 0) (i := 0) hX dX6_day_0 rfl rfl ?_
  refine V_iconst (pc := 1) (v := (nI 0)) hX dX6_day_1 (by decide +kernel) ?_
  refine V_putf (pc := 2) hX fX6_66 gi6_0 dX6_day_2 rfl rfl ?_
  refine Vw.mem (rfl : m0 σ = _) ?_
  refine V_iload_n (pc := 5) (i := 1) hX dX6_day_5 rfl rfl ?_
  refine V_callSi (pc := 6) hX (hR.mono (by omega)) mX6_149 (c_misDay _ _) dX6_day_6 rfl rfl rfl (Nat.le_of_ble_eq_true rfl) ?_
  refine V_if_neB (pc := 9) (tgt := 15) hX dX6_day_9 (by decide) (fun h9 => ?_) (fun h9 => ?_)
  · obtain ⟨d, hd, rfl⟩ := inr_of h9 (by decide)
    have td : tn (nI d) = d := tn_nI (by omega)
    refine V_aload_n (pc := 15) (i := 0) hX dX6_day_15 rfl rfl ?_
    refine V_getf (pc := 16) hX fX6_140 dX6_day_16 rfl rfl ?_
    rw [a12]
    refine V_if_eq (pc := 19) (tgt := 30) hX dX6_day_19 (by decide) (fun h19 => ?_) (fun h19 => ?_)
    · refine V_ldc (pc := 30) hX kX6_103 dX6_day_30 ?_
      exact V_iret (pc := 32) (st := []) hX hr (by first | rfl | exact bI_nar _ | decide +kernel) dX6_day_32 (⟨by rw [mdayV, h9, if_pos rfl, if_neg (fun q => absurd h19 (nI_ne0 q.1 (by omega)))], by rw [mdayM, h9, if_pos rfl, if_neg (fun q => absurd h19 (nI_ne0 q.1 (by omega)))]⟩)
    · refine V_iload_n (pc := 22) (i := 1) hX dX6_day_22 rfl rfl ?_
      refine V_aload_n (pc := 23) (i := 0) hX dX6_day_23 rfl rfl ?_
      refine V_getf (pc := 24) hX fX6_44 dX6_day_24 rfl rfl ?_
      rw [a18]
      refine V_icmp_gt (pc := 27) (tgt := 33) hX dX6_day_27 (by decide) (fun h27 => ?_) (fun h27 => ?_)
      · refine V_aload_n (pc := 33) (i := 0) hX dX6_day_33 rfl rfl ?_
        refine V_iload_n (pc := 34) (i := 1) hX dX6_day_34 rfl rfl ?_
        refine V_putf (pc := 35) hX fX6_44 gi6_18 dX6_day_35 rfl rfl ?_
        refine V_aload_n (pc := 38) (i := 0) hX dX6_day_38 rfl rfl ?_
        refine V_getr (pc := 39) hX fX6_34 dX6_day_39 rfl rfl ?_
        refine V_iload_n (pc := 42) (i := 1) hX dX6_day_42 rfl rfl ?_
        refine V_iconst (pc := 43) (v := (nI 1)) hX dX6_day_43 (by decide +kernel) ?_
        refine V_zast (pc := 44) hX dX6_day_44 (rfl) (rfl) (by omega) (by decide) (by decide +kernel) ?_
        have hn0 : 0 < n := Nat.pos_of_ne_zero (fun q => h19 (by rw [q]; exact nI_0))
        refine Vw.mem (rfl : mlask (m0 σ) d = _) ?_
        have b12 : mlask (m0 σ) d 52 12 = nI n := by unfold mlask; rw [mu_np (by decide), mu_ni (by decide)]; exact a12
        have b60 : mlask (m0 σ) d 60 = σ 60 := by unfold mlask; rw [← mu_ne (by decide), ← mu_ne (by decide), e60]
        have b62 : mlask (m0 σ) d 62 = σ 62 := by unfold mlask; rw [← mu_ne (by decide), ← mu_ne (by decide), e62]
        have b63 : mlask (m0 σ) d 63 = σ 63 := by unfold mlask; rw [← mu_ne (by decide), ← mu_ne (by decide), e63]
        have b59 : mlask (m0 σ) d 59 = σ 59 := by unfold mlask; rw [← mu_ne (by decide), ← mu_ne (by decide), m0_r (by decide)]
        have bL : lok (mlask (m0 σ) d) 59 n L := fun j hj => by rw [b59]; exact hL j hj
        have c12 : mlraise (m0 σ) L n d 52 12 = nI n := by rw [← b12]; exact mu_np (by decide)
        have c60 : mlraise (m0 σ) L n d 60 = σ 60 := by rw [← b60]; exact (mu_ne (by decide)).symm
        have cL : lok (mlraise (m0 σ) L n d) 59 n L := fun j hj => by rw [show mlraise (m0 σ) L n d 59 = σ 59 by rw [← b59]; exact (mu_ne (by decide)).symm]; exact hL j hj
        have em : mlraise σ L n d 62 = mlraise (m0 σ) L n d 62 := by
          unfold mlraise mlask
          rw [e60, e62]
          simp only [mu_f, Nat.reduceEqDiff, ↓reduceIte, e62]
        have ev : covf (σ 63) L d n = false → some (Value.int (bcL (σ 60) (mlraise (m0 σ) L n d 62) L d n)) = some (Value.int (mdayV σ L n (nI d))) := fun h => by
          rw [mdayV, h9, if_pos rfl, if_pos ⟨hn0, Int32.not_le.mp (fun q => Int32.not_le.mpr h27 q)⟩, td, mmeetLV, h, em]; rfl
        have k187 : covf (σ 63) L d n = false → ∀ b : Int32, Vw X 187 [some (.ref 52), some (.int (nI d)), some (.int b), some (.int (bcL (mlraise (m0 σ) L n d 60) (mlraise (m0 σ) L n d 62) L d n)), some (.int (nI n))] [] (mbM (mlraise (m0 σ) L n d) L d n) := by
          intro hcv b
          rw [c60]
          have c19 : mbM (mlraise (m0 σ) L n d) L d n 52 19 = σ 52 19 := by
            show mlraise (m0 σ) L n d 52 19 = _
            unfold mlraise mlask
            rw [mu_np (by decide), mu_np (by decide), mu_ni (by decide), e19]
          refine V_aload_n (pc := 187) (i := 0) hX dX6_day_187 rfl rfl ?_
          refine V_dup (pc := 188) hX dX6_day_188 rfl ?_
          refine V_getf (pc := 189) hX fX6_158 dX6_day_189 rfl rfl ?_
          refine V_iload_n (pc := 192) (i := 3) hX dX6_day_192 rfl rfl ?_
          refine V_iadd (pc := 193) hX dX6_day_193 ?_
          refine V_putf (pc := 194) hX fX6_158 gi6_19 dX6_day_194 rfl rfl ?_
          refine V_iload_n (pc := 197) (i := 3) hX dX6_day_197 rfl rfl ?_
          exact V_iret (pc := 198) (st := []) hX hr rfl dX6_day_198 ⟨ev hcv, by
            rw [mdayM, h9, if_pos rfl, if_pos ⟨hn0, Int32.not_le.mp (fun q => Int32.not_le.mpr h27 q)⟩, td, mmeetLM, e63, hcv, c19, e60, e19]; rfl⟩
        refine V_aload_n (pc := 45) (i := 0) hX dX6_day_45 rfl rfl ?_
        refine V_iload_n (pc := 46) (i := 1) hX dX6_day_46 rfl rfl ?_
        refine V_callVi (pc := 47) hX (hR.mono (by omega)) mX6_152 (c_mcovered n d L _ b12 bL hn4 hd) dX6_day_47 rfl rfl rfl rfl (Nat.le_of_ble_eq_true rfl) ?_
        rw [b63]
        refine V_if_eqB (pc := 50) (tgt := 55) hX dX6_day_50 (by decide) (fun h50 => ?_) (fun h50 => ?_)
        · refine V_ldc (pc := 55) hX kX6_107 dX6_day_55 ?_
          refine V_istore2 (pc := 57) hX dX6_day_57 rfl ?_
          refine V_iconst (pc := 58) (v := (nI 0)) hX dX6_day_58 (by decide +kernel) ?_
          refine V_istore3 (pc := 59) hX dX6_day_59 rfl ?_
          refine l_mday1 (z := none) hX hR hr rfl b12 bL hn4 hd (fun z hz => ?_) 0 (Nat.zero_le _)
          refine V_aload_n (pc := 107) (i := 0) hX dX6_day_107 rfl rfl ?_
          refine V_getr (pc := 108) hX fX6_38 dX6_day_108 rfl rfl ?_
          refine V_iload_n (pc := 111) (i := 1) hX dX6_day_111 rfl rfl ?_
          refine V_iload_n (pc := 112) (i := 2) hX dX6_day_112 rfl rfl ?_
          refine V_iast (pc := 113) hX dX6_day_113 (rfl) (rfl) (by omega) (by decide) ?_
          refine Vw.mem (σ' := mlraise (m0 σ) L n d) (by unfold mlraise; rw [b60, b62, e60, e62]) ?_
          refine V_iconst (pc := 114) (v := (nI 0)) hX dX6_day_114 (by decide +kernel) ?_
          refine V_istore3 (pc := 115) hX dX6_day_115 hz ?_
          refine V_iconst (pc := 116) (v := (nI 0)) hX dX6_day_116 (by decide +kernel) ?_
          refine V_istore4 (pc := 117) hX dX6_day_117 hz ?_
          refine Vw.mem (show mbM (mlraise (m0 σ) L n d) L d 0 = _ from mf_id _ _) ?_
          exact l_mday2 hX hR hr c12 cL hn4 hd (k187 h50 _) 0 (Nat.zero_le _)
        · refine V_iconst (pc := 53) (v := (nI 0)) hX dX6_day_53 (by decide +kernel) ?_
          exact V_iret (pc := 54) (st := []) hX hr (by first | rfl | exact bI_nar _ | decide +kernel) dX6_day_54 (⟨by rw [mdayV, h9, if_pos rfl, if_pos ⟨hn0, h27⟩, td, mmeetLV, h50]; rfl, by rw [mdayM, h9, if_pos rfl, if_pos ⟨hn0, h27⟩, td, mmeetLM, e63, h50]; rfl⟩)
      · refine V_ldc (pc := 30) hX kX6_103 dX6_day_30 ?_
        exact V_iret (pc := 32) (st := []) hX hr (by first | rfl | exact bI_nar _ | decide +kernel) dX6_day_32 (⟨by rw [mdayV, h9, if_pos rfl, if_neg (fun q => h27 q.2)], by rw [mdayM, h9, if_pos rfl, if_neg (fun q => h27 q.2)]⟩)
  · refine V_ldc (pc := 12) hX kX6_85 dX6_day_12 ?_
    exact V_iret (pc := 14) (st := []) hX hr (by first | rfl | exact bI_nar _ | decide +kernel) dX6_day_14 (⟨by rw [mdayV, h9]; rfl, by rw [mdayM, h9]; rfl⟩)
set_option maxRecDepth 100000 in
set_option maxHeartbeats 4000000 in
theorem c_mcov (n : Nat) (L : Nat → Nat) (x : Int32) (σ : Mem) (hn : σ 52 12 = nI n) (hL : lok σ 59 n L) (hn4 : n ≤ 4) : Cc yX6_covered cX6_covered 2 (some .int) 2 [.ref 52, .int x] σ (rI (coveredF (fun d => covf (σ 63) L d n) x) (m0 σ)) := by
  refine Cc.intro (by decide +kernel) [some (.ref 52), some (.int x)] (fun _ => rfl) rfl (fun _ => Nat.le_of_ble_eq_true rfl) ?_
  intro X hX hR hr
  have a12 : m0 σ 52 12 = nI n := by rw [m0_c (by decide)]; exact hn
  have aL : lok (m0 σ) 59 n L := fun j hj => by rw [m0_r (by decide)]; exact hL j hj
  have a63 : m0 σ 63 = σ 63 := m0_r (by decide)
  refine V_aload_n (pc := 0) (i := 0) hX dX6_covered_0 rfl rfl ?_
  refine V_iconst (pc := 1) (v := (nI 0)) hX dX6_covered_1 (by decide +kernel) ?_
  refine V_putf (pc := 2) hX fX6_66 gi6_0 dX6_covered_2 rfl rfl ?_
  refine Vw.mem (rfl : m0 σ = _) ?_
  refine V_iload_n (pc := 5) (i := 1) hX dX6_covered_5 rfl rfl ?_
  refine V_callSi (pc := 6) hX (hR.mono (by omega)) mX6_149 (c_misDay _ _) dX6_covered_6 rfl rfl rfl (Nat.le_of_ble_eq_true rfl) ?_
  refine V_if_neB (pc := 9) (tgt := 17) hX dX6_covered_9 (by decide) (fun h9 => ?_) (fun h9 => ?_)
  · obtain ⟨d, hd, rfl⟩ := inr_of h9 (by decide)
    have td : tn (nI d) = d := tn_nI (by omega)
    refine V_aload_n (pc := 17) (i := 0) hX dX6_covered_17 rfl rfl ?_
    refine V_iload_n (pc := 18) (i := 1) hX dX6_covered_18 rfl rfl ?_
    refine V_callVi (pc := 19) hX (hR.mono (by omega)) mX6_152 (c_mcovered n d L _ a12 aL hn4 hd) dX6_covered_19 rfl rfl rfl rfl (Nat.le_of_ble_eq_true rfl) ?_
    rw [a63]
    refine V_if_eqB (pc := 22) (tgt := 29) hX dX6_covered_22 (by decide) (fun h22 => ?_) (fun h22 => ?_)
    · refine V_iconst (pc := 29) (v := (nI 0)) hX dX6_covered_29 (by decide +kernel) ?_
      exact V_iret (pc := 30) (st := []) hX hr (by first | rfl | exact bI_nar _ | decide +kernel) dX6_covered_30 (⟨by rw [coveredF, h9, if_pos rfl, td, h22]; rfl, rfl⟩)
    · refine V_iconst (pc := 25) (v := (nI 1)) hX dX6_covered_25 (by decide +kernel) ?_
      refine V_goto (pc := 26) (tgt := 30) hX dX6_covered_26 (by decide) ?_
      exact V_iret (pc := 30) (st := []) hX hr (by first | rfl | exact bI_nar _ | decide +kernel) dX6_covered_30 (⟨by rw [coveredF, h9, if_pos rfl, td, h22]; rfl, rfl⟩)
  · refine V_ldc (pc := 12) hX kX6_85 dX6_covered_12 ?_
    refine V_goto (pc := 14) (tgt := 30) hX dX6_covered_14 (by decide) ?_
    exact V_iret (pc := 30) (st := []) hX hr (by first | rfl | exact bI_nar _ | decide +kernel) dX6_covered_30 (⟨by rw [coveredF, h9]; rfl, rfl⟩)

