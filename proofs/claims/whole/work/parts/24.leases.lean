/-! ===== LEASES, the class's: 20 lengths, 21 costs, 22 prices, 23 asked, 24 boughtFrom, 25 open; 3: 6 count, 7 lastDay, 8 daysAsked, 9 spansBought, 10 paid ===== -/
/-- the first day of a span -/
def fo (L d : Nat) : Nat := d - d % L
theorem fo_le (L d : Nat) : fo L d ≤ d := Nat.sub_le _ _
/-- the prices of the days a .. a + j (below 128), added -/
def ps (pr : Nat → Int32) (a : Nat) : Nat → Int32
  | 0 => nI 0
  | j + 1 => if a + j < 128 then ps pr a j + pr (a + j) else ps pr a j
theorem ps_stop (pr : Nat → Int32) (a j : Nat) (h : 128 ≤ a + j) : ∀ m, ps pr a (j + m) = ps pr a j
  | 0 => rfl
  | m + 1 => by
    rw [show j + (m + 1) = (j + m) + 1 from rfl, ps, if_neg (by omega), ps_stop pr a j h m]
def lok (σ : Mem) (p : Nat) (n : Nat) (L : Nat → Nat) : Prop := ∀ k, k < n → σ p k = nI (L k) ∧ 1 ≤ L k ∧ L k ≤ 64
set_option maxRecDepth 100000 in
set_option maxHeartbeats 4000000 in
theorem l_pricesOfD {a b : Nat} {X : XC} {P : Option Value → Mem → Prop} {σ : Mem} (hX : Cok X RX1 cX1_pricesOf 5) (hR : Rok X 0) (hr : Ret X (some .int) P) (ha : a ≤ b) (hb : b < 1000) (hp : P (some (.int (ps (σ 22) a (b - a)))) σ) (k : Nat) (hk : a + k ≤ b) (hk2 : a + k ≤ 128) : Vw X 5 [some (.ref 3), some (.int (nI a)), some (.int (nI b)), some (.int (ps (σ 22) a k)), some (.int (nI (a + k)))] [] σ := by
  refine V_iload (pc := 5) (i := 4) hX dX1_pricesOf_5 rfl ?_
  refine V_iload_n (pc := 7) (i := 2) hX dX1_pricesOf_7 rfl rfl ?_
  refine V_icmp_geN (pc := 8) (tgt := 35) hX dX1_pricesOf_8 (by decide) (by omega) (by omega) (fun h8 => ?_) (fun h8 => ?_)
  · refine V_iload_n (pc := 35) (i := 3) hX dX1_pricesOf_35 rfl rfl ?_
    exact V_iret (pc := 36) (st := []) hX hr (by first | rfl | exact bI_nar _ | decide +kernel) dX1_pricesOf_36 (by rw [show k = b - a by omega]; exact hp)
  · refine V_iload (pc := 11) (i := 4) hX dX1_pricesOf_11 rfl ?_
    refine V_sipush (pc := 13) (v := (nI 128)) hX dX1_pricesOf_13 (by decide +kernel) ?_
    refine V_icmp_geN (pc := 16) (tgt := 35) hX dX1_pricesOf_16 (by decide) (by omega) (by omega) (fun h16 => ?_) (fun h16 => ?_)
    · refine V_iload_n (pc := 35) (i := 3) hX dX1_pricesOf_35 rfl rfl ?_
      exact V_iret (pc := 36) (st := []) hX hr (by first | rfl | exact bI_nar _ | decide +kernel) dX1_pricesOf_36 (by rw [← ps_stop (σ 22) a k (by omega) (b - a - k), show k + (b - a - k) = b - a by omega]; exact hp)
    · refine V_iload_n (pc := 19) (i := 3) hX dX1_pricesOf_19 rfl rfl ?_
      refine V_aload_n (pc := 20) (i := 0) hX dX1_pricesOf_20 rfl rfl ?_
      refine V_getr (pc := 21) hX fX1_18 dX1_pricesOf_21 rfl rfl ?_
      refine V_iload (pc := 24) (i := 4) hX dX1_pricesOf_24 rfl ?_
      refine V_iald (pc := 26) hX dX1_pricesOf_26 (rfl) (rfl) (by omega) (by decide) ?_
      refine V_iadd (pc := 27) hX dX1_pricesOf_27 ?_
      refine V_istore3 (pc := 28) hX dX1_pricesOf_28 rfl ?_
      refine V_iinc4 (pc := 29) hX dX1_pricesOf_29 rfl (iinc1 _) ?_
      refine V_goto (pc := 32) (tgt := 5) hX dX1_pricesOf_32 (by decide) ?_
      have ih := l_pricesOfD hX hR hr ha hb hp (k + 1) (by omega) (by omega)
      rw [ps, if_pos (by omega)] at ih
      exact ih
termination_by b - (a + k)
set_option maxRecDepth 100000 in
set_option maxHeartbeats 4000000 in
theorem c_pricesOfD (a b : Nat) (σ : Mem) (ha : a ≤ b) (ha2 : a ≤ 128) (hb : b < 1000) : Cc yX1_pricesOf cX1_pricesOf 5 (some .int) 0 [.ref 3, .int (nI a), .int (nI b)] σ (rI (ps (σ 22) a (b - a)) σ) := by
  refine Cc.intro (by decide +kernel) [some (.ref 3), some (.int (nI a)), some (.int (nI b)), none, none] (fun _ => rfl) rfl (fun _ => Nat.le_of_ble_eq_true rfl) ?_
  intro X hX hR hr
  refine V_iconst (pc := 0) (v := (nI 0)) hX dX1_pricesOf_0 (by decide +kernel) ?_
  refine V_istore3 (pc := 1) hX dX1_pricesOf_1 rfl ?_
  refine V_iload_n (pc := 2) (i := 1) hX dX1_pricesOf_2 rfl rfl ?_
  refine V_istore4 (pc := 3) hX dX1_pricesOf_3 rfl ?_
  exact l_pricesOfD hX hR hr ha hb ⟨rfl, rfl⟩ 0 (by omega) (by omega)
set_option maxRecDepth 100000 in
set_option maxHeartbeats 4000000 in
theorem c_start (n k d : Nat) (L : Nat → Nat) (σ : Mem) (hL : lok σ 20 n L) (hn4 : n ≤ 4) (hk : k < n) (hd : d < 128) : Cc yX1_start cX1_start 4 (some .int) 0 [.ref 3, .int (nI k), .int (nI d)] σ (rI (nI (fo (L k) d)) σ) := by
  refine Cc.intro (by decide +kernel) [some (.ref 3), some (.int (nI k)), some (.int (nI d)), none] (fun _ => rfl) rfl (fun _ => Nat.le_of_ble_eq_true rfl) ?_
  intro X hX hR hr
  obtain ⟨e, l1, l2⟩ := hL k hk
  refine V_aload_n (pc := 0) (i := 0) hX dX1_start_0 rfl rfl ?_
  refine V_getr (pc := 1) hX fX1_9 dX1_start_1 rfl rfl ?_
  refine V_iload_n (pc := 4) (i := 1) hX dX1_start_4 rfl rfl ?_
  refine V_iald (pc := 5) hX dX1_start_5 (rfl) (rfl) (by omega) (by decide) ?_
  rw [e]
  refine V_istore3 (pc := 6) hX dX1_start_6 rfl ?_
  refine V_iload_n (pc := 7) (i := 3) hX dX1_start_7 rfl rfl ?_
  refine V_if_le (pc := 8) (tgt := 19) hX dX1_start_8 (by decide) (fun h8 => absurd h8 (nI_nle (by omega) (by omega))) (fun h8 => ?_)
  refine V_iload_n (pc := 11) (i := 2) hX dX1_start_11 rfl rfl ?_
  refine V_iload_n (pc := 12) (i := 2) hX dX1_start_12 rfl rfl ?_
  refine V_iload_n (pc := 13) (i := 3) hX dX1_start_13 rfl rfl ?_
  refine V_irem (pc := 14) hX dX1_start_14 (nI_ne0 (by omega) (by omega)) ?_
  rw [pk_rem (by omega) (by omega) (by omega)]
  refine V_isub (pc := 15) hX dX1_start_15 ?_
  rw [pk_sub (Nat.mod_le _ _)]
  refine V_goto (pc := 16) (tgt := 20) hX dX1_start_16 (by decide) ?_
  exact V_iret (pc := 20) (st := []) hX hr (by first | rfl | exact bI_nar _ | decide +kernel) dX1_start_20 (⟨rfl, rfl⟩)
set_option maxRecDepth 100000 in
set_option maxHeartbeats 4000000 in
theorem c_filledL (n k d : Nat) (L : Nat → Nat) (σ : Mem) (hL : lok σ 20 n L) (hn4 : n ≤ 4) (hk : k < n) (hd : d < 128) : Cc yX1_filled cX1_filled 4 (some .int) 1 [.ref 3, .int (nI k), .int (nI d)] σ (rI (ps (σ 22) (fo (L k) d) (L k)) σ) := by
  refine Cc.intro (by decide +kernel) [some (.ref 3), some (.int (nI k)), some (.int (nI d)), none] (fun _ => rfl) rfl (fun _ => Nat.le_of_ble_eq_true rfl) ?_
  intro X hX hR hr
  obtain ⟨e, l1, l2⟩ := hL k hk
  have hf := fo_le (L k) d
  have hc := c_pricesOfD (fo (L k) d) (fo (L k) d + L k) σ (by omega) (by omega) (by omega)
  rw [Nat.add_sub_cancel_left] at hc
  refine V_aload_n (pc := 0) (i := 0) hX dX1_filled_0 rfl rfl ?_
  refine V_iload_n (pc := 1) (i := 1) hX dX1_filled_1 rfl rfl ?_
  refine V_iload_n (pc := 2) (i := 2) hX dX1_filled_2 rfl rfl ?_
  refine V_callVi (pc := 3) hX (hR.mono (by omega)) mX1_59 (c_start n k d L _ hL hn4 hk hd) dX1_filled_3 rfl rfl rfl rfl (Nat.le_of_ble_eq_true rfl) ?_
  refine V_istore3 (pc := 6) hX dX1_filled_6 rfl ?_
  refine V_aload_n (pc := 7) (i := 0) hX dX1_filled_7 rfl rfl ?_
  refine V_iload_n (pc := 8) (i := 3) hX dX1_filled_8 rfl rfl ?_
  refine V_iload_n (pc := 9) (i := 3) hX dX1_filled_9 rfl rfl ?_
  refine V_aload_n (pc := 10) (i := 0) hX dX1_filled_10 rfl rfl ?_
  refine V_getr (pc := 11) hX fX1_9 dX1_filled_11 rfl rfl ?_
  refine V_iload_n (pc := 14) (i := 1) hX dX1_filled_14 rfl rfl ?_
  refine V_iald (pc := 15) hX dX1_filled_15 (rfl) (rfl) (by omega) (by decide) ?_
  rw [e]
  refine V_iadd (pc := 16) hX dX1_filled_16 ?_
  rw [nI_add]
  refine V_callVi (pc := 17) hX (hR.mono (by omega)) mX1_77 (hc) dX1_filled_17 rfl rfl rfl rfl (Nat.le_of_ble_eq_true rfl) ?_
  exact V_iret (pc := 20) (st := []) hX hr (by first | rfl | exact bI_nar _ | decide +kernel) dX1_filled_20 (⟨rfl, rfl⟩)
def metf (bf : Nat → Int32) (L : Nat → Nat) (d : Nat) : Nat → Bool
  | 0 => false
  | k + 1 => metf bf L d k || bt (bf (fo (L k) d)) k
set_option maxRecDepth 100000 in
set_option maxHeartbeats 4000000 in
theorem l_isMet {n d : Nat} {L : Nat → Nat} {z : Option Value} {X : XC} {P : Option Value → Mem → Prop} {σ : Mem} (hX : Cok X RX1 cX1_isMet 3) (hR : Rok X 1) (hr : Ret X (some .boolean) P) (hn : σ 3 6 = nI n) (hL : lok σ 20 n L) (hn4 : n ≤ 4) (hd : d < 128) (hp : P (some (.int (bI (metf (σ 24) L d n)))) σ) (k : Nat) (hk : k ≤ n) (hm : metf (σ 24) L d k = false) : Vw X 2 [some (.ref 3), some (.int (nI d)), some (.int (nI k))] [] σ := by
  have hmono : ∀ j, k + 1 ≤ j → metf (σ 24) L d (k + 1) = true → metf (σ 24) L d j = true := by
    intro j hj h
    induction j with
    | zero => omega
    | succ j ih =>
      rcases Nat.eq_or_lt_of_le hj with e | e
      · rw [← e]; exact h
      · rw [metf, ih (by omega), Bool.true_or]
  refine V_iload_n (pc := 2) (i := 2) hX dX1_isMet_2 rfl rfl ?_
  refine V_aload_n (pc := 3) (i := 0) hX dX1_isMet_3 rfl rfl ?_
  refine V_getf (pc := 4) hX fX1_35 dX1_isMet_4 rfl rfl ?_
  rw [hn]
  refine V_icmp_geN (pc := 7) (tgt := 36) hX dX1_isMet_7 (by decide) (by omega) (by omega) (fun h7 => ?_) (fun h7 => ?_)
  · refine V_iconst (pc := 36) (v := (nI 0)) hX dX1_isMet_36 (by decide +kernel) ?_
    exact V_iret (pc := 37) (st := []) hX hr (by first | rfl | exact bI_nar _ | decide +kernel) dX1_isMet_37 (by
  obtain rfl : k = n := by omega
  rw [hm] at hp
  exact hp)
  · refine V_aload_n (pc := 10) (i := 0) hX dX1_isMet_10 rfl rfl ?_
    refine V_getr (pc := 11) hX fX1_25 dX1_isMet_11 rfl rfl ?_
    refine V_aload_n (pc := 14) (i := 0) hX dX1_isMet_14 rfl rfl ?_
    refine V_iload_n (pc := 15) (i := 2) hX dX1_isMet_15 rfl rfl ?_
    refine V_iload_n (pc := 16) (i := 1) hX dX1_isMet_16 rfl rfl ?_
    refine V_callVi (pc := 17) hX (hR.mono (by omega)) mX1_59 (c_start n k d L _ hL hn4 h7 hd) dX1_isMet_17 rfl rfl rfl rfl (Nat.le_of_ble_eq_true rfl) ?_
    have hf := fo_le (L k) d
    refine V_iald (pc := 20) hX dX1_isMet_20 (rfl) (rfl) (by omega) (by decide) ?_
    refine V_iload_n (pc := 21) (i := 2) hX dX1_isMet_21 rfl rfl ?_
    refine V_callSi (pc := 22) hX (hR.mono (by omega)) mX1_63 (c_holds _ _ (by omega) _) dX1_isMet_22 rfl rfl rfl (Nat.le_of_ble_eq_true rfl) ?_
    refine V_if_eqB (pc := 25) (tgt := 30) hX dX1_isMet_25 (by decide) (fun h25 => ?_) (fun h25 => ?_)
    · refine V_iinc2 (pc := 30) hX dX1_isMet_30 rfl (iinc1 _) ?_
      refine V_goto (pc := 33) (tgt := 2) hX dX1_isMet_33 (by decide) ?_
      exact l_isMet (z := z) hX hR hr hn hL hn4 hd hp (k + 1) (by omega) (by rw [metf, hm, h25]; rfl)
    · refine V_iconst (pc := 28) (v := (nI 1)) hX dX1_isMet_28 (by decide +kernel) ?_
      exact V_iret (pc := 29) (st := []) hX hr (by first | rfl | exact bI_nar _ | decide +kernel) dX1_isMet_29 (by
  rw [hmono n (by omega) (by rw [metf, h25, Bool.or_true])] at hp
  exact hp)
termination_by n - k
set_option maxRecDepth 100000 in
set_option maxHeartbeats 4000000 in
theorem c_isMet (n d : Nat) (L : Nat → Nat) (σ : Mem) (hn : σ 3 6 = nI n) (hL : lok σ 20 n L) (hn4 : n ≤ 4) (hd : d < 128) : Cc yX1_isMet cX1_isMet 3 (some .boolean) 1 [.ref 3, .int (nI d)] σ (rI (bI (metf (σ 24) L d n)) σ) := by
  refine Cc.intro (by decide +kernel) [some (.ref 3), some (.int (nI d)), none] (fun _ => rfl) rfl (fun _ => Nat.le_of_ble_eq_true rfl) ?_
  intro X hX hR hr
  refine V_iconst (pc := 0) (v := (nI 0)) hX dX1_isMet_0 (by decide +kernel) ?_
  refine V_istore2 (pc := 1) hX dX1_isMet_1 rfl ?_
  exact l_isMet (z := none) hX hR hr hn hL hn4 hd ⟨rfl, rfl⟩ 0 (by omega) rfl
def lgL (c : Nat → Int32) (pr : Nat → Int32) (L : Nat → Nat) (d : Nat) : Nat → Int32
  | 0 => nI 1000
  | k + 1 => imin (lgL c pr L d k) (c k - ps pr (fo (L k) d) (L k))
set_option maxRecDepth 100000 in
set_option maxHeartbeats 4000000 in
theorem l_leastGapL {n d : Nat} {L : Nat → Nat} {X : XC} {P : Option Value → Mem → Prop} {σ : Mem} (hX : Cok X RX1 cX1_leastGap 4) (hR : Rok X 2) (hr : Ret X (some .int) P) (hn : σ 3 6 = nI n) (hL : lok σ 20 n L) (hn4 : n ≤ 4) (hd : d < 128) (hp : P (some (.int (lgL (σ 21) (σ 22) L d n))) σ) (k : Nat) (hk : k ≤ n) : Vw X 6 [some (.ref 3), some (.int (nI d)), some (.int (lgL (σ 21) (σ 22) L d k)), some (.int (nI k))] [] σ := by
  refine V_iload_n (pc := 6) (i := 3) hX dX1_leastGap_6 rfl rfl ?_
  refine V_aload_n (pc := 7) (i := 0) hX dX1_leastGap_7 rfl rfl ?_
  refine V_getf (pc := 8) hX fX1_35 dX1_leastGap_8 rfl rfl ?_
  rw [hn]
  refine V_icmp_geN (pc := 11) (tgt := 38) hX dX1_leastGap_11 (by decide) (by omega) (by omega) (fun h11 => ?_) (fun h11 => ?_)
  · obtain rfl : k = n := by omega
    refine V_iload_n (pc := 38) (i := 2) hX dX1_leastGap_38 rfl rfl ?_
    exact V_iret (pc := 39) (st := []) hX hr (by first | rfl | exact bI_nar _ | decide +kernel) dX1_leastGap_39 (hp)
  · refine V_iload_n (pc := 14) (i := 2) hX dX1_leastGap_14 rfl rfl ?_
    refine V_aload_n (pc := 15) (i := 0) hX dX1_leastGap_15 rfl rfl ?_
    refine V_getr (pc := 16) hX fX1_15 dX1_leastGap_16 rfl rfl ?_
    refine V_iload_n (pc := 19) (i := 3) hX dX1_leastGap_19 rfl rfl ?_
    refine V_iald (pc := 20) hX dX1_leastGap_20 (rfl) (rfl) (by omega) (by decide) ?_
    refine V_aload_n (pc := 21) (i := 0) hX dX1_leastGap_21 rfl rfl ?_
    refine V_iload_n (pc := 22) (i := 3) hX dX1_leastGap_22 rfl rfl ?_
    refine V_iload_n (pc := 23) (i := 1) hX dX1_leastGap_23 rfl rfl ?_
    refine V_callVi (pc := 24) hX (hR.mono (by omega)) mX1_66 (c_filledL n k d L _ hL hn4 h11 hd) dX1_leastGap_24 rfl rfl rfl rfl (Nat.le_of_ble_eq_true rfl) ?_
    refine V_isub (pc := 27) hX dX1_leastGap_27 ?_
    refine V_mmin (pc := 28) hX (hR.mono (by omega)) mX1_69 dX1_leastGap_28 rfl (Nat.le_of_ble_eq_true rfl) ?_
    refine V_istore2 (pc := 31) hX dX1_leastGap_31 rfl ?_
    refine V_iinc3 (pc := 32) hX dX1_leastGap_32 rfl (iinc1 _) ?_
    refine V_goto (pc := 35) (tgt := 6) hX dX1_leastGap_35 (by decide) ?_
    have ih := l_leastGapL hX hR hr hn hL hn4 hd hp (k + 1) (by omega)
    rw [lgL] at ih
    exact ih
termination_by n - k
set_option maxRecDepth 100000 in
set_option maxHeartbeats 4000000 in
theorem c_leastGapL (n d : Nat) (L : Nat → Nat) (σ : Mem) (hn : σ 3 6 = nI n) (hL : lok σ 20 n L) (hn4 : n ≤ 4) (hd : d < 128) : Cc yX1_leastGap cX1_leastGap 4 (some .int) 2 [.ref 3, .int (nI d)] σ (rI (lgL (σ 21) (σ 22) L d n) σ) := by
  refine Cc.intro (by decide +kernel) [some (.ref 3), some (.int (nI d)), none, none] (fun _ => rfl) rfl (fun _ => Nat.le_of_ble_eq_true rfl) ?_
  intro X hX hR hr
  refine V_sipush (pc := 0) (v := (nI 1000)) hX dX1_leastGap_0 (by decide +kernel) ?_
  refine V_istore2 (pc := 3) hX dX1_leastGap_3 rfl ?_
  refine V_iconst (pc := 4) (v := (nI 0)) hX dX1_leastGap_4 (by decide +kernel) ?_
  refine V_istore3 (pc := 5) hX dX1_leastGap_5 rfl ?_
  exact l_leastGapL hX hR hr hn hL hn4 hd ⟨rfl, rfl⟩ 0 (by omega)
def tiL (c : Nat → Int32) (pr : Nat → Int32) (L : Nat → Nat) (d k : Nat) : Bool := decide (ps pr (fo (L k) d) (L k) = c k)
def bfF (c : Nat → Int32) (pr : Nat → Int32) (L : Nat → Nat) (d : Nat) (bf : Nat → Int32) : Nat → Nat → Int32
  | 0 => bf
  | k + 1 => if tiL c pr L d k then upd (bfF c pr L d bf k) (fo (L k) d) (bfF c pr L d bf k (fo (L k) d) ||| (nI 1 <<< (nI k &&& 31))) else bfF c pr L d bf k
def spF (c : Nat → Int32) (pr : Nat → Int32) (L : Nat → Nat) (d : Nat) (s : Int32) : Nat → Int32
  | 0 => s
  | k + 1 => if tiL c pr L d k then spF c pr L d s k + nI 1 else spF c pr L d s k
def bcL (c : Nat → Int32) (pr : Nat → Int32) (L : Nat → Nat) (d : Nat) : Nat → Int32
  | 0 => nI 0
  | k + 1 => if tiL c pr L d k then bcL c pr L d k + c k else bcL c pr L d k
def mbL (σ : Mem) (L : Nat → Nat) (d k : Nat) : Mem := mu (mf σ 24 (bfF (σ 21) (σ 22) L d (σ 24) k)) 3 9 (spF (σ 21) (σ 22) L d (σ 3 9) k)
theorem mbL_0 (σ : Mem) (L : Nat → Nat) (d : Nat) : mbL σ L d 0 = σ := by
  unfold mbL bfF spF
  rw [mf_id]
  exact mu_self σ 3 9
theorem mbL_r {σ : Mem} {L : Nat → Nat} {d k q : Nat} (h : q ≠ 3) (h2 : q ≠ 24) : mbL σ L d k q = σ q := by
  unfold mbL
  rw [← mu_ne h, ← mf_ne h2]
theorem mbL_c {σ : Mem} {L : Nat → Nat} {d k j : Nat} (h : j ≠ 9) : mbL σ L d k 3 j = σ 3 j := by
  unfold mbL
  rw [mu_ni h, ← mf_ne (by decide)]
theorem mbL_24 {σ : Mem} {L : Nat → Nat} {d k : Nat} : mbL σ L d k 24 = bfF (σ 21) (σ 22) L d (σ 24) k := by
  unfold mbL
  rw [← mu_ne (by decide), mf_row]
theorem mbL_9 {σ : Mem} {L : Nat → Nat} {d k : Nat} : mbL σ L d k 3 9 = spF (σ 21) (σ 22) L d (σ 3 9) k := mu_at
theorem mbL_t {σ : Mem} {L : Nat → Nat} {d k : Nat} (h : tiL (σ 21) (σ 22) L d k = true) : mbL σ L d (k + 1) = mu (mu (mbL σ L d k) 24 (fo (L k) d) (mbL σ L d k 24 (fo (L k) d) ||| (nI 1 <<< (nI k &&& 31)))) 3 9 (mbL σ L d k 3 9 + nI 1) := by
  rw [mbL_24, mbL_9]
  unfold mbL
  simp only [bfF, spF, h, ↓reduceIte]
  rw [mu_comm _ _ _ (fun q => absurd q.1 (by decide)), mu_mu, mu_comm _ _ _ (fun q => absurd q.1 (by decide)), mf_mu]
theorem mbL_f {σ : Mem} {L : Nat → Nat} {d k : Nat} (h : tiL (σ 21) (σ 22) L d k = false) : mbL σ L d (k + 1) = mbL σ L d k := by
  unfold mbL
  simp only [bfF, spF, h, Bool.false_eq_true, ↓reduceIte]
set_option maxRecDepth 100000 in
set_option maxHeartbeats 4000000 in
theorem l_buyTightL {n d : Nat} {L : Nat → Nat} {X : XC} {P : Option Value → Mem → Prop} {σ : Mem} (hX : Cok X RX1 cX1_buyTight 4) (hR : Rok X 2) (hr : Ret X (some .int) P) (hn : σ 3 6 = nI n) (hL : lok σ 20 n L) (hn4 : n ≤ 4) (hd : d < 128) (hp : P (some (.int (bcL (σ 21) (σ 22) L d n))) (mbL σ L d n)) (k : Nat) (hk : k ≤ n) : Vw X 4 [some (.ref 3), some (.int (nI d)), some (.int (bcL (σ 21) (σ 22) L d k)), some (.int (nI k))] [] (mbL σ L d k) := by
  have r20 : mbL σ L d k 20 = σ 20 := mbL_r (by decide) (by decide)
  have r21 : mbL σ L d k 21 = σ 21 := mbL_r (by decide) (by decide)
  have r22 : mbL σ L d k 22 = σ 22 := mbL_r (by decide) (by decide)
  have r6 : mbL σ L d k 3 6 = nI n := by rw [mbL_c (by decide)]; exact hn
  have hL2 : lok (mbL σ L d k) 20 n L := fun j hj => by rw [r20]; exact hL j hj
  have hf := fo_le (L k) d
  refine V_iload_n (pc := 4) (i := 3) hX dX1_buyTight_4 rfl rfl ?_
  refine V_aload_n (pc := 5) (i := 0) hX dX1_buyTight_5 rfl rfl ?_
  refine V_getf (pc := 6) hX fX1_35 dX1_buyTight_6 rfl rfl ?_
  rw [r6]
  refine V_icmp_geN (pc := 9) (tgt := 69) hX dX1_buyTight_9 (by decide) (by omega) (by omega) (fun h9 => ?_) (fun h9 => ?_)
  · obtain rfl : k = n := by omega
    refine V_iload_n (pc := 69) (i := 2) hX dX1_buyTight_69 rfl rfl ?_
    exact V_iret (pc := 70) (st := []) hX hr (by first | rfl | exact bI_nar _ | decide +kernel) dX1_buyTight_70 (hp)
  · refine V_aload_n (pc := 12) (i := 0) hX dX1_buyTight_12 rfl rfl ?_
    refine V_iload_n (pc := 13) (i := 3) hX dX1_buyTight_13 rfl rfl ?_
    refine V_iload_n (pc := 14) (i := 1) hX dX1_buyTight_14 rfl rfl ?_
    refine V_callVi (pc := 15) hX (hR.mono (by omega)) mX1_66 (c_filledL n k d L _ hL2 hn4 h9 hd) dX1_buyTight_15 rfl rfl rfl rfl (Nat.le_of_ble_eq_true rfl) ?_
    refine V_aload_n (pc := 18) (i := 0) hX dX1_buyTight_18 rfl rfl ?_
    refine V_getr (pc := 19) hX fX1_15 dX1_buyTight_19 rfl rfl ?_
    refine V_iload_n (pc := 22) (i := 3) hX dX1_buyTight_22 rfl rfl ?_
    refine V_iald (pc := 23) hX dX1_buyTight_23 (rfl) (rfl) (by omega) (by decide) ?_
    refine V_icmp_ne (pc := 24) (tgt := 63) hX dX1_buyTight_24 (by decide) (fun h24 => ?_) (fun h24 => ?_)
    · refine V_iinc3 (pc := 63) hX dX1_buyTight_63 rfl (iinc1 _) ?_
      refine V_goto (pc := 66) (tgt := 4) hX dX1_buyTight_66 (by decide) ?_
      have ih := l_buyTightL hX hR hr hn hL hn4 hd hp (k + 1) (by omega)
      rw [r21, r22] at h24
      have ht : tiL (σ 21) (σ 22) L d k = false := decide_eq_false h24
      rw [mbL_f ht] at ih
      simp only [bcL, ht, Bool.false_eq_true, ↓reduceIte] at ih
      exact ih
    · refine V_aload_n (pc := 27) (i := 0) hX dX1_buyTight_27 rfl rfl ?_
      refine V_getr (pc := 28) hX fX1_25 dX1_buyTight_28 rfl rfl ?_
      refine V_aload_n (pc := 31) (i := 0) hX dX1_buyTight_31 rfl rfl ?_
      refine V_iload_n (pc := 32) (i := 3) hX dX1_buyTight_32 rfl rfl ?_
      refine V_iload_n (pc := 33) (i := 1) hX dX1_buyTight_33 rfl rfl ?_
      refine V_callVi (pc := 34) hX (hR.mono (by omega)) mX1_59 (c_start n k d L _ hL2 hn4 h9 hd) dX1_buyTight_34 rfl rfl rfl rfl (Nat.le_of_ble_eq_true rfl) ?_
      refine V_dup2 (pc := 37) hX dX1_buyTight_37 rfl rfl ?_
      refine V_iald (pc := 38) hX dX1_buyTight_38 (rfl) (rfl) (by omega) (by decide) ?_
      refine V_iconst (pc := 39) (v := (nI 1)) hX dX1_buyTight_39 (by decide +kernel) ?_
      refine V_iload_n (pc := 40) (i := 3) hX dX1_buyTight_40 rfl rfl ?_
      refine V_ishl (pc := 41) hX dX1_buyTight_41 ?_
      refine V_ior (pc := 42) hX dX1_buyTight_42 ?_
      refine V_iast (pc := 43) hX dX1_buyTight_43 (rfl) (rfl) (by omega) (by decide) ?_
      refine V_aload_n (pc := 44) (i := 0) hX dX1_buyTight_44 rfl rfl ?_
      refine V_dup (pc := 45) hX dX1_buyTight_45 rfl ?_
      refine V_getf (pc := 46) hX fX1_74 dX1_buyTight_46 rfl rfl ?_
      refine V_iconst (pc := 49) (v := (nI 1)) hX dX1_buyTight_49 (by decide +kernel) ?_
      refine V_iadd (pc := 50) hX dX1_buyTight_50 ?_
      refine V_putf (pc := 51) hX fX1_74 gi1_9 dX1_buyTight_51 rfl rfl ?_
      refine V_iload_n (pc := 54) (i := 2) hX dX1_buyTight_54 rfl rfl ?_
      refine V_aload_n (pc := 55) (i := 0) hX dX1_buyTight_55 rfl rfl ?_
      refine V_getr (pc := 56) hX fX1_15 dX1_buyTight_56 rfl rfl ?_
      refine V_iload_n (pc := 59) (i := 3) hX dX1_buyTight_59 rfl rfl ?_
      refine V_iald (pc := 60) hX dX1_buyTight_60 (rfl) (rfl) (by omega) (by decide) ?_
      refine V_iadd (pc := 61) hX dX1_buyTight_61 ?_
      refine V_istore2 (pc := 62) hX dX1_buyTight_62 rfl ?_
      refine V_iinc3 (pc := 63) hX dX1_buyTight_63 rfl (iinc1 _) ?_
      refine V_goto (pc := 66) (tgt := 4) hX dX1_buyTight_66 (by decide) ?_
      have ih := l_buyTightL hX hR hr hn hL hn4 hd hp (k + 1) (by omega)
      rw [r21, r22] at h24
      have ht : tiL (σ 21) (σ 22) L d k = true := decide_eq_true h24
      rw [mbL_t ht] at ih
      simp only [bcL, ht, ↓reduceIte] at ih
      simp only [mu_f, upd_at, r21, Nat.reduceEqDiff, ↓reduceIte]
      exact ih
termination_by n - k
set_option maxRecDepth 100000 in
set_option maxHeartbeats 4000000 in
theorem c_buyTightL (n d : Nat) (L : Nat → Nat) (σ : Mem) (hn : σ 3 6 = nI n) (hL : lok σ 20 n L) (hn4 : n ≤ 4) (hd : d < 128) : Cc yX1_buyTight cX1_buyTight 4 (some .int) 2 [.ref 3, .int (nI d)] σ (rI (bcL (σ 21) (σ 22) L d n) (mbL σ L d n)) := by
  refine Cc.intro (by decide +kernel) [some (.ref 3), some (.int (nI d)), none, none] (fun _ => rfl) rfl (fun _ => Nat.le_of_ble_eq_true rfl) ?_
  intro X hX hR hr
  refine V_iconst (pc := 0) (v := (nI 0)) hX dX1_buyTight_0 (by decide +kernel) ?_
  refine V_istore2 (pc := 1) hX dX1_buyTight_1 rfl ?_
  refine V_iconst (pc := 2) (v := (nI 0)) hX dX1_buyTight_2 (by decide +kernel) ?_
  refine V_istore3 (pc := 3) hX dX1_buyTight_3 rfl ?_
  refine Vw.mem (mbL_0 σ L d) ?_
  exact l_buyTightL hX hR hr hn hL hn4 hd ⟨rfl, rfl⟩ 0 (by omega)
/-- the memory when a day is asked for, ahead of the buying -/
def lask (σ : Mem) (d : Nat) : Mem := mu (mu (mu σ 23 d (nI 1)) 3 8 (σ 3 8 + nI 1)) 3 7 (nI d)
def lraise (σ : Mem) (L : Nat → Nat) (n d : Nat) : Mem := mu (lask σ d) 22 d (σ 22 d + lgL (σ 21) (σ 22) L d n)
def meetLV (σ : Mem) (L : Nat → Nat) (n d : Nat) : Int32 := if metf (σ 24) L d n then nI 0 else bcL (σ 21) (lraise σ L n d 22) L d n
def meetLM (σ : Mem) (L : Nat → Nat) (n d : Nat) : Mem := if metf (σ 24) L d n then lask σ d else mu (mbL (lraise σ L n d) L d n) 3 10 (σ 3 10 + bcL (σ 21) (lraise σ L n d 22) L d n)
theorem lask_r {σ : Mem} {d q : Nat} (h : q ≠ 3) (h2 : q ≠ 23) : lask σ d q = σ q := by
  unfold lask
  rw [← mu_ne h, ← mu_ne h, ← mu_ne h2]
theorem lask_c {σ : Mem} {d j : Nat} (h : j ≠ 7) (h2 : j ≠ 8) : lask σ d 3 j = σ 3 j := by
  unfold lask
  rw [mu_ni h, mu_ni h2, mu_np (by decide)]
set_option maxRecDepth 100000 in
set_option maxHeartbeats 4000000 in
theorem c_meetL (n d : Nat) (L : Nat → Nat) (σ : Mem) (hn : σ 3 6 = nI n) (hL : lok σ 20 n L) (hn4 : n ≤ 4) (hd : d < 128) : Cc yX1_meet cX1_meet 3 (some .int) 3 [.ref 3, .int (nI d)] σ (rI (meetLV σ L n d) (meetLM σ L n d)) := by
  refine Cc.intro (by decide +kernel) [some (.ref 3), some (.int (nI d)), none] (fun _ => rfl) rfl (fun _ => Nat.le_of_ble_eq_true rfl) ?_
  intro X hX hR hr
  have hn1 : lask σ d 3 6 = nI n := by rw [lask_c (by decide) (by decide)]; exact hn
  have a20 : lask σ d 20 = σ 20 := lask_r (by decide) (by decide)
  have a21 : lask σ d 21 = σ 21 := lask_r (by decide) (by decide)
  have a22 : lask σ d 22 = σ 22 := lask_r (by decide) (by decide)
  have a24 : lask σ d 24 = σ 24 := lask_r (by decide) (by decide)
  have hL1 : lok (lask σ d) 20 n L := fun j hj => by rw [a20]; exact hL j hj
  have b3 : lraise σ L n d 3 = lask σ d 3 := (mu_ne (by decide)).symm
  have b20 : lraise σ L n d 20 = σ 20 := by rw [← a20]; exact (mu_ne (by decide)).symm
  have b21 : lraise σ L n d 21 = σ 21 := by rw [← a21]; exact (mu_ne (by decide)).symm
  have hn2 : lraise σ L n d 3 6 = nI n := by rw [b3]; exact hn1
  have hL2 : lok (lraise σ L n d) 20 n L := fun j hj => by rw [b20]; exact hL j hj
  have b10 : mbL (lraise σ L n d) L d n 3 10 = σ 3 10 := by rw [mbL_c (by decide), b3, lask_c (by decide) (by decide)]
  refine V_aload_n (pc := 0) (i := 0) hX dX1_meet_0 rfl rfl ?_
  refine V_getr (pc := 1) hX fX1_21 dX1_meet_1 rfl rfl ?_
  refine V_iload_n (pc := 4) (i := 1) hX dX1_meet_4 rfl rfl ?_
  refine V_iconst (pc := 5) (v := (nI 1)) hX dX1_meet_5 (by decide +kernel) ?_
  refine V_zast (pc := 6) hX dX1_meet_6 (rfl) (rfl) (by omega) (by decide) (by decide +kernel) ?_
  refine V_aload_n (pc := 7) (i := 0) hX dX1_meet_7 rfl rfl ?_
  refine V_dup (pc := 8) hX dX1_meet_8 rfl ?_
  refine V_getf (pc := 9) hX fX1_42 dX1_meet_9 rfl rfl ?_
  refine V_iconst (pc := 12) (v := (nI 1)) hX dX1_meet_12 (by decide +kernel) ?_
  refine V_iadd (pc := 13) hX dX1_meet_13 ?_
  simp only [mu_f, upd_at, Nat.reduceEqDiff, ↓reduceIte]
  refine V_putf (pc := 14) hX fX1_42 gi1_8 dX1_meet_14 rfl rfl ?_
  refine V_aload_n (pc := 17) (i := 0) hX dX1_meet_17 rfl rfl ?_
  refine V_iload_n (pc := 18) (i := 1) hX dX1_meet_18 rfl rfl ?_
  refine V_putf (pc := 19) hX fX1_31 gi1_7 dX1_meet_19 rfl rfl ?_
  refine Vw.mem (rfl : lask σ d = _) ?_
  refine V_aload_n (pc := 22) (i := 0) hX dX1_meet_22 rfl rfl ?_
  refine V_iload_n (pc := 23) (i := 1) hX dX1_meet_23 rfl rfl ?_
  refine V_callVi (pc := 24) hX (hR.mono (by omega)) mX1_45 (c_isMet n d L _ hn1 hL1 hn4 hd) dX1_meet_24 rfl rfl rfl rfl (Nat.le_of_ble_eq_true rfl) ?_
  rw [a24]
  refine V_if_eqB (pc := 27) (tgt := 32) hX dX1_meet_27 (by decide) (fun h27 => ?_) (fun h27 => ?_)
  · refine V_aload_n (pc := 32) (i := 0) hX dX1_meet_32 rfl rfl ?_
    refine V_getr (pc := 33) hX fX1_18 dX1_meet_33 rfl rfl ?_
    refine V_iload_n (pc := 36) (i := 1) hX dX1_meet_36 rfl rfl ?_
    refine V_dup2 (pc := 37) hX dX1_meet_37 rfl rfl ?_
    refine V_iald (pc := 38) hX dX1_meet_38 (rfl) (rfl) (by omega) (by decide) ?_
    refine V_aload_n (pc := 39) (i := 0) hX dX1_meet_39 rfl rfl ?_
    refine V_iload_n (pc := 40) (i := 1) hX dX1_meet_40 rfl rfl ?_
    refine V_callVi (pc := 41) hX (hR.mono (by omega)) mX1_49 (c_leastGapL n d L _ hn1 hL1 hn4 hd) dX1_meet_41 rfl rfl rfl rfl (Nat.le_of_ble_eq_true rfl) ?_
    refine V_iadd (pc := 44) hX dX1_meet_44 ?_
    refine V_iast (pc := 45) hX dX1_meet_45 (rfl) (rfl) (by omega) (by decide) ?_
    refine Vw.mem (σ' := lraise σ L n d) (by unfold lraise; rw [a21, a22]) ?_
    refine V_aload_n (pc := 46) (i := 0) hX dX1_meet_46 rfl rfl ?_
    refine V_iload_n (pc := 47) (i := 1) hX dX1_meet_47 rfl rfl ?_
    refine V_callVi (pc := 48) hX (hR.mono (by omega)) mX1_53 (c_buyTightL n d L _ hn2 hL2 hn4 hd) dX1_meet_48 rfl rfl rfl rfl (Nat.le_of_ble_eq_true rfl) ?_
    refine V_istore2 (pc := 51) hX dX1_meet_51 rfl ?_
    refine V_aload_n (pc := 52) (i := 0) hX dX1_meet_52 rfl rfl ?_
    refine V_dup (pc := 53) hX dX1_meet_53 rfl ?_
    refine V_getf (pc := 54) hX fX1_56 dX1_meet_54 rfl rfl ?_
    refine V_iload_n (pc := 57) (i := 2) hX dX1_meet_57 rfl rfl ?_
    refine V_iadd (pc := 58) hX dX1_meet_58 ?_
    refine V_putf (pc := 59) hX fX1_56 gi1_10 dX1_meet_59 rfl rfl ?_
    refine V_iload_n (pc := 62) (i := 2) hX dX1_meet_62 rfl rfl ?_
    exact V_iret (pc := 63) (st := []) hX hr (by first | rfl | exact bI_nar _ | decide +kernel) dX1_meet_63 (⟨by rw [meetLV, h27, b21]; rfl, by rw [meetLM, h27, b21, b10]; rfl⟩)
  · refine V_iconst (pc := 30) (v := (nI 0)) hX dX1_meet_30 (by decide +kernel) ?_
    exact V_iret (pc := 31) (st := []) hX hr (by first | rfl | exact bI_nar _ | decide +kernel) dX1_meet_31 (⟨by rw [meetLV, h27]; rfl, by rw [meetLM, h27]; rfl⟩)
def clF (L : Nat → Nat) (d D k : Nat) : Bool := decide (d + 1 = D ∨ (d + 1) % L k = 0)
set_option maxRecDepth 100000 in
set_option maxHeartbeats 4000000 in
theorem c_isMultiple (a b : Nat) (σ : Mem) (ha : a < 2 ^ 31) (hb : b < 2 ^ 31) (hb1 : 1 ≤ b) : Cc yX1_isMultiple cX1_isMultiple 2 (some .boolean) 0 [.int (nI a), .int (nI b)] σ (rI (bI (decide (a % b = 0))) σ) := by
  refine Cc.intro (by decide +kernel) [some (.int (nI a)), some (.int (nI b))] (fun _ => rfl) rfl (fun _ => Nat.le_of_ble_eq_true rfl) ?_
  intro X hX hR hr
  refine V_iload_n (pc := 0) (i := 1) hX dX1_isMultiple_0 rfl rfl ?_
  refine V_if_le (pc := 1) (tgt := 14) hX dX1_isMultiple_1 (by decide) (fun h1 => absurd h1 (nI_nle (by omega) (by omega))) (fun h1 => ?_)
  refine V_iload_n (pc := 4) (i := 0) hX dX1_isMultiple_4 rfl rfl ?_
  refine V_iload_n (pc := 5) (i := 1) hX dX1_isMultiple_5 rfl rfl ?_
  refine V_irem (pc := 6) hX dX1_isMultiple_6 (nI_ne0 (by omega) (by omega)) ?_
  rw [pk_rem ha (by omega) hb]
  refine V_if_ne (pc := 7) (tgt := 14) hX dX1_isMultiple_7 (by decide) (fun h7 => ?_) (fun h7 => ?_)
  · refine V_iconst (pc := 14) (v := (nI 0)) hX dX1_isMultiple_14 (by decide +kernel) ?_
    exact V_iret (pc := 15) (st := []) hX hr (by first | rfl | exact bI_nar _ | decide +kernel) dX1_isMultiple_15 (⟨by rw [decide_eq_false (fun q => h7 (by rw [q]; exact nI_0))]; rfl, rfl⟩)
  · refine V_iconst (pc := 10) (v := (nI 1)) hX dX1_isMultiple_10 (by decide +kernel) ?_
    refine V_goto (pc := 11) (tgt := 15) hX dX1_isMultiple_11 (by decide) ?_
    exact V_iret (pc := 15) (st := []) hX hr (by first | rfl | exact bI_nar _ | decide +kernel) dX1_isMultiple_15 (⟨by rw [decide_eq_true ((nI_eq (Nat.lt_of_lt_of_le (Nat.mod_lt a (by omega)) (by omega)) (by decide)).mp (h7.trans nI_0.symm))]; rfl, rfl⟩)
def csf (c : Nat → Int32) (L : Nat → Nat) (d D : Nat) (o : Nat → Int32) : Nat → Nat → Int32
  | 0 => o
  | k + 1 => if clF L d D k then upd (upd (csf c L d D o k) (k + 1) (csf c L d D o k (k + 1) + imin (csf c L d D o k k) (c k))) k (nI 0) else csf c L d D o k
def lsf (c : Nat → Int32) (L : Nat → Nat) (as : Nat → Int32) (D n : Nat) (o : Nat → Int32) : Nat → Nat → Int32
  | 0 => o
  | d + 1 => csf c L d D (if as d = 0 then lsf c L as D n o d else upd (lsf c L as D n o d) 0 (lsf c L as D n o d 0 + nI 1000000)) n
set_option maxRecDepth 100000 in
set_option maxHeartbeats 4000000 in
theorem l_closeSpans {n d D : Nat} {L : Nat → Nat} {X : XC} {P : Option Value → Mem → Prop} {σ : Mem} (hX : Cok X RX1 cX1_closeSpans 3) (hR : Rok X 1) (hr : Ret X none P) (hn : σ 3 6 = nI n) (hL : lok σ 20 n L) (hn4 : n ≤ 4) (hd : d < D) (hD : D ≤ 128) (hl : σ 3 7 = nI D - nI 1) (hp : P none (mf σ 25 (csf (σ 21) L d D (σ 25) n))) (k : Nat) (hk : k ≤ n) : Vw X 2 [some (.ref 3), some (.int (nI d)), some (.int (nI k))] [] (mf σ 25 (csf (σ 21) L d D (σ 25) k)) := by
  have r6 : mf σ 25 (csf (σ 21) L d D (σ 25) k) 3 6 = nI n := hn
  have r7 : mf σ 25 (csf (σ 21) L d D (σ 25) k) 3 7 = nI (D - 1) := by
    show σ 3 7 = _
    rw [hl, pk_sub (by omega)]
  have ih := fun (h : k < n) => l_closeSpans hX hR hr hn hL hn4 hd hD hl hp (k + 1) h
  have k33 : k < n → clF L d D k = true → Vw X 33 [some (.ref 3), some (.int (nI d)), some (.int (nI k))] [] (mf σ 25 (csf (σ 21) L d D (σ 25) k)) := by
    intro h7 hc
    refine V_aload_n (pc := 33) (i := 0) hX dX1_closeSpans_33 rfl rfl ?_
    refine V_getr (pc := 34) hX fX1_28 dX1_closeSpans_34 rfl rfl ?_
    refine V_iload_n (pc := 37) (i := 2) hX dX1_closeSpans_37 rfl rfl ?_
    refine V_iconst (pc := 38) (v := (nI 1)) hX dX1_closeSpans_38 (by decide +kernel) ?_
    refine V_iadd (pc := 39) hX dX1_closeSpans_39 ?_
    refine V_dup2 (pc := 40) hX dX1_closeSpans_40 rfl rfl ?_
    refine V_iald (pc := 41) hX dX1_closeSpans_41 (rfl) (iinc1 k) (by omega) (by decide) ?_
    refine V_aload_n (pc := 42) (i := 0) hX dX1_closeSpans_42 rfl rfl ?_
    refine V_getr (pc := 43) hX fX1_28 dX1_closeSpans_43 rfl rfl ?_
    refine V_iload_n (pc := 46) (i := 2) hX dX1_closeSpans_46 rfl rfl ?_
    refine V_iald (pc := 47) hX dX1_closeSpans_47 (rfl) (rfl) (by omega) (by decide) ?_
    refine V_aload_n (pc := 48) (i := 0) hX dX1_closeSpans_48 rfl rfl ?_
    refine V_getr (pc := 49) hX fX1_15 dX1_closeSpans_49 rfl rfl ?_
    refine V_iload_n (pc := 52) (i := 2) hX dX1_closeSpans_52 rfl rfl ?_
    refine V_iald (pc := 53) hX dX1_closeSpans_53 (rfl) (rfl) (by omega) (by decide) ?_
    refine V_mmin (pc := 54) hX (hR.mono (by omega)) mX1_69 dX1_closeSpans_54 rfl (Nat.le_of_ble_eq_true rfl) ?_
    refine V_iadd (pc := 57) hX dX1_closeSpans_57 ?_
    simp only [mf_at, Nat.reduceEqDiff, ↓reduceIte]
    refine V_iast (pc := 58) hX dX1_closeSpans_58 (rfl) (iinc1 k) (by omega) (by decide) ?_
    refine V_aload_n (pc := 59) (i := 0) hX dX1_closeSpans_59 rfl rfl ?_
    refine V_getr (pc := 60) hX fX1_28 dX1_closeSpans_60 rfl rfl ?_
    refine V_iload_n (pc := 63) (i := 2) hX dX1_closeSpans_63 rfl rfl ?_
    refine V_iconst (pc := 64) (v := (nI 0)) hX dX1_closeSpans_64 (by decide +kernel) ?_
    refine V_iast (pc := 65) hX dX1_closeSpans_65 (rfl) (rfl) (by omega) (by decide) ?_
    refine V_iinc2 (pc := 66) hX dX1_closeSpans_66 rfl (iinc1 _) ?_
    refine V_goto (pc := 69) (tgt := 2) hX dX1_closeSpans_69 (by decide) ?_
    have ihk := ih h7
    simp only [csf, hc, ↓reduceIte] at ihk
    simp only [mf_mu]
    exact ihk
  refine V_iload_n (pc := 2) (i := 2) hX dX1_closeSpans_2 rfl rfl ?_
  refine V_aload_n (pc := 3) (i := 0) hX dX1_closeSpans_3 rfl rfl ?_
  refine V_getf (pc := 4) hX fX1_35 dX1_closeSpans_4 rfl rfl ?_
  rw [r6]
  refine V_icmp_geN (pc := 7) (tgt := 72) hX dX1_closeSpans_7 (by decide) (by omega) (by omega) (fun h7 => ?_) (fun h7 => ?_)
  · obtain rfl : k = n := by omega
    exact V_vret (pc := 72) (st := []) hX hr dX1_closeSpans_72 (hp)
  · refine V_iload_n (pc := 10) (i := 1) hX dX1_closeSpans_10 rfl rfl ?_
    refine V_aload_n (pc := 11) (i := 0) hX dX1_closeSpans_11 rfl rfl ?_
    refine V_getf (pc := 12) hX fX1_31 dX1_closeSpans_12 rfl rfl ?_
    rw [r7]
    refine V_icmp_eqN (pc := 15) (tgt := 33) hX dX1_closeSpans_15 (by decide) (by omega) (by omega) (fun h15 => ?_) (fun h15 => ?_)
    · exact k33 h7 (decide_eq_true (Or.inl (by omega)))
    · refine V_iload_n (pc := 18) (i := 1) hX dX1_closeSpans_18 rfl rfl ?_
      refine V_iconst (pc := 19) (v := (nI 1)) hX dX1_closeSpans_19 (by decide +kernel) ?_
      obtain ⟨e, l1, l2⟩ := hL k h7
      refine V_iadd (pc := 20) hX dX1_closeSpans_20 ?_
      refine V_aload_n (pc := 21) (i := 0) hX dX1_closeSpans_21 rfl rfl ?_
      refine V_getr (pc := 22) hX fX1_9 dX1_closeSpans_22 rfl rfl ?_
      refine V_iload_n (pc := 25) (i := 2) hX dX1_closeSpans_25 rfl rfl ?_
      refine V_iald (pc := 26) hX dX1_closeSpans_26 (rfl) (rfl) (by omega) (by decide) ?_
      rw [nI_add]
      rw [show mf σ 25 (csf (σ 21) L d D (σ 25) k) 20 k = nI (L k) from e]
      refine V_callSi (pc := 27) hX (hR.mono (by omega)) mX1_38 (c_isMultiple (d + 1) (L k) _ (by omega) (by omega) l1) dX1_closeSpans_27 rfl rfl rfl (Nat.le_of_ble_eq_true rfl) ?_
      refine V_if_eqB (pc := 30) (tgt := 66) hX dX1_closeSpans_30 (by decide) (fun h30 => ?_) (fun h30 => ?_)
      · refine V_iinc2 (pc := 66) hX dX1_closeSpans_66 rfl (iinc1 _) ?_
        refine V_goto (pc := 69) (tgt := 2) hX dX1_closeSpans_69 (by decide) ?_
        have ihk := ih h7
        have hc : clF L d D k = false := decide_eq_false (fun q => q.elim (fun q => h15 (by omega)) (of_decide_eq_false h30))
        simp only [csf, hc, Bool.false_eq_true, ↓reduceIte] at ihk
        exact ihk
      · exact k33 h7 (decide_eq_true (Or.inr (of_decide_eq_true h30)))
termination_by n - k
set_option maxRecDepth 100000 in
set_option maxHeartbeats 4000000 in
theorem c_closeSpans (n d D : Nat) (L : Nat → Nat) (σ : Mem) (hn : σ 3 6 = nI n) (hL : lok σ 20 n L) (hn4 : n ≤ 4) (hd : d < D) (hD : D ≤ 128) (hl : σ 3 7 = nI D - nI 1) : Cc yX1_closeSpans cX1_closeSpans 3 none 1 [.ref 3, .int (nI d)] σ (rV (mf σ 25 (csf (σ 21) L d D (σ 25) n))) := by
  refine Cc.intro (by decide +kernel) [some (.ref 3), some (.int (nI d)), none] (fun _ => rfl) rfl (fun _ => Nat.le_of_ble_eq_true rfl) ?_
  intro X hX hR hr
  refine V_iconst (pc := 0) (v := (nI 0)) hX dX1_closeSpans_0 (by decide +kernel) ?_
  refine V_istore2 (pc := 1) hX dX1_closeSpans_1 rfl ?_
  refine Vw.mem (show mf σ 25 (csf (σ 21) L d D (σ 25) 0) = σ from mf_id σ 25) ?_
  exact l_closeSpans hX hR hr hn hL hn4 hd hD hl ⟨rfl, rfl⟩ 0 (by omega)
theorem lt_last {d D : Nat} (hd : d < 2 ^ 31) (hD : D < 2 ^ 31) : (nI D - nI 1 < nI d) ↔ D ≤ d := by
  rw [Int32.lt_iff_toInt_lt, nI_pred' hD, nI_toInt hd]
  omega
set_option maxRecDepth 100000 in
set_option maxHeartbeats 4000000 in
theorem l_least0 {n : Nat} {Q : Mem → Prop} {X : XC} {P : Option Value → Mem → Prop} {σ : Mem} (hX : Cok X RX1 cX1_least 2) (hR : Rok X 2) (hr : Ret X (some .int) P) (hn : σ 3 6 = nI n) (hn4 : n ≤ 4) (kk : Vw X 23 [some (.ref 3), some (.int (nI (n + 1)))] [] (mf σ 25 (clrf (σ 25) (n + 1)))) (k : Nat) (hk : k ≤ n + 1) : Vw X 2 [some (.ref 3), some (.int (nI k))] [] (mf σ 25 (clrf (σ 25) k)) := by
  have r6 : mf σ 25 (clrf (σ 25) k) 3 6 = nI n := hn
  refine V_iload_n (pc := 2) (i := 1) hX dX1_least_2 rfl rfl ?_
  refine V_aload_n (pc := 3) (i := 0) hX dX1_least_3 rfl rfl ?_
  refine V_getf (pc := 4) hX fX1_35 dX1_least_4 rfl rfl ?_
  rw [r6]
  refine V_icmp_gtN (pc := 7) (tgt := 23) hX dX1_least_7 (by decide) (by omega) (by omega) (fun h7 => ?_) (fun h7 => ?_)
  · obtain rfl : k = n + 1 := by omega
    exact kk
  · refine V_aload_n (pc := 10) (i := 0) hX dX1_least_10 rfl rfl ?_
    refine V_getr (pc := 11) hX fX1_28 dX1_least_11 rfl rfl ?_
    refine V_iload_n (pc := 14) (i := 1) hX dX1_least_14 rfl rfl ?_
    refine V_iconst (pc := 15) (v := (nI 0)) hX dX1_least_15 (by decide +kernel) ?_
    refine V_iast (pc := 16) hX dX1_least_16 (rfl) (rfl) (by omega) (by decide) ?_
    refine V_iinc1 (pc := 17) hX dX1_least_17 rfl (iinc1 _) ?_
    refine V_goto (pc := 20) (tgt := 2) hX dX1_least_20 (by decide) ?_
    have ih := l_least0 (Q := Q) hX hR hr hn hn4 kk (k + 1) (by omega)
    rw [mf_mu, clrf_s]
    exact ih
termination_by n + 1 - k
theorem mf_mf (σ : Mem) (p : Nat) (g h : Nat → Int32) : mf (mf σ p g) p h = mf σ p h := by
  funext q j
  simp only [mf]
  split <;> rfl
set_option maxRecDepth 100000 in
set_option maxHeartbeats 4000000 in
theorem l_least1 {n D : Nat} {L : Nat → Nat} {o : Nat → Int32} {X : XC} {P : Option Value → Mem → Prop} {σ : Mem} (hX : Cok X RX1 cX1_least 2) (hR : Rok X 2) (hr : Ret X (some .int) P) (hn : σ 3 6 = nI n) (hL : lok σ 20 n L) (hn4 : n ≤ 4) (hD : D ≤ 128) (hl : σ 3 7 = nI D - nI 1) (hp : P (some (.int (lsf (σ 21) L (σ 23) D n o D n))) (mf σ 25 (lsf (σ 21) L (σ 23) D n o D))) (d : Nat) (hd : d ≤ D) : Vw X 25 [some (.ref 3), some (.int (nI d))] [] (mf σ 25 (lsf (σ 21) L (σ 23) D n o d)) := by
  have r6 : ∀ g, mf σ 25 g 3 6 = nI n := fun _ => hn
  have r7 : ∀ g, mf σ 25 g 3 7 = nI D - nI 1 := fun _ => hl
  have rL : ∀ g, lok (mf σ 25 g) 20 n L := fun _ => hL
  have ih := fun (h : d < D) => l_least1 hX hR hr hn hL hn4 hD hl hp (d + 1) h
  refine V_iload_n (pc := 25) (i := 1) hX dX1_least_25 rfl rfl ?_
  refine V_aload_n (pc := 26) (i := 0) hX dX1_least_26 rfl rfl ?_
  refine V_getf (pc := 27) hX fX1_31 dX1_least_27 rfl rfl ?_
  rw [r7]
  refine V_icmp_gt (pc := 30) (tgt := 64) hX dX1_least_30 (by decide) (fun h30 => ?_) (fun h30 => ?_)
  · obtain rfl : d = D := by have := (lt_last (by omega) (by omega)).mp h30; omega
    refine V_aload_n (pc := 64) (i := 0) hX dX1_least_64 rfl rfl ?_
    refine V_getr (pc := 65) hX fX1_28 dX1_least_65 rfl rfl ?_
    refine V_aload_n (pc := 68) (i := 0) hX dX1_least_68 rfl rfl ?_
    refine V_getf (pc := 69) hX fX1_35 dX1_least_69 rfl rfl ?_
    rw [r6]
    refine V_iald (pc := 72) hX dX1_least_72 (rfl) (rfl) (by omega) (by decide) ?_
    exact V_iret (pc := 73) (st := []) hX hr (by first | rfl | exact bI_nar _ | decide +kernel) dX1_least_73 (hp)
  · have hd2 : d < D := by have h := mt (lt_last (by omega) (by omega)).mpr h30; omega
    refine V_aload_n (pc := 33) (i := 0) hX dX1_least_33 rfl rfl ?_
    refine V_getr (pc := 34) hX fX1_21 dX1_least_34 rfl rfl ?_
    refine V_iload_n (pc := 37) (i := 1) hX dX1_least_37 rfl rfl ?_
    refine V_zald (pc := 38) hX dX1_least_38 (rfl) (rfl) (by omega) (by decide) ?_
    refine V_if_eq (pc := 39) (tgt := 53) hX dX1_least_39 (by decide) (fun h39 => ?_) (fun h39 => ?_)
    · try simp only [mf_mu]
      refine V_aload_n (pc := 53) (i := 0) hX dX1_least_53 rfl rfl ?_
      refine V_iload_n (pc := 54) (i := 1) hX dX1_least_54 rfl rfl ?_
      refine V_callVv (pc := 55) hX (hR.mono (by omega)) mX1_81 (c_closeSpans n d D L _ (r6 _) (rL _) hn4 hd2 hD (r7 _)) dX1_least_55 rfl rfl rfl rfl (Nat.le_of_ble_eq_true rfl) ?_
      refine V_iinc1 (pc := 58) hX dX1_least_58 rfl (iinc1 _) ?_
      refine V_goto (pc := 61) (tgt := 25) hX dX1_least_61 (by decide) ?_
      have ihk := ih hd2
      rw [lsf, if_pos (show σ 23 d = 0 from h39)] at ihk
      simp only [mf_mf, mf_at, Nat.reduceEqDiff, ↓reduceIte]
      exact ihk
    · refine V_aload_n (pc := 42) (i := 0) hX dX1_least_42 rfl rfl ?_
      refine V_getr (pc := 43) hX fX1_28 dX1_least_43 rfl rfl ?_
      refine V_iconst (pc := 46) (v := (nI 0)) hX dX1_least_46 (by decide +kernel) ?_
      refine V_dup2 (pc := 47) hX dX1_least_47 rfl rfl ?_
      refine V_iald (pc := 48) hX dX1_least_48 (rfl) (rfl) (by omega) (by decide) ?_
      refine V_ldc (pc := 49) hX kX1_80 dX1_least_49 ?_
      refine V_iadd (pc := 51) hX dX1_least_51 ?_
      refine V_iast (pc := 52) hX dX1_least_52 (rfl) (rfl) (by omega) (by decide) ?_
      try simp only [mf_mu]
      refine V_aload_n (pc := 53) (i := 0) hX dX1_least_53 rfl rfl ?_
      refine V_iload_n (pc := 54) (i := 1) hX dX1_least_54 rfl rfl ?_
      refine V_callVv (pc := 55) hX (hR.mono (by omega)) mX1_81 (c_closeSpans n d D L _ (r6 _) (rL _) hn4 hd2 hD (r7 _)) dX1_least_55 rfl rfl rfl rfl (Nat.le_of_ble_eq_true rfl) ?_
      refine V_iinc1 (pc := 58) hX dX1_least_58 rfl (iinc1 _) ?_
      refine V_goto (pc := 61) (tgt := 25) hX dX1_least_61 (by decide) ?_
      have ihk := ih hd2
      rw [lsf, if_neg (show ¬ σ 23 d = 0 from h39)] at ihk
      simp only [mf_mf, mf_at, Nat.reduceEqDiff, ↓reduceIte]
      exact ihk
termination_by D - d
set_option maxRecDepth 100000 in
set_option maxHeartbeats 4000000 in
theorem c_leastL (n D : Nat) (L : Nat → Nat) (σ : Mem) (hn : σ 3 6 = nI n) (hL : lok σ 20 n L) (hn4 : n ≤ 4) (hD : D ≤ 128) (hl : σ 3 7 = nI D - nI 1) : Cc yX1_least cX1_least 2 (some .int) 2 [.ref 3] σ (rI (lsf (σ 21) L (σ 23) D n (clrf (σ 25) (n + 1)) D n) (mf σ 25 (lsf (σ 21) L (σ 23) D n (clrf (σ 25) (n + 1)) D))) := by
  refine Cc.intro (by decide +kernel) [some (.ref 3), none] (fun _ => rfl) rfl (fun _ => Nat.le_of_ble_eq_true rfl) ?_
  intro X hX hR hr
  have k25 := l_least1 (o := clrf (σ 25) (n + 1)) hX hR hr hn hL hn4 hD hl ⟨rfl, rfl⟩ 0 (Nat.zero_le _)
  have k23 : Vw X 23 [some (.ref 3), some (.int (nI (n + 1)))] [] (mf σ 25 (clrf (σ 25) (n + 1))) := by
    refine V_iconst (pc := 23) (v := (nI 0)) hX dX1_least_23 (by decide +kernel) ?_
    refine V_istore1 (pc := 24) hX dX1_least_24 rfl ?_
    exact k25
  refine V_iconst (pc := 0) (v := (nI 0)) hX dX1_least_0 (by decide +kernel) ?_
  refine V_istore1 (pc := 1) hX dX1_least_1 rfl ?_
  refine Vw.mem (show mf σ 25 (clrf (σ 25) 0) = σ by rw [clrf_0, mf_id]) ?_
  exact l_least0 (Q := fun _ => True) hX hR hr hn hn4 k23 0 (Nat.zero_le _)

