/-! ===== SHEETS, the class's: 15 lanes, 16 sizes (-1: missing), rows 7 .. 14 ===== -/
set_option maxRecDepth 100000 in
set_option maxHeartbeats 4000000 in
theorem c_isMissing (s : Nat) (σ : Mem) (hs : s < 8) : Cc yX3_isMissing cX3_isMissing 2 (some .boolean) 0 [.ref 1, .int (nI s)] σ (rI (bI (decide (σ 16 s = (-1)))) σ) := by
  refine Cc.intro (by decide +kernel) [some (.ref 1), some (.int (nI s))] (fun _ => rfl) rfl (fun _ => Nat.le_of_ble_eq_true rfl) ?_
  intro X hX hR hr
  refine V_aload_n (pc := 0) (i := 0) hX dX3_isMissing_0 rfl rfl ?_
  refine V_getr (pc := 1) hX fX3_20 dX3_isMissing_1 rfl rfl ?_
  refine V_iload_n (pc := 4) (i := 1) hX dX3_isMissing_4 rfl rfl ?_
  refine V_iald (pc := 5) hX dX3_isMissing_5 (rfl) (rfl) (by omega) (by decide) ?_
  refine V_iconst (pc := 6) (v := (-1)) hX dX3_isMissing_6 (by decide +kernel) ?_
  refine V_icmp_ne (pc := 7) (tgt := 14) hX dX3_isMissing_7 (by decide) (fun h7 => ?_) (fun h7 => ?_)
  · refine V_iconst (pc := 14) (v := (nI 0)) hX dX3_isMissing_14 (by decide +kernel) ?_
    exact V_iret (pc := 15) (st := []) hX hr (by first | rfl | exact bI_nar _ | decide +kernel) dX3_isMissing_15 (⟨by rw [decide_eq_false h7]; rfl, rfl⟩)
  · refine V_iconst (pc := 10) (v := (nI 1)) hX dX3_isMissing_10 (by decide +kernel) ?_
    refine V_goto (pc := 11) (tgt := 15) hX dX3_isMissing_11 (by decide) ?_
    exact V_iret (pc := 15) (st := []) hX hr (by first | rfl | exact bI_nar _ | decide +kernel) dX3_isMissing_15 (⟨by rw [decide_eq_true h7]; rfl, rfl⟩)
def rowF (sz i n : Int32) : Bool := decide (0 ≤ i ∧ 0 ≤ n ∧ i ≤ sz - n)
set_option maxRecDepth 100000 in
set_option maxHeartbeats 4000000 in
theorem c_isRow (s : Nat) (i n : Int32) (σ : Mem) (hs : s < 8) : Cc yX3_isRow cX3_isRow 4 (some .boolean) 0 [.ref 1, .int (nI s), .int i, .int n] σ (rI (bI (rowF (σ 16 s) i n)) σ) := by
  refine Cc.intro (by decide +kernel) [some (.ref 1), some (.int (nI s)), some (.int i), some (.int n)] (fun _ => rfl) rfl (fun _ => Nat.le_of_ble_eq_true rfl) ?_
  intro X hX hR hr
  refine V_iload_n (pc := 0) (i := 2) hX dX3_isRow_0 rfl rfl ?_
  refine V_if_lt (pc := 1) (tgt := 24) hX dX3_isRow_1 (by decide) (fun h1 => ?_) (fun h1 => ?_)
  · refine V_iconst (pc := 24) (v := (nI 0)) hX dX3_isRow_24 (by decide +kernel) ?_
    exact V_iret (pc := 25) (st := []) hX hr (by first | rfl | exact bI_nar _ | decide +kernel) dX3_isRow_25 (⟨by rw [rowF, decide_eq_false (fun q => Int32.not_le.mpr h1 q.1)]; rfl, rfl⟩)
  · refine V_iload_n (pc := 4) (i := 3) hX dX3_isRow_4 rfl rfl ?_
    refine V_if_lt (pc := 5) (tgt := 24) hX dX3_isRow_5 (by decide) (fun h5 => ?_) (fun h5 => ?_)
    · refine V_iconst (pc := 24) (v := (nI 0)) hX dX3_isRow_24 (by decide +kernel) ?_
      exact V_iret (pc := 25) (st := []) hX hr (by first | rfl | exact bI_nar _ | decide +kernel) dX3_isRow_25 (⟨by rw [rowF, decide_eq_false (fun q => Int32.not_le.mpr h5 q.2.1)]; rfl, rfl⟩)
    · refine V_iload_n (pc := 8) (i := 2) hX dX3_isRow_8 rfl rfl ?_
      refine V_aload_n (pc := 9) (i := 0) hX dX3_isRow_9 rfl rfl ?_
      refine V_getr (pc := 10) hX fX3_20 dX3_isRow_10 rfl rfl ?_
      refine V_iload_n (pc := 13) (i := 1) hX dX3_isRow_13 rfl rfl ?_
      refine V_iald (pc := 14) hX dX3_isRow_14 (rfl) (rfl) (by omega) (by decide) ?_
      refine V_iload_n (pc := 15) (i := 3) hX dX3_isRow_15 rfl rfl ?_
      refine V_isub (pc := 16) hX dX3_isRow_16 ?_
      refine V_icmp_gt (pc := 17) (tgt := 24) hX dX3_isRow_17 (by decide) (fun h17 => ?_) (fun h17 => ?_)
      · refine V_iconst (pc := 24) (v := (nI 0)) hX dX3_isRow_24 (by decide +kernel) ?_
        exact V_iret (pc := 25) (st := []) hX hr (by first | rfl | exact bI_nar _ | decide +kernel) dX3_isRow_25 (⟨by rw [rowF, decide_eq_false (fun q => Int32.not_le.mpr h17 q.2.2)]; rfl, rfl⟩)
      · refine V_iconst (pc := 20) (v := (nI 1)) hX dX3_isRow_20 (by decide +kernel) ?_
        refine V_goto (pc := 21) (tgt := 25) hX dX3_isRow_21 (by decide) ?_
        exact V_iret (pc := 25) (st := []) hX hr (by first | rfl | exact bI_nar _ | decide +kernel) dX3_isRow_25 (⟨by rw [rowF, decide_eq_true ⟨Int32.not_lt.mp h1, Int32.not_lt.mp h5, Int32.not_lt.mp h17⟩]; rfl, rfl⟩)
/-- the finding for a row of one sheet, and of a copy -/
def fiF (sz i n : Int32) : Int32 := if sz = (-1) then nI 1 else if rowF sz i n then nI 0 else nI 2
def fpF (sa sb la lb i j n : Int32) : Int32 := if sa = (-1) ∨ sb = (-1) then nI 1 else if la = lb then (if rowF sa i n ∧ rowF sb j n then nI 0 else nI 2) else nI 5
set_option maxRecDepth 100000 in
set_option maxHeartbeats 4000000 in
theorem c_findItems (s : Nat) (i n : Int32) (σ : Mem) (hs : s < 8) : Cc yX3_findItems cX3_findItems 4 (some .int) 1 [.ref 1, .int (nI s), .int i, .int n] σ (rI (fiF (σ 16 s) i n) σ) := by
  refine Cc.intro (by decide +kernel) [some (.ref 1), some (.int (nI s)), some (.int i), some (.int n)] (fun _ => rfl) rfl (fun _ => Nat.le_of_ble_eq_true rfl) ?_
  intro X hX hR hr
  refine V_aload_n (pc := 0) (i := 0) hX dX3_findItems_0 rfl rfl ?_
  refine V_iload_n (pc := 1) (i := 1) hX dX3_findItems_1 rfl rfl ?_
  refine V_callVi (pc := 2) hX (hR.mono (by omega)) mX3_23 (c_isMissing _ _ hs) dX3_findItems_2 rfl rfl rfl rfl (Nat.le_of_ble_eq_true rfl) ?_
  refine V_if_eqB (pc := 5) (tgt := 10) hX dX3_findItems_5 (by decide) (fun h5 => ?_) (fun h5 => ?_)
  · refine V_aload_n (pc := 10) (i := 0) hX dX3_findItems_10 rfl rfl ?_
    refine V_iload_n (pc := 11) (i := 1) hX dX3_findItems_11 rfl rfl ?_
    refine V_iload_n (pc := 12) (i := 2) hX dX3_findItems_12 rfl rfl ?_
    refine V_iload_n (pc := 13) (i := 3) hX dX3_findItems_13 rfl rfl ?_
    refine V_callVi (pc := 14) hX (hR.mono (by omega)) mX3_27 (c_isRow _ _ _ _ hs) dX3_findItems_14 rfl rfl rfl rfl (Nat.le_of_ble_eq_true rfl) ?_
    refine V_if_eqB (pc := 17) (tgt := 24) hX dX3_findItems_17 (by decide) (fun h17 => ?_) (fun h17 => ?_)
    · refine V_iconst (pc := 24) (v := (nI 2)) hX dX3_findItems_24 (by decide +kernel) ?_
      exact V_iret (pc := 25) (st := []) hX hr (by first | rfl | exact bI_nar _ | decide +kernel) dX3_findItems_25 (⟨by rw [fiF, if_neg (of_decide_eq_false h5), h17]; rfl, rfl⟩)
    · refine V_iconst (pc := 20) (v := (nI 0)) hX dX3_findItems_20 (by decide +kernel) ?_
      refine V_goto (pc := 21) (tgt := 25) hX dX3_findItems_21 (by decide) ?_
      exact V_iret (pc := 25) (st := []) hX hr (by first | rfl | exact bI_nar _ | decide +kernel) dX3_findItems_25 (⟨by rw [fiF, if_neg (of_decide_eq_false h5), h17]; rfl, rfl⟩)
  · refine V_iconst (pc := 8) (v := (nI 1)) hX dX3_findItems_8 (by decide +kernel) ?_
    exact V_iret (pc := 9) (st := []) hX hr (by first | rfl | exact bI_nar _ | decide +kernel) dX3_findItems_9 (⟨by rw [fiF, if_pos (of_decide_eq_true h5)], rfl⟩)
set_option maxRecDepth 100000 in
set_option maxHeartbeats 4000000 in
theorem c_findPair (a b : Nat) (i j n : Int32) (σ : Mem) (ha : a < 8) (hb : b < 8) : Cc yX3_findPair cX3_findPair 6 (some .int) 1 [.ref 1, .int (nI a), .int i, .int (nI b), .int j, .int n] σ (rI (fpF (σ 16 a) (σ 16 b) (σ 15 a) (σ 15 b) i j n) σ) := by
  refine Cc.intro (by decide +kernel) [some (.ref 1), some (.int (nI a)), some (.int i), some (.int (nI b)), some (.int j), some (.int n)] (fun _ => rfl) rfl (fun _ => Nat.le_of_ble_eq_true rfl) ?_
  intro X hX hR hr
  refine V_aload_n (pc := 0) (i := 0) hX dX3_findPair_0 rfl rfl ?_
  refine V_iload_n (pc := 1) (i := 1) hX dX3_findPair_1 rfl rfl ?_
  refine V_callVi (pc := 2) hX (hR.mono (by omega)) mX3_23 (c_isMissing _ _ ha) dX3_findPair_2 rfl rfl rfl rfl (Nat.le_of_ble_eq_true rfl) ?_
  refine V_if_neB (pc := 5) (tgt := 16) hX dX3_findPair_5 (by decide) (fun h5 => ?_) (fun h5 => ?_)
  · refine V_iconst (pc := 16) (v := (nI 1)) hX dX3_findPair_16 (by decide +kernel) ?_
    exact V_iret (pc := 17) (st := []) hX hr (by first | rfl | exact bI_nar _ | decide +kernel) dX3_findPair_17 (⟨by rw [fpF, if_pos (Or.inl (of_decide_eq_true h5))], rfl⟩)
  · refine V_aload_n (pc := 8) (i := 0) hX dX3_findPair_8 rfl rfl ?_
    refine V_iload_n (pc := 9) (i := 3) hX dX3_findPair_9 rfl rfl ?_
    refine V_callVi (pc := 10) hX (hR.mono (by omega)) mX3_23 (c_isMissing _ _ hb) dX3_findPair_10 rfl rfl rfl rfl (Nat.le_of_ble_eq_true rfl) ?_
    refine V_if_eqB (pc := 13) (tgt := 18) hX dX3_findPair_13 (by decide) (fun h13 => ?_) (fun h13 => ?_)
    · refine V_aload_n (pc := 18) (i := 0) hX dX3_findPair_18 rfl rfl ?_
      refine V_getr (pc := 19) hX fX3_16 dX3_findPair_19 rfl rfl ?_
      refine V_iload_n (pc := 22) (i := 1) hX dX3_findPair_22 rfl rfl ?_
      refine V_iald (pc := 23) hX dX3_findPair_23 (rfl) (rfl) (by omega) (by decide) ?_
      refine V_aload_n (pc := 24) (i := 0) hX dX3_findPair_24 rfl rfl ?_
      refine V_getr (pc := 25) hX fX3_16 dX3_findPair_25 rfl rfl ?_
      refine V_iload_n (pc := 28) (i := 3) hX dX3_findPair_28 rfl rfl ?_
      refine V_iald (pc := 29) hX dX3_findPair_29 (rfl) (rfl) (by omega) (by decide) ?_
      refine V_icmp_eq (pc := 30) (tgt := 35) hX dX3_findPair_30 (by decide) (fun h30 => ?_) (fun h30 => ?_)
      · refine V_aload_n (pc := 35) (i := 0) hX dX3_findPair_35 rfl rfl ?_
        refine V_iload_n (pc := 36) (i := 1) hX dX3_findPair_36 rfl rfl ?_
        refine V_iload_n (pc := 37) (i := 2) hX dX3_findPair_37 rfl rfl ?_
        refine V_iload (pc := 38) (i := 5) hX dX3_findPair_38 rfl ?_
        refine V_callVi (pc := 40) hX (hR.mono (by omega)) mX3_27 (c_isRow _ _ _ _ ha) dX3_findPair_40 rfl rfl rfl rfl (Nat.le_of_ble_eq_true rfl) ?_
        refine V_if_eqB (pc := 43) (tgt := 62) hX dX3_findPair_43 (by decide) (fun h43 => ?_) (fun h43 => ?_)
        · refine V_iconst (pc := 62) (v := (nI 2)) hX dX3_findPair_62 (by decide +kernel) ?_
          exact V_iret (pc := 63) (st := []) hX hr (by first | rfl | exact bI_nar _ | decide +kernel) dX3_findPair_63 (⟨by rw [fpF, if_neg (fun q => q.elim (of_decide_eq_false h5) (of_decide_eq_false h13)), if_pos h30, if_neg (fun q => absurd (h43.symm.trans q.1) (by decide))], rfl⟩)
        · refine V_aload_n (pc := 46) (i := 0) hX dX3_findPair_46 rfl rfl ?_
          refine V_iload_n (pc := 47) (i := 3) hX dX3_findPair_47 rfl rfl ?_
          refine V_iload (pc := 48) (i := 4) hX dX3_findPair_48 rfl ?_
          refine V_iload (pc := 50) (i := 5) hX dX3_findPair_50 rfl ?_
          refine V_callVi (pc := 52) hX (hR.mono (by omega)) mX3_27 (c_isRow _ _ _ _ hb) dX3_findPair_52 rfl rfl rfl rfl (Nat.le_of_ble_eq_true rfl) ?_
          refine V_if_eqB (pc := 55) (tgt := 62) hX dX3_findPair_55 (by decide) (fun h55 => ?_) (fun h55 => ?_)
          · refine V_iconst (pc := 62) (v := (nI 2)) hX dX3_findPair_62 (by decide +kernel) ?_
            exact V_iret (pc := 63) (st := []) hX hr (by first | rfl | exact bI_nar _ | decide +kernel) dX3_findPair_63 (⟨by rw [fpF, if_neg (fun q => q.elim (of_decide_eq_false h5) (of_decide_eq_false h13)), if_pos h30, if_neg (fun q => absurd (h55.symm.trans q.2) (by decide))], rfl⟩)
          · refine V_iconst (pc := 58) (v := (nI 0)) hX dX3_findPair_58 (by decide +kernel) ?_
            refine V_goto (pc := 59) (tgt := 63) hX dX3_findPair_59 (by decide) ?_
            exact V_iret (pc := 63) (st := []) hX hr (by first | rfl | exact bI_nar _ | decide +kernel) dX3_findPair_63 (⟨by rw [fpF, if_neg (fun q => q.elim (of_decide_eq_false h5) (of_decide_eq_false h13)), if_pos h30, if_pos ⟨h43, h55⟩], rfl⟩)
      · refine V_iconst (pc := 33) (v := (nI 5)) hX dX3_findPair_33 (by decide +kernel) ?_
        exact V_iret (pc := 34) (st := []) hX hr (by first | rfl | exact bI_nar _ | decide +kernel) dX3_findPair_34 (⟨by rw [fpF, if_neg (fun q => q.elim (of_decide_eq_false h5) (of_decide_eq_false h13)), if_neg h30], rfl⟩)
    · refine V_iconst (pc := 16) (v := (nI 1)) hX dX3_findPair_16 (by decide +kernel) ?_
      exact V_iret (pc := 17) (st := []) hX hr (by first | rfl | exact bI_nar _ | decide +kernel) dX3_findPair_17 (⟨by rw [fpF, if_pos (Or.inr (of_decide_eq_true h13))], rfl⟩)
/-- the row of a sheet, its first k items 0 -/
def clrf (f : Nat → Int32) (k : Nat) : Nat → Int32 := fun i => if i < k then nI 0 else f i
theorem clrf_0 (f : Nat → Int32) : clrf f 0 = f := by funext i; simp [clrf]
theorem clrf_s (f : Nat → Int32) (k : Nat) : upd (clrf f k) k (nI 0) = clrf f (k + 1) := by
  funext i
  simp only [upd, clrf]
  by_cases h : i = k
  · subst h; simp
  · by_cases h2 : i < k
    · simp [h, h2, Nat.lt_succ_of_lt h2]
    · simp [h, h2, show ¬ i < k + 1 by omega]
theorem mf_id (σ : Mem) (p : Nat) : mf σ p (σ p) = σ := by
  funext q j
  simp only [mf]
  split
  · rename_i h; rw [h]
  · rfl
theorem mf_mu (σ : Mem) (p i : Nat) (g : Nat → Int32) (v : Int32) : mu (mf σ p g) p i v = mf σ p (upd g i v) := by
  funext q j
  simp only [mu, mf, upd]
  by_cases h : q = p <;> by_cases h2 : j = i <;> simp [h, h2, upd]
theorem mf_at (σ : Mem) (p : Nat) (g : Nat → Int32) (q : Nat) : mf σ p g q = if q = p then g else σ q := rfl
set_option maxRecDepth 100000 in
set_option maxHeartbeats 4000000 in
theorem l_lay {s n : Nat} {x : Int32} {X : XC} {P : Option Value → Mem → Prop} {σ : Mem} (hX : Cok X RX3 cX3_lay 5) (hR : Rok X 0) (hr : Ret X (some .int) P) (hs : s < 8) (hn : n ≤ 60) (kk : Vw X 25 [some (.ref 1), some (.int (nI s)), some (.int x), some (.int (nI n)), some (.int (nI n))] [] (mf σ (7 + s) (clrf (σ (7 + s)) n))) (k : Nat) (hk : k ≤ n) :
    Vw X 3 [some (.ref 1), some (.int (nI s)), some (.int x), some (.int (nI n)), some (.int (nI k))] [] (mf σ (7 + s) (clrf (σ (7 + s)) k)) := by
  refine V_iload (pc := 3) (i := 4) hX dX3_lay_3 rfl ?_
  refine V_iload_n (pc := 5) (i := 3) hX dX3_lay_5 rfl rfl ?_
  refine V_icmp_geN (pc := 6) (tgt := 25) hX dX3_lay_6 (by decide) (by omega) (by omega) (fun h6 => ?_) (fun h6 => ?_)
  · obtain rfl : k = n := by omega
    exact kk
  · refine V_aload_n (pc := 9) (i := 0) hX dX3_lay_9 rfl rfl ?_
    refine V_getr (pc := 10) hX fX3_11 dX3_lay_10 rfl rfl ?_
    refine V_iload_n (pc := 13) (i := 1) hX dX3_lay_13 rfl rfl ?_
    refine V_aald (pc := 14) hX dX3_lay_14 (rfl) (rfl) (by omega) (by decide) ?_
    refine V_iload (pc := 15) (i := 4) hX dX3_lay_15 rfl ?_
    refine V_iconst (pc := 17) (v := (nI 0)) hX dX3_lay_17 (by decide +kernel) ?_
    refine V_iast (pc := 18) hX dX3_lay_18 (shp_items hs) (rfl) (by omega) (by decide) ?_
    refine V_iinc4 (pc := 19) hX dX3_lay_19 rfl (iinc1 _) ?_
    refine V_goto (pc := 22) (tgt := 3) hX dX3_lay_22 (by decide) ?_
    have ih := l_lay hX hR hr hs hn kk (k + 1) (by omega)
    rw [mf_mu, clrf_s]
    exact ih
termination_by n - k
def layM (σ : Mem) (s : Nat) (lane : Int32) (n : Nat) : Mem := mu (mu (mf σ (7 + s) (clrf (σ (7 + s)) n)) 15 s lane) 16 s (nI n)
set_option maxRecDepth 100000 in
set_option maxHeartbeats 4000000 in
theorem c_lay (s n : Nat) (lane : Int32) (σ : Mem) (hs : s < 8) (hn : n ≤ 60) : Cc yX3_lay cX3_lay 5 (some .int) 0 [.ref 1, .int (nI s), .int lane, .int (nI n)] σ (rI (nI n) (layM σ s lane n)) := by
  refine Cc.intro (by decide +kernel) [some (.ref 1), some (.int (nI s)), some (.int lane), some (.int (nI n)), none] (fun _ => rfl) rfl (fun _ => Nat.le_of_ble_eq_true rfl) ?_
  intro X hX hR hr
  have k25 : Vw X 25 [some (.ref 1), some (.int (nI s)), some (.int lane), some (.int (nI n)), some (.int (nI n))] [] (mf σ (7 + s) (clrf (σ (7 + s)) n)) := by
    refine V_aload_n (pc := 25) (i := 0) hX dX3_lay_25 rfl rfl ?_
    refine V_getr (pc := 26) hX fX3_16 dX3_lay_26 rfl rfl ?_
    refine V_iload_n (pc := 29) (i := 1) hX dX3_lay_29 rfl rfl ?_
    refine V_iload_n (pc := 30) (i := 2) hX dX3_lay_30 rfl rfl ?_
    refine V_iast (pc := 31) hX dX3_lay_31 (rfl) (rfl) (by omega) (by decide) ?_
    refine V_aload_n (pc := 32) (i := 0) hX dX3_lay_32 rfl rfl ?_
    refine V_getr (pc := 33) hX fX3_20 dX3_lay_33 rfl rfl ?_
    refine V_iload_n (pc := 36) (i := 1) hX dX3_lay_36 rfl rfl ?_
    refine V_iload_n (pc := 37) (i := 3) hX dX3_lay_37 rfl rfl ?_
    refine V_iast (pc := 38) hX dX3_lay_38 (rfl) (rfl) (by omega) (by decide) ?_
    refine V_iload_n (pc := 39) (i := 3) hX dX3_lay_39 rfl rfl ?_
    exact V_iret (pc := 40) (st := []) hX hr (by first | rfl | exact bI_nar _ | decide +kernel) dX3_lay_40 (⟨rfl, rfl⟩)
  refine V_iconst (pc := 0) (v := (nI 0)) hX dX3_lay_0 (by decide +kernel) ?_
  refine V_istore4 (pc := 1) hX dX3_lay_1 rfl ?_
  refine Vw.mem (show mf σ (7 + s) (clrf (σ (7 + s)) 0) = σ by rw [clrf_0, mf_id]) ?_
  exact l_lay hX hR hr hs hn k25 0 (by omega)
def fitF (lane v : Int32) : Int32 := if lane = nI 0 then v.toInt8.toInt32 else if lane = nI 1 then v.toInt16.toInt32 else v
set_option maxRecDepth 100000 in
set_option maxHeartbeats 4000000 in
theorem c_fit (l v : Int32) (σ : Mem) : Cc yX3_fit cX3_fit 2 (some .int) 0 [.int l, .int v] σ (rI (fitF l v) σ) := by
  refine Cc.intro (by decide +kernel) [some (.int l), some (.int v)] (fun _ => rfl) rfl (fun _ => Nat.le_of_ble_eq_true rfl) ?_
  intro X hX hR hr
  refine V_iload_n (pc := 0) (i := 0) hX dX3_fit_0 rfl rfl ?_
  rcases Classical.em (l = nI 0) with e1_0 | e1_0
  · refine V_lookup (pc := 1) (off := 27) (tgt := 28) hX dX3_fit_1 (by decide) (by rw [e1_0]; decide +kernel) (by decide) ?_
    refine V_iload_n (pc := 28) (i := 1) hX dX3_fit_28 rfl rfl ?_
    refine V_i2b (pc := 29) hX dX3_fit_29 ?_
    exact V_iret (pc := 30) (st := []) hX hr (by first | rfl | exact bI_nar _ | decide +kernel) dX3_fit_30 (⟨by rw [fitF, if_pos e1_0], rfl⟩)
  · skip
    rcases Classical.em (l = nI 1) with e1_1 | e1_1
    · refine V_lookup (pc := 1) (off := 30) (tgt := 31) hX dX3_fit_1 (by decide) (by rw [e1_1]; decide +kernel) (by decide) ?_
      refine V_iload_n (pc := 31) (i := 1) hX dX3_fit_31 rfl rfl ?_
      refine V_i2s (pc := 32) hX dX3_fit_32 ?_
      exact V_iret (pc := 33) (st := []) hX hr (by first | rfl | exact bI_nar _ | decide +kernel) dX3_fit_33 (⟨by rw [fitF, if_neg e1_0, if_pos e1_1], rfl⟩)
    · skip
      refine V_lookup (pc := 1) (off := 33) (tgt := 34) hX dX3_fit_1 (by decide) (by show Op.lookupswitch.offset [(0, 27), (1, 30)] _ _ = _; rw [lv_osw e1_0 (by decide +kernel), lv_osw e1_1 (by decide +kernel)]; rfl) (by decide) ?_
      refine V_iload_n (pc := 34) (i := 1) hX dX3_fit_34 rfl rfl ?_
      exact V_iret (pc := 35) (st := []) hX hr (by first | rfl | exact bI_nar _ | decide +kernel) dX3_fit_35 (⟨by rw [fitF, if_neg e1_0, if_neg e1_1], rfl⟩)
set_option maxRecDepth 100000 in
set_option maxHeartbeats 4000000 in
theorem c_put (s i : Nat) (v : Int32) (σ : Mem) (hs : s < 8) (hi : i < 60) : Cc yX3_put cX3_put 4 (some .int) 1 [.ref 1, .int (nI s), .int (nI i), .int v] σ (rI (fitF (σ 15 s) v) (mu σ (7 + s) i (fitF (σ 15 s) v))) := by
  refine Cc.intro (by decide +kernel) [some (.ref 1), some (.int (nI s)), some (.int (nI i)), some (.int v)] (fun _ => rfl) rfl (fun _ => Nat.le_of_ble_eq_true rfl) ?_
  intro X hX hR hr
  refine V_aload_n (pc := 0) (i := 0) hX dX3_put_0 rfl rfl ?_
  refine V_getr (pc := 1) hX fX3_11 dX3_put_1 rfl rfl ?_
  refine V_iload_n (pc := 4) (i := 1) hX dX3_put_4 rfl rfl ?_
  refine V_aald (pc := 5) hX dX3_put_5 (rfl) (rfl) (by omega) (by decide) ?_
  refine V_iload_n (pc := 6) (i := 2) hX dX3_put_6 rfl rfl ?_
  refine V_aload_n (pc := 7) (i := 0) hX dX3_put_7 rfl rfl ?_
  refine V_getr (pc := 8) hX fX3_16 dX3_put_8 rfl rfl ?_
  refine V_iload_n (pc := 11) (i := 1) hX dX3_put_11 rfl rfl ?_
  refine V_iald (pc := 12) hX dX3_put_12 (rfl) (rfl) (by omega) (by decide) ?_
  refine V_iload_n (pc := 13) (i := 3) hX dX3_put_13 rfl rfl ?_
  refine V_callSi (pc := 14) hX (hR.mono (by omega)) mX3_31 (c_fit _ _ _) dX3_put_14 rfl rfl rfl (Nat.le_of_ble_eq_true rfl) ?_
  refine V_iast (pc := 17) hX dX3_put_17 (shp_items hs) (rfl) (by omega) (by decide) ?_
  refine V_aload_n (pc := 18) (i := 0) hX dX3_put_18 rfl rfl ?_
  refine V_getr (pc := 19) hX fX3_11 dX3_put_19 rfl rfl ?_
  refine V_iload_n (pc := 22) (i := 1) hX dX3_put_22 rfl rfl ?_
  refine V_aald (pc := 23) hX dX3_put_23 (rfl) (rfl) (by omega) (by decide) ?_
  refine V_iload_n (pc := 24) (i := 2) hX dX3_put_24 rfl rfl ?_
  refine V_iald (pc := 25) hX dX3_put_25 (shp_items hs) (rfl) (by omega) (by decide) ?_
  exact V_iret (pc := 26) (st := []) hX hr (by first | rfl | exact bI_nar _ | decide +kernel) dX3_put_26 (⟨by rw [mu_at], rfl⟩)
set_option maxRecDepth 100000 in
set_option maxHeartbeats 4000000 in
theorem c_item (s i : Nat) (σ : Mem) (hs : s < 8) (hi : i < 60) : Cc yX3_item cX3_item 3 (some .int) 0 [.ref 1, .int (nI s), .int (nI i)] σ (rI (σ (7 + s) i) σ) := by
  refine Cc.intro (by decide +kernel) [some (.ref 1), some (.int (nI s)), some (.int (nI i))] (fun _ => rfl) rfl (fun _ => Nat.le_of_ble_eq_true rfl) ?_
  intro X hX hR hr
  refine V_aload_n (pc := 0) (i := 0) hX dX3_item_0 rfl rfl ?_
  refine V_getr (pc := 1) hX fX3_11 dX3_item_1 rfl rfl ?_
  refine V_iload_n (pc := 4) (i := 1) hX dX3_item_4 rfl rfl ?_
  refine V_aald (pc := 5) hX dX3_item_5 (rfl) (rfl) (by omega) (by decide) ?_
  refine V_iload_n (pc := 6) (i := 2) hX dX3_item_6 rfl rfl ?_
  refine V_iald (pc := 7) hX dX3_item_7 (shp_items hs) (rfl) (by omega) (by decide) ?_
  exact V_iret (pc := 8) (st := []) hX hr (by first | rfl | exact bI_nar _ | decide +kernel) dX3_item_8 (⟨rfl, rfl⟩)
set_option maxRecDepth 100000 in
set_option maxHeartbeats 4000000 in
theorem c_remove (s : Nat) (σ : Mem) (hs : s < 8) : Cc yX3_remove cX3_remove 3 (some .int) 0 [.ref 1, .int (nI s)] σ (rI (σ 16 s) (mu σ 16 s (-1))) := by
  refine Cc.intro (by decide +kernel) [some (.ref 1), some (.int (nI s)), none] (fun _ => rfl) rfl (fun _ => Nat.le_of_ble_eq_true rfl) ?_
  intro X hX hR hr
  refine V_aload_n (pc := 0) (i := 0) hX dX3_remove_0 rfl rfl ?_
  refine V_getr (pc := 1) hX fX3_20 dX3_remove_1 rfl rfl ?_
  refine V_iload_n (pc := 4) (i := 1) hX dX3_remove_4 rfl rfl ?_
  refine V_iald (pc := 5) hX dX3_remove_5 (rfl) (rfl) (by omega) (by decide) ?_
  refine V_istore2 (pc := 6) hX dX3_remove_6 rfl ?_
  refine V_aload_n (pc := 7) (i := 0) hX dX3_remove_7 rfl rfl ?_
  refine V_getr (pc := 8) hX fX3_20 dX3_remove_8 rfl rfl ?_
  refine V_iload_n (pc := 11) (i := 1) hX dX3_remove_11 rfl rfl ?_
  refine V_iconst (pc := 12) (v := (-1)) hX dX3_remove_12 (by decide +kernel) ?_
  refine V_iast (pc := 13) hX dX3_remove_13 (rfl) (rfl) (by omega) (by decide) ?_
  refine V_iload_n (pc := 14) (i := 2) hX dX3_remove_14 rfl rfl ?_
  exact V_iret (pc := 15) (st := []) hX hr (by first | rfl | exact bI_nar _ | decide +kernel) dX3_remove_15 (⟨rfl, rfl⟩)
def presf (sz : Nat → Int32) : Nat → Nat
  | 0 => 0
  | k + 1 => if sz k = (-1) then presf sz k else presf sz k + 1
set_option maxRecDepth 100000 in
set_option maxHeartbeats 4000000 in
theorem l_present {X : XC} {P : Option Value → Mem → Prop} {σ : Mem} (hX : Cok X RX3 cX3_present 3) (hR : Rok X 1) (hr : Ret X (some .int) P) (hp : P (some (.int (nI (presf (σ 16) 8)))) σ) (k : Nat) (hk : k ≤ 8) : Vw X 4 [some (.ref 1), some (.int (nI (presf (σ 16) k))), some (.int (nI k))] [] σ := by
  refine V_iload_n (pc := 4) (i := 2) hX dX3_present_4 rfl rfl ?_
  refine V_bipush (pc := 5) (v := (nI 8)) hX dX3_present_5 (by decide +kernel) ?_
  refine V_icmp_geN (pc := 7) (tgt := 27) hX dX3_present_7 (by decide) (by omega) (by omega) (fun h7 => ?_) (fun h7 => ?_)
  · obtain rfl : k = 8 := by omega
    refine V_iload_n (pc := 27) (i := 1) hX dX3_present_27 rfl rfl ?_
    exact V_iret (pc := 28) (st := []) hX hr (by first | rfl | exact bI_nar _ | decide +kernel) dX3_present_28 (hp)
  · refine V_aload_n (pc := 10) (i := 0) hX dX3_present_10 rfl rfl ?_
    refine V_iload_n (pc := 11) (i := 2) hX dX3_present_11 rfl rfl ?_
    refine V_callVi (pc := 12) hX (hR.mono (by omega)) mX3_23 (c_isMissing _ _ (by omega)) dX3_present_12 rfl rfl rfl rfl (Nat.le_of_ble_eq_true rfl) ?_
    refine V_if_neB (pc := 15) (tgt := 21) hX dX3_present_15 (by decide) (fun h15 => ?_) (fun h15 => ?_)
    · refine V_iinc2 (pc := 21) hX dX3_present_21 rfl (iinc1 _) ?_
      refine V_goto (pc := 24) (tgt := 4) hX dX3_present_24 (by decide) ?_
      have ih := l_present hX hR hr hp (k + 1) (by omega)
      rw [presf, if_pos (of_decide_eq_true h15)] at ih
      exact ih
    · refine V_iinc1 (pc := 18) hX dX3_present_18 rfl (iinc1 _) ?_
      refine V_iinc2 (pc := 21) hX dX3_present_21 rfl (iinc1 _) ?_
      refine V_goto (pc := 24) (tgt := 4) hX dX3_present_24 (by decide) ?_
      have ih := l_present hX hR hr hp (k + 1) (by omega)
      rw [presf, if_neg (of_decide_eq_false h15)] at ih
      exact ih
termination_by 8 - k
set_option maxRecDepth 100000 in
set_option maxHeartbeats 4000000 in
theorem c_present (σ : Mem) : Cc yX3_present cX3_present 3 (some .int) 1 [.ref 1] σ (rI (nI (presf (σ 16) 8)) σ) := by
  refine Cc.intro (by decide +kernel) [some (.ref 1), none, none] (fun _ => rfl) rfl (fun _ => Nat.le_of_ble_eq_true rfl) ?_
  intro X hX hR hr
  refine V_iconst (pc := 0) (v := (nI 0)) hX dX3_present_0 (by decide +kernel) ?_
  refine V_istore1 (pc := 1) hX dX3_present_1 rfl ?_
  refine V_iconst (pc := 2) (v := (nI 0)) hX dX3_present_2 (by decide +kernel) ?_
  refine V_istore2 (pc := 3) hX dX3_present_3 rfl ?_
  exact l_present hX hR hr ⟨rfl, rfl⟩ 0 (by omega)

