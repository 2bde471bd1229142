theorem mf_id (σ : Mem) (p : Nat) : mf σ p (σ p) = σ := by
  funext q j
  simp only [mf]
  split
  · rename_i h; rw [h]
  · rfl
theorem mf_mu (σ : Mem) (p i : Nat) (g : Nat → Int32) (v : Int32) : mu (mf σ p g) p i v = mf σ p (upd g i v) := by
  funext q j
  simp only [mu, mf, upd]
  by_cases h : q = p <;> by_cases h2 : j = i <;> simp [h, h2, upd]
theorem mf_at (σ : Mem) (p : Nat) (g : Nat → Int32) (q : Nat) : mf σ p g q = if q = p then g else σ q := rfl
theorem V_ldcw {X : XC} {own : String} {cc : ByteArray} {nL pc : Nat} {ls : List (Option Value)} {st : List Value} {σ : Mem} {index : Nat} {v : Int32} (hX : Cok X own cc nL) (hw : Cond.constant own index v ∈ lw_w) (hd : decode cc pc = .ok (.ldc_w index, 3)) (kk : Vw X (pc + 3) ls (.int v :: st) σ) : Vw X pc ls st σ := by
  obtain ⟨p, l, e, R, s, m, args, below, meth, c, cells, slots, Q, A, D, ad, cs, H0⟩ := X
  intro H locs lsA hP hS hl
  exact lv_ldcw hX.1 hX.2.1 hX.2.2.2.1 (hX.2.2.2.2.1 _ hw) hd (kk H locs lsA hP hS hl)
def popn (x : Int32) : Nat → Nat
  | 0 => 0
  | k + 1 => if bt x k then popn x k + 1 else popn x k
def us (x : Int32) (k : Nat) : Int32 := (x.toUInt32 >>> ((nI k).toUInt32 &&& Int32.toUInt32 31)).toInt32
def bc1 (x : Int32) : Int32 := x - (us x 1 &&& nI 1431655765)
def bc2 (x : Int32) : Int32 := (x &&& nI 858993459) + (us x 2 &&& nI 858993459)
def bc3 (x : Int32) : Int32 := (x + us x 4) &&& nI 252645135
def bc4 (x : Int32) : Int32 := x + us x 8
def bc5 (x : Int32) : Int32 := (x + us x 16) &&& nI 63
def bcF (x : Int32) : Int32 := bc5 (bc4 (bc3 (bc2 (bc1 x))))
set_option maxRecDepth 100000 in
set_option maxHeartbeats 4000000 in
theorem c_bitCount (x : Int32) (σ : Mem) : Cc yJ6_bitCount_0f7a4 cJ6_bitCount_0f7a4 1 (some .int) 0 [.int x] σ (rI (bcF x) σ) := by
  refine Cc.intro (by decide +kernel) [some (.int x)] (fun _ => rfl) rfl (fun _ => Nat.le_of_ble_eq_true rfl) ?_
  intro X hX hR hr
  refine V_iload_n (pc := 0) (i := 0) hX dJ6_bitCount_0f7a4_0 rfl rfl ?_
  refine V_iload_n (pc := 1) (i := 0) hX dJ6_bitCount_0f7a4_1 rfl rfl ?_
  refine V_iconst (pc := 2) (v := (nI 1)) hX dJ6_bitCount_0f7a4_2 (by decide +kernel) ?_
  refine V_iushr (pc := 3) hX dJ6_bitCount_0f7a4_3 ?_
  refine V_ldcw (pc := 4) hX kJ6_265 dJ6_bitCount_0f7a4_4 ?_
  refine V_iand (pc := 7) hX dJ6_bitCount_0f7a4_7 ?_
  refine V_isub (pc := 8) hX dJ6_bitCount_0f7a4_8 ?_
  refine V_istore0 (pc := 9) hX dJ6_bitCount_0f7a4_9 rfl ?_
  refine V_iload_n (pc := 10) (i := 0) hX dJ6_bitCount_0f7a4_10 rfl rfl ?_
  refine V_ldcw (pc := 11) hX kJ6_266 dJ6_bitCount_0f7a4_11 ?_
  refine V_iand (pc := 14) hX dJ6_bitCount_0f7a4_14 ?_
  refine V_iload_n (pc := 15) (i := 0) hX dJ6_bitCount_0f7a4_15 rfl rfl ?_
  refine V_iconst (pc := 16) (v := (nI 2)) hX dJ6_bitCount_0f7a4_16 (by decide +kernel) ?_
  refine V_iushr (pc := 17) hX dJ6_bitCount_0f7a4_17 ?_
  refine V_ldcw (pc := 18) hX kJ6_266 dJ6_bitCount_0f7a4_18 ?_
  refine V_iand (pc := 21) hX dJ6_bitCount_0f7a4_21 ?_
  refine V_iadd (pc := 22) hX dJ6_bitCount_0f7a4_22 ?_
  refine V_istore0 (pc := 23) hX dJ6_bitCount_0f7a4_23 rfl ?_
  refine V_iload_n (pc := 24) (i := 0) hX dJ6_bitCount_0f7a4_24 rfl rfl ?_
  refine V_iload_n (pc := 25) (i := 0) hX dJ6_bitCount_0f7a4_25 rfl rfl ?_
  refine V_iconst (pc := 26) (v := (nI 4)) hX dJ6_bitCount_0f7a4_26 (by decide +kernel) ?_
  refine V_iushr (pc := 27) hX dJ6_bitCount_0f7a4_27 ?_
  refine V_iadd (pc := 28) hX dJ6_bitCount_0f7a4_28 ?_
  refine V_ldcw (pc := 29) hX kJ6_267 dJ6_bitCount_0f7a4_29 ?_
  refine V_iand (pc := 32) hX dJ6_bitCount_0f7a4_32 ?_
  refine V_istore0 (pc := 33) hX dJ6_bitCount_0f7a4_33 rfl ?_
  refine V_iload_n (pc := 34) (i := 0) hX dJ6_bitCount_0f7a4_34 rfl rfl ?_
  refine V_iload_n (pc := 35) (i := 0) hX dJ6_bitCount_0f7a4_35 rfl rfl ?_
  refine V_bipush (pc := 36) (v := (nI 8)) hX dJ6_bitCount_0f7a4_36 (by decide +kernel) ?_
  refine V_iushr (pc := 38) hX dJ6_bitCount_0f7a4_38 ?_
  refine V_iadd (pc := 39) hX dJ6_bitCount_0f7a4_39 ?_
  refine V_istore0 (pc := 40) hX dJ6_bitCount_0f7a4_40 rfl ?_
  refine V_iload_n (pc := 41) (i := 0) hX dJ6_bitCount_0f7a4_41 rfl rfl ?_
  refine V_iload_n (pc := 42) (i := 0) hX dJ6_bitCount_0f7a4_42 rfl rfl ?_
  refine V_bipush (pc := 43) (v := (nI 16)) hX dJ6_bitCount_0f7a4_43 (by decide +kernel) ?_
  refine V_iushr (pc := 45) hX dJ6_bitCount_0f7a4_45 ?_
  refine V_iadd (pc := 46) hX dJ6_bitCount_0f7a4_46 ?_
  refine V_istore0 (pc := 47) hX dJ6_bitCount_0f7a4_47 rfl ?_
  refine V_iload_n (pc := 48) (i := 0) hX dJ6_bitCount_0f7a4_48 rfl rfl ?_
  refine V_bipush (pc := 49) (v := (nI 63)) hX dJ6_bitCount_0f7a4_49 (by decide +kernel) ?_
  refine V_iand (pc := 51) hX dJ6_bitCount_0f7a4_51 ?_
  exact V_iret (pc := 52) (st := []) hX hr (by first | rfl | exact bI_nar _ | decide +kernel) dJ6_bitCount_0f7a4_52 (⟨rfl, rfl⟩)
theorem bcF_pop : ∀ m, m < 4096 → bcF (nI m) = nI (popn (nI m) 12) := by
  intro m hm
  have h : (List.range 4096).all (fun m => decide (bcF (nI m) = nI (popn (nI m) 12))) = true := by decide +kernel
  exact of_decide_eq_true (List.all_eq_true.mp h m (List.mem_range.mpr hm))
/-! ===== ASKS, both: a trace is a row and a number ===== -/
/-- the trace with one more body: the row, how many -/
def bgF (x : (Nat → Int32) × Nat) (b : Nat) : (Nat → Int32) × Nat := if x.2 < 16 then (upd x.1 x.2 (nI b), x.2 + 1) else x
theorem bgF_le {x : (Nat → Int32) × Nat} {b : Nat} (h : x.2 ≤ 16) : (bgF x b).2 ≤ 16 := by
  unfold bgF
  split
  · show x.2 + 1 ≤ 16
    omega
  · exact h
/-- the class's world with a trace -/
def tcM (σ : Mem) (x : (Nat → Int32) × Nat) : Mem := mu (mf σ 51 x.1) 5 1 (nI x.2)
theorem tcM_r {σ : Mem} {x : (Nat → Int32) × Nat} {q : Nat} (h : q ≠ 5) (h2 : q ≠ 51) : tcM σ x q = σ q := by unfold tcM; rw [← mu_ne h, ← mf_ne h2]
theorem tcM_bg {σ : Mem} {x : (Nat → Int32) × Nat} {b : Nat} (h : x.2 < 16) : mu (mu (tcM σ x) 51 x.2 (nI b)) 5 1 (nI (x.2 + 1)) = tcM σ (bgF x b) := by
  unfold bgF
  rw [if_pos h]
  unfold tcM
  funext q j
  by_cases h1 : q = 5 <;> by_cases h2 : q = 51 <;> simp_all [mu, mf, upd]
set_option maxRecDepth 100000 in
set_option maxHeartbeats 4000000 in
theorem c_begin (x : (Nat → Int32) × Nat) (b : Nat) (σ : Mem) (hx : x.2 ≤ 16) : Cc yX0_begin cX0_begin 2 none 0 [.ref 5, .int (nI b)] (tcM σ x) (rV (tcM σ (bgF x b))) := by
  refine Cc.intro (by decide +kernel) [some (.ref 5), some (.int (nI b))] (fun _ => rfl) rfl (fun _ => Nat.le_of_ble_eq_true rfl) ?_
  intro X hX hR hr
  have e1 : tcM σ x 5 1 = nI x.2 := mu_at
  refine V_aload_n (pc := 0) (i := 0) hX dX0_begin_0 rfl rfl ?_
  refine V_getf (pc := 1) hX fX0_15 dX0_begin_1 rfl rfl ?_
  refine V_bipush (pc := 4) (v := (nI 16)) hX dX0_begin_4 (by decide +kernel) ?_
  rw [e1]
  refine V_icmp_geN (pc := 6) (tgt := 29) hX dX0_begin_6 (by decide) (by omega) (by omega) (fun h6 => ?_) (fun h6 => ?_)
  · exact V_vret (pc := 29) (st := []) hX hr dX0_begin_29 (⟨rfl, by unfold bgF; rw [if_neg (by omega)]⟩)
  · refine V_aload_n (pc := 9) (i := 0) hX dX0_begin_9 rfl rfl ?_
    refine V_getr (pc := 10) hX fX0_9 dX0_begin_10 rfl rfl ?_
    refine V_aload_n (pc := 13) (i := 0) hX dX0_begin_13 rfl rfl ?_
    refine V_getf (pc := 14) hX fX0_15 dX0_begin_14 rfl rfl ?_
    rw [e1]
    refine V_iload_n (pc := 17) (i := 1) hX dX0_begin_17 rfl rfl ?_
    refine V_iast (pc := 18) hX dX0_begin_18 (rfl) (rfl) (by omega) (by decide) ?_
    refine V_aload_n (pc := 19) (i := 0) hX dX0_begin_19 rfl rfl ?_
    refine V_dup (pc := 20) hX dX0_begin_20 rfl ?_
    refine V_getf (pc := 21) hX fX0_15 dX0_begin_21 rfl rfl ?_
    rw [mu_np (by decide), e1]
    refine V_iconst (pc := 24) (v := (nI 1)) hX dX0_begin_24 (by decide +kernel) ?_
    refine V_iadd (pc := 25) hX dX0_begin_25 ?_
    rw [nI_add]
    refine V_putf (pc := 26) hX fX0_15 gi0_1 dX0_begin_26 rfl rfl ?_
    exact V_vret (pc := 29) (st := []) hX hr dX0_begin_29 (⟨rfl, tcM_bg h6⟩)
set_option maxRecDepth 100000 in
set_option maxHeartbeats 4000000 in
theorem c_wAny (x : (Nat → Int32) × Nat) (s : Nat) (σ : Mem) (hx : x.2 ≤ 16) (hs : s < 10) : Cc yX0_worthOfAny cX0_worthOfAny 3 (some .int) 1 [.ref 5, .ref 2, .int (nI s)] (tcM σ x) (rI (σ 17 s) (tcM σ (bgF x 10))) := by
  refine Cc.intro (by decide +kernel) [some (.ref 5), some (.ref 2), some (.int (nI s))] (fun _ => rfl) rfl (fun _ => Nat.le_of_ble_eq_true rfl) ?_
  intro X hX hR hr
  refine V_aload_n (pc := 0) (i := 0) hX dX0_worthOfAny_0 rfl rfl ?_
  refine V_bipush (pc := 1) (v := (nI 10)) hX dX0_worthOfAny_1 (by decide +kernel) ?_
  refine V_callVv (pc := 3) hX (hR.mono (by omega)) mX0_44 (c_begin x 10 σ hx) dX0_worthOfAny_3 rfl rfl rfl rfl (Nat.le_of_ble_eq_true rfl) ?_
  refine V_aload_n (pc := 6) (i := 1) hX dX0_worthOfAny_6 rfl rfl ?_
  refine V_getr (pc := 7) hX fX0_48 dX0_worthOfAny_7 rfl rfl ?_
  refine V_iload_n (pc := 10) (i := 2) hX dX0_worthOfAny_10 rfl rfl ?_
  refine V_iald (pc := 11) hX dX0_worthOfAny_11 (rfl) (rfl) (by omega) (by decide) ?_
  exact V_iret (pc := 12) (st := []) hX hr (by first | rfl | exact bI_nar _ | decide +kernel) dX0_worthOfAny_12 (⟨by rw [tcM_r (by decide) (by decide)], rfl⟩)
set_option maxRecDepth 100000 in
set_option maxHeartbeats 4000000 in
theorem c_wOpen (x : (Nat → Int32) × Nat) (s : Nat) (σ : Mem) (hx : x.2 ≤ 16) (hs : s < 10) : Cc yX0_worthOfOpen cX0_worthOfOpen 3 (some .int) 3 [.ref 5, .ref 2, .int (nI s)] (tcM σ x) (rI (σ 17 s - pf (σ 18 s) (σ 19) 12) (tcM σ (bgF (bgF x 11) 10))) := by
  refine Cc.intro (by decide +kernel) [some (.ref 5), some (.ref 2), some (.int (nI s))] (fun _ => rfl) rfl (fun _ => Nat.le_of_ble_eq_true rfl) ?_
  intro X hX hR hr
  refine V_aload_n (pc := 0) (i := 0) hX dX0_worthOfOpen_0 rfl rfl ?_
  refine V_bipush (pc := 1) (v := (nI 11)) hX dX0_worthOfOpen_1 (by decide +kernel) ?_
  refine V_callVv (pc := 3) hX (hR.mono (by omega)) mX0_44 (c_begin x 11 σ hx) dX0_worthOfOpen_3 rfl rfl rfl rfl (Nat.le_of_ble_eq_true rfl) ?_
  refine V_aload_n (pc := 6) (i := 0) hX dX0_worthOfOpen_6 rfl rfl ?_
  refine V_aload_n (pc := 7) (i := 1) hX dX0_worthOfOpen_7 rfl rfl ?_
  refine V_iload_n (pc := 8) (i := 2) hX dX0_worthOfOpen_8 rfl rfl ?_
  refine V_callVi (pc := 9) hX (hR.mono (by omega)) mX0_51 (c_wAny _ s σ (bgF_le hx) hs) dX0_worthOfOpen_9 rfl rfl rfl rfl (Nat.le_of_ble_eq_true rfl) ?_
  refine V_aload_n (pc := 12) (i := 1) hX dX0_worthOfOpen_12 rfl rfl ?_
  refine V_iload_n (pc := 13) (i := 2) hX dX0_worthOfOpen_13 rfl rfl ?_
  refine V_callVi (pc := 14) hX (hR.mono (by omega)) mX0_54 (c_filled s hs _) dX0_worthOfOpen_14 rfl rfl rfl rfl (Nat.le_of_ble_eq_true rfl) ?_
  refine V_isub (pc := 17) hX dX0_worthOfOpen_17 ?_
  exact V_iret (pc := 18) (st := []) hX hr (by first | rfl | exact bI_nar _ | decide +kernel) dX0_worthOfOpen_18 (⟨by rw [tcM_r (by decide) (by decide), tcM_r (by decide) (by decide)], rfl⟩)
set_option maxRecDepth 100000 in
set_option maxHeartbeats 4000000 in
theorem c_mAny (x : (Nat → Int32) × Nat) (s : Nat) (σ : Mem) (hx : x.2 ≤ 16) (hs : s < 10) : Cc yX0_markOfAny cX0_markOfAny 3 (some .int) 1 [.ref 5, .ref 2, .int (nI s)] (tcM σ x) (rI (bcF (σ 18 s)) (tcM σ (bgF x 20))) := by
  refine Cc.intro (by decide +kernel) [some (.ref 5), some (.ref 2), some (.int (nI s))] (fun _ => rfl) rfl (fun _ => Nat.le_of_ble_eq_true rfl) ?_
  intro X hX hR hr
  refine V_aload_n (pc := 0) (i := 0) hX dX0_markOfAny_0 rfl rfl ?_
  refine V_bipush (pc := 1) (v := (nI 20)) hX dX0_markOfAny_1 (by decide +kernel) ?_
  refine V_callVv (pc := 3) hX (hR.mono (by omega)) mX0_44 (c_begin x 20 σ hx) dX0_markOfAny_3 rfl rfl rfl rfl (Nat.le_of_ble_eq_true rfl) ?_
  refine V_aload_n (pc := 6) (i := 1) hX dX0_markOfAny_6 rfl rfl ?_
  refine V_getr (pc := 7) hX fX0_57 dX0_markOfAny_7 rfl rfl ?_
  refine V_iload_n (pc := 10) (i := 2) hX dX0_markOfAny_10 rfl rfl ?_
  refine V_iald (pc := 11) hX dX0_markOfAny_11 (rfl) (rfl) (by omega) (by decide) ?_
  refine V_callSi (pc := 12) hX (hR.mono (by omega)) mX0_60 (c_bitCount _ _) dX0_markOfAny_12 rfl rfl rfl (Nat.le_of_ble_eq_true rfl) ?_
  exact V_iret (pc := 15) (st := []) hX hr (by first | rfl | exact bI_nar _ | decide +kernel) dX0_markOfAny_15 (⟨by rw [tcM_r (by decide) (by decide)], rfl⟩)
set_option maxRecDepth 100000 in
set_option maxHeartbeats 4000000 in
theorem c_mNear (x : (Nat → Int32) × Nat) (s : Nat) (σ : Mem) (hx : x.2 ≤ 16) (hs : s < 10) : Cc yX0_markOfNear cX0_markOfNear 3 (some .int) 2 [.ref 5, .ref 2, .int (nI s)] (tcM σ x) (rI (bcF (σ 18 s) + nI 100) (tcM σ (bgF (bgF x 21) 20))) := by
  refine Cc.intro (by decide +kernel) [some (.ref 5), some (.ref 2), some (.int (nI s))] (fun _ => rfl) rfl (fun _ => Nat.le_of_ble_eq_true rfl) ?_
  intro X hX hR hr
  refine V_aload_n (pc := 0) (i := 0) hX dX0_markOfNear_0 rfl rfl ?_
  refine V_bipush (pc := 1) (v := (nI 21)) hX dX0_markOfNear_1 (by decide +kernel) ?_
  refine V_callVv (pc := 3) hX (hR.mono (by omega)) mX0_44 (c_begin x 21 σ hx) dX0_markOfNear_3 rfl rfl rfl rfl (Nat.le_of_ble_eq_true rfl) ?_
  refine V_aload_n (pc := 6) (i := 0) hX dX0_markOfNear_6 rfl rfl ?_
  refine V_aload_n (pc := 7) (i := 1) hX dX0_markOfNear_7 rfl rfl ?_
  refine V_iload_n (pc := 8) (i := 2) hX dX0_markOfNear_8 rfl rfl ?_
  refine V_callVi (pc := 9) hX (hR.mono (by omega)) mX0_41 (c_mAny _ s σ (bgF_le hx) hs) dX0_markOfNear_9 rfl rfl rfl rfl (Nat.le_of_ble_eq_true rfl) ?_
  refine V_bipush (pc := 12) (v := (nI 100)) hX dX0_markOfNear_12 (by decide +kernel) ?_
  refine V_iadd (pc := 14) hX dX0_markOfNear_14 ?_
  exact V_iret (pc := 15) (st := []) hX hr (by first | rfl | exact bI_nar _ | decide +kernel) dX0_markOfNear_15 (⟨rfl, rfl⟩)
set_option maxRecDepth 100000 in
set_option maxHeartbeats 4000000 in
theorem c_wNear (x : (Nat → Int32) × Nat) (s : Nat) (σ : Mem) (hx : x.2 ≤ 16) (hs : s < 10) : Cc yX0_worthOfNear cX0_worthOfNear 3 (some .int) 4 [.ref 5, .ref 2, .int (nI s)] (tcM σ x) (rI ((σ 17 s - pf (σ 18 s) (σ 19) 12) + (bcF (σ 18 s) + nI 100)) (tcM σ (bgF (bgF (bgF (bgF (bgF x 12) 11) 10) 21) 20))) := by
  refine Cc.intro (by decide +kernel) [some (.ref 5), some (.ref 2), some (.int (nI s))] (fun _ => rfl) rfl (fun _ => Nat.le_of_ble_eq_true rfl) ?_
  intro X hX hR hr
  refine V_aload_n (pc := 0) (i := 0) hX dX0_worthOfNear_0 rfl rfl ?_
  refine V_bipush (pc := 1) (v := (nI 12)) hX dX0_worthOfNear_1 (by decide +kernel) ?_
  refine V_callVv (pc := 3) hX (hR.mono (by omega)) mX0_44 (c_begin x 12 σ hx) dX0_worthOfNear_3 rfl rfl rfl rfl (Nat.le_of_ble_eq_true rfl) ?_
  refine V_aload_n (pc := 6) (i := 0) hX dX0_worthOfNear_6 rfl rfl ?_
  refine V_aload_n (pc := 7) (i := 1) hX dX0_worthOfNear_7 rfl rfl ?_
  refine V_iload_n (pc := 8) (i := 2) hX dX0_worthOfNear_8 rfl rfl ?_
  refine V_callVi (pc := 9) hX (hR.mono (by omega)) mX0_32 (c_wOpen _ s σ (bgF_le hx) hs) dX0_worthOfNear_9 rfl rfl rfl rfl (Nat.le_of_ble_eq_true rfl) ?_
  refine V_aload_n (pc := 12) (i := 0) hX dX0_worthOfNear_12 rfl rfl ?_
  refine V_aload_n (pc := 13) (i := 1) hX dX0_worthOfNear_13 rfl rfl ?_
  refine V_iload_n (pc := 14) (i := 2) hX dX0_worthOfNear_14 rfl rfl ?_
  refine V_callVi (pc := 15) hX (hR.mono (by omega)) mX0_38 (c_mNear _ s σ (bgF_le (bgF_le (bgF_le hx))) hs) dX0_worthOfNear_15 rfl rfl rfl rfl (Nat.le_of_ble_eq_true rfl) ?_
  refine V_iadd (pc := 18) hX dX0_worthOfNear_18 ?_
  exact V_iret (pc := 19) (st := []) hX hr (by first | rfl | exact bI_nar _ | decide +kernel) dX0_worthOfNear_19 (⟨rfl, rfl⟩)
set_option maxRecDepth 100000 in
set_option maxHeartbeats 4000000 in
theorem c_wOwn (x : (Nat → Int32) × Nat) (s : Nat) (σ : Mem) (hx : x.2 ≤ 16) (hs : s < 10) : Cc yX0_worthOfOwn cX0_worthOfOwn 3 (some .int) 2 [.ref 5, .ref 2, .int (nI s)] (tcM σ x) (rI (nI 2 * σ 17 s) (tcM σ (bgF (bgF x 13) 10))) := by
  refine Cc.intro (by decide +kernel) [some (.ref 5), some (.ref 2), some (.int (nI s))] (fun _ => rfl) rfl (fun _ => Nat.le_of_ble_eq_true rfl) ?_
  intro X hX hR hr
  refine V_aload_n (pc := 0) (i := 0) hX dX0_worthOfOwn_0 rfl rfl ?_
  refine V_bipush (pc := 1) (v := (nI 13)) hX dX0_worthOfOwn_1 (by decide +kernel) ?_
  refine V_callVv (pc := 3) hX (hR.mono (by omega)) mX0_44 (c_begin x 13 σ hx) dX0_worthOfOwn_3 rfl rfl rfl rfl (Nat.le_of_ble_eq_true rfl) ?_
  refine V_iconst (pc := 6) (v := (nI 2)) hX dX0_worthOfOwn_6 (by decide +kernel) ?_
  refine V_aload_n (pc := 7) (i := 0) hX dX0_worthOfOwn_7 rfl rfl ?_
  refine V_aload_n (pc := 8) (i := 1) hX dX0_worthOfOwn_8 rfl rfl ?_
  refine V_iload_n (pc := 9) (i := 2) hX dX0_worthOfOwn_9 rfl rfl ?_
  refine V_callVi (pc := 10) hX (hR.mono (by omega)) mX0_51 (c_wAny _ s σ (bgF_le hx) hs) dX0_worthOfOwn_10 rfl rfl rfl rfl (Nat.le_of_ble_eq_true rfl) ?_
  refine V_imul (pc := 13) hX dX0_worthOfOwn_13 ?_
  exact V_iret (pc := 14) (st := []) hX hr (by first | rfl | exact bI_nar _ | decide +kernel) dX0_worthOfOwn_14 (⟨rfl, rfl⟩)
set_option maxRecDepth 100000 in
set_option maxHeartbeats 4000000 in
theorem c_mOwn (x : (Nat → Int32) × Nat) (s : Nat) (σ : Mem) (hx : x.2 ≤ 16) (hs : s < 10) : Cc yX0_markOfOwn cX0_markOfOwn 3 (some .int) 3 [.ref 5, .ref 2, .int (nI s)] (tcM σ x) (rI (bcF (σ 18 s) + nI 2 * σ 17 s) (tcM σ (bgF (bgF (bgF (bgF x 22) 20) 13) 10))) := by
  refine Cc.intro (by decide +kernel) [some (.ref 5), some (.ref 2), some (.int (nI s))] (fun _ => rfl) rfl (fun _ => Nat.le_of_ble_eq_true rfl) ?_
  intro X hX hR hr
  refine V_aload_n (pc := 0) (i := 0) hX dX0_markOfOwn_0 rfl rfl ?_
  refine V_bipush (pc := 1) (v := (nI 22)) hX dX0_markOfOwn_1 (by decide +kernel) ?_
  refine V_callVv (pc := 3) hX (hR.mono (by omega)) mX0_44 (c_begin x 22 σ hx) dX0_markOfOwn_3 rfl rfl rfl rfl (Nat.le_of_ble_eq_true rfl) ?_
  refine V_aload_n (pc := 6) (i := 0) hX dX0_markOfOwn_6 rfl rfl ?_
  refine V_aload_n (pc := 7) (i := 1) hX dX0_markOfOwn_7 rfl rfl ?_
  refine V_iload_n (pc := 8) (i := 2) hX dX0_markOfOwn_8 rfl rfl ?_
  refine V_callVi (pc := 9) hX (hR.mono (by omega)) mX0_41 (c_mAny _ s σ (bgF_le hx) hs) dX0_markOfOwn_9 rfl rfl rfl rfl (Nat.le_of_ble_eq_true rfl) ?_
  refine V_aload_n (pc := 12) (i := 0) hX dX0_markOfOwn_12 rfl rfl ?_
  refine V_aload_n (pc := 13) (i := 1) hX dX0_markOfOwn_13 rfl rfl ?_
  refine V_iload_n (pc := 14) (i := 2) hX dX0_markOfOwn_14 rfl rfl ?_
  refine V_callVi (pc := 15) hX (hR.mono (by omega)) mX0_25 (c_wOwn _ s σ (bgF_le (bgF_le hx)) hs) dX0_markOfOwn_15 rfl rfl rfl rfl (Nat.le_of_ble_eq_true rfl) ?_
  refine V_iadd (pc := 18) hX dX0_markOfOwn_18 ?_
  exact V_iret (pc := 19) (st := []) hX hr (by first | rfl | exact bI_nar _ | decide +kernel) dX0_markOfOwn_19 (⟨rfl, rfl⟩)
/-- the trace and the answer of an ask for WORTH, MARK: kd the kind, c cost, f filled, p how many things -/
def wTr (kd : Int32) (g : Nat → Int32) : (Nat → Int32) × Nat := if kd = nI 2 then bgF (bgF (bgF (bgF (bgF (g, 0) 12) 11) 10) 21) 20 else if kd = nI 3 then bgF (bgF (g, 0) 13) 10 else bgF (bgF (g, 0) 11) 10
def wVal (kd c f p : Int32) : Int32 := if kd = nI 2 then (c - f) + (p + nI 100) else if kd = nI 3 then nI 2 * c else c - f
def mTr (kd : Int32) (g : Nat → Int32) : (Nat → Int32) × Nat := if kd = nI 2 then bgF (bgF (g, 0) 21) 20 else if kd = nI 3 then bgF (bgF (bgF (bgF (g, 0) 22) 20) 13) 10 else bgF (g, 0) 20
def mVal (kd c p : Int32) : Int32 := if kd = nI 2 then p + nI 100 else if kd = nI 3 then p + nI 2 * c else p
theorem tcM_0 {σ : Mem} : mu σ 5 1 (nI 0) = tcM σ (σ 51, 0) := by unfold tcM; rw [mf_id]
set_option maxRecDepth 100000 in
set_option maxHeartbeats 4000000 in
theorem c_askW (s : Nat) (σ : Mem) (hs : s < 10) : Cc yX0_askWorth cX0_askWorth 3 (some .int) 5 [.ref 5, .ref 2, .int (nI s)] σ (rI (wVal (kindf (σ 2 6) s (pf (σ 18 s) (σ 19) 12) (σ 17 s)) (σ 17 s) (pf (σ 18 s) (σ 19) 12) (bcF (σ 18 s))) (tcM σ (wTr (kindf (σ 2 6) s (pf (σ 18 s) (σ 19) 12) (σ 17 s)) (σ 51)))) := by
  refine Cc.intro (by decide +kernel) [some (.ref 5), some (.ref 2), some (.int (nI s))] (fun _ => rfl) rfl (fun _ => Nat.le_of_ble_eq_true rfl) ?_
  intro X hX hR hr
  have r : ∀ {q : Nat}, q ≠ 5 → q ≠ 51 → tcM σ (σ 51, 0) q = σ q := fun h h2 => tcM_r h h2
  refine V_aload_n (pc := 0) (i := 0) hX dX0_askWorth_0 rfl rfl ?_
  refine V_iconst (pc := 1) (v := (nI 0)) hX dX0_askWorth_1 (by decide +kernel) ?_
  refine V_putf (pc := 2) hX fX0_15 gi0_1 dX0_askWorth_2 rfl rfl ?_
  refine Vw.mem tcM_0.symm ?_
  refine V_aload_n (pc := 5) (i := 1) hX dX0_askWorth_5 rfl rfl ?_
  refine V_iload_n (pc := 6) (i := 2) hX dX0_askWorth_6 rfl rfl ?_
  refine V_callVi (pc := 7) hX (hR.mono (by omega)) mX0_19 (c_kindOf s _ hs) dX0_askWorth_7 rfl rfl rfl rfl (Nat.le_of_ble_eq_true rfl) ?_
  rw [r (by decide) (by decide), r (by decide) (by decide), r (by decide) (by decide), r (by decide) (by decide)]
  rcases Classical.em (kindf (σ 2 6) s (pf (σ 18 s) (σ 19) 12) (σ 17 s) = nI 2) with e10_2 | e10_2
  · refine V_lookup (pc := 10) (off := 33) (tgt := 43) hX dX0_askWorth_10 (by decide) (by rw [e10_2]; decide +kernel) (by decide) ?_
    refine V_aload_n (pc := 43) (i := 0) hX dX0_askWorth_43 rfl rfl ?_
    refine V_aload_n (pc := 44) (i := 1) hX dX0_askWorth_44 rfl rfl ?_
    refine V_iload_n (pc := 45) (i := 2) hX dX0_askWorth_45 rfl rfl ?_
    refine V_callVi (pc := 46) hX (hR.mono (by omega)) mX0_29 (c_wNear (σ 51, 0) s σ (Nat.zero_le _) hs) dX0_askWorth_46 rfl rfl rfl rfl (Nat.le_of_ble_eq_true rfl) ?_
    exact V_iret (pc := 49) (st := []) hX hr (by first | rfl | exact bI_nar _ | decide +kernel) dX0_askWorth_49 (⟨by rw [wVal, if_pos e10_2], by rw [wTr, if_pos e10_2]⟩)
  · skip
    rcases Classical.em (kindf (σ 2 6) s (pf (σ 18 s) (σ 19) 12) (σ 17 s) = nI 3) with e10_3 | e10_3
    · refine V_lookup (pc := 10) (off := 26) (tgt := 36) hX dX0_askWorth_10 (by decide) (by rw [e10_3]; decide +kernel) (by decide) ?_
      refine V_aload_n (pc := 36) (i := 0) hX dX0_askWorth_36 rfl rfl ?_
      refine V_aload_n (pc := 37) (i := 1) hX dX0_askWorth_37 rfl rfl ?_
      refine V_iload_n (pc := 38) (i := 2) hX dX0_askWorth_38 rfl rfl ?_
      refine V_callVi (pc := 39) hX (hR.mono (by omega)) mX0_25 (c_wOwn (σ 51, 0) s σ (Nat.zero_le _) hs) dX0_askWorth_39 rfl rfl rfl rfl (Nat.le_of_ble_eq_true rfl) ?_
      exact V_iret (pc := 42) (st := []) hX hr (by first | rfl | exact bI_nar _ | decide +kernel) dX0_askWorth_42 (⟨by rw [wVal, if_neg e10_2, if_pos e10_3], by rw [wTr, if_neg e10_2, if_pos e10_3]⟩)
    · skip
      refine V_lookup (pc := 10) (off := 40) (tgt := 50) hX dX0_askWorth_10 (by decide) (by show Op.lookupswitch.offset [(2, 33), (3, 26)] _ _ = _; rw [lv_osw e10_2 (by decide +kernel), lv_osw e10_3 (by decide +kernel)]; rfl) (by decide) ?_
      refine V_aload_n (pc := 50) (i := 0) hX dX0_askWorth_50 rfl rfl ?_
      refine V_aload_n (pc := 51) (i := 1) hX dX0_askWorth_51 rfl rfl ?_
      refine V_iload_n (pc := 52) (i := 2) hX dX0_askWorth_52 rfl rfl ?_
      refine V_callVi (pc := 53) hX (hR.mono (by omega)) mX0_32 (c_wOpen (σ 51, 0) s σ (Nat.zero_le _) hs) dX0_askWorth_53 rfl rfl rfl rfl (Nat.le_of_ble_eq_true rfl) ?_
      exact V_iret (pc := 56) (st := []) hX hr (by first | rfl | exact bI_nar _ | decide +kernel) dX0_askWorth_56 (⟨by rw [wVal, if_neg e10_2, if_neg e10_3], by rw [wTr, if_neg e10_2, if_neg e10_3]⟩)
set_option maxRecDepth 100000 in
set_option maxHeartbeats 4000000 in
theorem c_askM (s : Nat) (σ : Mem) (hs : s < 10) : Cc yX0_askMark cX0_askMark 3 (some .int) 5 [.ref 5, .ref 2, .int (nI s)] σ (rI (mVal (kindf (σ 2 6) s (pf (σ 18 s) (σ 19) 12) (σ 17 s)) (σ 17 s) (bcF (σ 18 s))) (tcM σ (mTr (kindf (σ 2 6) s (pf (σ 18 s) (σ 19) 12) (σ 17 s)) (σ 51)))) := by
  refine Cc.intro (by decide +kernel) [some (.ref 5), some (.ref 2), some (.int (nI s))] (fun _ => rfl) rfl (fun _ => Nat.le_of_ble_eq_true rfl) ?_
  intro X hX hR hr
  have r : ∀ {q : Nat}, q ≠ 5 → q ≠ 51 → tcM σ (σ 51, 0) q = σ q := fun h h2 => tcM_r h h2
  refine V_aload_n (pc := 0) (i := 0) hX dX0_askMark_0 rfl rfl ?_
  refine V_iconst (pc := 1) (v := (nI 0)) hX dX0_askMark_1 (by decide +kernel) ?_
  refine V_putf (pc := 2) hX fX0_15 gi0_1 dX0_askMark_2 rfl rfl ?_
  refine Vw.mem tcM_0.symm ?_
  refine V_aload_n (pc := 5) (i := 1) hX dX0_askMark_5 rfl rfl ?_
  refine V_iload_n (pc := 6) (i := 2) hX dX0_askMark_6 rfl rfl ?_
  refine V_callVi (pc := 7) hX (hR.mono (by omega)) mX0_19 (c_kindOf s _ hs) dX0_askMark_7 rfl rfl rfl rfl (Nat.le_of_ble_eq_true rfl) ?_
  rw [r (by decide) (by decide), r (by decide) (by decide), r (by decide) (by decide), r (by decide) (by decide)]
  rcases Classical.em (kindf (σ 2 6) s (pf (σ 18 s) (σ 19) 12) (σ 17 s) = nI 2) with e10_2 | e10_2
  · refine V_lookup (pc := 10) (off := 33) (tgt := 43) hX dX0_askMark_10 (by decide) (by rw [e10_2]; decide +kernel) (by decide) ?_
    refine V_aload_n (pc := 43) (i := 0) hX dX0_askMark_43 rfl rfl ?_
    refine V_aload_n (pc := 44) (i := 1) hX dX0_askMark_44 rfl rfl ?_
    refine V_iload_n (pc := 45) (i := 2) hX dX0_askMark_45 rfl rfl ?_
    refine V_callVi (pc := 46) hX (hR.mono (by omega)) mX0_38 (c_mNear (σ 51, 0) s σ (Nat.zero_le _) hs) dX0_askMark_46 rfl rfl rfl rfl (Nat.le_of_ble_eq_true rfl) ?_
    exact V_iret (pc := 49) (st := []) hX hr (by first | rfl | exact bI_nar _ | decide +kernel) dX0_askMark_49 (⟨by rw [mVal, if_pos e10_2], by rw [mTr, if_pos e10_2]⟩)
  · skip
    rcases Classical.em (kindf (σ 2 6) s (pf (σ 18 s) (σ 19) 12) (σ 17 s) = nI 3) with e10_3 | e10_3
    · refine V_lookup (pc := 10) (off := 26) (tgt := 36) hX dX0_askMark_10 (by decide) (by rw [e10_3]; decide +kernel) (by decide) ?_
      refine V_aload_n (pc := 36) (i := 0) hX dX0_askMark_36 rfl rfl ?_
      refine V_aload_n (pc := 37) (i := 1) hX dX0_askMark_37 rfl rfl ?_
      refine V_iload_n (pc := 38) (i := 2) hX dX0_askMark_38 rfl rfl ?_
      refine V_callVi (pc := 39) hX (hR.mono (by omega)) mX0_35 (c_mOwn (σ 51, 0) s σ (Nat.zero_le _) hs) dX0_askMark_39 rfl rfl rfl rfl (Nat.le_of_ble_eq_true rfl) ?_
      exact V_iret (pc := 42) (st := []) hX hr (by first | rfl | exact bI_nar _ | decide +kernel) dX0_askMark_42 (⟨by rw [mVal, if_neg e10_2, if_pos e10_3], by rw [mTr, if_neg e10_2, if_pos e10_3]⟩)
    · skip
      refine V_lookup (pc := 10) (off := 40) (tgt := 50) hX dX0_askMark_10 (by decide) (by show Op.lookupswitch.offset [(2, 33), (3, 26)] _ _ = _; rw [lv_osw e10_2 (by decide +kernel), lv_osw e10_3 (by decide +kernel)]; rfl) (by decide) ?_
      refine V_aload_n (pc := 50) (i := 0) hX dX0_askMark_50 rfl rfl ?_
      refine V_aload_n (pc := 51) (i := 1) hX dX0_askMark_51 rfl rfl ?_
      refine V_iload_n (pc := 52) (i := 2) hX dX0_askMark_52 rfl rfl ?_
      refine V_callVi (pc := 53) hX (hR.mono (by omega)) mX0_41 (c_mAny (σ 51, 0) s σ (Nat.zero_le _) hs) dX0_askMark_53 rfl rfl rfl rfl (Nat.le_of_ble_eq_true rfl) ?_
      exact V_iret (pc := 56) (st := []) hX hr (by first | rfl | exact bI_nar _ | decide +kernel) dX0_askMark_56 (⟨by rw [mVal, if_neg e10_2, if_neg e10_3], by rw [mTr, if_neg e10_2, if_neg e10_3]⟩)
/-- ask: of the numbers of sets n, their costs, things, prices, bought ones; p: how many things, as it is counted -/
def askF (n : Nat) (c th pr : Nat → Int32) (bo : Int32) (p : Nat → Int32) (x w : Int32) : Int32 := if inr x n then (if w = nI 0 then wVal (kindf bo (tn x) (pf (th (tn x)) pr 12) (c (tn x))) (c (tn x)) (pf (th (tn x)) pr 12) (p (tn x)) else if w = nI 1 then mVal (kindf bo (tn x) (pf (th (tn x)) pr 12) (c (tn x))) (c (tn x)) (p (tn x)) else (-1000001)) else (-1000001)
def askT (n : Nat) (c th pr : Nat → Int32) (bo : Int32) (g : (Nat → Int32) × Nat) (x w : Int32) : (Nat → Int32) × Nat := if inr x n then (if w = nI 0 then wTr (kindf bo (tn x) (pf (th (tn x)) pr 12) (c (tn x))) g.1 else if w = nI 1 then mTr (kindf bo (tn x) (pf (th (tn x)) pr 12) (c (tn x))) g.1 else g) else g
set_option maxRecDepth 100000 in
set_option maxHeartbeats 4000000 in
theorem c_ask (n tr : Nat) (x w : Int32) (σ : Mem) (hn : σ 2 3 = nI n) (hn10 : n ≤ 10) (ht : σ 5 1 = nI tr) : Cc yX5_ask cX5_ask 3 (some .int) 6 [.ref 0, .int x, .int w] σ (rI (askF n (σ 17) (σ 18) (σ 19) (σ 2 6) (fun s => bcF (σ 18 s)) x w) (tcM σ (askT n (σ 17) (σ 18) (σ 19) (σ 2 6) (σ 51, tr) x w))) := by
  refine Cc.intro (by decide +kernel) [some (.ref 0), some (.int x), some (.int w)] (fun _ => rfl) rfl (fun _ => Nat.le_of_ble_eq_true rfl) ?_
  intro X hX hR hr
  have e0 : σ = tcM σ (σ 51, tr) := by unfold tcM; rw [mf_id, ← ht, mu_self]
  refine V_aload_n (pc := 0) (i := 0) hX dX5_ask_0 rfl rfl ?_
  refine V_getr (pc := 1) hX fX5_19 dX5_ask_1 rfl rfl ?_
  refine V_iload_n (pc := 4) (i := 1) hX dX5_ask_4 rfl rfl ?_
  refine V_callVi (pc := 5) hX (hR.mono (by omega)) mX5_123 (c_isSetN x n _ hn hn10) dX5_ask_5 rfl rfl rfl rfl (Nat.le_of_ble_eq_true rfl) ?_
  refine V_if_neB (pc := 8) (tgt := 14) hX dX5_ask_8 (by decide) (fun h8 => ?_) (fun h8 => ?_)
  · obtain ⟨s, hs, rfl⟩ := inr_of h8 (by omega)
    have ts : tn (nI s) = s := tn_nI (by omega)
    refine V_iload_n (pc := 14) (i := 2) hX dX5_ask_14 rfl rfl ?_
    rcases Classical.em (w = nI 0) with e15_0 | e15_0
    · refine V_lookup (pc := 15) (off := 25) (tgt := 40) hX dX5_ask_15 (by decide) (by rw [e15_0]; decide +kernel) (by decide) ?_
      refine V_aload_n (pc := 40) (i := 0) hX dX5_ask_40 rfl rfl ?_
      refine V_getr (pc := 41) hX fX5_40 dX5_ask_41 rfl rfl ?_
      refine V_aload_n (pc := 44) (i := 0) hX dX5_ask_44 rfl rfl ?_
      refine V_getr (pc := 45) hX fX5_19 dX5_ask_45 rfl rfl ?_
      refine V_iload_n (pc := 48) (i := 1) hX dX5_ask_48 rfl rfl ?_
      refine V_callVi (pc := 49) hX (hR.mono (by omega)) mX5_198 (c_askW s σ (by omega)) dX5_ask_49 rfl rfl rfl rfl (Nat.le_of_ble_eq_true rfl) ?_
      exact V_iret (pc := 52) (st := []) hX hr (by first | rfl | exact bI_nar _ | decide +kernel) dX5_ask_52 (⟨by rw [askF, h8, if_pos rfl, if_pos e15_0, ts], by rw [askT, h8, if_pos rfl, if_pos e15_0, ts]⟩)
    · skip
      rcases Classical.em (w = nI 1) with e15_1 | e15_1
      · refine V_lookup (pc := 15) (off := 38) (tgt := 53) hX dX5_ask_15 (by decide) (by rw [e15_1]; decide +kernel) (by decide) ?_
        refine V_aload_n (pc := 53) (i := 0) hX dX5_ask_53 rfl rfl ?_
        refine V_getr (pc := 54) hX fX5_40 dX5_ask_54 rfl rfl ?_
        refine V_aload_n (pc := 57) (i := 0) hX dX5_ask_57 rfl rfl ?_
        refine V_getr (pc := 58) hX fX5_19 dX5_ask_58 rfl rfl ?_
        refine V_iload_n (pc := 61) (i := 1) hX dX5_ask_61 rfl rfl ?_
        refine V_callVi (pc := 62) hX (hR.mono (by omega)) mX5_202 (c_askM s σ (by omega)) dX5_ask_62 rfl rfl rfl rfl (Nat.le_of_ble_eq_true rfl) ?_
        exact V_iret (pc := 65) (st := []) hX hr (by first | rfl | exact bI_nar _ | decide +kernel) dX5_ask_65 (⟨by rw [askF, h8, if_pos rfl, if_neg e15_0, if_pos e15_1, ts], by rw [askT, h8, if_pos rfl, if_neg e15_0, if_pos e15_1, ts]⟩)
      · skip
        refine V_lookup (pc := 15) (off := 51) (tgt := 66) hX dX5_ask_15 (by decide) (by show Op.lookupswitch.offset [(0, 25), (1, 38)] _ _ = _; rw [lv_osw e15_0 (by decide +kernel), lv_osw e15_1 (by decide +kernel)]; rfl) (by decide) ?_
        refine V_ldc (pc := 66) hX kX5_52 dX5_ask_66 ?_
        exact V_iret (pc := 68) (st := []) hX hr (by first | rfl | exact bI_nar _ | decide +kernel) dX5_ask_68 (⟨by rw [askF, h8, if_pos rfl, if_neg e15_0, if_neg e15_1], by rw [askT, h8, if_pos rfl, if_neg e15_0, if_neg e15_1]; exact e0⟩)
  · refine V_ldc (pc := 11) hX kX5_52 dX5_ask_11 ?_
    exact V_iret (pc := 13) (st := []) hX hr (by first | rfl | exact bI_nar _ | decide +kernel) dX5_ask_13 (⟨by rw [askF, h8]; rfl, by rw [askT, h8]; exact e0⟩)
def traceF (g : (Nat → Int32) × Nat) (x : Int32) : Int32 := if inr x g.2 then g.1 (tn x) else (-1000000)
set_option maxRecDepth 100000 in
set_option maxHeartbeats 4000000 in
theorem c_trace (tr : Nat) (x : Int32) (σ : Mem) (ht : σ 5 1 = nI tr) (htr : tr ≤ 16) : Cc yX5_trace cX5_trace 2 (some .int) 1 [.ref 0, .int x] σ (rI (traceF (σ 51, tr) x) σ) := by
  refine Cc.intro (by decide +kernel) [some (.ref 0), some (.int x)] (fun _ => rfl) rfl (fun _ => Nat.le_of_ble_eq_true rfl) ?_
  intro X hX hR hr
  refine V_iload_n (pc := 0) (i := 1) hX dX5_trace_0 rfl rfl ?_
  refine V_aload_n (pc := 1) (i := 0) hX dX5_trace_1 rfl rfl ?_
  refine V_getr (pc := 2) hX fX5_40 dX5_trace_2 rfl rfl ?_
  refine V_getf (pc := 5) hX fX5_205 dX5_trace_5 rfl rfl ?_
  rw [ht]
  refine V_callSi (pc := 8) hX (hR.mono (by omega)) mX5_48 (c_isUnderN x tr (by omega) _) dX5_trace_8 rfl rfl rfl (Nat.le_of_ble_eq_true rfl) ?_
  refine V_if_eqB (pc := 11) (tgt := 26) hX dX5_trace_11 (by decide) (fun h11 => ?_) (fun h11 => ?_)
  · refine V_ldc (pc := 26) hX kX5_211 dX5_trace_26 ?_
    exact V_iret (pc := 28) (st := []) hX hr (by first | rfl | exact bI_nar _ | decide +kernel) dX5_trace_28 (⟨by rw [traceF, h11]; rfl, rfl⟩)
  · obtain ⟨j, hj, rfl⟩ := inr_of h11 (by omega)
    refine V_aload_n (pc := 14) (i := 0) hX dX5_trace_14 rfl rfl ?_
    refine V_getr (pc := 15) hX fX5_40 dX5_trace_15 rfl rfl ?_
    refine V_getr (pc := 18) hX fX5_208 dX5_trace_18 rfl rfl ?_
    refine V_iload_n (pc := 21) (i := 1) hX dX5_trace_21 rfl rfl ?_
    refine V_iald (pc := 22) hX dX5_trace_22 (rfl) (rfl) (by omega) (by decide) ?_
    refine V_goto (pc := 23) (tgt := 28) hX dX5_trace_23 (by decide) ?_
    exact V_iret (pc := 28) (st := []) hX hr (by first | rfl | exact bI_nar _ | decide +kernel) dX5_trace_28 (⟨by rw [traceF, h11, if_pos rfl, tn_nI (by omega)], rfl⟩)
def asF (n : Nat) (c th pr : Nat → Int32) (bo x k : Int32) : Int32 := if inr x n && inr k 4 then (if kisf k (kindf bo (tn x) (pf (th (tn x)) pr 12) (c (tn x))) then c (tn x) else (-1000013)) else (-1000001)
def asS (n : Nat) (c th pr : Nat → Int32) (bo x k st : Int32) : Int32 := if inr x n && inr k 4 then (if kisf k (kindf bo (tn x) (pf (th (tn x)) pr 12) (c (tn x))) then nI 0 else nI 3) else st
set_option maxRecDepth 100000 in
set_option maxHeartbeats 4000000 in
theorem c_as (n : Nat) (x k : Int32) (σ : Mem) (hn : σ 2 3 = nI n) (hn10 : n ≤ 10) : Cc yX5_as cX5_as 3 (some .int) 5 [.ref 0, .int x, .int k] σ (rI (asF n (σ 17) (σ 18) (σ 19) (σ 2 6) x k) (mu σ 0 5 (asS n (σ 17) (σ 18) (σ 19) (σ 2 6) x k (σ 0 5)))) := by
  refine Cc.intro (by decide +kernel) [some (.ref 0), some (.int x), some (.int k)] (fun _ => rfl) rfl (fun _ => Nat.le_of_ble_eq_true rfl) ?_
  intro X hX hR hr
  refine V_aload_n (pc := 0) (i := 0) hX dX5_as_0 rfl rfl ?_
  refine V_getr (pc := 1) hX fX5_19 dX5_as_1 rfl rfl ?_
  refine V_iload_n (pc := 4) (i := 1) hX dX5_as_4 rfl rfl ?_
  refine V_callVi (pc := 5) hX (hR.mono (by omega)) mX5_123 (c_isSetN x n _ hn hn10) dX5_as_5 rfl rfl rfl rfl (Nat.le_of_ble_eq_true rfl) ?_
  refine V_if_eqB (pc := 8) (tgt := 19) hX dX5_as_8 (by decide) (fun h8 => ?_) (fun h8 => ?_)
  · refine V_ldc (pc := 19) hX kX5_52 dX5_as_19 ?_
    exact V_iret (pc := 21) (st := []) hX hr (by first | rfl | exact bI_nar _ | decide +kernel) dX5_as_21 (⟨by rw [asF, h8]; rfl, by rw [asS, h8]; exact (mu_self σ 0 5).symm⟩)
  · refine V_iload_n (pc := 11) (i := 2) hX dX5_as_11 rfl rfl ?_
    refine V_iconst (pc := 12) (v := (nI 4)) hX dX5_as_12 (by decide +kernel) ?_
    refine V_callSi (pc := 13) hX (hR.mono (by omega)) mX5_48 (c_isUnderN k 4 (by decide) _) dX5_as_13 rfl rfl rfl (Nat.le_of_ble_eq_true rfl) ?_
    refine V_if_neB (pc := 16) (tgt := 22) hX dX5_as_16 (by decide) (fun h16 => ?_) (fun h16 => ?_)
    · obtain ⟨s, hs, rfl⟩ := inr_of h8 (by omega)
      have ts : tn (nI s) = s := tn_nI (by omega)
      have eo : (inr (nI s) n && inr k 4) = true := by rw [h8, h16]; rfl
      refine V_aload_n (pc := 22) (i := 0) hX dX5_as_22 rfl rfl ?_
      refine V_aload_n (pc := 23) (i := 0) hX dX5_as_23 rfl rfl ?_
      refine V_getr (pc := 24) hX fX5_19 dX5_as_24 rfl rfl ?_
      refine V_iload_n (pc := 27) (i := 1) hX dX5_as_27 rfl rfl ?_
      refine V_iload_n (pc := 28) (i := 2) hX dX5_as_28 rfl rfl ?_
      refine V_callVi (pc := 29) hX (hR.mono (by omega)) mX5_195 (c_isOfKind s k _ (by omega)) dX5_as_29 rfl rfl rfl rfl (Nat.le_of_ble_eq_true rfl) ?_
      refine V_if_eqB (pc := 32) (tgt := 39) hX dX5_as_32 (by decide) (fun h32 => ?_) (fun h32 => ?_)
      · refine V_iconst (pc := 39) (v := (nI 3)) hX dX5_as_39 (by decide +kernel) ?_
        refine V_putf (pc := 40) hX fX5_44 gi5_5 dX5_as_40 rfl rfl ?_
        refine V_aload_n (pc := 43) (i := 0) hX dX5_as_43 rfl rfl ?_
        refine V_getf (pc := 44) hX fX5_44 dX5_as_44 rfl rfl ?_
        rw [mu_at]
        refine V_if_ne (pc := 47) (tgt := 62) hX dX5_as_47 (by decide) (fun _ => ?_) (fun h => absurd h (by decide +kernel))
        refine V_ldc (pc := 62) hX kX5_57 dX5_as_62 ?_
        refine V_aload_n (pc := 64) (i := 0) hX dX5_as_64 rfl rfl ?_
        refine V_getf (pc := 65) hX fX5_44 dX5_as_65 rfl rfl ?_
        rw [mu_at]
        refine V_isub (pc := 68) hX dX5_as_68 ?_
        exact V_iret (pc := 69) (st := []) hX hr rfl dX5_as_69 ⟨by rw [asF, eo, if_pos rfl, ts, h32]; rfl, by rw [asS, eo, if_pos rfl, ts, h32]; rfl⟩
      · refine V_iconst (pc := 35) (v := (nI 0)) hX dX5_as_35 (by decide +kernel) ?_
        refine V_goto (pc := 36) (tgt := 40) hX dX5_as_36 (by decide) ?_
        refine V_putf (pc := 40) hX fX5_44 gi5_5 dX5_as_40 rfl rfl ?_
        refine V_aload_n (pc := 43) (i := 0) hX dX5_as_43 rfl rfl ?_
        refine V_getf (pc := 44) hX fX5_44 dX5_as_44 rfl rfl ?_
        rw [mu_at]
        refine V_if_ne (pc := 47) (tgt := 62) hX dX5_as_47 (by decide) (fun h47 => absurd h47 (by intro q; exact q (by decide +kernel))) (fun h47 => ?_)
        refine V_aload_n (pc := 50) (i := 0) hX dX5_as_50 rfl rfl ?_
        refine V_getr (pc := 51) hX fX5_19 dX5_as_51 rfl rfl ?_
        refine V_getr (pc := 54) hX fX5_126 dX5_as_54 rfl rfl ?_
        refine V_iload_n (pc := 57) (i := 1) hX dX5_as_57 rfl rfl ?_
        refine V_iald (pc := 58) hX dX5_as_58 (rfl) (rfl) (by omega) (by decide) ?_
        refine V_goto (pc := 59) (tgt := 69) hX dX5_as_59 (by decide) ?_
        exact V_iret (pc := 69) (st := []) hX hr (by first | rfl | exact bI_nar _ | decide +kernel) dX5_as_69 (⟨by rw [asF, eo, if_pos rfl, ts, h32]; rfl, by rw [asS, eo, if_pos rfl, ts, h32]; rfl⟩)
    · refine V_ldc (pc := 19) hX kX5_52 dX5_as_19 ?_
      exact V_iret (pc := 21) (st := []) hX hr (by first | rfl | exact bI_nar _ | decide +kernel) dX5_as_21 (⟨by rw [asF, h8, h16]; rfl, by rw [asS, h8, h16]; exact (mu_self σ 0 5).symm⟩)

set_option maxRecDepth 100000 in
set_option maxHeartbeats 4000000 in
theorem c_count3 (n : Nat) (σ : Mem) (hn : σ 2 3 = nI n) (hn10 : n ≤ 10) : Cc yX5_count cX5_count 2 (some .int) 5 [.ref 0, .int (nI 3)] σ (rI (nI (nearf (σ 2 6) (σ 17) (σ 18) (σ 19) n)) σ) := by
  refine Cc.intro (by decide +kernel) [some (.ref 0), some (.int (nI 3))] (fun _ => rfl) rfl (fun _ => Nat.le_of_ble_eq_true rfl) ?_
  intro X hX hR hr
  refine V_iload_n (pc := 0) (i := 1) hX dX5_count_0 rfl rfl ?_
  refine V_tableIn (pc := 1) (off := 70) (tgt := 71) hX dX5_count_1 (by decide +kernel) (by decide +kernel) (by decide +kernel) (by decide) ?_
  refine V_aload_n (pc := 71) (i := 0) hX dX5_count_71 rfl rfl ?_
  refine V_getr (pc := 72) hX fX5_19 dX5_count_72 rfl rfl ?_
  refine V_callVi (pc := 75) hX (hR.mono (by omega)) mX5_220 (c_nears n _ hn hn10) dX5_count_75 rfl rfl rfl rfl (Nat.le_of_ble_eq_true rfl) ?_
  exact V_iret (pc := 78) (st := []) hX hr (by first | rfl | exact bI_nar _ | decide +kernel) dX5_count_78 ⟨rfl, rfl⟩
