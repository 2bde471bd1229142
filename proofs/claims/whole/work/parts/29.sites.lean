/-! ===== SITES, the class's: 27 + a lengths, 37 boughtFrom, 38 weights, 40 + a nearest, 50 gaps; 4: 5 count, 6 ways, 7 first, 8 joined, 9 reached, 10 waysBought, 11 paid ===== -/
theorem V_ldcw {X : XC} {own : String} {cc : ByteArray} {nL pc : Nat} {ls : List (Option Value)} {st : List Value} {σ : Mem} {index : Nat} {v : Int32} (hX : Cok X own cc nL) (hw : Cond.constant own index v ∈ lw_w) (hd : decode cc pc = .ok (.ldc_w index, 3)) (kk : Vw X (pc + 3) ls (.int v :: st) σ) : Vw X pc ls st σ := by
  obtain ⟨p, l, e, R, s, m, args, below, meth, c, cells, slots, Q, A, D, ad, cs, H0⟩ := X
  intro H locs lsA hP hS hl
  exact lv_ldcw hX.1 hX.2.1 hX.2.2.2.1 (hX.2.2.2.2.1 _ hw) hd (kk H locs lsA hP hS hl)
def us (x : Int32) (k : Nat) : Int32 := (x.toUInt32 >>> ((nI k).toUInt32 &&& Int32.toUInt32 31)).toInt32
def bc1 (x : Int32) : Int32 := x - (us x 1 &&& nI 1431655765)
def bc2 (x : Int32) : Int32 := (x &&& nI 858993459) + (us x 2 &&& nI 858993459)
def bc3 (x : Int32) : Int32 := (x + us x 4) &&& nI 252645135
def bc4 (x : Int32) : Int32 := x + us x 8
def bc5 (x : Int32) : Int32 := (x + us x 16) &&& nI 63
def bcF (x : Int32) : Int32 := bc5 (bc4 (bc3 (bc2 (bc1 x))))
set_option maxRecDepth 100000 in
set_option maxHeartbeats 4000000 in
theorem c_bitCount (x : Int32) (σ : Mem) : Cc yJ6_bitCount_0f7a4 cJ6_bitCount_0f7a4 1 (some .int) 0 [.int x] σ (rI (bcF x) σ) := by
  refine Cc.intro (by decide +kernel) [some (.int x)] (fun _ => rfl) rfl (fun _ => Nat.le_of_ble_eq_true rfl) ?_
  intro X hX hR hr
  refine V_iload_n (pc := 0) (i := 0) hX dJ6_bitCount_0f7a4_0 rfl rfl ?_
  refine V_iload_n (pc := 1) (i := 0) hX dJ6_bitCount_0f7a4_1 rfl rfl ?_
  refine V_iconst (pc := 2) (v := (nI 1)) hX dJ6_bitCount_0f7a4_2 (by decide +kernel) ?_
  refine V_iushr (pc := 3) hX dJ6_bitCount_0f7a4_3 ?_
  refine V_ldcw (pc := 4) hX kJ6_265 dJ6_bitCount_0f7a4_4 ?_
  refine V_iand (pc := 7) hX dJ6_bitCount_0f7a4_7 ?_
  refine V_isub (pc := 8) hX dJ6_bitCount_0f7a4_8 ?_
  refine V_istore0 (pc := 9) hX dJ6_bitCount_0f7a4_9 rfl ?_
  refine V_iload_n (pc := 10) (i := 0) hX dJ6_bitCount_0f7a4_10 rfl rfl ?_
  refine V_ldcw (pc := 11) hX kJ6_266 dJ6_bitCount_0f7a4_11 ?_
  refine V_iand (pc := 14) hX dJ6_bitCount_0f7a4_14 ?_
  refine V_iload_n (pc := 15) (i := 0) hX dJ6_bitCount_0f7a4_15 rfl rfl ?_
  refine V_iconst (pc := 16) (v := (nI 2)) hX dJ6_bitCount_0f7a4_16 (by decide +kernel) ?_
  refine V_iushr (pc := 17) hX dJ6_bitCount_0f7a4_17 ?_
  refine V_ldcw (pc := 18) hX kJ6_266 dJ6_bitCount_0f7a4_18 ?_
  refine V_iand (pc := 21) hX dJ6_bitCount_0f7a4_21 ?_
  refine V_iadd (pc := 22) hX dJ6_bitCount_0f7a4_22 ?_
  refine V_istore0 (pc := 23) hX dJ6_bitCount_0f7a4_23 rfl ?_
  refine V_iload_n (pc := 24) (i := 0) hX dJ6_bitCount_0f7a4_24 rfl rfl ?_
  refine V_iload_n (pc := 25) (i := 0) hX dJ6_bitCount_0f7a4_25 rfl rfl ?_
  refine V_iconst (pc := 26) (v := (nI 4)) hX dJ6_bitCount_0f7a4_26 (by decide +kernel) ?_
  refine V_iushr (pc := 27) hX dJ6_bitCount_0f7a4_27 ?_
  refine V_iadd (pc := 28) hX dJ6_bitCount_0f7a4_28 ?_
  refine V_ldcw (pc := 29) hX kJ6_267 dJ6_bitCount_0f7a4_29 ?_
  refine V_iand (pc := 32) hX dJ6_bitCount_0f7a4_32 ?_
  refine V_istore0 (pc := 33) hX dJ6_bitCount_0f7a4_33 rfl ?_
  refine V_iload_n (pc := 34) (i := 0) hX dJ6_bitCount_0f7a4_34 rfl rfl ?_
  refine V_iload_n (pc := 35) (i := 0) hX dJ6_bitCount_0f7a4_35 rfl rfl ?_
  refine V_bipush (pc := 36) (v := (nI 8)) hX dJ6_bitCount_0f7a4_36 (by decide +kernel) ?_
  refine V_iushr (pc := 38) hX dJ6_bitCount_0f7a4_38 ?_
  refine V_iadd (pc := 39) hX dJ6_bitCount_0f7a4_39 ?_
  refine V_istore0 (pc := 40) hX dJ6_bitCount_0f7a4_40 rfl ?_
  refine V_iload_n (pc := 41) (i := 0) hX dJ6_bitCount_0f7a4_41 rfl rfl ?_
  refine V_iload_n (pc := 42) (i := 0) hX dJ6_bitCount_0f7a4_42 rfl rfl ?_
  refine V_bipush (pc := 43) (v := (nI 16)) hX dJ6_bitCount_0f7a4_43 (by decide +kernel) ?_
  refine V_iushr (pc := 45) hX dJ6_bitCount_0f7a4_45 ?_
  refine V_iadd (pc := 46) hX dJ6_bitCount_0f7a4_46 ?_
  refine V_istore0 (pc := 47) hX dJ6_bitCount_0f7a4_47 rfl ?_
  refine V_iload_n (pc := 48) (i := 0) hX dJ6_bitCount_0f7a4_48 rfl rfl ?_
  refine V_bipush (pc := 49) (v := (nI 63)) hX dJ6_bitCount_0f7a4_49 (by decide +kernel) ?_
  refine V_iand (pc := 51) hX dJ6_bitCount_0f7a4_51 ?_
  exact V_iret (pc := 52) (st := []) hX hr (by first | rfl | exact bI_nar _ | decide +kernel) dJ6_bitCount_0f7a4_52 (⟨rfl, rfl⟩)
theorem bcF_pop : ∀ m, m < 4096 → bcF (nI m) = nI (popn (nI m) 12) := by
  intro m hm
  have h : (List.range 4096).all (fun m => decide (bcF (nI m) = nI (popn (nI m) 12))) = true := by decide +kernel
  exact of_decide_eq_true (List.all_eq_true.mp h m (List.mem_range.mpr hm))
def ln (σ : Mem) : Nat → Nat → Int32 := fun a b => if a < 10 then σ (27 + a) b else nI 0
theorem ln_at {σ : Mem} {a b : Nat} (ha : a < 10) : ln σ a b = σ (27 + a) b := if_pos ha
theorem ln_mu {σ : Mem} {q i : Nat} {v : Int32} (h : q < 27 ∨ 37 ≤ q) : ln (mu σ q i v) = ln σ := by
  funext a b
  unfold ln
  by_cases ha : a < 10
  · rw [if_pos ha, if_pos ha, mu_np (by omega)]
  · rw [if_neg ha, if_neg ha]
theorem ln_mf {σ : Mem} {q : Nat} {g : Nat → Int32} (h : q < 27 ∨ 37 ≤ q) : ln (mf σ q g) = ln σ := by
  funext a b
  unfold ln
  by_cases ha : a < 10
  · rw [if_pos ha, if_pos ha, ← mf_ne (by omega)]
  · rw [if_neg ha, if_neg ha]
theorem ln_of {σ τ : Mem} (h : ∀ q, 27 ≤ q → q < 37 → τ q = σ q) : ln τ = ln σ := by
  funext a b
  unfold ln
  by_cases ha : a < 10
  · rw [if_pos ha, if_pos ha, h _ (by omega) (by omega)]
  · rw [if_neg ha, if_neg ha]
def wof (l : Nat → Nat → Int32) (a b : Nat) : Int32 := l a b * nI 16 + nI 1
set_option maxRecDepth 100000 in
set_option maxHeartbeats 4000000 in
theorem c_isSite (n : Nat) (x : Int32) (σ : Mem) (hn : σ 4 5 = nI n) (hn10 : n ≤ 10) : Cc yX4_isSite cX4_isSite 2 (some .boolean) 1 [.ref 4, .int x] σ (rI (bI (inr x n)) σ) := by
  refine Cc.intro (by decide +kernel) [some (.ref 4), some (.int x)] (fun _ => rfl) rfl (fun _ => Nat.le_of_ble_eq_true rfl) ?_
  intro X hX hR hr
  refine V_iload_n (pc := 0) (i := 1) hX dX4_isSite_0 rfl rfl ?_
  refine V_aload_n (pc := 1) (i := 0) hX dX4_isSite_1 rfl rfl ?_
  refine V_getf (pc := 2) hX fX4_29 dX4_isSite_2 rfl rfl ?_
  rw [hn]
  refine V_callSi (pc := 5) hX (hR.mono (by omega)) mX4_33 (c_isUnderN x n (by omega) _) dX4_isSite_5 rfl rfl rfl (Nat.le_of_ble_eq_true rfl) ?_
  exact V_iret (pc := 8) (st := []) hX hr (by first | rfl | exact bI_nar _ | decide +kernel) dX4_isSite_8 (⟨rfl, rfl⟩)
set_option maxRecDepth 100000 in
set_option maxHeartbeats 4000000 in
theorem c_isWB (a b : Nat) (σ : Mem) (ha : a < 10) (hb : b < 10) : Cc yX4_isWayBought cX4_isWayBought 3 (some .boolean) 1 [.ref 4, .int (nI a), .int (nI b)] σ (rI (bI (bt (σ 37 a) b)) σ) := by
  refine Cc.intro (by decide +kernel) [some (.ref 4), some (.int (nI a)), some (.int (nI b))] (fun _ => rfl) rfl (fun _ => Nat.le_of_ble_eq_true rfl) ?_
  intro X hX hR hr
  refine V_aload_n (pc := 0) (i := 0) hX dX4_isWayBought_0 rfl rfl ?_
  refine V_getr (pc := 1) hX fX4_16 dX4_isWayBought_1 rfl rfl ?_
  refine V_iload_n (pc := 4) (i := 1) hX dX4_isWayBought_4 rfl rfl ?_
  refine V_iald (pc := 5) hX dX4_isWayBought_5 (rfl) (rfl) (by omega) (by decide) ?_
  refine V_iload_n (pc := 6) (i := 2) hX dX4_isWayBought_6 rfl rfl ?_
  refine V_callSi (pc := 7) hX (hR.mono (by omega)) mX4_37 (c_holds _ _ (by omega) _) dX4_isWayBought_7 rfl rfl rfl (Nat.le_of_ble_eq_true rfl) ?_
  exact V_iret (pc := 10) (st := []) hX hr (by first | rfl | exact bI_nar _ | decide +kernel) dX4_isWayBought_10 (⟨rfl, rfl⟩)
set_option maxRecDepth 100000 in
set_option maxHeartbeats 4000000 in
theorem c_addS (n : Nat) (σ : Mem) (hn : σ 4 5 = nI n) (hn10 : n < 10) : Cc yX4_add cX4_add 1 (some .int) 0 [.ref 4] σ (rI (nI n) (mu σ 4 5 (nI (n + 1)))) := by
  refine Cc.intro (by decide +kernel) [some (.ref 4)] (fun _ => rfl) rfl (fun _ => Nat.le_of_ble_eq_true rfl) ?_
  intro X hX hR hr
  refine V_aload_n (pc := 0) (i := 0) hX dX4_add_0 rfl rfl ?_
  refine V_dup (pc := 1) hX dX4_add_1 rfl ?_
  refine V_getf (pc := 2) hX fX4_29 dX4_add_2 rfl rfl ?_
  rw [hn]
  refine V_iconst (pc := 5) (v := (nI 1)) hX dX4_add_5 (by decide +kernel) ?_
  refine V_iadd (pc := 6) hX dX4_add_6 ?_
  rw [nI_add]
  refine V_putf (pc := 7) hX fX4_29 gi4_5 dX4_add_7 rfl rfl ?_
  refine V_aload_n (pc := 10) (i := 0) hX dX4_add_10 rfl rfl ?_
  refine V_getf (pc := 11) hX fX4_29 dX4_add_11 rfl rfl ?_
  rw [mu_at]
  refine V_iconst (pc := 14) (v := (nI 1)) hX dX4_add_14 (by decide +kernel) ?_
  refine V_isub (pc := 15) hX dX4_add_15 ?_
  rw [pk_sub (by omega)]
  exact V_iret (pc := 16) (st := []) hX hr (by first | rfl | exact bI_nar _ | decide +kernel) dX4_add_16 (⟨rfl, rfl⟩)
def wayM (σ : Mem) (a b : Nat) (v : Int32) : Mem := mu (mu (if ln σ a b = 0 then mu σ 4 6 (σ 4 6 + nI 1) else σ) (27 + a) b v) (27 + b) a v
set_option maxRecDepth 100000 in
set_option maxHeartbeats 4000000 in
theorem c_layW (a b : Nat) (v : Int32) (σ : Mem) (ha : a < 10) (hb : b < 10) : Cc yX4_lay cX4_lay 5 (some .int) 0 [.ref 4, .int (nI a), .int (nI b), .int v] σ (rI (ln σ a b) (wayM σ a b v)) := by
  refine Cc.intro (by decide +kernel) [some (.ref 4), some (.int (nI a)), some (.int (nI b)), some (.int v), none] (fun _ => rfl) rfl (fun _ => Nat.le_of_ble_eq_true rfl) ?_
  intro X hX hR hr
  refine V_aload_n (pc := 0) (i := 0) hX dX4_lay_0 rfl rfl ?_
  refine V_getr (pc := 1) hX fX4_11 dX4_lay_1 rfl rfl ?_
  refine V_iload_n (pc := 4) (i := 1) hX dX4_lay_4 rfl rfl ?_
  refine V_aald (pc := 5) hX dX4_lay_5 (rfl) (rfl) (by omega) (by decide) ?_
  refine V_iload_n (pc := 6) (i := 2) hX dX4_lay_6 rfl rfl ?_
  refine V_iald (pc := 7) hX dX4_lay_7 (shp_ways ha) (rfl) (by omega) (by decide) ?_
  refine V_istore4 (pc := 8) hX dX4_lay_8 rfl ?_
  refine V_iload (pc := 10) (i := 4) hX dX4_lay_10 rfl ?_
  rw [← ln_at (σ := σ) (b := b) ha]
  refine V_if_ne (pc := 12) (tgt := 25) hX dX4_lay_12 (by decide) (fun h12 => ?_) (fun h12 => ?_)
  · refine V_aload_n (pc := 25) (i := 0) hX dX4_lay_25 rfl rfl ?_
    refine V_getr (pc := 26) hX fX4_11 dX4_lay_26 rfl rfl ?_
    refine V_iload_n (pc := 29) (i := 1) hX dX4_lay_29 rfl rfl ?_
    refine V_aald (pc := 30) hX dX4_lay_30 (rfl) (rfl) (by omega) (by decide) ?_
    refine V_iload_n (pc := 31) (i := 2) hX dX4_lay_31 rfl rfl ?_
    refine V_iload_n (pc := 32) (i := 3) hX dX4_lay_32 rfl rfl ?_
    refine V_iast (pc := 33) hX dX4_lay_33 (shp_ways ha) (rfl) (by omega) (by decide) ?_
    refine V_aload_n (pc := 34) (i := 0) hX dX4_lay_34 rfl rfl ?_
    refine V_getr (pc := 35) hX fX4_11 dX4_lay_35 rfl rfl ?_
    refine V_iload_n (pc := 38) (i := 2) hX dX4_lay_38 rfl rfl ?_
    refine V_aald (pc := 39) hX dX4_lay_39 (rfl) (rfl) (by omega) (by decide) ?_
    refine V_iload_n (pc := 40) (i := 1) hX dX4_lay_40 rfl rfl ?_
    refine V_iload_n (pc := 41) (i := 3) hX dX4_lay_41 rfl rfl ?_
    refine V_iast (pc := 42) hX dX4_lay_42 (shp_ways hb) (rfl) (by omega) (by decide) ?_
    refine V_iload (pc := 43) (i := 4) hX dX4_lay_43 rfl ?_
    exact V_iret (pc := 45) (st := []) hX hr (by first | rfl | exact bI_nar _ | decide +kernel) dX4_lay_45 (⟨by rw [ln_at ha], by rw [wayM, if_neg h12]⟩)
  · refine V_aload_n (pc := 15) (i := 0) hX dX4_lay_15 rfl rfl ?_
    refine V_dup (pc := 16) hX dX4_lay_16 rfl ?_
    refine V_getf (pc := 17) hX fX4_40 dX4_lay_17 rfl rfl ?_
    refine V_iconst (pc := 20) (v := (nI 1)) hX dX4_lay_20 (by decide +kernel) ?_
    refine V_iadd (pc := 21) hX dX4_lay_21 ?_
    refine V_putf (pc := 22) hX fX4_40 gi4_6 dX4_lay_22 rfl rfl ?_
    refine V_aload_n (pc := 25) (i := 0) hX dX4_lay_25 rfl rfl ?_
    refine V_getr (pc := 26) hX fX4_11 dX4_lay_26 rfl rfl ?_
    refine V_iload_n (pc := 29) (i := 1) hX dX4_lay_29 rfl rfl ?_
    refine V_aald (pc := 30) hX dX4_lay_30 (rfl) (rfl) (by omega) (by decide) ?_
    refine V_iload_n (pc := 31) (i := 2) hX dX4_lay_31 rfl rfl ?_
    refine V_iload_n (pc := 32) (i := 3) hX dX4_lay_32 rfl rfl ?_
    refine V_iast (pc := 33) hX dX4_lay_33 (shp_ways ha) (rfl) (by omega) (by decide) ?_
    refine V_aload_n (pc := 34) (i := 0) hX dX4_lay_34 rfl rfl ?_
    refine V_getr (pc := 35) hX fX4_11 dX4_lay_35 rfl rfl ?_
    refine V_iload_n (pc := 38) (i := 2) hX dX4_lay_38 rfl rfl ?_
    refine V_aald (pc := 39) hX dX4_lay_39 (rfl) (rfl) (by omega) (by decide) ?_
    refine V_iload_n (pc := 40) (i := 1) hX dX4_lay_40 rfl rfl ?_
    refine V_iload_n (pc := 41) (i := 3) hX dX4_lay_41 rfl rfl ?_
    refine V_iast (pc := 42) hX dX4_lay_42 (shp_ways hb) (rfl) (by omega) (by decide) ?_
    refine V_iload (pc := 43) (i := 4) hX dX4_lay_43 rfl ?_
    exact V_iret (pc := 45) (st := []) hX hr (by first | rfl | exact bI_nar _ | decide +kernel) dX4_lay_45 (⟨by rw [ln_at ha], by rw [wayM, if_pos h12]⟩)
set_option maxRecDepth 100000 in
set_option maxHeartbeats 4000000 in
theorem c_weightOf (a b : Nat) (σ : Mem) (ha : a < 10) (hb : b < 10) : Cc yX4_weightOf cX4_weightOf 3 (some .int) 0 [.ref 4, .int (nI a), .int (nI b)] σ (rI (wof (ln σ) a b) σ) := by
  refine Cc.intro (by decide +kernel) [some (.ref 4), some (.int (nI a)), some (.int (nI b))] (fun _ => rfl) rfl (fun _ => Nat.le_of_ble_eq_true rfl) ?_
  intro X hX hR hr
  refine V_aload_n (pc := 0) (i := 0) hX dX4_weightOf_0 rfl rfl ?_
  refine V_getr (pc := 1) hX fX4_11 dX4_weightOf_1 rfl rfl ?_
  refine V_iload_n (pc := 4) (i := 1) hX dX4_weightOf_4 rfl rfl ?_
  refine V_aald (pc := 5) hX dX4_weightOf_5 (rfl) (rfl) (by omega) (by decide) ?_
  refine V_iload_n (pc := 6) (i := 2) hX dX4_weightOf_6 rfl rfl ?_
  refine V_iald (pc := 7) hX dX4_weightOf_7 (shp_ways ha) (rfl) (by omega) (by decide) ?_
  refine V_bipush (pc := 8) (v := (nI 16)) hX dX4_weightOf_8 (by decide +kernel) ?_
  refine V_imul (pc := 10) hX dX4_weightOf_10 ?_
  refine V_iconst (pc := 11) (v := (nI 1)) hX dX4_weightOf_11 (by decide +kernel) ?_
  refine V_iadd (pc := 12) hX dX4_weightOf_12 ?_
  exact V_iret (pc := 13) (st := []) hX hr (by first | rfl | exact bI_nar _ | decide +kernel) dX4_weightOf_13 (⟨by rw [wof, ln_at ha], rfl⟩)
def lwF (w : Nat → Int32) (l : Nat → Nat → Int32) (s : Nat) : Nat → Int32
  | 0 => w s
  | k + 1 => if 0 < l s k then imin (lwF w l s k) (w k + wof l s k) else lwF w l s k
set_option maxRecDepth 100000 in
set_option maxHeartbeats 4000000 in
theorem l_leastWeight {n s : Nat} {X : XC} {P : Option Value → Mem → Prop} {σ : Mem} (hX : Cok X RX4 cX4_leastWeight 4) (hR : Rok X 1) (hr : Ret X (some .int) P) (hn : σ 4 5 = nI n) (hn10 : n ≤ 10) (hs : s < 10) (hp : P (some (.int (lwF (σ 38) (ln σ) s n))) σ) (k : Nat) (hk : k ≤ n) : Vw X 9 [some (.ref 4), some (.int (nI s)), some (.int (lwF (σ 38) (ln σ) s k)), some (.int (nI k))] [] σ := by
  refine V_iload_n (pc := 9) (i := 3) hX dX4_leastWeight_9 rfl rfl ?_
  refine V_aload_n (pc := 10) (i := 0) hX dX4_leastWeight_10 rfl rfl ?_
  refine V_getf (pc := 11) hX fX4_29 dX4_leastWeight_11 rfl rfl ?_
  rw [hn]
  refine V_icmp_geN (pc := 14) (tgt := 52) hX dX4_leastWeight_14 (by decide) (by omega) (by omega) (fun h14 => ?_) (fun h14 => ?_)
  · obtain rfl : k = n := by omega
    refine V_iload_n (pc := 52) (i := 2) hX dX4_leastWeight_52 rfl rfl ?_
    exact V_iret (pc := 53) (st := []) hX hr (by first | rfl | exact bI_nar _ | decide +kernel) dX4_leastWeight_53 (hp)
  · refine V_aload_n (pc := 17) (i := 0) hX dX4_leastWeight_17 rfl rfl ?_
    refine V_getr (pc := 18) hX fX4_11 dX4_leastWeight_18 rfl rfl ?_
    refine V_iload_n (pc := 21) (i := 1) hX dX4_leastWeight_21 rfl rfl ?_
    refine V_aald (pc := 22) hX dX4_leastWeight_22 (rfl) (rfl) (by omega) (by decide) ?_
    refine V_iload_n (pc := 23) (i := 3) hX dX4_leastWeight_23 rfl rfl ?_
    refine V_iald (pc := 24) hX dX4_leastWeight_24 (shp_ways hs) (rfl) (by omega) (by decide) ?_
    refine V_if_le (pc := 25) (tgt := 46) hX dX4_leastWeight_25 (by decide) (fun h25 => ?_) (fun h25 => ?_)
    · refine V_iinc3 (pc := 46) hX dX4_leastWeight_46 rfl (iinc1 _) ?_
      refine V_goto (pc := 49) (tgt := 9) hX dX4_leastWeight_49 (by decide) ?_
      have ih := l_leastWeight hX hR hr hn hn10 hs hp (k + 1) (by omega)
      rw [lwF, if_neg (Int32.not_lt.mpr (show ln σ s k ≤ 0 by rw [ln_at hs]; exact h25))] at ih
      exact ih
    · refine V_iload_n (pc := 28) (i := 2) hX dX4_leastWeight_28 rfl rfl ?_
      refine V_aload_n (pc := 29) (i := 0) hX dX4_leastWeight_29 rfl rfl ?_
      refine V_getr (pc := 30) hX fX4_20 dX4_leastWeight_30 rfl rfl ?_
      refine V_iload_n (pc := 33) (i := 3) hX dX4_leastWeight_33 rfl rfl ?_
      refine V_iald (pc := 34) hX dX4_leastWeight_34 (rfl) (rfl) (by omega) (by decide) ?_
      refine V_aload_n (pc := 35) (i := 0) hX dX4_leastWeight_35 rfl rfl ?_
      refine V_iload_n (pc := 36) (i := 1) hX dX4_leastWeight_36 rfl rfl ?_
      refine V_iload_n (pc := 37) (i := 3) hX dX4_leastWeight_37 rfl rfl ?_
      refine V_callVi (pc := 38) hX (hR.mono (by omega)) mX4_67 (c_weightOf _ _ _ hs (by omega)) dX4_leastWeight_38 rfl rfl rfl rfl (Nat.le_of_ble_eq_true rfl) ?_
      refine V_iadd (pc := 41) hX dX4_leastWeight_41 ?_
      refine V_mmin (pc := 42) hX (hR.mono (by omega)) mX4_71 dX4_leastWeight_42 rfl (Nat.le_of_ble_eq_true rfl) ?_
      refine V_istore2 (pc := 45) hX dX4_leastWeight_45 rfl ?_
      refine V_iinc3 (pc := 46) hX dX4_leastWeight_46 rfl (iinc1 _) ?_
      refine V_goto (pc := 49) (tgt := 9) hX dX4_leastWeight_49 (by decide) ?_
      have ih := l_leastWeight hX hR hr hn hn10 hs hp (k + 1) (by omega)
      rw [lwF, if_pos (Int32.not_le.mp (show ¬ ln σ s k ≤ 0 by rw [ln_at hs]; exact h25))] at ih
      exact ih
termination_by n - k
set_option maxRecDepth 100000 in
set_option maxHeartbeats 4000000 in
theorem c_leastWeight (n s : Nat) (σ : Mem) (hn : σ 4 5 = nI n) (hn10 : n ≤ 10) (hs : s < 10) : Cc yX4_leastWeight cX4_leastWeight 4 (some .int) 1 [.ref 4, .int (nI s)] σ (rI (lwF (σ 38) (ln σ) s n) σ) := by
  refine Cc.intro (by decide +kernel) [some (.ref 4), some (.int (nI s)), none, none] (fun _ => rfl) rfl (fun _ => Nat.le_of_ble_eq_true rfl) ?_
  intro X hX hR hr
  refine V_aload_n (pc := 0) (i := 0) hX dX4_leastWeight_0 rfl rfl ?_
  refine V_getr (pc := 1) hX fX4_20 dX4_leastWeight_1 rfl rfl ?_
  refine V_iload_n (pc := 4) (i := 1) hX dX4_leastWeight_4 rfl rfl ?_
  refine V_iald (pc := 5) hX dX4_leastWeight_5 (rfl) (rfl) (by omega) (by decide) ?_
  refine V_istore2 (pc := 6) hX dX4_leastWeight_6 rfl ?_
  refine V_iconst (pc := 7) (v := (nI 0)) hX dX4_leastWeight_7 (by decide +kernel) ?_
  refine V_istore3 (pc := 8) hX dX4_leastWeight_8 rfl ?_
  exact l_leastWeight hX hR hr hn hn10 hs ⟨rfl, rfl⟩ 0 (Nat.zero_le _)
def iwF (re : Int32) (o : Nat → Int32) : Nat → Nat → Int32
  | 0 => o
  | k + 1 => upd (iwF re o k) k (if bt re k then nI 0 else nI 1000000)
def wsF (l : Nat → Nat → Int32) (n : Nat) (w : Nat → Int32) : Nat → Nat → Int32
  | 0 => w
  | s + 1 => upd (wsF l n w s) s (lwF (wsF l n w s) l s n)
def wrF (l : Nat → Nat → Int32) (n : Nat) (w : Nat → Int32) : Nat → Nat → Int32
  | 0 => w
  | r + 1 => wsF l n (wrF l n w r) n
set_option maxRecDepth 100000 in
set_option maxHeartbeats 4000000 in
theorem l_weigh3 {n r : Nat} {g : Nat → Int32} {X : XC} {P : Option Value → Mem → Prop} {σ : Mem} (hX : Cok X RX4 cX4_weighRows 3) (hR : Rok X 2) (hr : Ret X none P) (hn : σ 4 5 = nI n) (hn10 : n ≤ 10) (kk : Vw X 76 [some (.ref 4), some (.int (nI r)), some (.int (nI n))] [] (mf σ 38 (wsF (ln σ) n g n))) (s : Nat) (hs : s ≤ n) : Vw X 51 [some (.ref 4), some (.int (nI r)), some (.int (nI s))] [] (mf σ 38 (wsF (ln σ) n g s)) := by
  have r5 : ∀ g, mf σ 38 g 4 5 = nI n := fun _ => hn
  have rl : ∀ g, ln (mf σ 38 g) = ln σ := fun g => ln_mf (by omega)
  refine V_iload_n (pc := 51) (i := 2) hX dX4_weighRows_51 rfl rfl ?_
  refine V_aload_n (pc := 52) (i := 0) hX dX4_weighRows_52 rfl rfl ?_
  refine V_getf (pc := 53) hX fX4_29 dX4_weighRows_53 rfl rfl ?_
  rw [r5]
  refine V_icmp_geN (pc := 56) (tgt := 76) hX dX4_weighRows_56 (by decide) (by omega) (by omega) (fun h56 => ?_) (fun h56 => ?_)
  · obtain rfl : s = n := by omega
    exact kk
  · refine V_aload_n (pc := 59) (i := 0) hX dX4_weighRows_59 rfl rfl ?_
    refine V_getr (pc := 60) hX fX4_20 dX4_weighRows_60 rfl rfl ?_
    refine V_iload_n (pc := 63) (i := 2) hX dX4_weighRows_63 rfl rfl ?_
    refine V_aload_n (pc := 64) (i := 0) hX dX4_weighRows_64 rfl rfl ?_
    refine V_iload_n (pc := 65) (i := 2) hX dX4_weighRows_65 rfl rfl ?_
    refine V_callVi (pc := 66) hX (hR.mono (by omega)) mX4_64 (c_leastWeight n _ _ (r5 _) hn10 (by omega)) dX4_weighRows_66 rfl rfl rfl rfl (Nat.le_of_ble_eq_true rfl) ?_
    refine V_iast (pc := 69) hX dX4_weighRows_69 (rfl) (rfl) (by omega) (by decide) ?_
    refine V_iinc2 (pc := 70) hX dX4_weighRows_70 rfl (iinc1 _) ?_
    refine V_goto (pc := 73) (tgt := 51) hX dX4_weighRows_73 (by decide) ?_
    have ih := l_weigh3 hX hR hr hn hn10 kk (s + 1) (by omega)
    rw [wsF] at ih
    rw [mf_mu, mf_row, rl]
    exact ih
termination_by n - s
set_option maxRecDepth 100000 in
set_option maxHeartbeats 4000000 in
theorem l_weigh2 {n : Nat} {g : Nat → Int32} {z : Option Value} {X : XC} {P : Option Value → Mem → Prop} {σ : Mem} (hX : Cok X RX4 cX4_weighRows 3) (hR : Rok X 2) (hr : Ret X none P) (hn : σ 4 5 = nI n) (hn10 : n ≤ 10) (hp : P none (mf σ 38 (wrF (ln σ) n g n))) (r : Nat) (hr2 : r ≤ n) (hz : nol [z] = true) : Vw X 41 [some (.ref 4), some (.int (nI r)), z] [] (mf σ 38 (wrF (ln σ) n g r)) := by
  have r5 : ∀ g, mf σ 38 g 4 5 = nI n := fun _ => hn
  refine V_iload_n (pc := 41) (i := 1) hX dX4_weighRows_41 rfl rfl ?_
  refine V_aload_n (pc := 42) (i := 0) hX dX4_weighRows_42 rfl rfl ?_
  refine V_getf (pc := 43) hX fX4_29 dX4_weighRows_43 rfl rfl ?_
  rw [r5]
  refine V_icmp_geN (pc := 46) (tgt := 82) hX dX4_weighRows_46 (by decide) (by omega) (by omega) (fun h46 => ?_) (fun h46 => ?_)
  · obtain rfl : r = n := by omega
    exact V_vret (pc := 82) (st := []) hX hr dX4_weighRows_82 (hp)
  · refine V_iconst (pc := 49) (v := (nI 0)) hX dX4_weighRows_49 (by decide +kernel) ?_
    refine V_istore2 (pc := 50) hX dX4_weighRows_50 hz ?_
    refine l_weigh3 (r := r) (g := wrF (ln σ) n g r) hX hR hr hn hn10 ?_ 0 (Nat.zero_le _)
    refine V_iinc1 (pc := 76) hX dX4_weighRows_76 rfl (iinc1 _) ?_
    refine V_goto (pc := 79) (tgt := 41) hX dX4_weighRows_79 (by decide) ?_
    exact l_weigh2 hX hR hr hn hn10 hp (r + 1) (by omega) rfl
termination_by n - r
set_option maxRecDepth 100000 in
set_option maxHeartbeats 4000000 in
theorem l_weigh1 {n : Nat} {X : XC} {P : Option Value → Mem → Prop} {σ : Mem} (hX : Cok X RX4 cX4_weighRows 3) (hR : Rok X 2) (hr : Ret X none P) (hn : σ 4 5 = nI n) (hn10 : n ≤ 10) (kk : Vw X 39 [some (.ref 4), some (.int (nI n)), none] [] (mf σ 38 (iwF (σ 4 9) (σ 38) n))) (k : Nat) (hk : k ≤ n) : Vw X 2 [some (.ref 4), some (.int (nI k)), none] [] (mf σ 38 (iwF (σ 4 9) (σ 38) k)) := by
  have r5 : ∀ g, mf σ 38 g 4 5 = nI n := fun _ => hn
  have r9 : ∀ g, mf σ 38 g 4 9 = σ 4 9 := fun _ => rfl
  refine V_iload_n (pc := 2) (i := 1) hX dX4_weighRows_2 rfl rfl ?_
  refine V_aload_n (pc := 3) (i := 0) hX dX4_weighRows_3 rfl rfl ?_
  refine V_getf (pc := 4) hX fX4_29 dX4_weighRows_4 rfl rfl ?_
  rw [r5]
  refine V_icmp_geN (pc := 7) (tgt := 39) hX dX4_weighRows_7 (by decide) (by omega) (by omega) (fun h7 => ?_) (fun h7 => ?_)
  · obtain rfl : k = n := by omega
    exact kk
  · refine V_aload_n (pc := 10) (i := 0) hX dX4_weighRows_10 rfl rfl ?_
    refine V_getr (pc := 11) hX fX4_20 dX4_weighRows_11 rfl rfl ?_
    refine V_iload_n (pc := 14) (i := 1) hX dX4_weighRows_14 rfl rfl ?_
    refine V_aload_n (pc := 15) (i := 0) hX dX4_weighRows_15 rfl rfl ?_
    refine V_getf (pc := 16) hX fX4_49 dX4_weighRows_16 rfl rfl ?_
    rw [r9]
    refine V_iload_n (pc := 19) (i := 1) hX dX4_weighRows_19 rfl rfl ?_
    refine V_callSi (pc := 20) hX (hR.mono (by omega)) mX4_37 (c_holds _ _ (by omega) _) dX4_weighRows_20 rfl rfl rfl (Nat.le_of_ble_eq_true rfl) ?_
    refine V_if_eqB (pc := 23) (tgt := 30) hX dX4_weighRows_23 (by decide) (fun h23 => ?_) (fun h23 => ?_)
    · refine V_ldc (pc := 30) hX kX4_55 dX4_weighRows_30 ?_
      refine V_iast (pc := 32) hX dX4_weighRows_32 (rfl) (rfl) (by omega) (by decide) ?_
      refine V_iinc1 (pc := 33) hX dX4_weighRows_33 rfl (iinc1 _) ?_
      refine V_goto (pc := 36) (tgt := 2) hX dX4_weighRows_36 (by decide) ?_
      have ih := l_weigh1 hX hR hr hn hn10 kk (k + 1) (by omega)
      rw [iwF, h23] at ih
      rw [mf_mu]
      exact ih
    · refine V_iconst (pc := 26) (v := (nI 0)) hX dX4_weighRows_26 (by decide +kernel) ?_
      refine V_goto (pc := 27) (tgt := 32) hX dX4_weighRows_27 (by decide) ?_
      refine V_iast (pc := 32) hX dX4_weighRows_32 (rfl) (rfl) (by omega) (by decide) ?_
      refine V_iinc1 (pc := 33) hX dX4_weighRows_33 rfl (iinc1 _) ?_
      refine V_goto (pc := 36) (tgt := 2) hX dX4_weighRows_36 (by decide) ?_
      have ih := l_weigh1 hX hR hr hn hn10 kk (k + 1) (by omega)
      rw [iwF, h23] at ih
      rw [mf_mu]
      exact ih
termination_by n - k
/-- the weights that a call reads -/
def wtF (σ : Mem) (n : Nat) : Nat → Int32 := wrF (ln σ) n (iwF (σ 4 9) (σ 38) n) n
set_option maxRecDepth 100000 in
set_option maxHeartbeats 4000000 in
theorem c_weighRows (n : Nat) (σ : Mem) (hn : σ 4 5 = nI n) (hn10 : n ≤ 10) : Cc yX4_weighRows cX4_weighRows 3 none 2 [.ref 4] σ (rV (mf σ 38 (wtF σ n))) := by
  refine Cc.intro (by decide +kernel) [some (.ref 4), none, none] (fun _ => rfl) rfl (fun _ => Nat.le_of_ble_eq_true rfl) ?_
  intro X hX hR hr
  have k39 : Vw X 39 [some (.ref 4), some (.int (nI n)), none] [] (mf σ 38 (iwF (σ 4 9) (σ 38) n)) := by
    refine V_iconst (pc := 39) (v := (nI 0)) hX dX4_weighRows_39 (by decide +kernel) ?_
    refine V_istore1 (pc := 40) hX dX4_weighRows_40 rfl ?_
    exact l_weigh2 (g := iwF (σ 4 9) (σ 38) n) hX hR hr hn hn10 ⟨rfl, rfl⟩ 0 (Nat.zero_le _) rfl
  refine V_iconst (pc := 0) (v := (nI 0)) hX dX4_weighRows_0 (by decide +kernel) ?_
  refine V_istore1 (pc := 1) hX dX4_weighRows_1 rfl ?_
  refine Vw.mem (show mf σ 38 (iwF (σ 4 9) (σ 38) 0) = σ from mf_id σ 38) ?_
  exact l_weigh1 hX hR hr hn hn10 k39 0 (Nat.zero_le _)
/-- the next site on the row: the first to which a way leads at the right weight -/
def nof (w : Nat → Int32) (l : Nat → Nat → Int32) (n a : Nat) : Nat → Nat
  | 0 => a
  | m + 1 => if 0 < l a (n - (m + 1)) ∧ w (n - (m + 1)) + wof l a (n - (m + 1)) = w a then n - (m + 1) else nof w l n a m
theorem nof_lt (w : Nat → Int32) (l : Nat → Nat → Int32) (n a : Nat) (ha : a < 10) (hn : n ≤ 10) : ∀ m, m ≤ n → nof w l n a m < 10
  | 0, _ => ha
  | m + 1, h => by
    unfold nof
    split
    · omega
    · exact nof_lt w l n a ha hn m (by omega)
set_option maxRecDepth 100000 in
set_option maxHeartbeats 4000000 in
theorem l_nextOnRow {n a : Nat} {X : XC} {P : Option Value → Mem → Prop} {σ : Mem} (hX : Cok X RX4 cX4_nextOnRow 3) (hR : Rok X 1) (hr : Ret X (some .int) P) (hn : σ 4 5 = nI n) (hn10 : n ≤ 10) (ha : a < 10) (k : Nat) (hk : k ≤ n) (hp : P (some (.int (nI (nof (σ 38) (ln σ) n a (n - k))))) σ) : Vw X 2 [some (.ref 4), some (.int (nI a)), some (.int (nI k))] [] σ := by
  have es : k < n → nof (σ 38) (ln σ) n a (n - k) = if 0 < ln σ a k ∧ σ 38 k + wof (ln σ) a k = σ 38 a then k else nof (σ 38) (ln σ) n a (n - (k + 1)) := fun h => by
    obtain ⟨m, hm⟩ : ∃ m, n - k = m + 1 := ⟨n - k - 1, by omega⟩
    rw [hm, nof, show n - (m + 1) = k by omega, show n - (k + 1) = m by omega]
  refine V_iload_n (pc := 2) (i := 2) hX dX4_nextOnRow_2 rfl rfl ?_
  refine V_aload_n (pc := 3) (i := 0) hX dX4_nextOnRow_3 rfl rfl ?_
  refine V_getf (pc := 4) hX fX4_29 dX4_nextOnRow_4 rfl rfl ?_
  rw [hn]
  refine V_icmp_geN (pc := 7) (tgt := 51) hX dX4_nextOnRow_7 (by decide) (by omega) (by omega) (fun h7 => ?_) (fun h7 => ?_)
  · rw [show n - k = 0 by omega] at hp
    refine V_iload_n (pc := 51) (i := 1) hX dX4_nextOnRow_51 rfl rfl ?_
    exact V_iret (pc := 52) (st := []) hX hr (by first | rfl | exact bI_nar _ | decide +kernel) dX4_nextOnRow_52 (hp)
  · refine V_aload_n (pc := 10) (i := 0) hX dX4_nextOnRow_10 rfl rfl ?_
    refine V_getr (pc := 11) hX fX4_11 dX4_nextOnRow_11 rfl rfl ?_
    refine V_iload_n (pc := 14) (i := 1) hX dX4_nextOnRow_14 rfl rfl ?_
    refine V_aald (pc := 15) hX dX4_nextOnRow_15 (rfl) (rfl) (by omega) (by decide) ?_
    refine V_iload_n (pc := 16) (i := 2) hX dX4_nextOnRow_16 rfl rfl ?_
    refine V_iald (pc := 17) hX dX4_nextOnRow_17 (shp_ways ha) (rfl) (by omega) (by decide) ?_
    rw [← ln_at (σ := σ) (b := k) ha]
    refine V_if_le (pc := 18) (tgt := 45) hX dX4_nextOnRow_18 (by decide) (fun h18 => ?_) (fun h18 => ?_)
    · refine V_iinc2 (pc := 45) hX dX4_nextOnRow_45 rfl (iinc1 _) ?_
      refine V_goto (pc := 48) (tgt := 2) hX dX4_nextOnRow_48 (by decide) ?_
      refine l_nextOnRow hX hR hr hn hn10 ha (k + 1) (by omega) ?_
      rw [es h7, if_neg (fun q => Int32.not_le.mpr q.1 h18)] at hp
      exact hp
    · refine V_aload_n (pc := 21) (i := 0) hX dX4_nextOnRow_21 rfl rfl ?_
      refine V_getr (pc := 22) hX fX4_20 dX4_nextOnRow_22 rfl rfl ?_
      refine V_iload_n (pc := 25) (i := 2) hX dX4_nextOnRow_25 rfl rfl ?_
      refine V_iald (pc := 26) hX dX4_nextOnRow_26 (rfl) (rfl) (by omega) (by decide) ?_
      refine V_aload_n (pc := 27) (i := 0) hX dX4_nextOnRow_27 rfl rfl ?_
      refine V_iload_n (pc := 28) (i := 1) hX dX4_nextOnRow_28 rfl rfl ?_
      refine V_iload_n (pc := 29) (i := 2) hX dX4_nextOnRow_29 rfl rfl ?_
      refine V_callVi (pc := 30) hX (hR.mono (by omega)) mX4_67 (c_weightOf _ _ _ ha (by omega)) dX4_nextOnRow_30 rfl rfl rfl rfl (Nat.le_of_ble_eq_true rfl) ?_
      refine V_iadd (pc := 33) hX dX4_nextOnRow_33 ?_
      refine V_aload_n (pc := 34) (i := 0) hX dX4_nextOnRow_34 rfl rfl ?_
      refine V_getr (pc := 35) hX fX4_20 dX4_nextOnRow_35 rfl rfl ?_
      refine V_iload_n (pc := 38) (i := 1) hX dX4_nextOnRow_38 rfl rfl ?_
      refine V_iald (pc := 39) hX dX4_nextOnRow_39 (rfl) (rfl) (by omega) (by decide) ?_
      refine V_icmp_ne (pc := 40) (tgt := 45) hX dX4_nextOnRow_40 (by decide) (fun h40 => ?_) (fun h40 => ?_)
      · refine V_iinc2 (pc := 45) hX dX4_nextOnRow_45 rfl (iinc1 _) ?_
        refine V_goto (pc := 48) (tgt := 2) hX dX4_nextOnRow_48 (by decide) ?_
        refine l_nextOnRow hX hR hr hn hn10 ha (k + 1) (by omega) ?_
        rw [es h7, if_neg (fun q => h40 q.2)] at hp
        exact hp
      · refine V_iload_n (pc := 43) (i := 2) hX dX4_nextOnRow_43 rfl rfl ?_
        exact V_iret (pc := 44) (st := []) hX hr (by first | rfl | exact bI_nar _ | decide +kernel) dX4_nextOnRow_44 (by rw [es h7, if_pos ⟨Int32.not_le.mp h18, h40⟩] at hp; exact hp)
termination_by n - k
set_option maxRecDepth 100000 in
set_option maxHeartbeats 4000000 in
theorem c_nextOnRow (n a : Nat) (σ : Mem) (hn : σ 4 5 = nI n) (hn10 : n ≤ 10) (ha : a < 10) : Cc yX4_nextOnRow cX4_nextOnRow 3 (some .int) 1 [.ref 4, .int (nI a)] σ (rI (nI (nof (σ 38) (ln σ) n a n)) σ) := by
  refine Cc.intro (by decide +kernel) [some (.ref 4), some (.int (nI a)), none] (fun _ => rfl) rfl (fun _ => Nat.le_of_ble_eq_true rfl) ?_
  intro X hX hR hr
  refine V_iconst (pc := 0) (v := (nI 0)) hX dX4_nextOnRow_0 (by decide +kernel) ?_
  refine V_istore2 (pc := 1) hX dX4_nextOnRow_1 rfl ?_
  exact l_nextOnRow hX hR hr hn hn10 ha 0 (Nat.zero_le _) ⟨rfl, rfl⟩
def sh1 (k : Nat) : Int32 := nI 1 <<< (nI k &&& 31)
def bwM (σ : Mem) (a b : Nat) : Mem :=
  mu (mu (mu (mu σ 37 a (σ 37 a ||| sh1 b)) 37 b (mu σ 37 a (σ 37 a ||| sh1 b) 37 b ||| sh1 a)) 4 9 (σ 4 9 ||| (sh1 a ||| sh1 b))) 4 10 (σ 4 10 + nI 1)
set_option maxRecDepth 100000 in
set_option maxHeartbeats 4000000 in
theorem c_buyWay (a b : Nat) (σ : Mem) (ha : a < 10) (hb : b < 10) : Cc yX4_buyWay cX4_buyWay 3 none 0 [.ref 4, .int (nI a), .int (nI b)] σ (rV (bwM σ a b)) := by
  refine Cc.intro (by decide +kernel) [some (.ref 4), some (.int (nI a)), some (.int (nI b))] (fun _ => rfl) rfl (fun _ => Nat.le_of_ble_eq_true rfl) ?_
  intro X hX hR hr
  refine V_aload_n (pc := 0) (i := 0) hX dX4_buyWay_0 rfl rfl ?_
  refine V_getr (pc := 1) hX fX4_16 dX4_buyWay_1 rfl rfl ?_
  refine V_iload_n (pc := 4) (i := 1) hX dX4_buyWay_4 rfl rfl ?_
  refine V_dup2 (pc := 5) hX dX4_buyWay_5 rfl rfl ?_
  refine V_iald (pc := 6) hX dX4_buyWay_6 (rfl) (rfl) (by omega) (by decide) ?_
  refine V_iconst (pc := 7) (v := (nI 1)) hX dX4_buyWay_7 (by decide +kernel) ?_
  refine V_iload_n (pc := 8) (i := 2) hX dX4_buyWay_8 rfl rfl ?_
  refine V_ishl (pc := 9) hX dX4_buyWay_9 ?_
  refine V_ior (pc := 10) hX dX4_buyWay_10 ?_
  refine V_iast (pc := 11) hX dX4_buyWay_11 (rfl) (rfl) (by omega) (by decide) ?_
  refine V_aload_n (pc := 12) (i := 0) hX dX4_buyWay_12 rfl rfl ?_
  refine V_getr (pc := 13) hX fX4_16 dX4_buyWay_13 rfl rfl ?_
  refine V_iload_n (pc := 16) (i := 2) hX dX4_buyWay_16 rfl rfl ?_
  refine V_dup2 (pc := 17) hX dX4_buyWay_17 rfl rfl ?_
  refine V_iald (pc := 18) hX dX4_buyWay_18 (rfl) (rfl) (by omega) (by decide) ?_
  refine V_iconst (pc := 19) (v := (nI 1)) hX dX4_buyWay_19 (by decide +kernel) ?_
  refine V_iload_n (pc := 20) (i := 1) hX dX4_buyWay_20 rfl rfl ?_
  refine V_ishl (pc := 21) hX dX4_buyWay_21 ?_
  refine V_ior (pc := 22) hX dX4_buyWay_22 ?_
  refine V_iast (pc := 23) hX dX4_buyWay_23 (rfl) (rfl) (by omega) (by decide) ?_
  refine V_aload_n (pc := 24) (i := 0) hX dX4_buyWay_24 rfl rfl ?_
  refine V_dup (pc := 25) hX dX4_buyWay_25 rfl ?_
  refine V_getf (pc := 26) hX fX4_49 dX4_buyWay_26 rfl rfl ?_
  refine V_iconst (pc := 29) (v := (nI 1)) hX dX4_buyWay_29 (by decide +kernel) ?_
  refine V_iload_n (pc := 30) (i := 1) hX dX4_buyWay_30 rfl rfl ?_
  refine V_ishl (pc := 31) hX dX4_buyWay_31 ?_
  refine V_iconst (pc := 32) (v := (nI 1)) hX dX4_buyWay_32 (by decide +kernel) ?_
  refine V_iload_n (pc := 33) (i := 2) hX dX4_buyWay_33 rfl rfl ?_
  refine V_ishl (pc := 34) hX dX4_buyWay_34 ?_
  refine V_ior (pc := 35) hX dX4_buyWay_35 ?_
  refine V_ior (pc := 36) hX dX4_buyWay_36 ?_
  refine V_putf (pc := 37) hX fX4_49 gi4_9 dX4_buyWay_37 rfl rfl ?_
  refine V_aload_n (pc := 40) (i := 0) hX dX4_buyWay_40 rfl rfl ?_
  refine V_dup (pc := 41) hX dX4_buyWay_41 rfl ?_
  refine V_getf (pc := 42) hX fX4_83 dX4_buyWay_42 rfl rfl ?_
  refine V_iconst (pc := 45) (v := (nI 1)) hX dX4_buyWay_45 (by decide +kernel) ?_
  refine V_iadd (pc := 46) hX dX4_buyWay_46 ?_
  refine V_putf (pc := 47) hX fX4_83 gi4_10 dX4_buyWay_47 rfl rfl ?_
  exact V_vret (pc := 50) (st := []) hX hr dX4_buyWay_50 (⟨rfl, by unfold bwM; simp only [mu_f, upd_at, Nat.reduceEqDiff, ↓reduceIte]; rfl⟩)
/-- the row that is bought: where it stands behind k steps; what is paid; the memory -/
def brA (w : Nat → Int32) (l : Nat → Nat → Int32) (n s : Nat) : Nat → Nat
  | 0 => s
  | k + 1 => if 0 < w (brA w l n s k) then nof w l n (brA w l n s k) n else brA w l n s k
def brC (w : Nat → Int32) (l : Nat → Nat → Int32) (n s : Nat) : Nat → Int32
  | 0 => nI 0
  | k + 1 => if 0 < w (brA w l n s k) then brC w l n s k + l (brA w l n s k) (nof w l n (brA w l n s k) n) else brC w l n s k
def brM (σ : Mem) (w : Nat → Int32) (l : Nat → Nat → Int32) (n s : Nat) : Nat → Mem
  | 0 => σ
  | k + 1 => if 0 < w (brA w l n s k) then bwM (brM σ w l n s k) (brA w l n s k) (nof w l n (brA w l n s k) n) else brM σ w l n s k
theorem brA_lt (w : Nat → Int32) (l : Nat → Nat → Int32) (n s : Nat) (hs : s < 10) (hn : n ≤ 10) : ∀ k, brA w l n s k < 10
  | 0 => hs
  | k + 1 => by
    have := brA_lt w l n s hs hn k
    unfold brA
    split
    · exact nof_lt w l n _ this hn n (Nat.le_refl _)
    · exact this
theorem br_stop {σ : Mem} {w : Nat → Int32} {l : Nat → Nat → Int32} {n s k : Nat} (h : ¬ 0 < w (brA w l n s k)) : ∀ m, brA w l n s (k + m) = brA w l n s k ∧ brC w l n s (k + m) = brC w l n s k ∧ brM σ w l n s (k + m) = brM σ w l n s k
  | 0 => ⟨rfl, rfl, rfl⟩
  | m + 1 => by
    obtain ⟨h1, h2, h3⟩ := br_stop (σ := σ) h m
    rw [show k + (m + 1) = (k + m) + 1 from rfl, brA, brC, brM, h1, if_neg h, if_neg h, if_neg h]
    exact ⟨rfl, h2, h3⟩
theorem bwM_r {σ : Mem} {a b q : Nat} (h : q ≠ 4) (h2 : q ≠ 37) : bwM σ a b q = σ q := by
  unfold bwM
  rw [← mu_ne h, ← mu_ne h, ← mu_ne h2, ← mu_ne h2]
theorem bwM_c {σ : Mem} {a b j : Nat} (h : j ≠ 9) (h2 : j ≠ 10) : bwM σ a b 4 j = σ 4 j := by
  unfold bwM
  rw [mu_ni h2, mu_ni h, mu_np (by decide), mu_np (by decide)]
theorem brM_r {σ : Mem} {w : Nat → Int32} {l : Nat → Nat → Int32} {n s q : Nat} (h : q ≠ 4) (h2 : q ≠ 37) : ∀ k, brM σ w l n s k q = σ q
  | 0 => rfl
  | k + 1 => by
    unfold brM
    split
    · rw [bwM_r h h2, brM_r h h2 k]
    · exact brM_r h h2 k
theorem brM_c {σ : Mem} {w : Nat → Int32} {l : Nat → Nat → Int32} {n s j : Nat} (h : j ≠ 9) (h2 : j ≠ 10) : ∀ k, brM σ w l n s k 4 j = σ 4 j
  | 0 => rfl
  | k + 1 => by
    unfold brM
    split
    · rw [bwM_c h h2, brM_c h h2 k]
    · exact brM_c h h2 k
set_option maxRecDepth 100000 in
set_option maxHeartbeats 4000000 in
theorem l_buyRow {n s : Nat} {z : Option Value} {X : XC} {P : Option Value → Mem → Prop} {σ : Mem} (hX : Cok X RX4 cX4_buyRow 6) (hR : Rok X 2) (hr : Ret X (some .int) P) (hn : σ 4 5 = nI n) (hn10 : n ≤ 10) (hs : s < 10) (hp : P (some (.int (brC (σ 38) (ln σ) n s n))) (brM σ (σ 38) (ln σ) n s n)) (k : Nat) (hk : k ≤ n) (hz : nol [z] = true) : Vw X 7 [some (.ref 4), some (.int (nI s)), some (.int (brC (σ 38) (ln σ) n s k)), some (.int (nI (brA (σ 38) (ln σ) n s k))), some (.int (nI k)), z] [] (brM σ (σ 38) (ln σ) n s k) := by
  have hat := brA_lt (σ 38) (ln σ) n s hs hn10 k
  have hto := nof_lt (σ 38) (ln σ) n _ hat hn10 n (Nat.le_refl _)
  have r38 : brM σ (σ 38) (ln σ) n s k 38 = σ 38 := brM_r (by decide) (by decide) k
  have r5 : brM σ (σ 38) (ln σ) n s k 4 5 = nI n := by rw [brM_c (by decide) (by decide)]; exact hn
  have rl : ln (brM σ (σ 38) (ln σ) n s k) = ln σ := ln_of (fun q h1 h2 => brM_r (by omega) (by omega) k)
  have ih := fun (h : k < n) (z : Option Value) (hz : nol [z] = true) => l_buyRow hX hR hr hn hn10 hs hp (k + 1) h hz
  refine V_iload (pc := 7) (i := 4) hX dX4_buyRow_7 rfl ?_
  refine V_aload_n (pc := 9) (i := 0) hX dX4_buyRow_9 rfl rfl ?_
  refine V_getf (pc := 10) hX fX4_29 dX4_buyRow_10 rfl rfl ?_
  rw [r5]
  refine V_icmp_geN (pc := 13) (tgt := 60) hX dX4_buyRow_13 (by decide) (by omega) (by omega) (fun h13 => ?_) (fun h13 => ?_)
  · refine V_iload_n (pc := 60) (i := 2) hX dX4_buyRow_60 rfl rfl ?_
    exact V_iret (pc := 61) (st := []) hX hr (by first | rfl | exact bI_nar _ | decide +kernel) dX4_buyRow_61 (by
  obtain rfl : k = n := by omega
  exact hp)
  · refine V_aload_n (pc := 16) (i := 0) hX dX4_buyRow_16 rfl rfl ?_
    refine V_getr (pc := 17) hX fX4_20 dX4_buyRow_17 rfl rfl ?_
    refine V_iload_n (pc := 20) (i := 3) hX dX4_buyRow_20 rfl rfl ?_
    refine V_iald (pc := 21) hX dX4_buyRow_21 (rfl) (rfl) (by omega) (by decide) ?_
    rw [r38]
    refine V_if_le (pc := 22) (tgt := 60) hX dX4_buyRow_22 (by decide) (fun h22 => ?_) (fun h22 => ?_)
    · refine V_iload_n (pc := 60) (i := 2) hX dX4_buyRow_60 rfl rfl ?_
      exact V_iret (pc := 61) (st := []) hX hr (by first | rfl | exact bI_nar _ | decide +kernel) dX4_buyRow_61 (by
  obtain ⟨-, h2, h3⟩ := br_stop (σ := σ) (Int32.not_lt.mpr h22) (n - k)
  rw [show k + (n - k) = n by omega] at h2 h3
  rw [h2, h3] at hp
  exact hp)
    · refine V_aload_n (pc := 25) (i := 0) hX dX4_buyRow_25 rfl rfl ?_
      refine V_iload_n (pc := 26) (i := 3) hX dX4_buyRow_26 rfl rfl ?_
      refine V_callVi (pc := 27) hX (hR.mono (by omega)) mX4_76 (c_nextOnRow n _ _ r5 hn10 hat) dX4_buyRow_27 rfl rfl rfl rfl (Nat.le_of_ble_eq_true rfl) ?_
      rw [r38, rl]
      refine V_istore5 (pc := 30) hX dX4_buyRow_30 hz ?_
      have ihk := ih h13 (some (.int (nI (nof (σ 38) (ln σ) n (brA (σ 38) (ln σ) n s k) n)))) rfl
      rw [brC, brA, brM, if_pos (Int32.not_le.mp h22), if_pos (Int32.not_le.mp h22), if_pos (Int32.not_le.mp h22)] at ihk
      refine V_iload_n (pc := 32) (i := 2) hX dX4_buyRow_32 rfl rfl ?_
      refine V_aload_n (pc := 33) (i := 0) hX dX4_buyRow_33 rfl rfl ?_
      refine V_getr (pc := 34) hX fX4_11 dX4_buyRow_34 rfl rfl ?_
      refine V_iload_n (pc := 37) (i := 3) hX dX4_buyRow_37 rfl rfl ?_
      refine V_aald (pc := 38) hX dX4_buyRow_38 (rfl) (rfl) (by omega) (by decide) ?_
      refine V_iload (pc := 39) (i := 5) hX dX4_buyRow_39 rfl ?_
      refine V_iald (pc := 41) hX dX4_buyRow_41 (shp_ways hat) (rfl) (by omega) (by decide) ?_
      rw [← ln_at (σ := brM σ (σ 38) (ln σ) n s k) hat, rl]
      refine V_iadd (pc := 42) hX dX4_buyRow_42 ?_
      refine V_istore2 (pc := 43) hX dX4_buyRow_43 rfl ?_
      refine V_aload_n (pc := 44) (i := 0) hX dX4_buyRow_44 rfl rfl ?_
      refine V_iload_n (pc := 45) (i := 3) hX dX4_buyRow_45 rfl rfl ?_
      refine V_iload (pc := 46) (i := 5) hX dX4_buyRow_46 rfl ?_
      refine V_callVv (pc := 48) hX (hR.mono (by omega)) mX4_79 (c_buyWay _ _ _ hat hto) dX4_buyRow_48 rfl rfl rfl rfl (Nat.le_of_ble_eq_true rfl) ?_
      refine V_iload (pc := 51) (i := 5) hX dX4_buyRow_51 rfl ?_
      refine V_istore3 (pc := 53) hX dX4_buyRow_53 rfl ?_
      refine V_iinc4 (pc := 54) hX dX4_buyRow_54 rfl (iinc1 _) ?_
      refine V_goto (pc := 57) (tgt := 7) hX dX4_buyRow_57 (by decide) ?_
      exact ihk
termination_by n - k
set_option maxRecDepth 100000 in
set_option maxHeartbeats 4000000 in
theorem c_buyRow (n s : Nat) (σ : Mem) (hn : σ 4 5 = nI n) (hn10 : n ≤ 10) (hs : s < 10) : Cc yX4_buyRow cX4_buyRow 6 (some .int) 2 [.ref 4, .int (nI s)] σ (rI (brC (σ 38) (ln σ) n s n) (brM σ (σ 38) (ln σ) n s n)) := by
  refine Cc.intro (by decide +kernel) [some (.ref 4), some (.int (nI s)), none, none, none, none] (fun _ => rfl) rfl (fun _ => Nat.le_of_ble_eq_true rfl) ?_
  intro X hX hR hr
  refine V_iconst (pc := 0) (v := (nI 0)) hX dX4_buyRow_0 (by decide +kernel) ?_
  refine V_istore2 (pc := 1) hX dX4_buyRow_1 rfl ?_
  refine V_iload_n (pc := 2) (i := 1) hX dX4_buyRow_2 rfl rfl ?_
  refine V_istore3 (pc := 3) hX dX4_buyRow_3 rfl ?_
  refine V_iconst (pc := 4) (v := (nI 0)) hX dX4_buyRow_4 (by decide +kernel) ?_
  refine V_istore4 (pc := 5) hX dX4_buyRow_5 rfl ?_
  exact l_buyRow (z := none) hX hR hr hn hn10 hs ⟨rfl, rfl⟩ 0 (Nat.zero_le _) rfl
/-- the memory when the first site is called -/
def j1M (σ : Mem) (s : Nat) : Mem := if σ 4 8 = 0 then mu (mu σ 4 7 (nI s)) 4 9 (sh1 s) else σ
theorem j1_5 {σ : Mem} {s : Nat} : j1M σ s 4 5 = σ 4 5 := by
  unfold j1M
  split
  · rw [mu_ni (by decide), mu_ni (by decide)]
  · rfl
def j2M (σ : Mem) (n s : Nat) : Mem := mf (j1M σ s) 38 (wtF (j1M σ s) n)
def j3M (σ : Mem) (n s : Nat) : Mem := brM (j2M σ n s) (wtF (j1M σ s) n) (ln σ) n s n
def joinV (σ : Mem) (n s : Nat) : Int32 := if wtF (j1M σ s) n s < nI 1000000 then brC (wtF (j1M σ s) n) (ln σ) n s n else (-1000000)
def joinM (σ : Mem) (n s : Nat) : Mem := if wtF (j1M σ s) n s < nI 1000000 then mu (mu (j3M σ n s) 4 8 (σ 4 8 ||| sh1 s)) 4 11 (σ 4 11 + brC (wtF (j1M σ s) n) (ln σ) n s n) else j2M σ n s
set_option maxRecDepth 100000 in
set_option maxHeartbeats 4000000 in
theorem c_join (n s : Nat) (σ : Mem) (hn : σ 4 5 = nI n) (hn10 : n ≤ 10) (hs : s < 10) : Cc yX4_join cX4_join 3 (some .int) 3 [.ref 4, .int (nI s)] σ (rI (joinV σ n s) (joinM σ n s)) := by
  refine Cc.intro (by decide +kernel) [some (.ref 4), some (.int (nI s)), none] (fun _ => rfl) rfl (fun _ => Nat.le_of_ble_eq_true rfl) ?_
  intro X hX hR hr
  have l1 : ln (j1M σ s) = ln σ := by
    unfold j1M
    split
    · rw [ln_mu (by omega), ln_mu (by omega)]
    · rfl
  have e8 : j1M σ s 4 8 = σ 4 8 := by
    unfold j1M
    split
    · rw [mu_ni (by decide), mu_ni (by decide)]
    · rfl
  have e11 : j1M σ s 4 11 = σ 4 11 := by
    unfold j1M
    split
    · rw [mu_ni (by decide), mu_ni (by decide)]
    · rfl
  have n1 : j1M σ s 4 5 = nI n := by rw [j1_5]; exact hn
  have n2 : j2M σ n s 4 5 = nI n := n1
  have l2 : ln (j2M σ n s) = ln σ := by unfold j2M; rw [ln_mf (by omega), l1]
  have w2 : j2M σ n s 38 = wtF (j1M σ s) n := mf_row _ _ _
  have m8 : j3M σ n s 4 8 = σ 4 8 := by unfold j3M; rw [brM_c (by decide) (by decide)]; exact e8
  have m11 : j3M σ n s 4 11 = σ 4 11 := by unfold j3M; rw [brM_c (by decide) (by decide)]; exact e11
  have k19 : Vw X 19 [some (.ref 4), some (.int (nI s)), none] [] (j1M σ s) := by
    refine V_aload_n (pc := 19) (i := 0) hX dX4_join_19 rfl rfl ?_
    refine V_callVv (pc := 20) hX (hR.mono (by omega)) mX4_52 (c_weighRows n _ n1 hn10) dX4_join_20 rfl rfl rfl rfl (Nat.le_of_ble_eq_true rfl) ?_
    refine Vw.mem (rfl : j2M σ n s = _) ?_
    refine V_aload_n (pc := 23) (i := 0) hX dX4_join_23 rfl rfl ?_
    refine V_getr (pc := 24) hX fX4_20 dX4_join_24 rfl rfl ?_
    refine V_iload_n (pc := 27) (i := 1) hX dX4_join_27 rfl rfl ?_
    refine V_iald (pc := 28) hX dX4_join_28 (rfl) (rfl) (by omega) (by decide) ?_
    rw [w2]
    refine V_ldc (pc := 29) hX kX4_55 dX4_join_29 ?_
    refine V_icmp_lt (pc := 31) (tgt := 37) hX dX4_join_31 (by decide) (fun h31 => ?_) (fun h31 => ?_)
    · refine V_aload_n (pc := 37) (i := 0) hX dX4_join_37 rfl rfl ?_
      refine V_iload_n (pc := 38) (i := 1) hX dX4_join_38 rfl rfl ?_
      refine V_callVi (pc := 39) hX (hR.mono (by omega)) mX4_57 (c_buyRow n s _ n2 hn10 hs) dX4_join_39 rfl rfl rfl rfl (Nat.le_of_ble_eq_true rfl) ?_
      rw [w2, l2]
      refine Vw.mem (rfl : j3M σ n s = _) ?_
      refine V_istore2 (pc := 42) hX dX4_join_42 rfl ?_
      refine V_aload_n (pc := 43) (i := 0) hX dX4_join_43 rfl rfl ?_
      refine V_dup (pc := 44) hX dX4_join_44 rfl ?_
      refine V_getf (pc := 45) hX fX4_43 dX4_join_45 rfl rfl ?_
      refine V_iconst (pc := 48) (v := (nI 1)) hX dX4_join_48 (by decide +kernel) ?_
      refine V_iload_n (pc := 49) (i := 1) hX dX4_join_49 rfl rfl ?_
      refine V_ishl (pc := 50) hX dX4_join_50 ?_
      refine V_ior (pc := 51) hX dX4_join_51 ?_
      refine V_putf (pc := 52) hX fX4_43 gi4_8 dX4_join_52 rfl rfl ?_
      refine V_aload_n (pc := 55) (i := 0) hX dX4_join_55 rfl rfl ?_
      refine V_dup (pc := 56) hX dX4_join_56 rfl ?_
      refine V_getf (pc := 57) hX fX4_61 dX4_join_57 rfl rfl ?_
      refine V_iload_n (pc := 60) (i := 2) hX dX4_join_60 rfl rfl ?_
      refine V_iadd (pc := 61) hX dX4_join_61 ?_
      refine V_putf (pc := 62) hX fX4_61 gi4_11 dX4_join_62 rfl rfl ?_
      refine V_iload_n (pc := 65) (i := 2) hX dX4_join_65 rfl rfl ?_
      exact V_iret (pc := 66) (st := []) hX hr (by first | rfl | exact bI_nar _ | decide +kernel) dX4_join_66 (⟨by rw [joinV, if_pos h31], by rw [joinM, if_pos h31]; simp only [mu_f, upd_at, Nat.reduceEqDiff, ↓reduceIte, m8, m11]; rfl⟩)
    · refine V_ldc (pc := 34) hX kX4_56 dX4_join_34 ?_
      exact V_iret (pc := 36) (st := []) hX hr (by first | rfl | exact bI_nar _ | decide +kernel) dX4_join_36 (⟨by rw [joinV, if_neg h31], by rw [joinM, if_neg h31]⟩)
  refine V_aload_n (pc := 0) (i := 0) hX dX4_join_0 rfl rfl ?_
  refine V_getf (pc := 1) hX fX4_43 dX4_join_1 rfl rfl ?_
  refine V_if_ne (pc := 4) (tgt := 19) hX dX4_join_4 (by decide) (fun h4 => ?_) (fun h4 => ?_)
  · refine Vw.mem (show j1M σ s = _ from if_neg h4) ?_
    exact k19
  · refine V_aload_n (pc := 7) (i := 0) hX dX4_join_7 rfl rfl ?_
    refine V_iload_n (pc := 8) (i := 1) hX dX4_join_8 rfl rfl ?_
    refine V_putf (pc := 9) hX fX4_46 gi4_7 dX4_join_9 rfl rfl ?_
    refine V_aload_n (pc := 12) (i := 0) hX dX4_join_12 rfl rfl ?_
    refine V_iconst (pc := 13) (v := (nI 1)) hX dX4_join_13 (by decide +kernel) ?_
    refine V_iload_n (pc := 14) (i := 1) hX dX4_join_14 rfl rfl ?_
    refine V_ishl (pc := 15) hX dX4_join_15 ?_
    refine V_putf (pc := 16) hX fX4_49 gi4_9 dX4_join_16 rfl rfl ?_
    refine Vw.mem (show j1M σ s = _ from if_pos (by simpa using h4)) ?_
    exact k19

