set_option maxRecDepth 100000 in
set_option maxHeartbeats 4000000 in
theorem c_move (a b i j n : Nat) (σ : Mem) (ha : a < 8) (hb : b < 8) (h0 : i + n ≤ 60) (h1 : j + n ≤ 60) : Cc yX3_move cX3_move 6 (some .int) 1 [.ref 1, .int (nI a), .int (nI i), .int (nI b), .int (nI j), .int (nI n)] σ (rI (nI n) (mf σ (7 + b) (va_cpy (σ (7 + a)) (σ (7 + b)) i j n))) := by
  refine Cc.intro (by decide +kernel) [some (.ref 1), some (.int (nI a)), some (.int (nI i)), some (.int (nI b)), some (.int (nI j)), some (.int (nI n))] (fun _ => rfl) rfl (fun _ => Nat.le_of_ble_eq_true rfl) ?_
  intro X hX hR hr
  refine V_aload_n (pc := 0) (i := 0) hX dX3_move_0 rfl rfl ?_
  refine V_getr (pc := 1) hX fX3_11 dX3_move_1 rfl rfl ?_
  refine V_iload_n (pc := 4) (i := 1) hX dX3_move_4 rfl rfl ?_
  refine V_aald (pc := 5) hX dX3_move_5 (rfl) (rfl) (by omega) (by decide) ?_
  refine V_iload_n (pc := 6) (i := 2) hX dX3_move_6 rfl rfl ?_
  refine V_aload_n (pc := 7) (i := 0) hX dX3_move_7 rfl rfl ?_
  refine V_getr (pc := 8) hX fX3_11 dX3_move_8 rfl rfl ?_
  refine V_iload_n (pc := 11) (i := 3) hX dX3_move_11 rfl rfl ?_
  refine V_aald (pc := 12) hX dX3_move_12 (rfl) (rfl) (by omega) (by decide) ?_
  refine V_iload (pc := 13) (i := 4) hX dX3_move_13 rfl ?_
  refine V_iload (pc := 15) (i := 5) hX dX3_move_15 rfl ?_
  refine V_copyi (pc := 17) hX hR mX3_35 dX3_move_17 (shp_items ha) (shp_items hb) h0 h1 (by decide) (by decide) rfl (Nat.le_of_ble_eq_true rfl) ?_
  refine V_iload (pc := 20) (i := 5) hX dX3_move_20 rfl ?_
  exact V_iret (pc := 22) (st := []) hX hr (by first | rfl | exact bI_nar _ | decide +kernel) dX3_move_22 (⟨rfl, rfl⟩)
theorem nI_of60 {m : Int32} (h0 : ¬ m < 0) (h : m ≤ nI 60) : ∃ j : Nat, j ≤ 60 ∧ m = nI j := nI_of2 (nI_toInt (by decide)) h0 h
/-- a sheet's size is told by a number, or it is missing -/
def szok (σ : Mem) : Prop := ∀ s, s < 8 → σ 16 s = (-1) ∨ ∃ m : Nat, m ≤ 60 ∧ σ 16 s = nI m
def rowM (sz i n : Int32) : Bool := decide (0 ≤ i.toInt ∧ 0 ≤ n.toInt ∧ i.toInt + n.toInt ≤ sz.toInt)
theorem rowF_eq {i n : Int32} {m : Nat} (hm : m ≤ 60) : rowF (nI m) i n = rowM (nI m) i n := by
  unfold rowF rowM
  rw [decide_eq_decide]
  have e := nI_toInt (n := m) (by omega)
  by_cases h : 0 ≤ n.toInt
  · have b1 := Int32.toInt_lt n
    have b2 := Int32.le_toInt n
    have hs : (nI m - n).toInt = (m : Int) - n.toInt := by
      rw [Int32.toInt_sub, e]
      exact Int.bmod_eq_of_le (by omega) (by omega)
    simp only [Int32.le_iff_toInt_le, hs, e, Int32.toInt_zero]
    omega
  · simp only [Int32.le_iff_toInt_le, Int32.toInt_zero]
    omega
theorem rowM_of {m : Nat} {i n : Int32} (hm : m ≤ 60) (h : rowM (nI m) i n = true) : ∃ i' n' : Nat, i = nI i' ∧ n = nI n' ∧ i' + n' ≤ m := by
  have h1 := of_decide_eq_true h
  rw [nI_toInt (by omega)] at h1
  exact ⟨i.toInt.toNat, n.toInt.toNat, nI_of_toInt (by omega) (by omega), nI_of_toInt (by omega) (by omega), by omega⟩
theorem fiF_0 {sz i n : Int32} (h : fiF sz i n = 0) : ¬ sz = (-1) ∧ rowF sz i n = true := by
  unfold fiF at h
  by_cases h1 : sz = (-1)
  · rw [if_pos h1] at h; exact absurd h (by decide +kernel)
  · rw [if_neg h1] at h
    cases h2 : rowF sz i n
    · rw [h2] at h; exact absurd h (by decide +kernel)
    · exact ⟨h1, rfl⟩
theorem fpF_0 {sa sb la lb i j n : Int32} (h : fpF sa sb la lb i j n = 0) : (¬ sa = (-1) ∧ ¬ sb = (-1)) ∧ la = lb ∧ rowF sa i n = true ∧ rowF sb j n = true := by
  unfold fpF at h
  by_cases h1 : sa = (-1) ∨ sb = (-1)
  · rw [if_pos h1] at h; exact absurd h (by decide +kernel)
  · rw [if_neg h1] at h
    by_cases h2 : la = lb
    · rw [if_pos h2] at h
      by_cases h3 : rowF sa i n = true ∧ rowF sb j n = true
      · exact ⟨⟨fun q => h1 (Or.inl q), fun q => h1 (Or.inr q)⟩, h2, h3.1, h3.2⟩
      · rw [if_neg h3] at h; exact absurd h (by decide +kernel)
    · rw [if_neg h2] at h; exact absurd h (by decide +kernel)
theorem sz_row {σ : Mem} (hz : szok σ) {s : Nat} (hs : s < 8) {i n : Int32} (h1 : ¬ σ 16 s = (-1)) (h2 : rowF (σ 16 s) i n = true) : ∃ m i' n' : Nat, m ≤ 60 ∧ σ 16 s = nI m ∧ i = nI i' ∧ n = nI n' ∧ i' + n' ≤ m := by
  rcases hz s hs with h | ⟨m, hm, e⟩
  · exact absurd h h1
  · rw [e, rowF_eq hm] at h2
    obtain ⟨i', n', a, b, c⟩ := rowM_of hm h2
    exact ⟨m, i', n', hm, e, a, b, c⟩
def shOK (x l m : Int32) : Bool := inr x 8 && inr l 3 && decide (m ≤ nI 60)
def sheetF (x l m : Int32) : Int32 := if shOK x l m then (if m < 0 then (-1000014) else m) else (-1000001)
def sheetM (σ : Mem) (x l m : Int32) : Mem := if shOK x l m then (if m < 0 then mu σ 0 5 (nI 4) else layM (mu σ 0 5 (nI 0)) (tn x) l (tn m)) else σ
set_option maxRecDepth 100000 in
set_option maxHeartbeats 4000000 in
theorem c_sheet (x l m : Int32) (σ : Mem) : Cc yX5_sheet cX5_sheet 4 (some .int) 1 [.ref 0, .int x, .int l, .int m] σ (rI (sheetF x l m) (sheetM σ x l m)) := by
  refine Cc.intro (by decide +kernel) [some (.ref 0), some (.int x), some (.int l), some (.int m)] (fun _ => rfl) rfl (fun _ => Nat.le_of_ble_eq_true rfl) ?_
  intro X hX hR hr
  refine V_iload_n (pc := 0) (i := 1) hX dX5_sheet_0 rfl rfl ?_
  refine V_bipush (pc := 1) (v := (nI 8)) hX dX5_sheet_1 (by decide +kernel) ?_
  refine V_callSi (pc := 3) hX (hR.mono (by omega)) mX5_48 (c_isUnderN x 8 (by decide) _) dX5_sheet_3 rfl rfl rfl (Nat.le_of_ble_eq_true rfl) ?_
  refine V_if_eqB (pc := 6) (tgt := 23) hX dX5_sheet_6 (by decide) (fun h6 => ?_) (fun h6 => ?_)
  · refine V_ldc (pc := 23) hX kX5_52 dX5_sheet_23 ?_
    exact V_iret (pc := 25) (st := []) hX hr (by first | rfl | exact bI_nar _ | decide +kernel) dX5_sheet_25 (⟨by rw [sheetF, shOK, h6]; rfl, by rw [sheetM, shOK, h6]; rfl⟩)
  · refine V_iload_n (pc := 9) (i := 2) hX dX5_sheet_9 rfl rfl ?_
    refine V_iconst (pc := 10) (v := (nI 3)) hX dX5_sheet_10 (by decide +kernel) ?_
    refine V_callSi (pc := 11) hX (hR.mono (by omega)) mX5_48 (c_isUnderN l 3 (by decide) _) dX5_sheet_11 rfl rfl rfl (Nat.le_of_ble_eq_true rfl) ?_
    refine V_if_eqB (pc := 14) (tgt := 23) hX dX5_sheet_14 (by decide) (fun h14 => ?_) (fun h14 => ?_)
    · refine V_ldc (pc := 23) hX kX5_52 dX5_sheet_23 ?_
      exact V_iret (pc := 25) (st := []) hX hr (by first | rfl | exact bI_nar _ | decide +kernel) dX5_sheet_25 (⟨by rw [sheetF, shOK, h6, h14]; rfl, by rw [sheetM, shOK, h6, h14]; rfl⟩)
    · refine V_iload_n (pc := 17) (i := 3) hX dX5_sheet_17 rfl rfl ?_
      refine V_bipush (pc := 18) (v := (nI 60)) hX dX5_sheet_18 (by decide +kernel) ?_
      refine V_icmp_le (pc := 20) (tgt := 26) hX dX5_sheet_20 (by decide) (fun h20 => ?_) (fun h20 => ?_)
      · obtain ⟨s, hs, rfl⟩ := inr_of h6 (by decide)
        refine V_aload_n (pc := 26) (i := 0) hX dX5_sheet_26 rfl rfl ?_
        refine V_iload_n (pc := 27) (i := 3) hX dX5_sheet_27 rfl rfl ?_
        refine V_if_ge (pc := 28) (tgt := 35) hX dX5_sheet_28 (by decide) (fun h28 => ?_) (fun h28 => ?_)
        · obtain ⟨j, hj, rfl⟩ := nI_of60 (Int32.not_lt.mpr h28) h20
          refine V_iconst (pc := 35) (v := (nI 0)) hX dX5_sheet_35 (by decide +kernel) ?_
          refine V_putf (pc := 36) hX fX5_44 gi5_5 dX5_sheet_36 rfl rfl ?_
          refine V_aload_n (pc := 39) (i := 0) hX dX5_sheet_39 rfl rfl ?_
          refine V_getf (pc := 40) hX fX5_44 dX5_sheet_40 rfl rfl ?_
          rw [mu_at]
          refine V_if_ne (pc := 43) (tgt := 59) hX dX5_sheet_43 (by decide) (fun h43 => absurd h43 (by intro q; exact q (by decide +kernel))) (fun h43 => ?_)
          refine V_aload_n (pc := 46) (i := 0) hX dX5_sheet_46 rfl rfl ?_
          refine V_getr (pc := 47) hX fX5_10 dX5_sheet_47 rfl rfl ?_
          refine V_iload_n (pc := 50) (i := 1) hX dX5_sheet_50 rfl rfl ?_
          refine V_iload_n (pc := 51) (i := 2) hX dX5_sheet_51 rfl rfl ?_
          refine V_iload_n (pc := 52) (i := 3) hX dX5_sheet_52 rfl rfl ?_
          refine V_callVi (pc := 53) hX (hR.mono (by omega)) mX5_53 (c_lay _ _ _ _ hs hj) dX5_sheet_53 rfl rfl rfl rfl (Nat.le_of_ble_eq_true rfl) ?_
          refine V_goto (pc := 56) (tgt := 66) hX dX5_sheet_56 (by decide) ?_
          exact V_iret (pc := 66) (st := []) hX hr (by first | rfl | exact bI_nar _ | decide +kernel) dX5_sheet_66 (⟨by rw [sheetF, shOK, h6, h14, decide_eq_true h20, Bool.true_and, Bool.true_and, if_pos rfl, if_neg (Int32.not_lt.mpr h28)], by rw [sheetM, shOK, h6, h14, decide_eq_true h20, Bool.true_and, Bool.true_and, if_pos rfl, if_neg (Int32.not_lt.mpr h28), tn_nI (by omega), tn_nI (by omega)]⟩)
        · refine V_iconst (pc := 31) (v := (nI 4)) hX dX5_sheet_31 (by decide +kernel) ?_
          refine V_goto (pc := 32) (tgt := 36) hX dX5_sheet_32 (by decide) ?_
          refine V_putf (pc := 36) hX fX5_44 gi5_5 dX5_sheet_36 rfl rfl ?_
          refine V_aload_n (pc := 39) (i := 0) hX dX5_sheet_39 rfl rfl ?_
          refine V_getf (pc := 40) hX fX5_44 dX5_sheet_40 rfl rfl ?_
          rw [mu_at]
          refine V_if_ne (pc := 43) (tgt := 59) hX dX5_sheet_43 (by decide) (fun _ => ?_) (fun h => absurd h (by decide +kernel))
          refine V_ldc (pc := 59) hX kX5_57 dX5_sheet_59 ?_
          refine V_aload_n (pc := 61) (i := 0) hX dX5_sheet_61 rfl rfl ?_
          refine V_getf (pc := 62) hX fX5_44 dX5_sheet_62 rfl rfl ?_
          rw [mu_at]
          refine V_isub (pc := 65) hX dX5_sheet_65 ?_
          exact V_iret (pc := 66) (st := []) hX hr rfl dX5_sheet_66 ⟨by rw [sheetF, shOK, h6, h14, decide_eq_true h20, Bool.true_and, Bool.true_and, if_pos rfl, if_pos (Int32.not_le.mp h28)]; decide +kernel, by rw [sheetM, shOK, h6, h14, decide_eq_true h20, Bool.true_and, Bool.true_and, if_pos rfl, if_pos (Int32.not_le.mp h28)]⟩
      · refine V_ldc (pc := 23) hX kX5_52 dX5_sheet_23 ?_
        exact V_iret (pc := 25) (st := []) hX hr (by first | rfl | exact bI_nar _ | decide +kernel) dX5_sheet_25 (⟨by rw [sheetF, shOK, h6, h14, decide_eq_false h20]; rfl, by rw [sheetM, shOK, h6, h14, decide_eq_false h20]; rfl⟩)
def setV (σ : Mem) (x i v : Int32) : Int32 := if inr x 8 then (if fiF (σ 16 (tn x)) i (nI 1) = 0 then fitF (σ 15 (tn x)) v else (-1000010) - fiF (σ 16 (tn x)) i (nI 1)) else (-1000001)
def setM (σ : Mem) (x i v : Int32) : Mem := if inr x 8 then (if fiF (σ 16 (tn x)) i (nI 1) = 0 then mu (mu σ 0 5 (nI 0)) (7 + tn x) (tn i) (fitF (σ 15 (tn x)) v) else mu σ 0 5 (fiF (σ 16 (tn x)) i (nI 1))) else σ
set_option maxRecDepth 100000 in
set_option maxHeartbeats 4000000 in
theorem c_set (x i v : Int32) (σ : Mem) (hz : szok σ) : Cc yX5_set cX5_set 4 (some .int) 2 [.ref 0, .int x, .int i, .int v] σ (rI (setV σ x i v) (setM σ x i v)) := by
  refine Cc.intro (by decide +kernel) [some (.ref 0), some (.int x), some (.int i), some (.int v)] (fun _ => rfl) rfl (fun _ => Nat.le_of_ble_eq_true rfl) ?_
  intro X hX hR hr
  refine V_iload_n (pc := 0) (i := 1) hX dX5_set_0 rfl rfl ?_
  refine V_bipush (pc := 1) (v := (nI 8)) hX dX5_set_1 (by decide +kernel) ?_
  refine V_callSi (pc := 3) hX (hR.mono (by omega)) mX5_48 (c_isUnderN x 8 (by decide) _) dX5_set_3 rfl rfl rfl (Nat.le_of_ble_eq_true rfl) ?_
  refine V_if_neB (pc := 6) (tgt := 12) hX dX5_set_6 (by decide) (fun h6 => ?_) (fun h6 => ?_)
  · obtain ⟨s, hs, rfl⟩ := inr_of h6 (by decide)
    refine V_aload_n (pc := 12) (i := 0) hX dX5_set_12 rfl rfl ?_
    refine V_aload_n (pc := 13) (i := 0) hX dX5_set_13 rfl rfl ?_
    refine V_getr (pc := 14) hX fX5_10 dX5_set_14 rfl rfl ?_
    refine V_iload_n (pc := 17) (i := 1) hX dX5_set_17 rfl rfl ?_
    refine V_iload_n (pc := 18) (i := 2) hX dX5_set_18 rfl rfl ?_
    refine V_iconst (pc := 19) (v := (nI 1)) hX dX5_set_19 (by decide +kernel) ?_
    refine V_callVi (pc := 20) hX (hR.mono (by omega)) mX5_58 (c_findItems _ _ _ _ hs) dX5_set_20 rfl rfl rfl rfl (Nat.le_of_ble_eq_true rfl) ?_
    refine V_putf (pc := 23) hX fX5_44 gi5_5 dX5_set_23 rfl rfl ?_
    refine V_aload_n (pc := 26) (i := 0) hX dX5_set_26 rfl rfl ?_
    refine V_getf (pc := 27) hX fX5_44 dX5_set_27 rfl rfl ?_
    rw [mu_at]
    refine V_if_ne (pc := 30) (tgt := 46) hX dX5_set_30 (by decide) (fun h30 => ?_) (fun h30 => ?_)
    · refine V_ldc (pc := 46) hX kX5_57 dX5_set_46 ?_
      refine V_aload_n (pc := 48) (i := 0) hX dX5_set_48 rfl rfl ?_
      refine V_getf (pc := 49) hX fX5_44 dX5_set_49 rfl rfl ?_
      rw [mu_at]
      refine V_isub (pc := 52) hX dX5_set_52 ?_
      exact V_iret (pc := 53) (st := []) hX hr (by first | rfl | exact bI_nar _ | decide +kernel) dX5_set_53 (⟨by rw [setV, h6, if_pos rfl, tn_nI (by omega), if_neg h30], by rw [setM, h6, if_pos rfl, tn_nI (by omega), if_neg h30]⟩)
    · obtain ⟨h1, h2⟩ := fiF_0 h30
      obtain ⟨m, i', n', hm, e1, rfl, e3, hl⟩ := sz_row hz hs h1 h2
      obtain rfl : n' = 1 := by
        have := congrArg Int32.toInt e3
        have h4 : i' + n' ≤ m := hl
        rw [nI_toInt (by decide), nI_toInt (by omega)] at this
        omega
      have e15 : mu σ 0 5 (fiF (σ 16 s) (nI i') (nI 1)) 15 = σ 15 := (mu_ne (by decide)).symm
      refine V_aload_n (pc := 33) (i := 0) hX dX5_set_33 rfl rfl ?_
      refine V_getr (pc := 34) hX fX5_10 dX5_set_34 rfl rfl ?_
      refine V_iload_n (pc := 37) (i := 1) hX dX5_set_37 rfl rfl ?_
      refine V_iload_n (pc := 38) (i := 2) hX dX5_set_38 rfl rfl ?_
      refine V_iload_n (pc := 39) (i := 3) hX dX5_set_39 rfl rfl ?_
      refine V_callVi (pc := 40) hX (hR.mono (by omega)) mX5_61 (c_put _ _ _ _ hs (by omega)) dX5_set_40 rfl rfl rfl rfl (Nat.le_of_ble_eq_true rfl) ?_
      refine V_goto (pc := 43) (tgt := 53) hX dX5_set_43 (by decide) ?_
      exact V_iret (pc := 53) (st := []) hX hr (by first | rfl | exact bI_nar _ | decide +kernel) dX5_set_53 (⟨by rw [setV, h6, if_pos rfl, tn_nI (by omega), if_pos h30, e15], by rw [setM, h6, if_pos rfl, tn_nI (by omega), if_pos h30, tn_nI (by omega), e15, h30, nI_0]⟩)
  · refine V_ldc (pc := 9) hX kX5_52 dX5_set_9 ?_
    exact V_iret (pc := 11) (st := []) hX hr (by first | rfl | exact bI_nar _ | decide +kernel) dX5_set_11 (⟨by rw [setV, h6]; rfl, by rw [setM, h6]; rfl⟩)
def cpOK (a b : Int32) : Bool := inr a 8 && inr b 8
def cpf (σ : Mem) (a b i j n : Int32) : Int32 := fpF (σ 16 (tn a)) (σ 16 (tn b)) (σ 15 (tn a)) (σ 15 (tn b)) i j n
def copyV (σ : Mem) (a i b j n : Int32) : Int32 := if cpOK a b then (if cpf σ a b i j n = 0 then n else (-1000010) - cpf σ a b i j n) else (-1000001)
def copyM (σ : Mem) (a i b j n : Int32) : Mem := if cpOK a b then (if cpf σ a b i j n = 0 then mf (mu σ 0 5 (nI 0)) (7 + tn b) (va_cpy (σ (7 + tn a)) (σ (7 + tn b)) (tn i) (tn j) (tn n)) else mu σ 0 5 (cpf σ a b i j n)) else σ
set_option maxRecDepth 100000 in
set_option maxHeartbeats 4000000 in
theorem c_copy (a i b j n : Int32) (σ : Mem) (hz : szok σ) : Cc yX5_copy cX5_copy 6 (some .int) 2 [.ref 0, .int a, .int i, .int b, .int j, .int n] σ (rI (copyV σ a i b j n) (copyM σ a i b j n)) := by
  refine Cc.intro (by decide +kernel) [some (.ref 0), some (.int a), some (.int i), some (.int b), some (.int j), some (.int n)] (fun _ => rfl) rfl (fun _ => Nat.le_of_ble_eq_true rfl) ?_
  intro X hX hR hr
  refine V_iload_n (pc := 0) (i := 1) hX dX5_copy_0 rfl rfl ?_
  refine V_bipush (pc := 1) (v := (nI 8)) hX dX5_copy_1 (by decide +kernel) ?_
  refine V_callSi (pc := 3) hX (hR.mono (by omega)) mX5_48 (c_isUnderN a 8 (by decide) _) dX5_copy_3 rfl rfl rfl (Nat.le_of_ble_eq_true rfl) ?_
  refine V_if_eqB (pc := 6) (tgt := 18) hX dX5_copy_6 (by decide) (fun h6 => ?_) (fun h6 => ?_)
  · refine V_ldc (pc := 18) hX kX5_52 dX5_copy_18 ?_
    exact V_iret (pc := 20) (st := []) hX hr (by first | rfl | exact bI_nar _ | decide +kernel) dX5_copy_20 (⟨by rw [copyV, cpOK, h6]; rfl, by rw [copyM, cpOK, h6]; rfl⟩)
  · refine V_iload_n (pc := 9) (i := 3) hX dX5_copy_9 rfl rfl ?_
    refine V_bipush (pc := 10) (v := (nI 8)) hX dX5_copy_10 (by decide +kernel) ?_
    refine V_callSi (pc := 12) hX (hR.mono (by omega)) mX5_48 (c_isUnderN b 8 (by decide) _) dX5_copy_12 rfl rfl rfl (Nat.le_of_ble_eq_true rfl) ?_
    refine V_if_neB (pc := 15) (tgt := 21) hX dX5_copy_15 (by decide) (fun h15 => ?_) (fun h15 => ?_)
    · obtain ⟨a', ha, rfl⟩ := inr_of h6 (by decide)
      obtain ⟨b', hb, rfl⟩ := inr_of h15 (by decide)
      have ec : cpf σ (nI a') (nI b') i j n = fpF (σ 16 a') (σ 16 b') (σ 15 a') (σ 15 b') i j n := by rw [cpf, tn_nI (by omega), tn_nI (by omega)]
      have eo : cpOK (nI a') (nI b') = true := by rw [cpOK, h6, h15]; rfl
      refine V_aload_n (pc := 21) (i := 0) hX dX5_copy_21 rfl rfl ?_
      refine V_aload_n (pc := 22) (i := 0) hX dX5_copy_22 rfl rfl ?_
      refine V_getr (pc := 23) hX fX5_10 dX5_copy_23 rfl rfl ?_
      refine V_iload_n (pc := 26) (i := 1) hX dX5_copy_26 rfl rfl ?_
      refine V_iload_n (pc := 27) (i := 2) hX dX5_copy_27 rfl rfl ?_
      refine V_iload_n (pc := 28) (i := 3) hX dX5_copy_28 rfl rfl ?_
      refine V_iload (pc := 29) (i := 4) hX dX5_copy_29 rfl ?_
      refine V_iload (pc := 31) (i := 5) hX dX5_copy_31 rfl ?_
      refine V_callVi (pc := 33) hX (hR.mono (by omega)) mX5_64 (c_findPair _ _ _ _ _ _ ha hb) dX5_copy_33 rfl rfl rfl rfl (Nat.le_of_ble_eq_true rfl) ?_
      refine V_putf (pc := 36) hX fX5_44 gi5_5 dX5_copy_36 rfl rfl ?_
      refine V_aload_n (pc := 39) (i := 0) hX dX5_copy_39 rfl rfl ?_
      refine V_getf (pc := 40) hX fX5_44 dX5_copy_40 rfl rfl ?_
      rw [mu_at, ← ec]
      refine V_if_ne (pc := 43) (tgt := 63) hX dX5_copy_43 (by decide) (fun h43 => ?_) (fun h43 => ?_)
      · refine V_ldc (pc := 63) hX kX5_57 dX5_copy_63 ?_
        refine V_aload_n (pc := 65) (i := 0) hX dX5_copy_65 rfl rfl ?_
        refine V_getf (pc := 66) hX fX5_44 dX5_copy_66 rfl rfl ?_
        rw [mu_at]
        refine V_isub (pc := 69) hX dX5_copy_69 ?_
        exact V_iret (pc := 70) (st := []) hX hr (by first | rfl | exact bI_nar _ | decide +kernel) dX5_copy_70 (⟨by rw [copyV, eo, if_pos rfl, if_neg h43], by rw [copyM, eo, if_pos rfl, if_neg h43, ec]⟩)
      · obtain ⟨⟨h1, h2⟩, -, h3, h4⟩ := fpF_0 (ec ▸ h43)
        obtain ⟨m1, i', n', hm1, e1, rfl, rfl, hl1⟩ := sz_row hz ha h1 h3
        obtain ⟨m2, j', n2, hm2, e2, rfl, e5, hl2⟩ := sz_row hz hb h2 h4
        obtain rfl : n' = n2 := by
          have := congrArg Int32.toInt e5
          rw [nI_toInt (by omega), nI_toInt (by omega)] at this
          omega
        have ea : mu σ 0 5 (cpf σ (nI a') (nI b') (nI i') (nI j') (nI n')) (7 + a') = σ (7 + a') := (mu_ne (by omega)).symm
        have eb : mu σ 0 5 (cpf σ (nI a') (nI b') (nI i') (nI j') (nI n')) (7 + b') = σ (7 + b') := (mu_ne (by omega)).symm
        refine V_aload_n (pc := 46) (i := 0) hX dX5_copy_46 rfl rfl ?_
        refine V_getr (pc := 47) hX fX5_10 dX5_copy_47 rfl rfl ?_
        refine V_iload_n (pc := 50) (i := 1) hX dX5_copy_50 rfl rfl ?_
        refine V_iload_n (pc := 51) (i := 2) hX dX5_copy_51 rfl rfl ?_
        refine V_iload_n (pc := 52) (i := 3) hX dX5_copy_52 rfl rfl ?_
        refine V_iload (pc := 53) (i := 4) hX dX5_copy_53 rfl ?_
        refine V_iload (pc := 55) (i := 5) hX dX5_copy_55 rfl ?_
        refine V_callVi (pc := 57) hX (hR.mono (by omega)) mX5_68 (c_move _ _ _ _ _ _ ha hb (by omega) (by omega)) dX5_copy_57 rfl rfl rfl rfl (Nat.le_of_ble_eq_true rfl) ?_
        refine V_goto (pc := 60) (tgt := 70) hX dX5_copy_60 (by decide) ?_
        exact V_iret (pc := 70) (st := []) hX hr (by first | rfl | exact bI_nar _ | decide +kernel) dX5_copy_70 (⟨by rw [copyV, eo, if_pos rfl, if_pos h43], by rw [copyM, eo, if_pos rfl, if_pos h43, ea, eb, h43, tn_nI (by omega), tn_nI (by omega), tn_nI (by omega), tn_nI (by omega), tn_nI (by omega)]; rfl⟩)
    · refine V_ldc (pc := 18) hX kX5_52 dX5_copy_18 ?_
      exact V_iret (pc := 20) (st := []) hX hr (by first | rfl | exact bI_nar _ | decide +kernel) dX5_copy_20 (⟨by rw [copyV, cpOK, h6, h15]; rfl, by rw [copyM, cpOK, h6, h15]; rfl⟩)
def dropV (σ : Mem) (x : Int32) : Int32 := if inr x 8 then (if σ 16 (tn x) = (-1) then (-1000011) else σ 16 (tn x)) else (-1000001)
def dropM (σ : Mem) (x : Int32) : Mem := if inr x 8 then (if σ 16 (tn x) = (-1) then mu σ 0 5 (nI 1) else mu (mu σ 0 5 (nI 0)) 16 (tn x) (-1)) else σ
set_option maxRecDepth 100000 in
set_option maxHeartbeats 4000000 in
theorem c_drop (x : Int32) (σ : Mem) : Cc yX5_drop cX5_drop 2 (some .int) 1 [.ref 0, .int x] σ (rI (dropV σ x) (dropM σ x)) := by
  refine Cc.intro (by decide +kernel) [some (.ref 0), some (.int x)] (fun _ => rfl) rfl (fun _ => Nat.le_of_ble_eq_true rfl) ?_
  intro X hX hR hr
  refine V_iload_n (pc := 0) (i := 1) hX dX5_drop_0 rfl rfl ?_
  refine V_bipush (pc := 1) (v := (nI 8)) hX dX5_drop_1 (by decide +kernel) ?_
  refine V_callSi (pc := 3) hX (hR.mono (by omega)) mX5_48 (c_isUnderN x 8 (by decide) _) dX5_drop_3 rfl rfl rfl (Nat.le_of_ble_eq_true rfl) ?_
  refine V_if_neB (pc := 6) (tgt := 12) hX dX5_drop_6 (by decide) (fun h6 => ?_) (fun h6 => ?_)
  · obtain ⟨s, hs, rfl⟩ := inr_of h6 (by decide)
    refine V_aload_n (pc := 12) (i := 0) hX dX5_drop_12 rfl rfl ?_
    refine V_aload_n (pc := 13) (i := 0) hX dX5_drop_13 rfl rfl ?_
    refine V_getr (pc := 14) hX fX5_10 dX5_drop_14 rfl rfl ?_
    refine V_iload_n (pc := 17) (i := 1) hX dX5_drop_17 rfl rfl ?_
    refine V_callVi (pc := 18) hX (hR.mono (by omega)) mX5_71 (c_isMissing _ _ hs) dX5_drop_18 rfl rfl rfl rfl (Nat.le_of_ble_eq_true rfl) ?_
    refine V_if_eqB (pc := 21) (tgt := 28) hX dX5_drop_21 (by decide) (fun h21 => ?_) (fun h21 => ?_)
    · refine V_iconst (pc := 28) (v := (nI 0)) hX dX5_drop_28 (by decide +kernel) ?_
      refine V_putf (pc := 29) hX fX5_44 gi5_5 dX5_drop_29 rfl rfl ?_
      refine V_aload_n (pc := 32) (i := 0) hX dX5_drop_32 rfl rfl ?_
      refine V_getf (pc := 33) hX fX5_44 dX5_drop_33 rfl rfl ?_
      rw [mu_at]
      refine V_if_ne (pc := 36) (tgt := 50) hX dX5_drop_36 (by decide) (fun h36 => absurd h36 (by intro q; exact q (by decide +kernel))) (fun h36 => ?_)
      refine V_aload_n (pc := 39) (i := 0) hX dX5_drop_39 rfl rfl ?_
      refine V_getr (pc := 40) hX fX5_10 dX5_drop_40 rfl rfl ?_
      refine V_iload_n (pc := 43) (i := 1) hX dX5_drop_43 rfl rfl ?_
      refine V_callVi (pc := 44) hX (hR.mono (by omega)) mX5_75 (c_remove _ _ hs) dX5_drop_44 rfl rfl rfl rfl (Nat.le_of_ble_eq_true rfl) ?_
      refine V_goto (pc := 47) (tgt := 57) hX dX5_drop_47 (by decide) ?_
      exact V_iret (pc := 57) (st := []) hX hr (by first | rfl | exact bI_nar _ | decide +kernel) dX5_drop_57 (⟨by rw [dropV, h6, if_pos rfl, tn_nI (by omega), if_neg (of_decide_eq_false h21)]; rfl, by rw [dropM, h6, if_pos rfl, tn_nI (by omega), if_neg (of_decide_eq_false h21)]⟩)
    · refine V_iconst (pc := 24) (v := (nI 1)) hX dX5_drop_24 (by decide +kernel) ?_
      refine V_goto (pc := 25) (tgt := 29) hX dX5_drop_25 (by decide) ?_
      refine V_putf (pc := 29) hX fX5_44 gi5_5 dX5_drop_29 rfl rfl ?_
      refine V_aload_n (pc := 32) (i := 0) hX dX5_drop_32 rfl rfl ?_
      refine V_getf (pc := 33) hX fX5_44 dX5_drop_33 rfl rfl ?_
      rw [mu_at]
      refine V_if_ne (pc := 36) (tgt := 50) hX dX5_drop_36 (by decide) (fun _ => ?_) (fun h => absurd h (by decide +kernel))
      refine V_ldc (pc := 50) hX kX5_57 dX5_drop_50 ?_
      refine V_aload_n (pc := 52) (i := 0) hX dX5_drop_52 rfl rfl ?_
      refine V_getf (pc := 53) hX fX5_44 dX5_drop_53 rfl rfl ?_
      rw [mu_at]
      refine V_isub (pc := 56) hX dX5_drop_56 ?_
      exact V_iret (pc := 57) (st := []) hX hr rfl dX5_drop_57 ⟨by rw [dropV, h6, if_pos rfl, tn_nI (by omega), if_pos (of_decide_eq_true h21)]; decide +kernel, by rw [dropM, h6, if_pos rfl, tn_nI (by omega), if_pos (of_decide_eq_true h21)]⟩
  · refine V_ldc (pc := 9) hX kX5_52 dX5_drop_9 ?_
    exact V_iret (pc := 11) (st := []) hX hr (by first | rfl | exact bI_nar _ | decide +kernel) dX5_drop_11 (⟨by rw [dropV, h6]; rfl, by rw [dropM, h6]; rfl⟩)

