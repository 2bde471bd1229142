/-! ===== SHEETS, the reference's: 53 lanes (-1: missing), 54 sizes, 55 items by 60 ===== -/
set_option maxRecDepth 100000 in
set_option maxHeartbeats 4000000 in
theorem c_found (k : Int32) (σ : Mem) : Cc yX6_found cX6_found 2 (some .int) 0 [.ref 52, .int k] σ (rI ((-1000010) - k) (mu σ 52 1 k)) := by
  refine Cc.intro (by decide +kernel) [some (.ref 52), some (.int k)] (fun _ => rfl) rfl (fun _ => Nat.le_of_ble_eq_true rfl) ?_
  intro X hX hR hr
  refine V_aload_n (pc := 0) (i := 0) hX dX6_found_0 rfl rfl ?_
  refine V_iload_n (pc := 1) (i := 1) hX dX6_found_1 rfl rfl ?_
  refine V_putf (pc := 2) hX fX6_69 gi6_1 dX6_found_2 rfl rfl ?_
  refine V_ldc (pc := 5) hX kX6_72 dX6_found_5 ?_
  refine V_iload_n (pc := 7) (i := 1) hX dX6_found_7 rfl rfl ?_
  refine V_isub (pc := 8) hX dX6_found_8 ?_
  exact V_iret (pc := 9) (st := []) hX hr (by first | rfl | exact bI_nar _ | decide +kernel) dX6_found_9 (⟨rfl, rfl⟩)
set_option maxRecDepth 100000 in
set_option maxHeartbeats 4000000 in
theorem c_misSheet (x : Int32) (σ : Mem) : Cc yX6_isSheet cX6_isSheet 1 (some .boolean) 1 [.int x] σ (rI (bI (inr x 8)) σ) := by
  refine Cc.intro (by decide +kernel) [some (.int x)] (fun _ => rfl) rfl (fun _ => Nat.le_of_ble_eq_true rfl) ?_
  intro X hX hR hr
  refine V_iload_n (pc := 0) (i := 0) hX dX6_isSheet_0 rfl rfl ?_
  refine V_i2l (pc := 1) hX dX6_isSheet_1 ?_
  refine V_lconst (pc := 2) (v := lN 0) hX dX6_isSheet_2 (by decide +kernel) ?_
  refine V_ldc2 (pc := 3) hX kX6_73 dX6_isSheet_3 ?_
  refine V_callSi (pc := 6) hX (hR.mono (by omega)) mX6_75 (c_inN x 0 7 (by decide) (by decide) _) dX6_isSheet_6 rfl rfl rfl (Nat.le_of_ble_eq_true rfl) ?_
  exact V_iret (pc := 9) (st := []) hX hr (by first | rfl | exact bI_nar _ | decide +kernel) dX6_isSheet_9 (⟨by rw [inr2_0], rfl⟩)
def mzok (σ : Mem) : Prop := ∀ s, s < 8 → (σ 53 s = (-1) ∨ ∃ l : Nat, l < 3 ∧ σ 53 s = nI l) ∧ ∃ m : Nat, m ≤ 60 ∧ σ 54 s = nI m
theorem lane_neg {σ : Mem} (hz : mzok σ) {s : Nat} (hs : s < 8) (h : ¬ 0 ≤ σ 53 s) : σ 53 s = (-1) := by
  rcases (hz s hs).1 with h1 | ⟨l, hl, h1⟩
  · exact h1
  · rw [h1] at h; exact absurd (nI_pos' (by omega)) h
theorem lane_pos {σ : Mem} {s : Nat} (h : 0 ≤ σ 53 s) : ¬ σ 53 s = (-1) := fun q => by rw [q] at h; exact absurd h (by decide)
def clr2 (f : Nat → Int32) (s k : Nat) : Nat → Int32 := fun i => if 60 * s ≤ i ∧ i < 60 * s + k then nI 0 else f i
theorem clr2_0 (f : Nat → Int32) (s : Nat) : clr2 f s 0 = f := by
  funext i
  unfold clr2
  rw [if_neg (by omega)]
theorem clr2_s (f : Nat → Int32) (s k : Nat) : upd (clr2 f s k) (60 * s + k) (nI 0) = clr2 f s (k + 1) := by
  funext i
  simp only [upd, clr2]
  by_cases h : i = 60 * s + k
  · rw [if_pos h, if_pos (by omega)]
  · rw [if_neg h]
    by_cases h2 : 60 * s ≤ i ∧ i < 60 * s + k
    · rw [if_pos h2, if_pos (by omega)]
    · rw [if_neg h2, if_neg (by omega)]
set_option maxRecDepth 100000 in
set_option maxHeartbeats 4000000 in
theorem l_msheet {s n : Nat} {l : Int32} {X : XC} {P : Option Value → Mem → Prop} {σ : Mem} (hX : Cok X RX6 cX6_sheet 5) (hR : Rok X 0) (hr : Ret X (some .int) P) (hs : s < 8) (kk : Vw X 91 [some (.ref 52), some (.int (nI s)), some (.int l), some (.int (nI n)), some (.int (nI 60))] [] (mf σ 55 (clr2 (σ 55) s 60))) (k : Nat) (hk : k ≤ 60) :
    Vw X 65 [some (.ref 52), some (.int (nI s)), some (.int l), some (.int (nI n)), some (.int (nI k))] [] (mf σ 55 (clr2 (σ 55) s k)) := by
  refine V_iload (pc := 65) (i := 4) hX dX6_sheet_65 rfl ?_
  refine V_bipush (pc := 67) (v := (nI 60)) hX dX6_sheet_67 (by decide +kernel) ?_
  refine V_icmp_geN (pc := 69) (tgt := 91) hX dX6_sheet_69 (by decide) (by omega) (by omega) (fun h69 => ?_) (fun h69 => ?_)
  · obtain rfl : k = 60 := by omega
    exact kk
  · refine V_aload_n (pc := 72) (i := 0) hX dX6_sheet_72 rfl rfl ?_
    refine V_getr (pc := 73) hX fX6_16 dX6_sheet_73 rfl rfl ?_
    refine V_bipush (pc := 76) (v := (nI 60)) hX dX6_sheet_76 (by decide +kernel) ?_
    refine V_iload_n (pc := 78) (i := 1) hX dX6_sheet_78 rfl rfl ?_
    refine V_imul (pc := 79) hX dX6_sheet_79 ?_
    refine V_iload (pc := 80) (i := 4) hX dX6_sheet_80 rfl ?_
    refine V_iadd (pc := 82) hX dX6_sheet_82 ?_
    refine V_iconst (pc := 83) (v := (nI 0)) hX dX6_sheet_83 (by decide +kernel) ?_
    refine V_iast (pc := 84) hX dX6_sheet_84 (rfl) (show _ = nI (60 * s + k) by rw [pk_mul, nI_add]) (by omega) (by decide) ?_
    refine V_iinc4 (pc := 85) hX dX6_sheet_85 rfl (iinc1 _) ?_
    refine V_goto (pc := 88) (tgt := 65) hX dX6_sheet_88 (by decide) ?_
    have ih := l_msheet hX hR hr hs kk (k + 1) (by omega)
    rw [mf_mu, clr2_s]
    exact ih
termination_by 60 - k
def layM2 (σ : Mem) (s : Nat) (l n : Int32) : Mem := mf (mu (mu σ 53 s l) 54 s n) 55 (clr2 (σ 55) s 60)
def m1 (σ : Mem) : Mem := mu (m0 σ) 52 1 (nI 0)
theorem m1_r {σ : Mem} {q : Nat} (h : q ≠ 52) : m1 σ q = σ q := by unfold m1; rw [← mu_ne h, m0_r h]
theorem m1_c {σ : Mem} {j : Nat} (h : j ≠ 0) (h2 : j ≠ 1) : m1 σ 52 j = σ 52 j := by unfold m1; rw [mu_ni h2, m0_c h]
def msheetM (σ : Mem) (x l m : Int32) : Mem := if shOK x l m then (if m < 0 then mu (m1 σ) 52 1 (nI 4) else layM2 (m1 σ) (tn x) l m) else m0 σ
set_option maxRecDepth 100000 in
set_option maxHeartbeats 4000000 in
theorem c_msheet (x l m : Int32) (σ : Mem) : Cc yX6_sheet cX6_sheet 5 (some .int) 2 [.ref 52, .int x, .int l, .int m] σ (rI (sheetF x l m) (msheetM σ x l m)) := by
  refine Cc.intro (by decide +kernel) [some (.ref 52), some (.int x), some (.int l), some (.int m), none] (fun _ => rfl) rfl (fun _ => Nat.le_of_ble_eq_true rfl) ?_
  intro X hX hR hr
  refine V_aload_n (pc := 0) (i := 0) hX dX6_sheet_0 rfl rfl ?_
  refine V_iconst (pc := 1) (v := (nI 0)) hX dX6_sheet_1 (by decide +kernel) ?_
  refine V_putf (pc := 2) hX fX6_66 gi6_0 dX6_sheet_2 rfl rfl ?_
  refine Vw.mem (rfl : m0 σ = _) ?_
  refine V_iload_n (pc := 5) (i := 1) hX dX6_sheet_5 rfl rfl ?_
  refine V_callSi (pc := 6) hX (hR.mono (by omega)) mX6_79 (c_misSheet _ _) dX6_sheet_6 rfl rfl rfl (Nat.le_of_ble_eq_true rfl) ?_
  refine V_if_eqB (pc := 9) (tgt := 30) hX dX6_sheet_9 (by decide) (fun h9 => ?_) (fun h9 => ?_)
  · refine V_ldc (pc := 30) hX kX6_85 dX6_sheet_30 ?_
    exact V_iret (pc := 32) (st := []) hX hr (by first | rfl | exact bI_nar _ | decide +kernel) dX6_sheet_32 (⟨by rw [sheetF, shOK, h9]; rfl, by rw [msheetM, shOK, h9]; rfl⟩)
  · refine V_iload_n (pc := 12) (i := 2) hX dX6_sheet_12 rfl rfl ?_
    refine V_i2l (pc := 13) hX dX6_sheet_13 ?_
    refine V_lconst (pc := 14) (v := lN 0) hX dX6_sheet_14 (by decide +kernel) ?_
    refine V_ldc2 (pc := 15) hX kX6_83 dX6_sheet_15 ?_
    refine V_callSi (pc := 18) hX (hR.mono (by omega)) mX6_75 (c_inN l 0 2 (by decide) (by decide) _) dX6_sheet_18 rfl rfl rfl (Nat.le_of_ble_eq_true rfl) ?_
    refine V_if_eqB (pc := 21) (tgt := 30) hX dX6_sheet_21 (by decide) (fun h21 => ?_) (fun h21 => ?_)
    · refine V_ldc (pc := 30) hX kX6_85 dX6_sheet_30 ?_
      exact V_iret (pc := 32) (st := []) hX hr (by first | rfl | exact bI_nar _ | decide +kernel) dX6_sheet_32 (⟨by rw [inr2_0] at h21; rw [sheetF, shOK, h9, h21]; rfl, by rw [inr2_0] at h21; rw [msheetM, shOK, h9, h21]; rfl⟩)
    · refine V_iload_n (pc := 24) (i := 3) hX dX6_sheet_24 rfl rfl ?_
      refine V_bipush (pc := 25) (v := (nI 60)) hX dX6_sheet_25 (by decide +kernel) ?_
      refine V_icmp_le (pc := 27) (tgt := 33) hX dX6_sheet_27 (by decide) (fun h27 => ?_) (fun h27 => ?_)
      · rw [inr2_0] at h21
        obtain ⟨s, hs, rfl⟩ := inr_of h9 (by decide)
        refine V_aload_n (pc := 33) (i := 0) hX dX6_sheet_33 rfl rfl ?_
        refine V_iconst (pc := 34) (v := (nI 0)) hX dX6_sheet_34 (by decide +kernel) ?_
        refine V_putf (pc := 35) hX fX6_69 gi6_1 dX6_sheet_35 rfl rfl ?_
        refine Vw.mem (rfl : m1 σ = _) ?_
        refine V_iload_n (pc := 38) (i := 3) hX dX6_sheet_38 rfl rfl ?_
        refine V_if_ge (pc := 39) (tgt := 48) hX dX6_sheet_39 (by decide) (fun h39 => ?_) (fun h39 => ?_)
        · obtain ⟨n, hn, rfl⟩ := nI_of60 (Int32.not_lt.mpr h39) h27
          have k91 : Vw X 91 [some (.ref 52), some (.int (nI s)), some (.int l), some (.int (nI n)), some (.int (nI 60))] [] (mf (mu (mu (m1 σ) 53 s l) 54 s (nI n)) 55 (clr2 (mu (mu (m1 σ) 53 s l) 54 s (nI n) 55) s 60)) := by
            refine V_iload_n (pc := 91) (i := 3) hX dX6_sheet_91 rfl rfl ?_
            exact V_iret (pc := 92) (st := []) hX hr rfl dX6_sheet_92 ⟨by rw [sheetF, shOK, h9, h21, decide_eq_true h27, Bool.true_and, Bool.true_and, if_pos rfl, if_neg (Int32.not_lt.mpr h39)], by
              rw [msheetM, shOK, h9, h21, decide_eq_true h27, Bool.true_and, Bool.true_and, if_pos rfl, if_neg (Int32.not_lt.mpr h39), tn_nI (by omega)]
              unfold layM2
              rw [← mu_ne (by decide), ← mu_ne (by decide)]⟩
          refine V_aload_n (pc := 48) (i := 0) hX dX6_sheet_48 rfl rfl ?_
          refine V_getr (pc := 49) hX fX6_7 dX6_sheet_49 rfl rfl ?_
          refine V_iload_n (pc := 52) (i := 1) hX dX6_sheet_52 rfl rfl ?_
          refine V_iload_n (pc := 53) (i := 2) hX dX6_sheet_53 rfl rfl ?_
          refine V_iast (pc := 54) hX dX6_sheet_54 (rfl) (rfl) (by omega) (by decide) ?_
          refine V_aload_n (pc := 55) (i := 0) hX dX6_sheet_55 rfl rfl ?_
          refine V_getr (pc := 56) hX fX6_13 dX6_sheet_56 rfl rfl ?_
          refine V_iload_n (pc := 59) (i := 1) hX dX6_sheet_59 rfl rfl ?_
          refine V_iload_n (pc := 60) (i := 3) hX dX6_sheet_60 rfl rfl ?_
          refine V_iast (pc := 61) hX dX6_sheet_61 (rfl) (rfl) (by omega) (by decide) ?_
          refine V_iconst (pc := 62) (v := (nI 0)) hX dX6_sheet_62 (by decide +kernel) ?_
          refine V_istore4 (pc := 63) hX dX6_sheet_63 rfl ?_
          refine Vw.mem (show mf (mu (mu (m1 σ) 53 s l) 54 s (nI n)) 55 (clr2 (mu (mu (m1 σ) 53 s l) 54 s (nI n) 55) s 0) = _ by rw [clr2_0, mf_id]) ?_
          exact l_msheet hX (hR.mono (by omega)) hr hs k91 0 (by omega)
        · refine V_aload_n (pc := 42) (i := 0) hX dX6_sheet_42 rfl rfl ?_
          refine V_iconst (pc := 43) (v := (nI 4)) hX dX6_sheet_43 (by decide +kernel) ?_
          refine V_callVi (pc := 44) hX (hR.mono (by omega)) mX6_86 (c_found _ _) dX6_sheet_44 rfl rfl rfl rfl (Nat.le_of_ble_eq_true rfl) ?_
          exact V_iret (pc := 47) (st := []) hX hr (by first | rfl | exact bI_nar _ | decide +kernel) dX6_sheet_47 (⟨by rw [sheetF, shOK, h9, h21, decide_eq_true h27, Bool.true_and, Bool.true_and, if_pos rfl, if_pos (Int32.not_le.mp h39)]; decide +kernel, by rw [msheetM, shOK, h9, h21, decide_eq_true h27, Bool.true_and, Bool.true_and, if_pos rfl, if_pos (Int32.not_le.mp h39)]⟩)
      · refine V_ldc (pc := 30) hX kX6_85 dX6_sheet_30 ?_
        exact V_iret (pc := 32) (st := []) hX hr (by first | rfl | exact bI_nar _ | decide +kernel) dX6_sheet_32 (⟨by rw [inr2_0] at h21; rw [sheetF, shOK, h9, h21, decide_eq_false h27]; rfl, by rw [inr2_0] at h21; rw [msheetM, shOK, h9, h21, decide_eq_false h27]; rfl⟩)
def msetV (σ : Mem) (x i v : Int32) : Int32 := if inr x 8 then (if σ 53 (tn x) = (-1) then (-1000011) else if inr i (tn (σ 54 (tn x))) then fitF (σ 53 (tn x)) v else (-1000012)) else (-1000001)
def msetM (σ : Mem) (x i v : Int32) : Mem := if inr x 8 then (if σ 53 (tn x) = (-1) then mu (m1 σ) 52 1 (nI 1) else if inr i (tn (σ 54 (tn x))) then mu (m1 σ) 55 (60 * tn x + tn i) (fitF (σ 53 (tn x)) v) else mu (m1 σ) 52 1 (nI 2)) else m0 σ
set_option maxRecDepth 100000 in
set_option maxHeartbeats 4000000 in
theorem c_mset (x i v : Int32) (σ : Mem) (hz : mzok σ) : Cc yX6_set cX6_set 4 (some .int) 2 [.ref 52, .int x, .int i, .int v] σ (rI (msetV σ x i v) (msetM σ x i v)) := by
  refine Cc.intro (by decide +kernel) [some (.ref 52), some (.int x), some (.int i), some (.int v)] (fun _ => rfl) rfl (fun _ => Nat.le_of_ble_eq_true rfl) ?_
  intro X hX hR hr
  have b53 : m1 σ 53 = σ 53 := m1_r (by decide)
  have b54 : m1 σ 54 = σ 54 := m1_r (by decide)
  have z0 : ∀ {z : Int32}, z = 0 ↔ z = nI 0 := fun {z} => by rw [nI_0]
  refine V_aload_n (pc := 0) (i := 0) hX dX6_set_0 rfl rfl ?_
  refine V_iconst (pc := 1) (v := (nI 0)) hX dX6_set_1 (by decide +kernel) ?_
  refine V_putf (pc := 2) hX fX6_66 gi6_0 dX6_set_2 rfl rfl ?_
  refine Vw.mem (rfl : m0 σ = _) ?_
  refine V_iload_n (pc := 5) (i := 1) hX dX6_set_5 rfl rfl ?_
  refine V_callSi (pc := 6) hX (hR.mono (by omega)) mX6_79 (c_misSheet _ _) dX6_set_6 rfl rfl rfl (Nat.le_of_ble_eq_true rfl) ?_
  refine V_if_neB (pc := 9) (tgt := 15) hX dX6_set_9 (by decide) (fun h9 => ?_) (fun h9 => ?_)
  · obtain ⟨s, hs, rfl⟩ := inr_of h9 (by decide)
    obtain ⟨hl, m, hm, em⟩ := hz s hs
    refine V_aload_n (pc := 15) (i := 0) hX dX6_set_15 rfl rfl ?_
    refine V_iconst (pc := 16) (v := (nI 0)) hX dX6_set_16 (by decide +kernel) ?_
    refine V_putf (pc := 17) hX fX6_69 gi6_1 dX6_set_17 rfl rfl ?_
    refine Vw.mem (rfl : m1 σ = _) ?_
    refine V_aload_n (pc := 20) (i := 0) hX dX6_set_20 rfl rfl ?_
    refine V_getr (pc := 21) hX fX6_7 dX6_set_21 rfl rfl ?_
    refine V_iload_n (pc := 24) (i := 1) hX dX6_set_24 rfl rfl ?_
    refine V_iald (pc := 25) hX dX6_set_25 (rfl) (rfl) (by omega) (by decide) ?_
    rw [b53]
    refine V_if_ge (pc := 26) (tgt := 35) hX dX6_set_26 (by decide) (fun h26 => ?_) (fun h26 => ?_)
    · refine V_iload_n (pc := 35) (i := 2) hX dX6_set_35 rfl rfl ?_
      refine V_i2l (pc := 36) hX dX6_set_36 ?_
      refine V_lconst (pc := 37) (v := lN 0) hX dX6_set_37 (by decide +kernel) ?_
      refine V_aload_n (pc := 38) (i := 0) hX dX6_set_38 rfl rfl ?_
      refine V_getr (pc := 39) hX fX6_13 dX6_set_39 rfl rfl ?_
      refine V_iload_n (pc := 42) (i := 1) hX dX6_set_42 rfl rfl ?_
      refine V_iald (pc := 43) hX dX6_set_43 (rfl) (rfl) (by omega) (by decide) ?_
      rw [b54, em]
      refine V_iconst (pc := 44) (v := (nI 1)) hX dX6_set_44 (by decide +kernel) ?_
      refine V_isub (pc := 45) hX dX6_set_45 ?_
      refine V_i2l (pc := 46) hX dX6_set_46 ?_
      refine V_callSi (pc := 47) hX (hR.mono (by omega)) mX6_75 (c_inS i m (by omega) _) dX6_set_47 rfl rfl rfl (Nat.le_of_ble_eq_true rfl) ?_
      refine V_if_neB (pc := 50) (tgt := 59) hX dX6_set_50 (by decide) (fun h50 => ?_) (fun h50 => ?_)
      · obtain ⟨j, hj, rfl⟩ := inr_of h50 (by omega)
        refine V_aload_n (pc := 59) (i := 0) hX dX6_set_59 rfl rfl ?_
        refine V_getr (pc := 60) hX fX6_16 dX6_set_60 rfl rfl ?_
        refine V_bipush (pc := 63) (v := (nI 60)) hX dX6_set_63 (by decide +kernel) ?_
        refine V_iload_n (pc := 65) (i := 1) hX dX6_set_65 rfl rfl ?_
        refine V_imul (pc := 66) hX dX6_set_66 ?_
        refine V_iload_n (pc := 67) (i := 2) hX dX6_set_67 rfl rfl ?_
        refine V_iadd (pc := 68) hX dX6_set_68 ?_
        refine V_aload_n (pc := 69) (i := 0) hX dX6_set_69 rfl rfl ?_
        refine V_getr (pc := 70) hX fX6_7 dX6_set_70 rfl rfl ?_
        refine V_iload_n (pc := 73) (i := 1) hX dX6_set_73 rfl rfl ?_
        refine V_iald (pc := 74) hX dX6_set_74 (rfl) (rfl) (by omega) (by decide) ?_
        rw [b53]
        refine V_if_ne (pc := 75) (tgt := 83) hX dX6_set_75 (by decide) (fun h75 => ?_) (fun h75 => ?_)
        · refine V_aload_n (pc := 83) (i := 0) hX dX6_set_83 rfl rfl ?_
          refine V_getr (pc := 84) hX fX6_7 dX6_set_84 rfl rfl ?_
          refine V_iload_n (pc := 87) (i := 1) hX dX6_set_87 rfl rfl ?_
          refine V_iald (pc := 88) hX dX6_set_88 (rfl) (rfl) (by omega) (by decide) ?_
          refine V_iconst (pc := 89) (v := (nI 1)) hX dX6_set_89 (by decide +kernel) ?_
          rw [b53]
          refine V_icmp_ne (pc := 90) (tgt := 98) hX dX6_set_90 (by decide) (fun h90 => ?_) (fun h90 => ?_)
          · refine V_iload_n (pc := 98) (i := 3) hX dX6_set_98 rfl rfl ?_
            refine V_iast (pc := 99) hX dX6_set_99 (rfl) (show _ = nI (60 * s + j) by rw [pk_mul, nI_add]) (by omega) (by decide) ?_
            refine V_aload_n (pc := 100) (i := 0) hX dX6_set_100 rfl rfl ?_
            refine V_getr (pc := 101) hX fX6_16 dX6_set_101 rfl rfl ?_
            refine V_bipush (pc := 104) (v := (nI 60)) hX dX6_set_104 (by decide +kernel) ?_
            refine V_iload_n (pc := 106) (i := 1) hX dX6_set_106 rfl rfl ?_
            refine V_imul (pc := 107) hX dX6_set_107 ?_
            refine V_iload_n (pc := 108) (i := 2) hX dX6_set_108 rfl rfl ?_
            refine V_iadd (pc := 109) hX dX6_set_109 ?_
            refine V_iald (pc := 110) hX dX6_set_110 (rfl) (show _ = nI (60 * s + j) by rw [pk_mul, nI_add]) (by omega) (by decide) ?_
            exact V_iret (pc := 111) (st := []) hX hr (by first | rfl | exact bI_nar _ | decide +kernel) dX6_set_111 (⟨by rw [mu_at, msetV, h9, if_pos rfl, tn_nI (by omega), if_neg (lane_pos h26), em, tn_nI (by omega), h50, if_pos rfl, fitF, if_neg (fun q => h75 (z0.mpr q)), if_neg h90], by rw [msetM, h9, if_pos rfl, tn_nI (by omega), if_neg (lane_pos h26), em, tn_nI (by omega), h50, if_pos rfl, fitF, if_neg (fun q => h75 (z0.mpr q)), if_neg h90, tn_nI (by omega)]⟩)
          · refine V_iload_n (pc := 93) (i := 3) hX dX6_set_93 rfl rfl ?_
            refine V_i2s (pc := 94) hX dX6_set_94 ?_
            refine V_goto (pc := 95) (tgt := 99) hX dX6_set_95 (by decide) ?_
            refine V_iast (pc := 99) hX dX6_set_99 (rfl) (show _ = nI (60 * s + j) by rw [pk_mul, nI_add]) (by omega) (by decide) ?_
            refine V_aload_n (pc := 100) (i := 0) hX dX6_set_100 rfl rfl ?_
            refine V_getr (pc := 101) hX fX6_16 dX6_set_101 rfl rfl ?_
            refine V_bipush (pc := 104) (v := (nI 60)) hX dX6_set_104 (by decide +kernel) ?_
            refine V_iload_n (pc := 106) (i := 1) hX dX6_set_106 rfl rfl ?_
            refine V_imul (pc := 107) hX dX6_set_107 ?_
            refine V_iload_n (pc := 108) (i := 2) hX dX6_set_108 rfl rfl ?_
            refine V_iadd (pc := 109) hX dX6_set_109 ?_
            refine V_iald (pc := 110) hX dX6_set_110 (rfl) (show _ = nI (60 * s + j) by rw [pk_mul, nI_add]) (by omega) (by decide) ?_
            exact V_iret (pc := 111) (st := []) hX hr (by first | rfl | exact bI_nar _ | decide +kernel) dX6_set_111 (⟨by rw [mu_at, msetV, h9, if_pos rfl, tn_nI (by omega), if_neg (lane_pos h26), em, tn_nI (by omega), h50, if_pos rfl, fitF, if_neg (fun q => h75 (z0.mpr q)), if_pos h90], by rw [msetM, h9, if_pos rfl, tn_nI (by omega), if_neg (lane_pos h26), em, tn_nI (by omega), h50, if_pos rfl, fitF, if_neg (fun q => h75 (z0.mpr q)), if_pos h90, tn_nI (by omega)]⟩)
        · refine V_iload_n (pc := 78) (i := 3) hX dX6_set_78 rfl rfl ?_
          refine V_i2b (pc := 79) hX dX6_set_79 ?_
          refine V_goto (pc := 80) (tgt := 99) hX dX6_set_80 (by decide) ?_
          refine V_iast (pc := 99) hX dX6_set_99 (rfl) (show _ = nI (60 * s + j) by rw [pk_mul, nI_add]) (by omega) (by decide) ?_
          refine V_aload_n (pc := 100) (i := 0) hX dX6_set_100 rfl rfl ?_
          refine V_getr (pc := 101) hX fX6_16 dX6_set_101 rfl rfl ?_
          refine V_bipush (pc := 104) (v := (nI 60)) hX dX6_set_104 (by decide +kernel) ?_
          refine V_iload_n (pc := 106) (i := 1) hX dX6_set_106 rfl rfl ?_
          refine V_imul (pc := 107) hX dX6_set_107 ?_
          refine V_iload_n (pc := 108) (i := 2) hX dX6_set_108 rfl rfl ?_
          refine V_iadd (pc := 109) hX dX6_set_109 ?_
          refine V_iald (pc := 110) hX dX6_set_110 (rfl) (show _ = nI (60 * s + j) by rw [pk_mul, nI_add]) (by omega) (by decide) ?_
          exact V_iret (pc := 111) (st := []) hX hr (by first | rfl | exact bI_nar _ | decide +kernel) dX6_set_111 (⟨by rw [mu_at, msetV, h9, if_pos rfl, tn_nI (by omega), if_neg (lane_pos h26), em, tn_nI (by omega), h50, if_pos rfl, fitF, if_pos (z0.mp h75)], by rw [msetM, h9, if_pos rfl, tn_nI (by omega), if_neg (lane_pos h26), em, tn_nI (by omega), h50, if_pos rfl, fitF, if_pos (z0.mp h75), tn_nI (by omega)]⟩)
      · refine V_aload_n (pc := 53) (i := 0) hX dX6_set_53 rfl rfl ?_
        refine V_iconst (pc := 54) (v := (nI 2)) hX dX6_set_54 (by decide +kernel) ?_
        refine V_callVi (pc := 55) hX (hR.mono (by omega)) mX6_86 (c_found _ _) dX6_set_55 rfl rfl rfl rfl (Nat.le_of_ble_eq_true rfl) ?_
        exact V_iret (pc := 58) (st := []) hX hr (by first | rfl | exact bI_nar _ | decide +kernel) dX6_set_58 (⟨by rw [msetV, h9, if_pos rfl, tn_nI (by omega), if_neg (lane_pos h26), em, tn_nI (by omega), h50]; rfl, by rw [msetM, h9, if_pos rfl, tn_nI (by omega), if_neg (lane_pos h26), em, tn_nI (by omega), h50]; rfl⟩)
    · refine V_aload_n (pc := 29) (i := 0) hX dX6_set_29 rfl rfl ?_
      refine V_iconst (pc := 30) (v := (nI 1)) hX dX6_set_30 (by decide +kernel) ?_
      refine V_callVi (pc := 31) hX (hR.mono (by omega)) mX6_86 (c_found _ _) dX6_set_31 rfl rfl rfl rfl (Nat.le_of_ble_eq_true rfl) ?_
      exact V_iret (pc := 34) (st := []) hX hr (by first | rfl | exact bI_nar _ | decide +kernel) dX6_set_34 (⟨by rw [msetV, h9, if_pos rfl, tn_nI (by omega), if_pos (lane_neg hz hs h26)]; rfl, by rw [msetM, h9, if_pos rfl, tn_nI (by omega), if_pos (lane_neg hz hs h26)]⟩)
  · refine V_ldc (pc := 12) hX kX6_85 dX6_set_12 ?_
    exact V_iret (pc := 14) (st := []) hX hr (by first | rfl | exact bI_nar _ | decide +kernel) dX6_set_14 (⟨by rw [msetV, h9]; rfl, by rw [msetM, h9]; rfl⟩)
def mdropV (σ : Mem) (x : Int32) : Int32 := if inr x 8 then (if σ 53 (tn x) = (-1) then (-1000011) else σ 54 (tn x)) else (-1000001)
def mdropM (σ : Mem) (x : Int32) : Mem := if inr x 8 then (if σ 53 (tn x) = (-1) then mu (m1 σ) 52 1 (nI 1) else mu (m1 σ) 53 (tn x) (-1)) else m0 σ
set_option maxRecDepth 100000 in
set_option maxHeartbeats 4000000 in
theorem c_mdrop (x : Int32) (σ : Mem) (hz : mzok σ) : Cc yX6_drop cX6_drop 2 (some .int) 2 [.ref 52, .int x] σ (rI (mdropV σ x) (mdropM σ x)) := by
  refine Cc.intro (by decide +kernel) [some (.ref 52), some (.int x)] (fun _ => rfl) rfl (fun _ => Nat.le_of_ble_eq_true rfl) ?_
  intro X hX hR hr
  have b53 : m1 σ 53 = σ 53 := m1_r (by decide)
  have b54 : m1 σ 54 = σ 54 := m1_r (by decide)
  refine V_aload_n (pc := 0) (i := 0) hX dX6_drop_0 rfl rfl ?_
  refine V_iconst (pc := 1) (v := (nI 0)) hX dX6_drop_1 (by decide +kernel) ?_
  refine V_putf (pc := 2) hX fX6_66 gi6_0 dX6_drop_2 rfl rfl ?_
  refine Vw.mem (rfl : m0 σ = _) ?_
  refine V_iload_n (pc := 5) (i := 1) hX dX6_drop_5 rfl rfl ?_
  refine V_callSi (pc := 6) hX (hR.mono (by omega)) mX6_79 (c_misSheet _ _) dX6_drop_6 rfl rfl rfl (Nat.le_of_ble_eq_true rfl) ?_
  refine V_if_neB (pc := 9) (tgt := 15) hX dX6_drop_9 (by decide) (fun h9 => ?_) (fun h9 => ?_)
  · obtain ⟨s, hs, rfl⟩ := inr_of h9 (by decide)
    refine V_aload_n (pc := 15) (i := 0) hX dX6_drop_15 rfl rfl ?_
    refine V_iconst (pc := 16) (v := (nI 0)) hX dX6_drop_16 (by decide +kernel) ?_
    refine V_putf (pc := 17) hX fX6_69 gi6_1 dX6_drop_17 rfl rfl ?_
    refine Vw.mem (rfl : m1 σ = _) ?_
    refine V_aload_n (pc := 20) (i := 0) hX dX6_drop_20 rfl rfl ?_
    refine V_getr (pc := 21) hX fX6_7 dX6_drop_21 rfl rfl ?_
    refine V_iload_n (pc := 24) (i := 1) hX dX6_drop_24 rfl rfl ?_
    refine V_iald (pc := 25) hX dX6_drop_25 (rfl) (rfl) (by omega) (by decide) ?_
    rw [b53]
    refine V_if_ge (pc := 26) (tgt := 35) hX dX6_drop_26 (by decide) (fun h26 => ?_) (fun h26 => ?_)
    · refine V_aload_n (pc := 35) (i := 0) hX dX6_drop_35 rfl rfl ?_
      refine V_getr (pc := 36) hX fX6_7 dX6_drop_36 rfl rfl ?_
      refine V_iload_n (pc := 39) (i := 1) hX dX6_drop_39 rfl rfl ?_
      refine V_iconst (pc := 40) (v := (-1)) hX dX6_drop_40 (by decide +kernel) ?_
      refine V_iast (pc := 41) hX dX6_drop_41 (rfl) (rfl) (by omega) (by decide) ?_
      refine V_aload_n (pc := 42) (i := 0) hX dX6_drop_42 rfl rfl ?_
      refine V_getr (pc := 43) hX fX6_13 dX6_drop_43 rfl rfl ?_
      refine V_iload_n (pc := 46) (i := 1) hX dX6_drop_46 rfl rfl ?_
      refine V_iald (pc := 47) hX dX6_drop_47 (rfl) (rfl) (by omega) (by decide) ?_
      exact V_iret (pc := 48) (st := []) hX hr (by first | rfl | exact bI_nar _ | decide +kernel) dX6_drop_48 (⟨by rw [mdropV, h9, if_pos rfl, tn_nI (by omega), if_neg (lane_pos h26), ← mu_ne (by decide), b54], by rw [mdropM, h9, if_pos rfl, tn_nI (by omega), if_neg (lane_pos h26)]⟩)
    · refine V_aload_n (pc := 29) (i := 0) hX dX6_drop_29 rfl rfl ?_
      refine V_iconst (pc := 30) (v := (nI 1)) hX dX6_drop_30 (by decide +kernel) ?_
      refine V_callVi (pc := 31) hX (hR.mono (by omega)) mX6_86 (c_found _ _) dX6_drop_31 rfl rfl rfl rfl (Nat.le_of_ble_eq_true rfl) ?_
      exact V_iret (pc := 34) (st := []) hX hr (by first | rfl | exact bI_nar _ | decide +kernel) dX6_drop_34 (⟨by rw [mdropV, h9, if_pos rfl, tn_nI (by omega), if_pos (lane_neg hz hs h26)]; rfl, by rw [mdropM, h9, if_pos rfl, tn_nI (by omega), if_pos (lane_neg hz hs h26)]⟩)
  · refine V_ldc (pc := 12) hX kX6_85 dX6_drop_12 ?_
    exact V_iret (pc := 14) (st := []) hX hr (by first | rfl | exact bI_nar _ | decide +kernel) dX6_drop_14 (⟨by rw [mdropV, h9]; rfl, by rw [mdropM, h9]; rfl⟩)

