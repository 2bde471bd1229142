/-! ===== DEMANDS of a sheet's items, the class's ===== -/
theorem mask_p {σ : Mem} {t q : Nat} (h : q ≠ 2) : mask σ t q = σ q := mask_r h
theorem cmeetM_r {σ : Mem} {n t q : Nat} (h : q ≠ 2) (h2 : q ≠ 19) : cmeetM σ n t q = σ q := by
  unfold cmeetM
  split
  · exact mask_r h
  · rw [← mu_ne h, mbuy_r h, mraise_r h2, mask_r h]
theorem cmeetM_c {σ : Mem} {n t : Nat} : cmeetM σ n t 2 3 = σ 2 3 := by
  unfold cmeetM
  split
  · exact mask_c (by decide)
  · rw [mu_ni (by decide), mbuy_c (by decide) (by decide), mraise_r (by decide), mask_c (by decide)]
theorem cmeetM_4 {σ : Mem} {n t : Nat} : cmeetM σ n t 2 4 = σ 2 4 := by
  unfold cmeetM
  split
  · exact mask_c (by decide)
  · rw [mu_ni (by decide), mbuy_c (by decide) (by decide), mraise_r (by decide), mask_c (by decide)]
theorem demandM_r {σ : Mem} {n q : Nat} {x : Int32} (h : q ≠ 2) (h2 : q ≠ 19) : demandM σ n x q = σ q := by
  unfold demandM
  split
  · split
    · exact cmeetM_r h h2
    · rfl
  · rfl
theorem demandM_c {σ : Mem} {n : Nat} {x : Int32} : demandM σ n x 2 3 = σ 2 3 := by
  unfold demandM
  split
  · split
    · exact cmeetM_c
    · rfl
  · rfl
/-- one demand among many: what is paid, nothing where it is refused -/
def dstV (σ : Mem) (n : Nat) (x : Int32) : Int32 := if inr x 12 then (if bt (σ 2 4) (tn x) then cmeetV σ n (tn x) else nI 0) else nI 0
def dfM (σ : Mem) (n : Nat) (it : Nat → Int32) : Nat → Mem
  | 0 => σ
  | k + 1 => demandM (dfM σ n it k) n (it k)
def dfV (σ : Mem) (n : Nat) (it : Nat → Int32) : Nat → Int32
  | 0 => nI 0
  | k + 1 => dfV σ n it k + dstV (dfM σ n it k) n (it k)
theorem dfM_r {σ : Mem} {n q : Nat} {it : Nat → Int32} (h : q ≠ 2) (h2 : q ≠ 19) : ∀ k, dfM σ n it k q = σ q
  | 0 => rfl
  | k + 1 => by rw [dfM, demandM_r h h2, dfM_r h h2 k]
theorem dfM_c {σ : Mem} {n : Nat} {it : Nat → Int32} : ∀ k, dfM σ n it k 2 3 = σ 2 3
  | 0 => rfl
  | k + 1 => by rw [dfM, demandM_c, dfM_c k]
set_option maxRecDepth 100000 in
set_option maxHeartbeats 4000000 in
theorem l_meetItems {s i m n : Nat} {z : Option Value} {X : XC} {P : Option Value → Mem → Prop} {σ : Mem} (hX : Cok X RX5 cX5_meetItems 7) (hR : Rok X 6) (hr : Ret X (some .int) P) (hz : nol [z] = true) (hn : σ 2 3 = nI n) (hn10 : n ≤ 10) (hs : s < 8) (hi : i + m ≤ 60) (hp : P (some (.int (dfV σ n (fun k => σ (7 + s) (i + k)) m))) (dfM σ n (fun k => σ (7 + s) (i + k)) m)) (k : Nat) (hk : k ≤ m) :
    Vw X 6 [some (.ref 0), some (.int (nI s)), some (.int (nI i)), some (.int (nI m)), some (.int (dfV σ n (fun k => σ (7 + s) (i + k)) k)), some (.int (nI (i + k))), z] [] (dfM σ n (fun k => σ (7 + s) (i + k)) k) := by
  have it : dfM σ n (fun k => σ (7 + s) (i + k)) k (7 + s) (i + k) = σ (7 + s) (i + k) := by rw [dfM_r (by omega) (by omega)]
  have hc : dfM σ n (fun k => σ (7 + s) (i + k)) k 2 3 = nI n := by rw [dfM_c]; exact hn
  have ih := fun (h : k < m) => l_meetItems hX hR hr (z := some (.int (σ (7 + s) (i + k)))) rfl hn hn10 hs hi hp (k + 1) (by omega)
  refine V_iload (pc := 6) (i := 5) hX dX5_meetItems_6 rfl ?_
  refine V_iload_n (pc := 8) (i := 2) hX dX5_meetItems_8 rfl rfl ?_
  refine V_iload_n (pc := 9) (i := 3) hX dX5_meetItems_9 rfl rfl ?_
  refine V_iadd (pc := 10) hX dX5_meetItems_10 ?_
  rw [nI_add]
  refine V_icmp_geN (pc := 11) (tgt := 68) hX dX5_meetItems_11 (by decide) (by omega) (by omega) (fun h11 => ?_) (fun h11 => ?_)
  · obtain rfl : k = m := by omega
    refine V_iload (pc := 68) (i := 4) hX dX5_meetItems_68 rfl ?_
    exact V_iret (pc := 70) (st := []) hX hr (by first | rfl | exact bI_nar _ | decide +kernel) dX5_meetItems_70 (hp)
  · refine V_aload_n (pc := 14) (i := 0) hX dX5_meetItems_14 rfl rfl ?_
    refine V_getr (pc := 15) hX fX5_10 dX5_meetItems_15 rfl rfl ?_
    refine V_iload_n (pc := 18) (i := 1) hX dX5_meetItems_18 rfl rfl ?_
    refine V_iload (pc := 19) (i := 5) hX dX5_meetItems_19 rfl ?_
    refine V_callVi (pc := 21) hX (hR.mono (by omega)) mX5_104 (c_item _ _ _ hs (by omega)) dX5_meetItems_21 rfl rfl rfl rfl (Nat.le_of_ble_eq_true rfl) ?_
    rw [it]
    refine V_istore6 (pc := 24) hX dX5_meetItems_24 hz ?_
    have ihk := ih (by omega)
    refine V_iload (pc := 26) (i := 6) hX dX5_meetItems_26 rfl ?_
    refine V_bipush (pc := 28) (v := (nI 12)) hX dX5_meetItems_28 (by decide +kernel) ?_
    refine V_callSi (pc := 30) hX (hR.mono (by omega)) mX5_48 (c_isUnderN _ 12 (by decide) _) dX5_meetItems_30 rfl rfl rfl (Nat.le_of_ble_eq_true rfl) ?_
    refine V_if_eqB (pc := 33) (tgt := 62) hX dX5_meetItems_33 (by decide) (fun h33 => ?_) (fun h33 => ?_)
    · refine V_iinc5 (pc := 62) hX dX5_meetItems_62 rfl (iinc1 _) ?_
      refine V_goto (pc := 65) (tgt := 6) hX dX5_meetItems_65 (by decide) ?_
      simp only [dfV, dfM, dstV, demandM, h33, Bool.false_eq_true, ↓reduceIte] at ihk
      rw [add0] at ihk
      exact ihk
    · obtain ⟨t, ht, et⟩ := inr_of h33 (by decide)
      rw [et] at h33 ihk ⊢
      have e1 : tn (nI t) = t := tn_nI (by omega)
      refine V_aload_n (pc := 36) (i := 0) hX dX5_meetItems_36 rfl rfl ?_
      refine V_getr (pc := 37) hX fX5_19 dX5_meetItems_37 rfl rfl ?_
      refine V_iload (pc := 40) (i := 6) hX dX5_meetItems_40 rfl ?_
      refine V_callVi (pc := 42) hX (hR.mono (by omega)) mX5_95 (c_isOffered _ ht _) dX5_meetItems_42 rfl rfl rfl rfl (Nat.le_of_ble_eq_true rfl) ?_
      refine V_if_eqB (pc := 45) (tgt := 62) hX dX5_meetItems_45 (by decide) (fun h45 => ?_) (fun h45 => ?_)
      · refine V_iinc5 (pc := 62) hX dX5_meetItems_62 rfl (iinc1 _) ?_
        refine V_goto (pc := 65) (tgt := 6) hX dX5_meetItems_65 (by decide) ?_
        simp only [dfV, dfM, dstV, demandM, et, h33, e1, h45, Bool.false_eq_true, ↓reduceIte] at ihk
        rw [add0] at ihk
        exact ihk
      · refine V_iload (pc := 48) (i := 4) hX dX5_meetItems_48 rfl ?_
        refine V_aload_n (pc := 50) (i := 0) hX dX5_meetItems_50 rfl rfl ?_
        refine V_getr (pc := 51) hX fX5_19 dX5_meetItems_51 rfl rfl ?_
        refine V_iload (pc := 54) (i := 6) hX dX5_meetItems_54 rfl ?_
        refine V_callVi (pc := 56) hX (hR.mono (by omega)) mX5_98 (c_meet n _ _ hc hn10 ht) dX5_meetItems_56 rfl rfl rfl rfl (Nat.le_of_ble_eq_true rfl) ?_
        refine V_iadd (pc := 59) hX dX5_meetItems_59 ?_
        refine V_istore4 (pc := 60) hX dX5_meetItems_60 rfl ?_
        refine V_iinc5 (pc := 62) hX dX5_meetItems_62 rfl (iinc1 _) ?_
        refine V_goto (pc := 65) (tgt := 6) hX dX5_meetItems_65 (by decide) ?_
        simp only [dfV, dfM, dstV, demandM, et, h33, e1, h45, Bool.false_eq_true, ↓reduceIte] at ihk
        exact ihk
termination_by m - k
set_option maxRecDepth 100000 in
set_option maxHeartbeats 4000000 in
theorem c_meetItems (s i m n : Nat) (σ : Mem) (hn : σ 2 3 = nI n) (hn10 : n ≤ 10) (hs : s < 8) (hi : i + m ≤ 60) : Cc yX5_meetItems cX5_meetItems 7 (some .int) 6 [.ref 0, .int (nI s), .int (nI i), .int (nI m)] σ (rI (dfV σ n (fun k => σ (7 + s) (i + k)) m) (dfM σ n (fun k => σ (7 + s) (i + k)) m)) := by
  refine Cc.intro (by decide +kernel) [some (.ref 0), some (.int (nI s)), some (.int (nI i)), some (.int (nI m)), none, none, none] (fun _ => rfl) rfl (fun _ => Nat.le_of_ble_eq_true rfl) ?_
  intro X hX hR hr
  refine V_iconst (pc := 0) (v := (nI 0)) hX dX5_meetItems_0 (by decide +kernel) ?_
  refine V_istore4 (pc := 1) hX dX5_meetItems_1 rfl ?_
  refine V_iload_n (pc := 3) (i := 2) hX dX5_meetItems_3 rfl rfl ?_
  refine V_istore5 (pc := 4) hX dX5_meetItems_4 rfl ?_
  exact l_meetItems (z := none) hX hR hr rfl hn hn10 hs hi ⟨rfl, rfl⟩ 0 (by omega)
def dsOK (x m : Int32) : Bool := inr x 8 && inr2 m 1 60
def demandsV (σ : Mem) (n : Nat) (x i m : Int32) : Int32 := if dsOK x m then (if fiF (σ 16 (tn x)) i m = 0 then dfV (mu σ 0 5 (nI 0)) n (fun k => σ (7 + tn x) (tn i + k)) (tn m) else (-1000010) - fiF (σ 16 (tn x)) i m) else (-1000001)
def demandsM (σ : Mem) (n : Nat) (x i m : Int32) : Mem := if dsOK x m then (if fiF (σ 16 (tn x)) i m = 0 then dfM (mu σ 0 5 (nI 0)) n (fun k => σ (7 + tn x) (tn i + k)) (tn m) else mu σ 0 5 (fiF (σ 16 (tn x)) i m)) else σ
set_option maxRecDepth 100000 in
set_option maxHeartbeats 4000000 in
theorem c_demands (n : Nat) (x i m : Int32) (σ : Mem) (hn : σ 2 3 = nI n) (hn10 : n ≤ 10) (hz : szok σ) : Cc yX5_demands cX5_demands 4 (some .int) 7 [.ref 0, .int x, .int i, .int m] σ (rI (demandsV σ n x i m) (demandsM σ n x i m)) := by
  refine Cc.intro (by decide +kernel) [some (.ref 0), some (.int x), some (.int i), some (.int m)] (fun _ => rfl) rfl (fun _ => Nat.le_of_ble_eq_true rfl) ?_
  intro X hX hR hr
  refine V_iload_n (pc := 0) (i := 1) hX dX5_demands_0 rfl rfl ?_
  refine V_bipush (pc := 1) (v := (nI 8)) hX dX5_demands_1 (by decide +kernel) ?_
  refine V_callSi (pc := 3) hX (hR.mono (by omega)) mX5_48 (c_isUnderN x 8 (by decide) _) dX5_demands_3 rfl rfl rfl (Nat.le_of_ble_eq_true rfl) ?_
  refine V_if_eqB (pc := 6) (tgt := 19) hX dX5_demands_6 (by decide) (fun h6 => ?_) (fun h6 => ?_)
  · refine V_ldc (pc := 19) hX kX5_52 dX5_demands_19 ?_
    exact V_iret (pc := 21) (st := []) hX hr (by first | rfl | exact bI_nar _ | decide +kernel) dX5_demands_21 (⟨by rw [demandsV, dsOK, h6]; rfl, by rw [demandsM, dsOK, h6]; rfl⟩)
  · refine V_iload_n (pc := 9) (i := 3) hX dX5_demands_9 rfl rfl ?_
    refine V_iconst (pc := 10) (v := (nI 1)) hX dX5_demands_10 (by decide +kernel) ?_
    refine V_bipush (pc := 11) (v := (nI 60)) hX dX5_demands_11 (by decide +kernel) ?_
    refine V_callSi (pc := 13) hX (hR.mono (by omega)) mX5_79 (c_isWithinN m 1 60 (by decide) (by decide) _) dX5_demands_13 rfl rfl rfl (Nat.le_of_ble_eq_true rfl) ?_
    refine V_if_neB (pc := 16) (tgt := 22) hX dX5_demands_16 (by decide) (fun h16 => ?_) (fun h16 => ?_)
    · obtain ⟨s, hs, rfl⟩ := inr_of h6 (by decide)
      have eo : dsOK (nI s) m = true := by rw [dsOK, h6, h16]; rfl
      refine V_aload_n (pc := 22) (i := 0) hX dX5_demands_22 rfl rfl ?_
      refine V_aload_n (pc := 23) (i := 0) hX dX5_demands_23 rfl rfl ?_
      refine V_getr (pc := 24) hX fX5_10 dX5_demands_24 rfl rfl ?_
      refine V_iload_n (pc := 27) (i := 1) hX dX5_demands_27 rfl rfl ?_
      refine V_iload_n (pc := 28) (i := 2) hX dX5_demands_28 rfl rfl ?_
      refine V_iload_n (pc := 29) (i := 3) hX dX5_demands_29 rfl rfl ?_
      refine V_callVi (pc := 30) hX (hR.mono (by omega)) mX5_58 (c_findItems _ _ _ _ hs) dX5_demands_30 rfl rfl rfl rfl (Nat.le_of_ble_eq_true rfl) ?_
      refine V_putf (pc := 33) hX fX5_44 gi5_5 dX5_demands_33 rfl rfl ?_
      refine V_aload_n (pc := 36) (i := 0) hX dX5_demands_36 rfl rfl ?_
      refine V_getf (pc := 37) hX fX5_44 dX5_demands_37 rfl rfl ?_
      rw [mu_at]
      refine V_if_ne (pc := 40) (tgt := 53) hX dX5_demands_40 (by decide) (fun h40 => ?_) (fun h40 => ?_)
      · refine V_ldc (pc := 53) hX kX5_57 dX5_demands_53 ?_
        refine V_aload_n (pc := 55) (i := 0) hX dX5_demands_55 rfl rfl ?_
        refine V_getf (pc := 56) hX fX5_44 dX5_demands_56 rfl rfl ?_
        rw [mu_at]
        refine V_isub (pc := 59) hX dX5_demands_59 ?_
        exact V_iret (pc := 60) (st := []) hX hr (by first | rfl | exact bI_nar _ | decide +kernel) dX5_demands_60 (⟨by rw [demandsV, eo, if_pos rfl, tn_nI (by omega), if_neg h40], by rw [demandsM, eo, if_pos rfl, tn_nI (by omega), if_neg h40]⟩)
      · obtain ⟨h1, h2⟩ := fiF_0 h40
        obtain ⟨z, i', m', hm, e1, rfl, rfl, hl⟩ := sz_row hz hs h1 h2
        rw [h40]
        have e7 : mu σ 0 5 (0 : Int32) (7 + s) = σ (7 + s) := (mu_ne (by omega)).symm
        refine V_aload_n (pc := 43) (i := 0) hX dX5_demands_43 rfl rfl ?_
        refine V_iload_n (pc := 44) (i := 1) hX dX5_demands_44 rfl rfl ?_
        refine V_iload_n (pc := 45) (i := 2) hX dX5_demands_45 rfl rfl ?_
        refine V_iload_n (pc := 46) (i := 3) hX dX5_demands_46 rfl rfl ?_
        refine V_callVi (pc := 47) hX (hR.mono (by omega)) mX5_101 (c_meetItems s i' m' n _ (by rw [← hn]; exact mu_np (by decide)) hn10 hs (by omega)) dX5_demands_47 rfl rfl rfl rfl (Nat.le_of_ble_eq_true rfl) ?_
        refine V_goto (pc := 50) (tgt := 60) hX dX5_demands_50 (by decide) ?_
        exact V_iret (pc := 60) (st := []) hX hr (by first | rfl | exact bI_nar _ | decide +kernel) dX5_demands_60 (⟨by rw [demandsV, eo, if_pos rfl, tn_nI (by omega), if_pos h40, tn_nI (by omega), tn_nI (by omega), e7, nI_0], by rw [demandsM, eo, if_pos rfl, tn_nI (by omega), if_pos h40, tn_nI (by omega), tn_nI (by omega), e7, nI_0]⟩)
    · refine V_ldc (pc := 19) hX kX5_52 dX5_demands_19 ?_
      exact V_iret (pc := 21) (st := []) hX hr (by first | rfl | exact bI_nar _ | decide +kernel) dX5_demands_21 (⟨by rw [demandsV, dsOK, h6, h16]; rfl, by rw [demandsM, dsOK, h6, h16]; rfl⟩)

