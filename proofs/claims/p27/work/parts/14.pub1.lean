/-! ===== public methods of SETS, the class's ===== -/
def tn (x : Int32) : Nat := x.toInt.toNat
theorem tn_nI {j : Nat} (h : j < 2 ^ 31) : tn (nI j) = j := by unfold tn; rw [nI_toInt h]; rfl
theorem tsw_out {x : Int32} (n : Nat) (h : ∀ j : Nat, j ≤ n → ¬ x = nI j) (hn : n < 2 ^ 31 := by decide) : x.toInt < 0 ∨ (n : Int) < x.toInt := by
  by_cases h1 : x.toInt < 0
  · exact Or.inl h1
  · by_cases h2 : (n : Int) < x.toInt
    · exact Or.inr h2
    · exact absurd (nI_of_toInt (j := x.toInt.toNat) (by omega) (by omega)) (h x.toInt.toNat (by omega))
def priceF (pr : Nat → Int32) (x : Int32) : Int32 := if inr x 12 then pr (tn x) else (-1000001)
def toldF (n : Nat) (c th pr : Nat → Int32) (bo x w : Int32) : Int32 := if inr x n then (if w = nI 0 then c (tn x) else if w = nI 1 then th (tn x) else if w = nI 2 then pf (th (tn x)) pr 12 else if w = nI 3 then bI (bt bo (tn x)) else (-1000001)) else (-1000001)
def kindF (n : Nat) (c th pr : Nat → Int32) (bo x : Int32) : Int32 := if inr x n then kindf bo (tn x) (pf (th (tn x)) pr 12) (c (tn x)) else (-1000001)
set_option maxRecDepth 100000 in
set_option maxHeartbeats 4000000 in
theorem c_price (x : Int32) (σ : Mem) : Cc yX5_price cX5_price 2 (some .int) 1 [.ref 0, .int x] σ (rI (priceF (σ 19) x) σ) := by
  refine Cc.intro (by decide +kernel) [some (.ref 0), some (.int x)] (fun _ => rfl) rfl (fun _ => Nat.le_of_ble_eq_true rfl) ?_
  intro X hX hR hr
  refine V_iload_n (pc := 0) (i := 1) hX dX5_price_0 rfl rfl ?_
  refine V_bipush (pc := 1) (v := (nI 12)) hX dX5_price_1 (by decide +kernel) ?_
  refine V_callSi (pc := 3) hX (hR.mono (by omega)) mX5_48 (c_isUnderN x 12 (by decide) _) dX5_price_3 rfl rfl rfl (Nat.le_of_ble_eq_true rfl) ?_
  refine V_if_eqB (pc := 6) (tgt := 21) hX dX5_price_6 (by decide) (fun h6 => ?_) (fun h6 => ?_)
  · refine V_ldc (pc := 21) hX kX5_52 dX5_price_21 ?_
    exact V_iret (pc := 23) (st := []) hX hr (by first | rfl | exact bI_nar _ | decide +kernel) dX5_price_23 (⟨by rw [priceF, h6]; rfl, rfl⟩)
  · obtain ⟨j, hj, rfl⟩ := inr_of h6 (by decide)
    refine V_aload_n (pc := 9) (i := 0) hX dX5_price_9 rfl rfl ?_
    refine V_getr (pc := 10) hX fX5_19 dX5_price_10 rfl rfl ?_
    refine V_getr (pc := 13) hX fX5_139 dX5_price_13 rfl rfl ?_
    refine V_iload_n (pc := 16) (i := 1) hX dX5_price_16 rfl rfl ?_
    refine V_iald (pc := 17) hX dX5_price_17 (rfl) (rfl) (by omega) (by decide) ?_
    refine V_goto (pc := 18) (tgt := 23) hX dX5_price_18 (by decide) ?_
    exact V_iret (pc := 23) (st := []) hX hr (by first | rfl | exact bI_nar _ | decide +kernel) dX5_price_23 (⟨by rw [priceF, h6, if_pos rfl, tn_nI (by omega)], rfl⟩)
theorem c_isSetN (x : Int32) (n : Nat) (σ : Mem) (hn : σ 2 3 = nI n) (hn10 : n ≤ 10) : Cc yX2_isSet cX2_isSet 2 (some .boolean) 1 [.ref 2, .int x] σ (rI (bI (inr x n)) σ) := by
  have h := c_isSet x σ
  rwa [inr_lt hn (by omega)] at h
set_option maxRecDepth 100000 in
set_option maxHeartbeats 4000000 in
theorem c_told (n : Nat) (x w : Int32) (σ : Mem) (hn : σ 2 3 = nI n) (hn10 : n ≤ 10) : Cc yX5_told cX5_told 3 (some .int) 4 [.ref 0, .int x, .int w] σ (rI (toldF n (σ 17) (σ 18) (σ 19) (σ 2 6) x w) σ) := by
  refine Cc.intro (by decide +kernel) [some (.ref 0), some (.int x), some (.int w)] (fun _ => rfl) rfl (fun _ => Nat.le_of_ble_eq_true rfl) ?_
  intro X hX hR hr
  refine V_aload_n (pc := 0) (i := 0) hX dX5_told_0 rfl rfl ?_
  refine V_getr (pc := 1) hX fX5_19 dX5_told_1 rfl rfl ?_
  refine V_iload_n (pc := 4) (i := 1) hX dX5_told_4 rfl rfl ?_
  refine V_callVi (pc := 5) hX (hR.mono (by omega)) mX5_123 (c_isSetN x n _ hn hn10) dX5_told_5 rfl rfl rfl rfl (Nat.le_of_ble_eq_true rfl) ?_
  refine V_if_neB (pc := 8) (tgt := 14) hX dX5_told_8 (by decide) (fun h8 => ?_) (fun h8 => ?_)
  · obtain ⟨j, hj, rfl⟩ := inr_of h8 (by omega)
    refine V_iload_n (pc := 14) (i := 2) hX dX5_told_14 rfl rfl ?_
    rcases Classical.em (w = nI 0) with e15_0 | e15_0
    · refine V_tableIn (pc := 15) (off := 29) (tgt := 44) hX dX5_told_15 (by rw [e15_0]; decide +kernel) (by rw [e15_0]; decide +kernel) (by rw [e15_0]; decide +kernel) (by decide) ?_
      refine V_aload_n (pc := 44) (i := 0) hX dX5_told_44 rfl rfl ?_
      refine V_getr (pc := 45) hX fX5_19 dX5_told_45 rfl rfl ?_
      refine V_getr (pc := 48) hX fX5_126 dX5_told_48 rfl rfl ?_
      refine V_iload_n (pc := 51) (i := 1) hX dX5_told_51 rfl rfl ?_
      refine V_iald (pc := 52) hX dX5_told_52 (rfl) (rfl) (by omega) (by decide) ?_
      exact V_iret (pc := 53) (st := []) hX hr (by first | rfl | exact bI_nar _ | decide +kernel) dX5_told_53 (⟨by rw [toldF, h8, if_pos rfl, tn_nI (by omega), if_pos e15_0], rfl⟩)
    · skip
      rcases Classical.em (w = nI 1) with e15_1 | e15_1
      · refine V_tableIn (pc := 15) (off := 39) (tgt := 54) hX dX5_told_15 (by rw [e15_1]; decide +kernel) (by rw [e15_1]; decide +kernel) (by rw [e15_1]; decide +kernel) (by decide) ?_
        refine V_aload_n (pc := 54) (i := 0) hX dX5_told_54 rfl rfl ?_
        refine V_getr (pc := 55) hX fX5_19 dX5_told_55 rfl rfl ?_
        refine V_getr (pc := 58) hX fX5_130 dX5_told_58 rfl rfl ?_
        refine V_iload_n (pc := 61) (i := 1) hX dX5_told_61 rfl rfl ?_
        refine V_iald (pc := 62) hX dX5_told_62 (rfl) (rfl) (by omega) (by decide) ?_
        exact V_iret (pc := 63) (st := []) hX hr (by first | rfl | exact bI_nar _ | decide +kernel) dX5_told_63 (⟨by rw [toldF, h8, if_pos rfl, tn_nI (by omega), if_neg e15_0, if_pos e15_1], rfl⟩)
      · skip
        rcases Classical.em (w = nI 2) with e15_2 | e15_2
        · refine V_tableIn (pc := 15) (off := 49) (tgt := 64) hX dX5_told_15 (by rw [e15_2]; decide +kernel) (by rw [e15_2]; decide +kernel) (by rw [e15_2]; decide +kernel) (by decide) ?_
          refine V_aload_n (pc := 64) (i := 0) hX dX5_told_64 rfl rfl ?_
          refine V_getr (pc := 65) hX fX5_19 dX5_told_65 rfl rfl ?_
          refine V_iload_n (pc := 68) (i := 1) hX dX5_told_68 rfl rfl ?_
          refine V_callVi (pc := 69) hX (hR.mono (by omega)) mX5_133 (c_filled _ (by omega) _) dX5_told_69 rfl rfl rfl rfl (Nat.le_of_ble_eq_true rfl) ?_
          exact V_iret (pc := 72) (st := []) hX hr (by first | rfl | exact bI_nar _ | decide +kernel) dX5_told_72 (⟨by rw [toldF, h8, if_pos rfl, tn_nI (by omega), if_neg e15_0, if_neg e15_1, if_pos e15_2], rfl⟩)
        · skip
          rcases Classical.em (w = nI 3) with e15_3 | e15_3
          · refine V_tableIn (pc := 15) (off := 58) (tgt := 73) hX dX5_told_15 (by rw [e15_3]; decide +kernel) (by rw [e15_3]; decide +kernel) (by rw [e15_3]; decide +kernel) (by decide) ?_
            refine V_aload_n (pc := 73) (i := 0) hX dX5_told_73 rfl rfl ?_
            refine V_getr (pc := 74) hX fX5_19 dX5_told_74 rfl rfl ?_
            refine V_iload_n (pc := 77) (i := 1) hX dX5_told_77 rfl rfl ?_
            refine V_callVi (pc := 78) hX (hR.mono (by omega)) mX5_136 (c_isBought _ (by omega) _) dX5_told_78 rfl rfl rfl rfl (Nat.le_of_ble_eq_true rfl) ?_
            refine V_if_eqB (pc := 81) (tgt := 88) hX dX5_told_81 (by decide) (fun h81 => ?_) (fun h81 => ?_)
            · refine V_iconst (pc := 88) (v := (nI 0)) hX dX5_told_88 (by decide +kernel) ?_
              exact V_iret (pc := 89) (st := []) hX hr (by first | rfl | exact bI_nar _ | decide +kernel) dX5_told_89 (⟨by rw [toldF, h8, if_pos rfl, tn_nI (by omega), if_neg e15_0, if_neg e15_1, if_neg e15_2, if_pos e15_3, h81]; rfl, rfl⟩)
            · refine V_iconst (pc := 84) (v := (nI 1)) hX dX5_told_84 (by decide +kernel) ?_
              refine V_goto (pc := 85) (tgt := 89) hX dX5_told_85 (by decide) ?_
              exact V_iret (pc := 89) (st := []) hX hr (by first | rfl | exact bI_nar _ | decide +kernel) dX5_told_89 (⟨by rw [toldF, h8, if_pos rfl, tn_nI (by omega), if_neg e15_0, if_neg e15_1, if_neg e15_2, if_pos e15_3, h81]; rfl, rfl⟩)
          · skip
            refine V_tableOut (pc := 15) (tgt := 90) hX dX5_told_15 (tsw_out 3 (by
                intro j hj
                rcases (show j = 0 ∨ j = 1 ∨ j = 2 ∨ j = 3 by omega) with rfl | rfl | rfl | rfl
                · exact e15_0
                · exact e15_1
                · exact e15_2
                · exact e15_3)) (by decide) ?_
            refine V_ldc (pc := 90) hX kX5_52 dX5_told_90 ?_
            exact V_iret (pc := 92) (st := []) hX hr (by first | rfl | exact bI_nar _ | decide +kernel) dX5_told_92 (⟨by rw [toldF, h8, if_pos rfl, tn_nI (by omega), if_neg e15_0, if_neg e15_1, if_neg e15_2, if_neg e15_3], rfl⟩)
  · refine V_ldc (pc := 11) hX kX5_52 dX5_told_11 ?_
    exact V_iret (pc := 13) (st := []) hX hr (by first | rfl | exact bI_nar _ | decide +kernel) dX5_told_13 (⟨by rw [toldF, h8]; rfl, rfl⟩)
set_option maxRecDepth 100000 in
set_option maxHeartbeats 4000000 in
theorem c_kind (n : Nat) (x : Int32) (σ : Mem) (hn : σ 2 3 = nI n) (hn10 : n ≤ 10) : Cc yX5_kind cX5_kind 2 (some .int) 5 [.ref 0, .int x] σ (rI (kindF n (σ 17) (σ 18) (σ 19) (σ 2 6) x) σ) := by
  refine Cc.intro (by decide +kernel) [some (.ref 0), some (.int x)] (fun _ => rfl) rfl (fun _ => Nat.le_of_ble_eq_true rfl) ?_
  intro X hX hR hr
  refine V_aload_n (pc := 0) (i := 0) hX dX5_kind_0 rfl rfl ?_
  refine V_getr (pc := 1) hX fX5_19 dX5_kind_1 rfl rfl ?_
  refine V_iload_n (pc := 4) (i := 1) hX dX5_kind_4 rfl rfl ?_
  refine V_callVi (pc := 5) hX (hR.mono (by omega)) mX5_123 (c_isSetN x n _ hn hn10) dX5_kind_5 rfl rfl rfl rfl (Nat.le_of_ble_eq_true rfl) ?_
  refine V_if_eqB (pc := 8) (tgt := 22) hX dX5_kind_8 (by decide) (fun h8 => ?_) (fun h8 => ?_)
  · refine V_ldc (pc := 22) hX kX5_52 dX5_kind_22 ?_
    exact V_iret (pc := 24) (st := []) hX hr (by first | rfl | exact bI_nar _ | decide +kernel) dX5_kind_24 (⟨by rw [kindF, h8]; rfl, rfl⟩)
  · obtain ⟨j, hj, rfl⟩ := inr_of h8 (by omega)
    refine V_aload_n (pc := 11) (i := 0) hX dX5_kind_11 rfl rfl ?_
    refine V_getr (pc := 12) hX fX5_19 dX5_kind_12 rfl rfl ?_
    refine V_iload_n (pc := 15) (i := 1) hX dX5_kind_15 rfl rfl ?_
    refine V_callVi (pc := 16) hX (hR.mono (by omega)) mX5_192 (c_kindOf _ _ (by omega)) dX5_kind_16 rfl rfl rfl rfl (Nat.le_of_ble_eq_true rfl) ?_
    refine V_goto (pc := 19) (tgt := 24) hX dX5_kind_19 (by decide) ?_
    exact V_iret (pc := 24) (st := []) hX hr (by first | rfl | exact bI_nar _ | decide +kernel) dX5_kind_24 (⟨by rw [kindF, h8, if_pos rfl, tn_nI (by omega)], rfl⟩)
def coversF (n : Nat) (c th pr : Nat → Int32) (paid dem bo w : Int32) : Int32 := if w = nI 0 then paid else if w = nI 1 then pf (nI 4095) pr 12 else if w = nI 2 then lff c th n n dem else if w = nI 3 then sharf dem th n 12 else if w = nI 4 then dem else if w = nI 5 then bo else (-1000001)
set_option maxRecDepth 100000 in
set_option maxHeartbeats 4000000 in
theorem c_covers (n : Nat) (w : Int32) (σ : Mem) (hn : σ 2 3 = nI n) (hn10 : n ≤ 10) : Cc yX5_covers cX5_covers 2 (some .int) 13 [.ref 0, .int w] σ (rI (coversF n (σ 17) (σ 18) (σ 19) (σ 2 8) (σ 2 5) (σ 2 6) w) σ) := by
  refine Cc.intro (by decide +kernel) [some (.ref 0), some (.int w)] (fun _ => rfl) rfl (fun _ => Nat.le_of_ble_eq_true rfl) ?_
  intro X hX hR hr
  refine V_iload_n (pc := 0) (i := 1) hX dX5_covers_0 rfl rfl ?_
  rcases Classical.em (w = nI 0) with e1_0 | e1_0
  · refine V_tableIn (pc := 1) (off := 39) (tgt := 40) hX dX5_covers_1 (by rw [e1_0]; decide +kernel) (by rw [e1_0]; decide +kernel) (by rw [e1_0]; decide +kernel) (by decide) ?_
    refine V_aload_n (pc := 40) (i := 0) hX dX5_covers_40 rfl rfl ?_
    refine V_getr (pc := 41) hX fX5_19 dX5_covers_41 rfl rfl ?_
    refine V_getf (pc := 44) hX fX5_107 dX5_covers_44 rfl rfl ?_
    exact V_iret (pc := 47) (st := []) hX hr (by first | rfl | exact bI_nar _ | decide +kernel) dX5_covers_47 (⟨by rw [coversF, if_pos e1_0], rfl⟩)
  · skip
    rcases Classical.em (w = nI 1) with e1_1 | e1_1
    · refine V_tableIn (pc := 1) (off := 47) (tgt := 48) hX dX5_covers_1 (by rw [e1_1]; decide +kernel) (by rw [e1_1]; decide +kernel) (by rw [e1_1]; decide +kernel) (by decide) ?_
      refine V_aload_n (pc := 48) (i := 0) hX dX5_covers_48 rfl rfl ?_
      refine V_getr (pc := 49) hX fX5_19 dX5_covers_49 rfl rfl ?_
      refine V_callVi (pc := 52) hX (hR.mono (by omega)) mX5_110 (c_pricesAdded _) dX5_covers_52 rfl rfl rfl rfl (Nat.le_of_ble_eq_true rfl) ?_
      exact V_iret (pc := 55) (st := []) hX hr (by first | rfl | exact bI_nar _ | decide +kernel) dX5_covers_55 (⟨by rw [coversF, if_neg e1_0, if_pos e1_1], rfl⟩)
    · skip
      rcases Classical.em (w = nI 2) with e1_2 | e1_2
      · refine V_tableIn (pc := 1) (off := 55) (tgt := 56) hX dX5_covers_1 (by rw [e1_2]; decide +kernel) (by rw [e1_2]; decide +kernel) (by rw [e1_2]; decide +kernel) (by decide) ?_
        refine V_aload_n (pc := 56) (i := 0) hX dX5_covers_56 rfl rfl ?_
        refine V_getr (pc := 57) hX fX5_19 dX5_covers_57 rfl rfl ?_
        refine V_callVi (pc := 60) hX (hR.mono (by omega)) mX5_114 (c_least n _ hn hn10) dX5_covers_60 rfl rfl rfl rfl (Nat.le_of_ble_eq_true rfl) ?_
        exact V_iret (pc := 63) (st := []) hX hr (by first | rfl | exact bI_nar _ | decide +kernel) dX5_covers_63 (⟨by rw [coversF, if_neg e1_0, if_neg e1_1, if_pos e1_2], rfl⟩)
      · skip
        rcases Classical.em (w = nI 3) with e1_3 | e1_3
        · refine V_tableIn (pc := 1) (off := 63) (tgt := 64) hX dX5_covers_1 (by rw [e1_3]; decide +kernel) (by rw [e1_3]; decide +kernel) (by rw [e1_3]; decide +kernel) (by decide) ?_
          refine V_aload_n (pc := 64) (i := 0) hX dX5_covers_64 rfl rfl ?_
          refine V_getr (pc := 65) hX fX5_19 dX5_covers_65 rfl rfl ?_
          refine V_callVi (pc := 68) hX (hR.mono (by omega)) mX5_117 (c_share n _ hn hn10) dX5_covers_68 rfl rfl rfl rfl (Nat.le_of_ble_eq_true rfl) ?_
          exact V_iret (pc := 71) (st := []) hX hr (by first | rfl | exact bI_nar _ | decide +kernel) dX5_covers_71 (⟨by rw [coversF, if_neg e1_0, if_neg e1_1, if_neg e1_2, if_pos e1_3], rfl⟩)
        · skip
          rcases Classical.em (w = nI 4) with e1_4 | e1_4
          · refine V_tableIn (pc := 1) (off := 71) (tgt := 72) hX dX5_covers_1 (by rw [e1_4]; decide +kernel) (by rw [e1_4]; decide +kernel) (by rw [e1_4]; decide +kernel) (by decide) ?_
            refine V_aload_n (pc := 72) (i := 0) hX dX5_covers_72 rfl rfl ?_
            refine V_getr (pc := 73) hX fX5_19 dX5_covers_73 rfl rfl ?_
            refine V_getf (pc := 76) hX fX5_83 dX5_covers_76 rfl rfl ?_
            exact V_iret (pc := 79) (st := []) hX hr (by first | rfl | exact bI_nar _ | decide +kernel) dX5_covers_79 (⟨by rw [coversF, if_neg e1_0, if_neg e1_1, if_neg e1_2, if_neg e1_3, if_pos e1_4], rfl⟩)
          · skip
            rcases Classical.em (w = nI 5) with e1_5 | e1_5
            · refine V_tableIn (pc := 1) (off := 79) (tgt := 80) hX dX5_covers_1 (by rw [e1_5]; decide +kernel) (by rw [e1_5]; decide +kernel) (by rw [e1_5]; decide +kernel) (by decide) ?_
              refine V_aload_n (pc := 80) (i := 0) hX dX5_covers_80 rfl rfl ?_
              refine V_getr (pc := 81) hX fX5_19 dX5_covers_81 rfl rfl ?_
              refine V_getf (pc := 84) hX fX5_120 dX5_covers_84 rfl rfl ?_
              exact V_iret (pc := 87) (st := []) hX hr (by first | rfl | exact bI_nar _ | decide +kernel) dX5_covers_87 (⟨by rw [coversF, if_neg e1_0, if_neg e1_1, if_neg e1_2, if_neg e1_3, if_neg e1_4, if_pos e1_5], rfl⟩)
            · skip
              refine V_tableOut (pc := 1) (tgt := 88) hX dX5_covers_1 (tsw_out 5 (by
                  intro j hj
                  rcases (show j = 0 ∨ j = 1 ∨ j = 2 ∨ j = 3 ∨ j = 4 ∨ j = 5 by omega) with rfl | rfl | rfl | rfl | rfl | rfl
                  · exact e1_0
                  · exact e1_1
                  · exact e1_2
                  · exact e1_3
                  · exact e1_4
                  · exact e1_5)) (by decide) ?_
              refine V_ldc (pc := 88) hX kX5_52 dX5_covers_88 ?_
              exact V_iret (pc := 90) (st := []) hX hr (by first | rfl | exact bI_nar _ | decide +kernel) dX5_covers_90 (⟨by rw [coversF, if_neg e1_0, if_neg e1_1, if_neg e1_2, if_neg e1_3, if_neg e1_4, if_neg e1_5], rfl⟩)
def demandV (σ : Mem) (n : Nat) (x : Int32) : Int32 := if inr x 12 then (if bt (σ 2 4) (tn x) then cmeetV σ n (tn x) else (-1000002)) else (-1000001)
def demandM (σ : Mem) (n : Nat) (x : Int32) : Mem := if inr x 12 then (if bt (σ 2 4) (tn x) then cmeetM σ n (tn x) else σ) else σ
set_option maxRecDepth 100000 in
set_option maxHeartbeats 4000000 in
theorem c_demand (n : Nat) (x : Int32) (σ : Mem) (hn : σ 2 3 = nI n) (hn10 : n ≤ 10) : Cc yX5_demand cX5_demand 2 (some .int) 6 [.ref 0, .int x] σ (rI (demandV σ n x) (demandM σ n x)) := by
  refine Cc.intro (by decide +kernel) [some (.ref 0), some (.int x)] (fun _ => rfl) rfl (fun _ => Nat.le_of_ble_eq_true rfl) ?_
  intro X hX hR hr
  refine V_iload_n (pc := 0) (i := 1) hX dX5_demand_0 rfl rfl ?_
  refine V_bipush (pc := 1) (v := (nI 12)) hX dX5_demand_1 (by decide +kernel) ?_
  refine V_callSi (pc := 3) hX (hR.mono (by omega)) mX5_48 (c_isUnderN x 12 (by decide) _) dX5_demand_3 rfl rfl rfl (Nat.le_of_ble_eq_true rfl) ?_
  refine V_if_neB (pc := 6) (tgt := 12) hX dX5_demand_6 (by decide) (fun h6 => ?_) (fun h6 => ?_)
  · obtain ⟨j, hj, rfl⟩ := inr_of h6 (by decide)
    refine V_aload_n (pc := 12) (i := 0) hX dX5_demand_12 rfl rfl ?_
    refine V_getr (pc := 13) hX fX5_19 dX5_demand_13 rfl rfl ?_
    refine V_iload_n (pc := 16) (i := 1) hX dX5_demand_16 rfl rfl ?_
    refine V_callVi (pc := 17) hX (hR.mono (by omega)) mX5_95 (c_isOffered _ (by omega) _) dX5_demand_17 rfl rfl rfl rfl (Nat.le_of_ble_eq_true rfl) ?_
    refine V_if_eqB (pc := 20) (tgt := 34) hX dX5_demand_20 (by decide) (fun h20 => ?_) (fun h20 => ?_)
    · refine V_ldc (pc := 34) hX kX5_86 dX5_demand_34 ?_
      exact V_iret (pc := 36) (st := []) hX hr (by first | rfl | exact bI_nar _ | decide +kernel) dX5_demand_36 (⟨by rw [demandV, h6, if_pos rfl, tn_nI (by omega), h20]; rfl, by rw [demandM, h6, if_pos rfl, tn_nI (by omega), h20]; rfl⟩)
    · refine V_aload_n (pc := 23) (i := 0) hX dX5_demand_23 rfl rfl ?_
      refine V_getr (pc := 24) hX fX5_19 dX5_demand_24 rfl rfl ?_
      refine V_iload_n (pc := 27) (i := 1) hX dX5_demand_27 rfl rfl ?_
      refine V_callVi (pc := 28) hX (hR.mono (by omega)) mX5_98 (c_meet n _ _ hn hn10 (by omega)) dX5_demand_28 rfl rfl rfl rfl (Nat.le_of_ble_eq_true rfl) ?_
      refine V_goto (pc := 31) (tgt := 36) hX dX5_demand_31 (by decide) ?_
      exact V_iret (pc := 36) (st := []) hX hr (by first | rfl | exact bI_nar _ | decide +kernel) dX5_demand_36 (⟨by rw [demandV, h6, if_pos rfl, tn_nI (by omega), h20]; rfl, by rw [demandM, h6, if_pos rfl, tn_nI (by omega), h20]; rfl⟩)
  · refine V_ldc (pc := 9) hX kX5_52 dX5_demand_9 ?_
    exact V_iret (pc := 11) (st := []) hX hr (by first | rfl | exact bI_nar _ | decide +kernel) dX5_demand_11 (⟨by rw [demandV, h6]; rfl, by rw [demandM, h6]; rfl⟩)
/-- offer: BAD, STATE, FULL, or the number -/
def offerF (n : Nat) (dem c th : Int32) : Int32 := if inr2 c 1 1000 && inr2 th 1 4095 then (if dem = 0 then (if n < 10 then nI n else (-1000003)) else (-1000002)) else (-1000001)
def offerM (σ : Mem) (n : Nat) (c th : Int32) : Mem := if inr2 c 1 1000 && inr2 th 1 4095 then (if σ 2 5 = 0 then (if n < 10 then caddM σ n c th else σ) else σ) else σ
set_option maxRecDepth 100000 in
set_option maxHeartbeats 4000000 in
theorem c_offer (n : Nat) (c th : Int32) (σ : Mem) (hn : σ 2 3 = nI n) (hn10 : n ≤ 10) : Cc yX5_offer cX5_offer 3 (some .int) 1 [.ref 0, .int c, .int th] σ (rI (offerF n (σ 2 5) c th) (offerM σ n c th)) := by
  refine Cc.intro (by decide +kernel) [some (.ref 0), some (.int c), some (.int th)] (fun _ => rfl) rfl (fun _ => Nat.le_of_ble_eq_true rfl) ?_
  intro X hX hR hr
  refine V_iload_n (pc := 0) (i := 1) hX dX5_offer_0 rfl rfl ?_
  refine V_iconst (pc := 1) (v := (nI 1)) hX dX5_offer_1 (by decide +kernel) ?_
  refine V_sipush (pc := 2) (v := (nI 1000)) hX dX5_offer_2 (by decide +kernel) ?_
  refine V_callSi (pc := 5) hX (hR.mono (by omega)) mX5_79 (c_isWithinN c 1 1000 (by decide) (by decide) _) dX5_offer_5 rfl rfl rfl (Nat.le_of_ble_eq_true rfl) ?_
  refine V_if_eqB (pc := 8) (tgt := 22) hX dX5_offer_8 (by decide) (fun h8 => ?_) (fun h8 => ?_)
  · refine V_ldc (pc := 22) hX kX5_52 dX5_offer_22 ?_
    exact V_iret (pc := 24) (st := []) hX hr (by first | rfl | exact bI_nar _ | decide +kernel) dX5_offer_24 (⟨by rw [offerF, h8]; rfl, by rw [offerM, h8]; rfl⟩)
  · refine V_iload_n (pc := 11) (i := 2) hX dX5_offer_11 rfl rfl ?_
    refine V_iconst (pc := 12) (v := (nI 1)) hX dX5_offer_12 (by decide +kernel) ?_
    refine V_sipush (pc := 13) (v := (nI 4095)) hX dX5_offer_13 (by decide +kernel) ?_
    refine V_callSi (pc := 16) hX (hR.mono (by omega)) mX5_79 (c_isWithinN th 1 4095 (by decide) (by decide) _) dX5_offer_16 rfl rfl rfl (Nat.le_of_ble_eq_true rfl) ?_
    refine V_if_neB (pc := 19) (tgt := 25) hX dX5_offer_19 (by decide) (fun h19 => ?_) (fun h19 => ?_)
    · refine V_aload_n (pc := 25) (i := 0) hX dX5_offer_25 rfl rfl ?_
      refine V_getr (pc := 26) hX fX5_19 dX5_offer_26 rfl rfl ?_
      refine V_getf (pc := 29) hX fX5_83 dX5_offer_29 rfl rfl ?_
      refine V_if_eq (pc := 32) (tgt := 38) hX dX5_offer_32 (by decide) (fun h32 => ?_) (fun h32 => ?_)
      · refine V_aload_n (pc := 38) (i := 0) hX dX5_offer_38 rfl rfl ?_
        refine V_getr (pc := 39) hX fX5_19 dX5_offer_39 rfl rfl ?_
        refine V_getf (pc := 42) hX fX5_87 dX5_offer_42 rfl rfl ?_
        refine V_bipush (pc := 45) (v := (nI 10)) hX dX5_offer_45 (by decide +kernel) ?_
        rw [hn]
        refine V_icmp_geN (pc := 47) (tgt := 62) hX dX5_offer_47 (by decide) (by omega) (by omega) (fun h47 => ?_) (fun h47 => ?_)
        · refine V_ldc (pc := 62) hX kX5_94 dX5_offer_62 ?_
          exact V_iret (pc := 64) (st := []) hX hr (by first | rfl | exact bI_nar _ | decide +kernel) dX5_offer_64 (⟨by rw [offerF, h8, h19, Bool.true_and, if_pos rfl, if_pos h32, if_neg (by omega)], by rw [offerM, h8, h19, Bool.true_and, if_pos rfl, if_pos h32, if_neg (by omega)]⟩)
        · refine V_aload_n (pc := 50) (i := 0) hX dX5_offer_50 rfl rfl ?_
          refine V_getr (pc := 51) hX fX5_19 dX5_offer_51 rfl rfl ?_
          refine V_iload_n (pc := 54) (i := 1) hX dX5_offer_54 rfl rfl ?_
          refine V_iload_n (pc := 55) (i := 2) hX dX5_offer_55 rfl rfl ?_
          refine V_callVi (pc := 56) hX (hR.mono (by omega)) mX5_90 (c_add n _ _ _ hn (by omega)) dX5_offer_56 rfl rfl rfl rfl (Nat.le_of_ble_eq_true rfl) ?_
          refine V_goto (pc := 59) (tgt := 64) hX dX5_offer_59 (by decide) ?_
          exact V_iret (pc := 64) (st := []) hX hr (by first | rfl | exact bI_nar _ | decide +kernel) dX5_offer_64 (⟨by rw [offerF, h8, h19, Bool.true_and, if_pos rfl, if_pos h32, if_pos h47], by rw [offerM, h8, h19, Bool.true_and, if_pos rfl, if_pos h32, if_pos h47]⟩)
      · refine V_ldc (pc := 35) hX kX5_86 dX5_offer_35 ?_
        exact V_iret (pc := 37) (st := []) hX hr (by first | rfl | exact bI_nar _ | decide +kernel) dX5_offer_37 (⟨by rw [offerF, h8, h19, Bool.true_and, if_pos rfl, if_neg h32], by rw [offerM, h8, h19, Bool.true_and, if_pos rfl, if_neg h32]⟩)
    · refine V_ldc (pc := 22) hX kX5_52 dX5_offer_22 ?_
      exact V_iret (pc := 24) (st := []) hX hr (by first | rfl | exact bI_nar _ | decide +kernel) dX5_offer_24 (⟨by rw [offerF, h8, h19]; rfl, by rw [offerM, h8, h19]; rfl⟩)

