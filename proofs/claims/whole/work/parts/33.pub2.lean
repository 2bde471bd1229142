/-! ===== public methods of SITES, the class's ===== -/
def csiteM (σ : Mem) (n : Nat) : Mem := if n < 10 then mu σ 4 5 (nI (n + 1)) else σ
set_option maxRecDepth 100000 in
set_option maxHeartbeats 4000000 in
theorem c_site (n : Nat) (σ : Mem) (hn : σ 4 5 = nI n) (hn10 : n ≤ 10) : Cc yX5_site cX5_site 1 (some .int) 1 [.ref 0] σ (rI (siteF n) (csiteM σ n)) := by
  refine Cc.intro (by decide +kernel) [some (.ref 0)] (fun _ => rfl) rfl (fun _ => Nat.le_of_ble_eq_true rfl) ?_
  intro X hX hR hr
  refine V_aload_n (pc := 0) (i := 0) hX dX5_site_0 rfl rfl ?_
  refine V_getr (pc := 1) hX fX5_33 dX5_site_1 rfl rfl ?_
  refine V_getf (pc := 4) hX fX5_165 dX5_site_4 rfl rfl ?_
  refine V_bipush (pc := 7) (v := (nI 10)) hX dX5_site_7 (by decide +kernel) ?_
  rw [hn]
  refine V_icmp_geN (pc := 9) (tgt := 22) hX dX5_site_9 (by decide) (by omega) (by omega) (fun h9 => ?_) (fun h9 => ?_)
  · refine V_ldc (pc := 22) hX kX5_94 dX5_site_22 ?_
    exact V_iret (pc := 24) (st := []) hX hr (by first | rfl | exact bI_nar _ | decide +kernel) dX5_site_24 (⟨by rw [siteF, if_neg (by omega)], by rw [csiteM, if_neg (by omega)]⟩)
  · refine V_aload_n (pc := 12) (i := 0) hX dX5_site_12 rfl rfl ?_
    refine V_getr (pc := 13) hX fX5_33 dX5_site_13 rfl rfl ?_
    refine V_callVi (pc := 16) hX (hR.mono (by omega)) mX5_166 (c_addS n _ hn (by omega)) dX5_site_16 rfl rfl rfl rfl (Nat.le_of_ble_eq_true rfl) ?_
    refine V_goto (pc := 19) (tgt := 24) hX dX5_site_19 (by decide) ?_
    exact V_iret (pc := 24) (st := []) hX hr (by first | rfl | exact bI_nar _ | decide +kernel) dX5_site_24 (⟨by rw [siteF, if_pos (by omega)], by rw [csiteM, if_pos (by omega)]⟩)
def wayV (σ : Mem) (n : Nat) (x y l : Int32) : Int32 := if wayOK n x y l then (if bt (σ 37 (tn x)) (tn y) then (-1000002) else ln σ (tn x) (tn y)) else (-1000001)
def cwayM (σ : Mem) (n : Nat) (x y l : Int32) : Mem := if wayOK n x y l then (if bt (σ 37 (tn x)) (tn y) then σ else wayM σ (tn x) (tn y) l) else σ
set_option maxRecDepth 100000 in
set_option maxHeartbeats 4000000 in
theorem c_way (n : Nat) (x y l : Int32) (σ : Mem) (hn : σ 4 5 = nI n) (hn10 : n ≤ 10) : Cc yX5_way cX5_way 4 (some .int) 2 [.ref 0, .int x, .int y, .int l] σ (rI (wayV σ n x y l) (cwayM σ n x y l)) := by
  refine Cc.intro (by decide +kernel) [some (.ref 0), some (.int x), some (.int y), some (.int l)] (fun _ => rfl) rfl (fun _ => Nat.le_of_ble_eq_true rfl) ?_
  intro X hX hR hr
  refine V_aload_n (pc := 0) (i := 0) hX dX5_way_0 rfl rfl ?_
  refine V_getr (pc := 1) hX fX5_33 dX5_way_1 rfl rfl ?_
  refine V_iload_n (pc := 4) (i := 1) hX dX5_way_4 rfl rfl ?_
  refine V_callVi (pc := 5) hX (hR.mono (by omega)) mX5_168 (c_isSite n x _ hn hn10) dX5_way_5 rfl rfl rfl rfl (Nat.le_of_ble_eq_true rfl) ?_
  refine V_if_eqB (pc := 8) (tgt := 38) hX dX5_way_8 (by decide) (fun h8 => ?_) (fun h8 => ?_)
  · refine V_ldc (pc := 38) hX kX5_52 dX5_way_38 ?_
    exact V_iret (pc := 40) (st := []) hX hr (by first | rfl | exact bI_nar _ | decide +kernel) dX5_way_40 (⟨by rw [wayV, wayOK, h8]; rfl, by rw [cwayM, wayOK, h8]; rfl⟩)
  · refine V_aload_n (pc := 11) (i := 0) hX dX5_way_11 rfl rfl ?_
    refine V_getr (pc := 12) hX fX5_33 dX5_way_12 rfl rfl ?_
    refine V_iload_n (pc := 15) (i := 2) hX dX5_way_15 rfl rfl ?_
    refine V_callVi (pc := 16) hX (hR.mono (by omega)) mX5_168 (c_isSite n y _ hn hn10) dX5_way_16 rfl rfl rfl rfl (Nat.le_of_ble_eq_true rfl) ?_
    refine V_if_eqB (pc := 19) (tgt := 38) hX dX5_way_19 (by decide) (fun h19 => ?_) (fun h19 => ?_)
    · refine V_ldc (pc := 38) hX kX5_52 dX5_way_38 ?_
      exact V_iret (pc := 40) (st := []) hX hr (by first | rfl | exact bI_nar _ | decide +kernel) dX5_way_40 (⟨by rw [wayV, wayOK, h8, h19]; rfl, by rw [cwayM, wayOK, h8, h19]; rfl⟩)
    · refine V_iload_n (pc := 22) (i := 1) hX dX5_way_22 rfl rfl ?_
      refine V_iload_n (pc := 23) (i := 2) hX dX5_way_23 rfl rfl ?_
      refine V_icmp_eq (pc := 24) (tgt := 38) hX dX5_way_24 (by decide) (fun h24 => ?_) (fun h24 => ?_)
      · refine V_ldc (pc := 38) hX kX5_52 dX5_way_38 ?_
        exact V_iret (pc := 40) (st := []) hX hr (by first | rfl | exact bI_nar _ | decide +kernel) dX5_way_40 (⟨by rw [wayV, wayOK, h8, h19, decide_eq_false (fun q => q h24)]; rfl, by rw [cwayM, wayOK, h8, h19, decide_eq_false (fun q => q h24)]; rfl⟩)
      · refine V_iload_n (pc := 27) (i := 3) hX dX5_way_27 rfl rfl ?_
        refine V_iconst (pc := 28) (v := (nI 1)) hX dX5_way_28 (by decide +kernel) ?_
        refine V_sipush (pc := 29) (v := (nI 1000)) hX dX5_way_29 (by decide +kernel) ?_
        refine V_callSi (pc := 32) hX (hR.mono (by omega)) mX5_79 (c_isWithinN l 1 1000 (by decide) (by decide) _) dX5_way_32 rfl rfl rfl (Nat.le_of_ble_eq_true rfl) ?_
        refine V_if_neB (pc := 35) (tgt := 41) hX dX5_way_35 (by decide) (fun h35 => ?_) (fun h35 => ?_)
        · obtain ⟨a, ha, rfl⟩ := inr_of h8 (by omega)
          obtain ⟨b, hb, rfl⟩ := inr_of h19 (by omega)
          have eo : wayOK n (nI a) (nI b) l = true := by rw [wayOK, h8, h19, decide_eq_true h24, h35]; rfl
          have ta : tn (nI a) = a := tn_nI (by omega)
          have tb : tn (nI b) = b := tn_nI (by omega)
          refine V_aload_n (pc := 41) (i := 0) hX dX5_way_41 rfl rfl ?_
          refine V_getr (pc := 42) hX fX5_33 dX5_way_42 rfl rfl ?_
          refine V_iload_n (pc := 45) (i := 1) hX dX5_way_45 rfl rfl ?_
          refine V_iload_n (pc := 46) (i := 2) hX dX5_way_46 rfl rfl ?_
          refine V_callVi (pc := 47) hX (hR.mono (by omega)) mX5_171 (c_isWB a b _ (by omega) (by omega)) dX5_way_47 rfl rfl rfl rfl (Nat.le_of_ble_eq_true rfl) ?_
          refine V_if_eqB (pc := 50) (tgt := 58) hX dX5_way_50 (by decide) (fun h50 => ?_) (fun h50 => ?_)
          · refine V_aload_n (pc := 58) (i := 0) hX dX5_way_58 rfl rfl ?_
            refine V_getr (pc := 59) hX fX5_33 dX5_way_59 rfl rfl ?_
            refine V_iload_n (pc := 62) (i := 1) hX dX5_way_62 rfl rfl ?_
            refine V_iload_n (pc := 63) (i := 2) hX dX5_way_63 rfl rfl ?_
            refine V_iload_n (pc := 64) (i := 3) hX dX5_way_64 rfl rfl ?_
            refine V_callVi (pc := 65) hX (hR.mono (by omega)) mX5_174 (c_layW a b l _ (by omega) (by omega)) dX5_way_65 rfl rfl rfl rfl (Nat.le_of_ble_eq_true rfl) ?_
            exact V_iret (pc := 68) (st := []) hX hr (by first | rfl | exact bI_nar _ | decide +kernel) dX5_way_68 (⟨by rw [wayV, eo, if_pos rfl, ta, tb, h50]; rfl, by rw [cwayM, eo, if_pos rfl, ta, tb, h50]; rfl⟩)
          · refine V_ldc (pc := 53) hX kX5_86 dX5_way_53 ?_
            refine V_goto (pc := 55) (tgt := 68) hX dX5_way_55 (by decide) ?_
            exact V_iret (pc := 68) (st := []) hX hr (by first | rfl | exact bI_nar _ | decide +kernel) dX5_way_68 (⟨by rw [wayV, eo, if_pos rfl, ta, tb, h50]; rfl, by rw [cwayM, eo, if_pos rfl, ta, tb, h50]; rfl⟩)
        · refine V_ldc (pc := 38) hX kX5_52 dX5_way_38 ?_
          exact V_iret (pc := 40) (st := []) hX hr (by first | rfl | exact bI_nar _ | decide +kernel) dX5_way_40 (⟨by rw [wayV, wayOK, h8, h19, h35, Bool.and_false]; rfl, by rw [cwayM, wayOK, h8, h19, h35, Bool.and_false]; rfl⟩)
def ccallV (σ : Mem) (n : Nat) (x : Int32) : Int32 := if inr x n then (if bt (σ 4 8) (tn x) then (-1000002) else joinV σ n (tn x)) else (-1000001)
def ccallM (σ : Mem) (n : Nat) (x : Int32) : Mem := if inr x n then (if bt (σ 4 8) (tn x) then σ else joinM σ n (tn x)) else σ
set_option maxRecDepth 100000 in
set_option maxHeartbeats 4000000 in
theorem c_call (n : Nat) (x : Int32) (σ : Mem) (hn : σ 4 5 = nI n) (hn10 : n ≤ 10) : Cc yX5_call cX5_call 2 (some .int) 4 [.ref 0, .int x] σ (rI (ccallV σ n x) (ccallM σ n x)) := by
  refine Cc.intro (by decide +kernel) [some (.ref 0), some (.int x)] (fun _ => rfl) rfl (fun _ => Nat.le_of_ble_eq_true rfl) ?_
  intro X hX hR hr
  refine V_aload_n (pc := 0) (i := 0) hX dX5_call_0 rfl rfl ?_
  refine V_getr (pc := 1) hX fX5_33 dX5_call_1 rfl rfl ?_
  refine V_iload_n (pc := 4) (i := 1) hX dX5_call_4 rfl rfl ?_
  refine V_callVi (pc := 5) hX (hR.mono (by omega)) mX5_168 (c_isSite n x _ hn hn10) dX5_call_5 rfl rfl rfl rfl (Nat.le_of_ble_eq_true rfl) ?_
  refine V_if_neB (pc := 8) (tgt := 14) hX dX5_call_8 (by decide) (fun h8 => ?_) (fun h8 => ?_)
  · obtain ⟨a, ha, rfl⟩ := inr_of h8 (by omega)
    have ta : tn (nI a) = a := tn_nI (by omega)
    refine V_aload_n (pc := 14) (i := 0) hX dX5_call_14 rfl rfl ?_
    refine V_getr (pc := 15) hX fX5_33 dX5_call_15 rfl rfl ?_
    refine V_getf (pc := 18) hX fX5_175 dX5_call_18 rfl rfl ?_
    refine V_iload_n (pc := 21) (i := 1) hX dX5_call_21 rfl rfl ?_
    refine V_callSi (pc := 22) hX (hR.mono (by omega)) mX5_178 (c_holds _ _ (by omega) _) dX5_call_22 rfl rfl rfl (Nat.le_of_ble_eq_true rfl) ?_
    refine V_if_eqB (pc := 25) (tgt := 33) hX dX5_call_25 (by decide) (fun h25 => ?_) (fun h25 => ?_)
    · refine V_aload_n (pc := 33) (i := 0) hX dX5_call_33 rfl rfl ?_
      refine V_getr (pc := 34) hX fX5_33 dX5_call_34 rfl rfl ?_
      refine V_iload_n (pc := 37) (i := 1) hX dX5_call_37 rfl rfl ?_
      refine V_callVi (pc := 38) hX (hR.mono (by omega)) mX5_181 (c_join n a _ hn hn10 (by omega)) dX5_call_38 rfl rfl rfl rfl (Nat.le_of_ble_eq_true rfl) ?_
      exact V_iret (pc := 41) (st := []) hX hr (by first | rfl | exact bI_nar _ | decide +kernel) dX5_call_41 (⟨by rw [ccallV, h8, if_pos rfl, ta, h25]; rfl, by rw [ccallM, h8, if_pos rfl, ta, h25]; rfl⟩)
    · refine V_ldc (pc := 28) hX kX5_86 dX5_call_28 ?_
      refine V_goto (pc := 30) (tgt := 41) hX dX5_call_30 (by decide) ?_
      exact V_iret (pc := 41) (st := []) hX hr (by first | rfl | exact bI_nar _ | decide +kernel) dX5_call_41 (⟨by rw [ccallV, h8, if_pos rfl, ta, h25]; rfl, by rw [ccallM, h8, if_pos rfl, ta, h25]; rfl⟩)
  · refine V_ldc (pc := 11) hX kX5_52 dX5_call_11 ?_
    exact V_iret (pc := 13) (st := []) hX hr (by first | rfl | exact bI_nar _ | decide +kernel) dX5_call_13 (⟨by rw [ccallV, h8]; rfl, by rw [ccallM, h8]; rfl⟩)
theorem scrC.rf {σ : Mem} : scrC σ σ := fun _ _ => rfl
set_option maxRecDepth 100000 in
set_option maxHeartbeats 4000000 in
theorem c_joins (n fi : Nat) (w : Int32) (σ : Mem) (hn : σ 4 5 = nI n) (hn10 : n ≤ 10) (hf : ¬ bcF (σ 4 8) - nI 2 < 0 → σ 4 7 = nI fi ∧ fi < n) : Cc yX5_joins cX5_joins 2 (some .int) 4 [.ref 0, .int w] σ (rP (fun v τ => v = joinsF (σ 4 11) (leastV σ n fi) (σ 4 8) (σ 4 9) (σ 4 10) w ∧ scrC σ τ)) := by
  refine Cc.intro (by decide +kernel) [some (.ref 0), some (.int w)] (fun _ => rfl) rfl (fun _ => Nat.le_of_ble_eq_true rfl) ?_
  intro X hX hR hr
  refine V_iload_n (pc := 0) (i := 1) hX dX5_joins_0 rfl rfl ?_
  rcases Classical.em (w = nI 0) with e1_0 | e1_0
  · refine V_tableIn (pc := 1) (off := 35) (tgt := 36) hX dX5_joins_1 (by rw [e1_0]; decide +kernel) (by rw [e1_0]; decide +kernel) (by rw [e1_0]; decide +kernel) (by decide) ?_
    refine V_aload_n (pc := 36) (i := 0) hX dX5_joins_36 rfl rfl ?_
    refine V_getr (pc := 37) hX fX5_33 dX5_joins_37 rfl rfl ?_
    refine V_getf (pc := 40) hX fX5_184 dX5_joins_40 rfl rfl ?_
    exact V_iret (pc := 43) (st := []) hX hr (by first | rfl | exact bI_nar _ | decide +kernel) dX5_joins_43 (⟨_, rfl, by rw [joinsF, if_pos e1_0], scrC.rf⟩)
  · skip
    rcases Classical.em (w = nI 1) with e1_1 | e1_1
    · refine V_tableIn (pc := 1) (off := 43) (tgt := 44) hX dX5_joins_1 (by rw [e1_1]; decide +kernel) (by rw [e1_1]; decide +kernel) (by rw [e1_1]; decide +kernel) (by decide) ?_
      refine V_aload_n (pc := 44) (i := 0) hX dX5_joins_44 rfl rfl ?_
      refine V_getr (pc := 45) hX fX5_33 dX5_joins_45 rfl rfl ?_
      refine V_callV (pc := 48) hX (hR.mono (by omega)) mX5_185 (c_leastS n fi _ hn hn10 hf) dX5_joins_48 rfl rfl rfl rfl (Nat.le_of_ble_eq_true rfl) (fun r σ2 h => by obtain ⟨v, rfl, rfl, hg⟩ := h; exact V_iret (pc := 51) (st := []) hX hr rfl dX5_joins_51 ⟨_, rfl, by rw [joinsF, if_neg e1_0, if_pos e1_1], hg⟩)
    · skip
      rcases Classical.em (w = nI 2) with e1_2 | e1_2
      · refine V_tableIn (pc := 1) (off := 51) (tgt := 52) hX dX5_joins_1 (by rw [e1_2]; decide +kernel) (by rw [e1_2]; decide +kernel) (by rw [e1_2]; decide +kernel) (by decide) ?_
        refine V_aload_n (pc := 52) (i := 0) hX dX5_joins_52 rfl rfl ?_
        refine V_getr (pc := 53) hX fX5_33 dX5_joins_53 rfl rfl ?_
        refine V_getf (pc := 56) hX fX5_175 dX5_joins_56 rfl rfl ?_
        exact V_iret (pc := 59) (st := []) hX hr (by first | rfl | exact bI_nar _ | decide +kernel) dX5_joins_59 (⟨_, rfl, by rw [joinsF, if_neg e1_0, if_neg e1_1, if_pos e1_2], scrC.rf⟩)
      · skip
        rcases Classical.em (w = nI 3) with e1_3 | e1_3
        · refine V_tableIn (pc := 1) (off := 59) (tgt := 60) hX dX5_joins_1 (by rw [e1_3]; decide +kernel) (by rw [e1_3]; decide +kernel) (by rw [e1_3]; decide +kernel) (by decide) ?_
          refine V_aload_n (pc := 60) (i := 0) hX dX5_joins_60 rfl rfl ?_
          refine V_getr (pc := 61) hX fX5_33 dX5_joins_61 rfl rfl ?_
          refine V_getf (pc := 64) hX fX5_186 dX5_joins_64 rfl rfl ?_
          exact V_iret (pc := 67) (st := []) hX hr (by first | rfl | exact bI_nar _ | decide +kernel) dX5_joins_67 (⟨_, rfl, by rw [joinsF, if_neg e1_0, if_neg e1_1, if_neg e1_2, if_pos e1_3], scrC.rf⟩)
        · skip
          rcases Classical.em (w = nI 4) with e1_4 | e1_4
          · refine V_tableIn (pc := 1) (off := 67) (tgt := 68) hX dX5_joins_1 (by rw [e1_4]; decide +kernel) (by rw [e1_4]; decide +kernel) (by rw [e1_4]; decide +kernel) (by decide) ?_
            refine V_aload_n (pc := 68) (i := 0) hX dX5_joins_68 rfl rfl ?_
            refine V_getr (pc := 69) hX fX5_33 dX5_joins_69 rfl rfl ?_
            refine V_getf (pc := 72) hX fX5_189 dX5_joins_72 rfl rfl ?_
            exact V_iret (pc := 75) (st := []) hX hr (by first | rfl | exact bI_nar _ | decide +kernel) dX5_joins_75 (⟨_, rfl, by rw [joinsF, if_neg e1_0, if_neg e1_1, if_neg e1_2, if_neg e1_3, if_pos e1_4], scrC.rf⟩)
          · skip
            refine V_tableOut (pc := 1) (tgt := 76) hX dX5_joins_1 (tsw_out 4 (by
                intro j hj
                rcases (show j = 0 ∨ j = 1 ∨ j = 2 ∨ j = 3 ∨ j = 4 by omega) with rfl | rfl | rfl | rfl | rfl
                · exact e1_0
                · exact e1_1
                · exact e1_2
                · exact e1_3
                · exact e1_4)) (by decide) ?_
            refine V_ldc (pc := 76) hX kX5_52 dX5_joins_76 ?_
            exact V_iret (pc := 78) (st := []) hX hr (by first | rfl | exact bI_nar _ | decide +kernel) dX5_joins_78 (⟨_, rfl, by rw [joinsF, if_neg e1_0, if_neg e1_1, if_neg e1_2, if_neg e1_3, if_neg e1_4], scrC.rf⟩)
/-! ===== ASKS, both: a trace is a row and a number ===== -/
/-- the trace with one more body: the row, how many -/
def bgF (x : (Nat → Int32) × Nat) (b : Nat) : (Nat → Int32) × Nat := if x.2 < 16 then (upd x.1 x.2 (nI b), x.2 + 1) else x
theorem bgF_le {x : (Nat → Int32) × Nat} {b : Nat} (h : x.2 ≤ 16) : (bgF x b).2 ≤ 16 := by
  unfold bgF
  split
  · show x.2 + 1 ≤ 16
    omega
  · exact h
/-- the class's world with a trace -/
def tcM (σ : Mem) (x : (Nat → Int32) × Nat) : Mem := mu (mf σ 51 x.1) 5 1 (nI x.2)
theorem tcM_r {σ : Mem} {x : (Nat → Int32) × Nat} {q : Nat} (h : q ≠ 5) (h2 : q ≠ 51) : tcM σ x q = σ q := by unfold tcM; rw [← mu_ne h, ← mf_ne h2]
theorem tcM_bg {σ : Mem} {x : (Nat → Int32) × Nat} {b : Nat} (h : x.2 < 16) : mu (mu (tcM σ x) 51 x.2 (nI b)) 5 1 (nI (x.2 + 1)) = tcM σ (bgF x b) := by
  unfold bgF
  rw [if_pos h]
  unfold tcM
  funext q j
  by_cases h1 : q = 5 <;> by_cases h2 : q = 51 <;> simp_all [mu, mf, upd]
set_option maxRecDepth 100000 in
set_option maxHeartbeats 4000000 in
theorem c_begin (x : (Nat → Int32) × Nat) (b : Nat) (σ : Mem) (hx : x.2 ≤ 16) : Cc yX0_begin cX0_begin 2 none 0 [.ref 5, .int (nI b)] (tcM σ x) (rV (tcM σ (bgF x b))) := by
  refine Cc.intro (by decide +kernel) [some (.ref 5), some (.int (nI b))] (fun _ => rfl) rfl (fun _ => Nat.le_of_ble_eq_true rfl) ?_
  intro X hX hR hr
  have e1 : tcM σ x 5 1 = nI x.2 := mu_at
  refine V_aload_n (pc := 0) (i := 0) hX dX0_begin_0 rfl rfl ?_
  refine V_getf (pc := 1) hX fX0_15 dX0_begin_1 rfl rfl ?_
  refine V_bipush (pc := 4) (v := (nI 16)) hX dX0_begin_4 (by decide +kernel) ?_
  rw [e1]
  refine V_icmp_geN (pc := 6) (tgt := 29) hX dX0_begin_6 (by decide) (by omega) (by omega) (fun h6 => ?_) (fun h6 => ?_)
  · exact V_vret (pc := 29) (st := []) hX hr dX0_begin_29 (⟨rfl, by unfold bgF; rw [if_neg (by omega)]⟩)
  · refine V_aload_n (pc := 9) (i := 0) hX dX0_begin_9 rfl rfl ?_
    refine V_getr (pc := 10) hX fX0_9 dX0_begin_10 rfl rfl ?_
    refine V_aload_n (pc := 13) (i := 0) hX dX0_begin_13 rfl rfl ?_
    refine V_getf (pc := 14) hX fX0_15 dX0_begin_14 rfl rfl ?_
    rw [e1]
    refine V_iload_n (pc := 17) (i := 1) hX dX0_begin_17 rfl rfl ?_
    refine V_iast (pc := 18) hX dX0_begin_18 (rfl) (rfl) (by omega) (by decide) ?_
    refine V_aload_n (pc := 19) (i := 0) hX dX0_begin_19 rfl rfl ?_
    refine V_dup (pc := 20) hX dX0_begin_20 rfl ?_
    refine V_getf (pc := 21) hX fX0_15 dX0_begin_21 rfl rfl ?_
    rw [mu_np (by decide), e1]
    refine V_iconst (pc := 24) (v := (nI 1)) hX dX0_begin_24 (by decide +kernel) ?_
    refine V_iadd (pc := 25) hX dX0_begin_25 ?_
    rw [nI_add]
    refine V_putf (pc := 26) hX fX0_15 gi0_1 dX0_begin_26 rfl rfl ?_
    exact V_vret (pc := 29) (st := []) hX hr dX0_begin_29 (⟨rfl, tcM_bg h6⟩)
set_option maxRecDepth 100000 in
set_option maxHeartbeats 4000000 in
theorem c_wAny (x : (Nat → Int32) × Nat) (s : Nat) (σ : Mem) (hx : x.2 ≤ 16) (hs : s < 10) : Cc yX0_worthOfAny cX0_worthOfAny 3 (some .int) 1 [.ref 5, .ref 2, .int (nI s)] (tcM σ x) (rI (σ 17 s) (tcM σ (bgF x 10))) := by
  refine Cc.intro (by decide +kernel) [some (.ref 5), some (.ref 2), some (.int (nI s))] (fun _ => rfl) rfl (fun _ => Nat.le_of_ble_eq_true rfl) ?_
  intro X hX hR hr
  refine V_aload_n (pc := 0) (i := 0) hX dX0_worthOfAny_0 rfl rfl ?_
  refine V_bipush (pc := 1) (v := (nI 10)) hX dX0_worthOfAny_1 (by decide +kernel) ?_
  refine V_callVv (pc := 3) hX (hR.mono (by omega)) mX0_44 (c_begin x 10 σ hx) dX0_worthOfAny_3 rfl rfl rfl rfl (Nat.le_of_ble_eq_true rfl) ?_
  refine V_aload_n (pc := 6) (i := 1) hX dX0_worthOfAny_6 rfl rfl ?_
  refine V_getr (pc := 7) hX fX0_48 dX0_worthOfAny_7 rfl rfl ?_
  refine V_iload_n (pc := 10) (i := 2) hX dX0_worthOfAny_10 rfl rfl ?_
  refine V_iald (pc := 11) hX dX0_worthOfAny_11 (rfl) (rfl) (by omega) (by decide) ?_
  exact V_iret (pc := 12) (st := []) hX hr (by first | rfl | exact bI_nar _ | decide +kernel) dX0_worthOfAny_12 (⟨by rw [tcM_r (by decide) (by decide)], rfl⟩)
set_option maxRecDepth 100000 in
set_option maxHeartbeats 4000000 in
theorem c_wOpen (x : (Nat → Int32) × Nat) (s : Nat) (σ : Mem) (hx : x.2 ≤ 16) (hs : s < 10) : Cc yX0_worthOfOpen cX0_worthOfOpen 3 (some .int) 3 [.ref 5, .ref 2, .int (nI s)] (tcM σ x) (rI (σ 17 s - pf (σ 18 s) (σ 19) 12) (tcM σ (bgF (bgF x 11) 10))) := by
  refine Cc.intro (by decide +kernel) [some (.ref 5), some (.ref 2), some (.int (nI s))] (fun _ => rfl) rfl (fun _ => Nat.le_of_ble_eq_true rfl) ?_
  intro X hX hR hr
  refine V_aload_n (pc := 0) (i := 0) hX dX0_worthOfOpen_0 rfl rfl ?_
  refine V_bipush (pc := 1) (v := (nI 11)) hX dX0_worthOfOpen_1 (by decide +kernel) ?_
  refine V_callVv (pc := 3) hX (hR.mono (by omega)) mX0_44 (c_begin x 11 σ hx) dX0_worthOfOpen_3 rfl rfl rfl rfl (Nat.le_of_ble_eq_true rfl) ?_
  refine V_aload_n (pc := 6) (i := 0) hX dX0_worthOfOpen_6 rfl rfl ?_
  refine V_aload_n (pc := 7) (i := 1) hX dX0_worthOfOpen_7 rfl rfl ?_
  refine V_iload_n (pc := 8) (i := 2) hX dX0_worthOfOpen_8 rfl rfl ?_
  refine V_callVi (pc := 9) hX (hR.mono (by omega)) mX0_51 (c_wAny _ s σ (bgF_le hx) hs) dX0_worthOfOpen_9 rfl rfl rfl rfl (Nat.le_of_ble_eq_true rfl) ?_
  refine V_aload_n (pc := 12) (i := 1) hX dX0_worthOfOpen_12 rfl rfl ?_
  refine V_iload_n (pc := 13) (i := 2) hX dX0_worthOfOpen_13 rfl rfl ?_
  refine V_callVi (pc := 14) hX (hR.mono (by omega)) mX0_54 (c_filled s hs _) dX0_worthOfOpen_14 rfl rfl rfl rfl (Nat.le_of_ble_eq_true rfl) ?_
  refine V_isub (pc := 17) hX dX0_worthOfOpen_17 ?_
  exact V_iret (pc := 18) (st := []) hX hr (by first | rfl | exact bI_nar _ | decide +kernel) dX0_worthOfOpen_18 (⟨by rw [tcM_r (by decide) (by decide), tcM_r (by decide) (by decide)], rfl⟩)
set_option maxRecDepth 100000 in
set_option maxHeartbeats 4000000 in
theorem c_mAny (x : (Nat → Int32) × Nat) (s : Nat) (σ : Mem) (hx : x.2 ≤ 16) (hs : s < 10) : Cc yX0_markOfAny cX0_markOfAny 3 (some .int) 1 [.ref 5, .ref 2, .int (nI s)] (tcM σ x) (rI (bcF (σ 18 s)) (tcM σ (bgF x 20))) := by
  refine Cc.intro (by decide +kernel) [some (.ref 5), some (.ref 2), some (.int (nI s))] (fun _ => rfl) rfl (fun _ => Nat.le_of_ble_eq_true rfl) ?_
  intro X hX hR hr
  refine V_aload_n (pc := 0) (i := 0) hX dX0_markOfAny_0 rfl rfl ?_
  refine V_bipush (pc := 1) (v := (nI 20)) hX dX0_markOfAny_1 (by decide +kernel) ?_
  refine V_callVv (pc := 3) hX (hR.mono (by omega)) mX0_44 (c_begin x 20 σ hx) dX0_markOfAny_3 rfl rfl rfl rfl (Nat.le_of_ble_eq_true rfl) ?_
  refine V_aload_n (pc := 6) (i := 1) hX dX0_markOfAny_6 rfl rfl ?_
  refine V_getr (pc := 7) hX fX0_57 dX0_markOfAny_7 rfl rfl ?_
  refine V_iload_n (pc := 10) (i := 2) hX dX0_markOfAny_10 rfl rfl ?_
  refine V_iald (pc := 11) hX dX0_markOfAny_11 (rfl) (rfl) (by omega) (by decide) ?_
  refine V_callSi (pc := 12) hX (hR.mono (by omega)) mX0_60 (c_bitCount _ _) dX0_markOfAny_12 rfl rfl rfl (Nat.le_of_ble_eq_true rfl) ?_
  exact V_iret (pc := 15) (st := []) hX hr (by first | rfl | exact bI_nar _ | decide +kernel) dX0_markOfAny_15 (⟨by rw [tcM_r (by decide) (by decide)], rfl⟩)
set_option maxRecDepth 100000 in
set_option maxHeartbeats 4000000 in
theorem c_mNear (x : (Nat → Int32) × Nat) (s : Nat) (σ : Mem) (hx : x.2 ≤ 16) (hs : s < 10) : Cc yX0_markOfNear cX0_markOfNear 3 (some .int) 2 [.ref 5, .ref 2, .int (nI s)] (tcM σ x) (rI (bcF (σ 18 s) + nI 100) (tcM σ (bgF (bgF x 21) 20))) := by
  refine Cc.intro (by decide +kernel) [some (.ref 5), some (.ref 2), some (.int (nI s))] (fun _ => rfl) rfl (fun _ => Nat.le_of_ble_eq_true rfl) ?_
  intro X hX hR hr
  refine V_aload_n (pc := 0) (i := 0) hX dX0_markOfNear_0 rfl rfl ?_
  refine V_bipush (pc := 1) (v := (nI 21)) hX dX0_markOfNear_1 (by decide +kernel) ?_
  refine V_callVv (pc := 3) hX (hR.mono (by omega)) mX0_44 (c_begin x 21 σ hx) dX0_markOfNear_3 rfl rfl rfl rfl (Nat.le_of_ble_eq_true rfl) ?_
  refine V_aload_n (pc := 6) (i := 0) hX dX0_markOfNear_6 rfl rfl ?_
  refine V_aload_n (pc := 7) (i := 1) hX dX0_markOfNear_7 rfl rfl ?_
  refine V_iload_n (pc := 8) (i := 2) hX dX0_markOfNear_8 rfl rfl ?_
  refine V_callVi (pc := 9) hX (hR.mono (by omega)) mX0_41 (c_mAny _ s σ (bgF_le hx) hs) dX0_markOfNear_9 rfl rfl rfl rfl (Nat.le_of_ble_eq_true rfl) ?_
  refine V_bipush (pc := 12) (v := (nI 100)) hX dX0_markOfNear_12 (by decide +kernel) ?_
  refine V_iadd (pc := 14) hX dX0_markOfNear_14 ?_
  exact V_iret (pc := 15) (st := []) hX hr (by first | rfl | exact bI_nar _ | decide +kernel) dX0_markOfNear_15 (⟨rfl, rfl⟩)
set_option maxRecDepth 100000 in
set_option maxHeartbeats 4000000 in
theorem c_wNear (x : (Nat → Int32) × Nat) (s : Nat) (σ : Mem) (hx : x.2 ≤ 16) (hs : s < 10) : Cc yX0_worthOfNear cX0_worthOfNear 3 (some .int) 4 [.ref 5, .ref 2, .int (nI s)] (tcM σ x) (rI ((σ 17 s - pf (σ 18 s) (σ 19) 12) + (bcF (σ 18 s) + nI 100)) (tcM σ (bgF (bgF (bgF (bgF (bgF x 12) 11) 10) 21) 20))) := by
  refine Cc.intro (by decide +kernel) [some (.ref 5), some (.ref 2), some (.int (nI s))] (fun _ => rfl) rfl (fun _ => Nat.le_of_ble_eq_true rfl) ?_
  intro X hX hR hr
  refine V_aload_n (pc := 0) (i := 0) hX dX0_worthOfNear_0 rfl rfl ?_
  refine V_bipush (pc := 1) (v := (nI 12)) hX dX0_worthOfNear_1 (by decide +kernel) ?_
  refine V_callVv (pc := 3) hX (hR.mono (by omega)) mX0_44 (c_begin x 12 σ hx) dX0_worthOfNear_3 rfl rfl rfl rfl (Nat.le_of_ble_eq_true rfl) ?_
  refine V_aload_n (pc := 6) (i := 0) hX dX0_worthOfNear_6 rfl rfl ?_
  refine V_aload_n (pc := 7) (i := 1) hX dX0_worthOfNear_7 rfl rfl ?_
  refine V_iload_n (pc := 8) (i := 2) hX dX0_worthOfNear_8 rfl rfl ?_
  refine V_callVi (pc := 9) hX (hR.mono (by omega)) mX0_32 (c_wOpen _ s σ (bgF_le hx) hs) dX0_worthOfNear_9 rfl rfl rfl rfl (Nat.le_of_ble_eq_true rfl) ?_
  refine V_aload_n (pc := 12) (i := 0) hX dX0_worthOfNear_12 rfl rfl ?_
  refine V_aload_n (pc := 13) (i := 1) hX dX0_worthOfNear_13 rfl rfl ?_
  refine V_iload_n (pc := 14) (i := 2) hX dX0_worthOfNear_14 rfl rfl ?_
  refine V_callVi (pc := 15) hX (hR.mono (by omega)) mX0_38 (c_mNear _ s σ (bgF_le (bgF_le (bgF_le hx))) hs) dX0_worthOfNear_15 rfl rfl rfl rfl (Nat.le_of_ble_eq_true rfl) ?_
  refine V_iadd (pc := 18) hX dX0_worthOfNear_18 ?_
  exact V_iret (pc := 19) (st := []) hX hr (by first | rfl | exact bI_nar _ | decide +kernel) dX0_worthOfNear_19 (⟨rfl, rfl⟩)
set_option maxRecDepth 100000 in
set_option maxHeartbeats 4000000 in
theorem c_wOwn (x : (Nat → Int32) × Nat) (s : Nat) (σ : Mem) (hx : x.2 ≤ 16) (hs : s < 10) : Cc yX0_worthOfOwn cX0_worthOfOwn 3 (some .int) 2 [.ref 5, .ref 2, .int (nI s)] (tcM σ x) (rI (nI 2 * σ 17 s) (tcM σ (bgF (bgF x 13) 10))) := by
  refine Cc.intro (by decide +kernel) [some (.ref 5), some (.ref 2), some (.int (nI s))] (fun _ => rfl) rfl (fun _ => Nat.le_of_ble_eq_true rfl) ?_
  intro X hX hR hr
  refine V_aload_n (pc := 0) (i := 0) hX dX0_worthOfOwn_0 rfl rfl ?_
  refine V_bipush (pc := 1) (v := (nI 13)) hX dX0_worthOfOwn_1 (by decide +kernel) ?_
  refine V_callVv (pc := 3) hX (hR.mono (by omega)) mX0_44 (c_begin x 13 σ hx) dX0_worthOfOwn_3 rfl rfl rfl rfl (Nat.le_of_ble_eq_true rfl) ?_
  refine V_iconst (pc := 6) (v := (nI 2)) hX dX0_worthOfOwn_6 (by decide +kernel) ?_
  refine V_aload_n (pc := 7) (i := 0) hX dX0_worthOfOwn_7 rfl rfl ?_
  refine V_aload_n (pc := 8) (i := 1) hX dX0_worthOfOwn_8 rfl rfl ?_
  refine V_iload_n (pc := 9) (i := 2) hX dX0_worthOfOwn_9 rfl rfl ?_
  refine V_callVi (pc := 10) hX (hR.mono (by omega)) mX0_51 (c_wAny _ s σ (bgF_le hx) hs) dX0_worthOfOwn_10 rfl rfl rfl rfl (Nat.le_of_ble_eq_true rfl) ?_
  refine V_imul (pc := 13) hX dX0_worthOfOwn_13 ?_
  exact V_iret (pc := 14) (st := []) hX hr (by first | rfl | exact bI_nar _ | decide +kernel) dX0_worthOfOwn_14 (⟨rfl, rfl⟩)
set_option maxRecDepth 100000 in
set_option maxHeartbeats 4000000 in
theorem c_mOwn (x : (Nat → Int32) × Nat) (s : Nat) (σ : Mem) (hx : x.2 ≤ 16) (hs : s < 10) : Cc yX0_markOfOwn cX0_markOfOwn 3 (some .int) 3 [.ref 5, .ref 2, .int (nI s)] (tcM σ x) (rI (bcF (σ 18 s) + nI 2 * σ 17 s) (tcM σ (bgF (bgF (bgF (bgF x 22) 20) 13) 10))) := by
  refine Cc.intro (by decide +kernel) [some (.ref 5), some (.ref 2), some (.int (nI s))] (fun _ => rfl) rfl (fun _ => Nat.le_of_ble_eq_true rfl) ?_
  intro X hX hR hr
  refine V_aload_n (pc := 0) (i := 0) hX dX0_markOfOwn_0 rfl rfl ?_
  refine V_bipush (pc := 1) (v := (nI 22)) hX dX0_markOfOwn_1 (by decide +kernel) ?_
  refine V_callVv (pc := 3) hX (hR.mono (by omega)) mX0_44 (c_begin x 22 σ hx) dX0_markOfOwn_3 rfl rfl rfl rfl (Nat.le_of_ble_eq_true rfl) ?_
  refine V_aload_n (pc := 6) (i := 0) hX dX0_markOfOwn_6 rfl rfl ?_
  refine V_aload_n (pc := 7) (i := 1) hX dX0_markOfOwn_7 rfl rfl ?_
  refine V_iload_n (pc := 8) (i := 2) hX dX0_markOfOwn_8 rfl rfl ?_
  refine V_callVi (pc := 9) hX (hR.mono (by omega)) mX0_41 (c_mAny _ s σ (bgF_le hx) hs) dX0_markOfOwn_9 rfl rfl rfl rfl (Nat.le_of_ble_eq_true rfl) ?_
  refine V_aload_n (pc := 12) (i := 0) hX dX0_markOfOwn_12 rfl rfl ?_
  refine V_aload_n (pc := 13) (i := 1) hX dX0_markOfOwn_13 rfl rfl ?_
  refine V_iload_n (pc := 14) (i := 2) hX dX0_markOfOwn_14 rfl rfl ?_
  refine V_callVi (pc := 15) hX (hR.mono (by omega)) mX0_25 (c_wOwn _ s σ (bgF_le (bgF_le hx)) hs) dX0_markOfOwn_15 rfl rfl rfl rfl (Nat.le_of_ble_eq_true rfl) ?_
  refine V_iadd (pc := 18) hX dX0_markOfOwn_18 ?_
  exact V_iret (pc := 19) (st := []) hX hr (by first | rfl | exact bI_nar _ | decide +kernel) dX0_markOfOwn_19 (⟨rfl, rfl⟩)
/-- the trace and the answer of an ask for WORTH, MARK: kd the kind, c cost, f filled, p how many things -/
def wTr (kd : Int32) (g : Nat → Int32) : (Nat → Int32) × Nat := if kd = nI 2 then bgF (bgF (bgF (bgF (bgF (g, 0) 12) 11) 10) 21) 20 else if kd = nI 3 then bgF (bgF (g, 0) 13) 10 else bgF (bgF (g, 0) 11) 10
def wVal (kd c f p : Int32) : Int32 := if kd = nI 2 then (c - f) + (p + nI 100) else if kd = nI 3 then nI 2 * c else c - f
def mTr (kd : Int32) (g : Nat → Int32) : (Nat → Int32) × Nat := if kd = nI 2 then bgF (bgF (g, 0) 21) 20 else if kd = nI 3 then bgF (bgF (bgF (bgF (g, 0) 22) 20) 13) 10 else bgF (g, 0) 20
def mVal (kd c p : Int32) : Int32 := if kd = nI 2 then p + nI 100 else if kd = nI 3 then p + nI 2 * c else p
theorem tcM_0 {σ : Mem} : mu σ 5 1 (nI 0) = tcM σ (σ 51, 0) := by unfold tcM; rw [mf_id]
set_option maxRecDepth 100000 in
set_option maxHeartbeats 4000000 in
theorem c_askW (s : Nat) (σ : Mem) (hs : s < 10) : Cc yX0_askWorth cX0_askWorth 3 (some .int) 5 [.ref 5, .ref 2, .int (nI s)] σ (rI (wVal (kindf (σ 2 6) s (pf (σ 18 s) (σ 19) 12) (σ 17 s)) (σ 17 s) (pf (σ 18 s) (σ 19) 12) (bcF (σ 18 s))) (tcM σ (wTr (kindf (σ 2 6) s (pf (σ 18 s) (σ 19) 12) (σ 17 s)) (σ 51)))) := by
  refine Cc.intro (by decide +kernel) [some (.ref 5), some (.ref 2), some (.int (nI s))] (fun _ => rfl) rfl (fun _ => Nat.le_of_ble_eq_true rfl) ?_
  intro X hX hR hr
  have r : ∀ {q : Nat}, q ≠ 5 → q ≠ 51 → tcM σ (σ 51, 0) q = σ q := fun h h2 => tcM_r h h2
  refine V_aload_n (pc := 0) (i := 0) hX dX0_askWorth_0 rfl rfl ?_
  refine V_iconst (pc := 1) (v := (nI 0)) hX dX0_askWorth_1 (by decide +kernel) ?_
  refine V_putf (pc := 2) hX fX0_15 gi0_1 dX0_askWorth_2 rfl rfl ?_
  refine Vw.mem tcM_0.symm ?_
  refine V_aload_n (pc := 5) (i := 1) hX dX0_askWorth_5 rfl rfl ?_
  refine V_iload_n (pc := 6) (i := 2) hX dX0_askWorth_6 rfl rfl ?_
  refine V_callVi (pc := 7) hX (hR.mono (by omega)) mX0_19 (c_kindOf s _ hs) dX0_askWorth_7 rfl rfl rfl rfl (Nat.le_of_ble_eq_true rfl) ?_
  rw [r (by decide) (by decide), r (by decide) (by decide), r (by decide) (by decide), r (by decide) (by decide)]
  rcases Classical.em (kindf (σ 2 6) s (pf (σ 18 s) (σ 19) 12) (σ 17 s) = nI 2) with e10_2 | e10_2
  · refine V_lookup (pc := 10) (off := 33) (tgt := 43) hX dX0_askWorth_10 (by decide) (by rw [e10_2]; decide +kernel) (by decide) ?_
    refine V_aload_n (pc := 43) (i := 0) hX dX0_askWorth_43 rfl rfl ?_
    refine V_aload_n (pc := 44) (i := 1) hX dX0_askWorth_44 rfl rfl ?_
    refine V_iload_n (pc := 45) (i := 2) hX dX0_askWorth_45 rfl rfl ?_
    refine V_callVi (pc := 46) hX (hR.mono (by omega)) mX0_29 (c_wNear (σ 51, 0) s σ (Nat.zero_le _) hs) dX0_askWorth_46 rfl rfl rfl rfl (Nat.le_of_ble_eq_true rfl) ?_
    exact V_iret (pc := 49) (st := []) hX hr (by first | rfl | exact bI_nar _ | decide +kernel) dX0_askWorth_49 (⟨by rw [wVal, if_pos e10_2], by rw [wTr, if_pos e10_2]⟩)
  · skip
    rcases Classical.em (kindf (σ 2 6) s (pf (σ 18 s) (σ 19) 12) (σ 17 s) = nI 3) with e10_3 | e10_3
    · refine V_lookup (pc := 10) (off := 26) (tgt := 36) hX dX0_askWorth_10 (by decide) (by rw [e10_3]; decide +kernel) (by decide) ?_
      refine V_aload_n (pc := 36) (i := 0) hX dX0_askWorth_36 rfl rfl ?_
      refine V_aload_n (pc := 37) (i := 1) hX dX0_askWorth_37 rfl rfl ?_
      refine V_iload_n (pc := 38) (i := 2) hX dX0_askWorth_38 rfl rfl ?_
      refine V_callVi (pc := 39) hX (hR.mono (by omega)) mX0_25 (c_wOwn (σ 51, 0) s σ (Nat.zero_le _) hs) dX0_askWorth_39 rfl rfl rfl rfl (Nat.le_of_ble_eq_true rfl) ?_
      exact V_iret (pc := 42) (st := []) hX hr (by first | rfl | exact bI_nar _ | decide +kernel) dX0_askWorth_42 (⟨by rw [wVal, if_neg e10_2, if_pos e10_3], by rw [wTr, if_neg e10_2, if_pos e10_3]⟩)
    · skip
      refine V_lookup (pc := 10) (off := 40) (tgt := 50) hX dX0_askWorth_10 (by decide) (by show Op.lookupswitch.offset [(2, 33), (3, 26)] _ _ = _; rw [lv_osw e10_2 (by decide +kernel), lv_osw e10_3 (by decide +kernel)]; rfl) (by decide) ?_
      refine V_aload_n (pc := 50) (i := 0) hX dX0_askWorth_50 rfl rfl ?_
      refine V_aload_n (pc := 51) (i := 1) hX dX0_askWorth_51 rfl rfl ?_
      refine V_iload_n (pc := 52) (i := 2) hX dX0_askWorth_52 rfl rfl ?_
      refine V_callVi (pc := 53) hX (hR.mono (by omega)) mX0_32 (c_wOpen (σ 51, 0) s σ (Nat.zero_le _) hs) dX0_askWorth_53 rfl rfl rfl rfl (Nat.le_of_ble_eq_true rfl) ?_
      exact V_iret (pc := 56) (st := []) hX hr (by first | rfl | exact bI_nar _ | decide +kernel) dX0_askWorth_56 (⟨by rw [wVal, if_neg e10_2, if_neg e10_3], by rw [wTr, if_neg e10_2, if_neg e10_3]⟩)
set_option maxRecDepth 100000 in
set_option maxHeartbeats 4000000 in
theorem c_askM (s : Nat) (σ : Mem) (hs : s < 10) : Cc yX0_askMark cX0_askMark 3 (some .int) 5 [.ref 5, .ref 2, .int (nI s)] σ (rI (mVal (kindf (σ 2 6) s (pf (σ 18 s) (σ 19) 12) (σ 17 s)) (σ 17 s) (bcF (σ 18 s))) (tcM σ (mTr (kindf (σ 2 6) s (pf (σ 18 s) (σ 19) 12) (σ 17 s)) (σ 51)))) := by
  refine Cc.intro (by decide +kernel) [some (.ref 5), some (.ref 2), some (.int (nI s))] (fun _ => rfl) rfl (fun _ => Nat.le_of_ble_eq_true rfl) ?_
  intro X hX hR hr
  have r : ∀ {q : Nat}, q ≠ 5 → q ≠ 51 → tcM σ (σ 51, 0) q = σ q := fun h h2 => tcM_r h h2
  refine V_aload_n (pc := 0) (i := 0) hX dX0_askMark_0 rfl rfl ?_
  refine V_iconst (pc := 1) (v := (nI 0)) hX dX0_askMark_1 (by decide +kernel) ?_
  refine V_putf (pc := 2) hX fX0_15 gi0_1 dX0_askMark_2 rfl rfl ?_
  refine Vw.mem tcM_0.symm ?_
  refine V_aload_n (pc := 5) (i := 1) hX dX0_askMark_5 rfl rfl ?_
  refine V_iload_n (pc := 6) (i := 2) hX dX0_askMark_6 rfl rfl ?_
  refine V_callVi (pc := 7) hX (hR.mono (by omega)) mX0_19 (c_kindOf s _ hs) dX0_askMark_7 rfl rfl rfl rfl (Nat.le_of_ble_eq_true rfl) ?_
  rw [r (by decide) (by decide), r (by decide) (by decide), r (by decide) (by decide), r (by decide) (by decide)]
  rcases Classical.em (kindf (σ 2 6) s (pf (σ 18 s) (σ 19) 12) (σ 17 s) = nI 2) with e10_2 | e10_2
  · refine V_lookup (pc := 10) (off := 33) (tgt := 43) hX dX0_askMark_10 (by decide) (by rw [e10_2]; decide +kernel) (by decide) ?_
    refine V_aload_n (pc := 43) (i := 0) hX dX0_askMark_43 rfl rfl ?_
    refine V_aload_n (pc := 44) (i := 1) hX dX0_askMark_44 rfl rfl ?_
    refine V_iload_n (pc := 45) (i := 2) hX dX0_askMark_45 rfl rfl ?_
    refine V_callVi (pc := 46) hX (hR.mono (by omega)) mX0_38 (c_mNear (σ 51, 0) s σ (Nat.zero_le _) hs) dX0_askMark_46 rfl rfl rfl rfl (Nat.le_of_ble_eq_true rfl) ?_
    exact V_iret (pc := 49) (st := []) hX hr (by first | rfl | exact bI_nar _ | decide +kernel) dX0_askMark_49 (⟨by rw [mVal, if_pos e10_2], by rw [mTr, if_pos e10_2]⟩)
  · skip
    rcases Classical.em (kindf (σ 2 6) s (pf (σ 18 s) (σ 19) 12) (σ 17 s) = nI 3) with e10_3 | e10_3
    · refine V_lookup (pc := 10) (off := 26) (tgt := 36) hX dX0_askMark_10 (by decide) (by rw [e10_3]; decide +kernel) (by decide) ?_
      refine V_aload_n (pc := 36) (i := 0) hX dX0_askMark_36 rfl rfl ?_
      refine V_aload_n (pc := 37) (i := 1) hX dX0_askMark_37 rfl rfl ?_
      refine V_iload_n (pc := 38) (i := 2) hX dX0_askMark_38 rfl rfl ?_
      refine V_callVi (pc := 39) hX (hR.mono (by omega)) mX0_35 (c_mOwn (σ 51, 0) s σ (Nat.zero_le _) hs) dX0_askMark_39 rfl rfl rfl rfl (Nat.le_of_ble_eq_true rfl) ?_
      exact V_iret (pc := 42) (st := []) hX hr (by first | rfl | exact bI_nar _ | decide +kernel) dX0_askMark_42 (⟨by rw [mVal, if_neg e10_2, if_pos e10_3], by rw [mTr, if_neg e10_2, if_pos e10_3]⟩)
    · skip
      refine V_lookup (pc := 10) (off := 40) (tgt := 50) hX dX0_askMark_10 (by decide) (by show Op.lookupswitch.offset [(2, 33), (3, 26)] _ _ = _; rw [lv_osw e10_2 (by decide +kernel), lv_osw e10_3 (by decide +kernel)]; rfl) (by decide) ?_
      refine V_aload_n (pc := 50) (i := 0) hX dX0_askMark_50 rfl rfl ?_
      refine V_aload_n (pc := 51) (i := 1) hX dX0_askMark_51 rfl rfl ?_
      refine V_iload_n (pc := 52) (i := 2) hX dX0_askMark_52 rfl rfl ?_
      refine V_callVi (pc := 53) hX (hR.mono (by omega)) mX0_41 (c_mAny (σ 51, 0) s σ (Nat.zero_le _) hs) dX0_askMark_53 rfl rfl rfl rfl (Nat.le_of_ble_eq_true rfl) ?_
      exact V_iret (pc := 56) (st := []) hX hr (by first | rfl | exact bI_nar _ | decide +kernel) dX0_askMark_56 (⟨by rw [mVal, if_neg e10_2, if_neg e10_3], by rw [mTr, if_neg e10_2, if_neg e10_3]⟩)
/-- ask: of the numbers of sets n, their costs, things, prices, bought ones; p: how many things, as it is counted -/
def askF (n : Nat) (c th pr : Nat → Int32) (bo : Int32) (p : Nat → Int32) (x w : Int32) : Int32 := if inr x n then (if w = nI 0 then wVal (kindf bo (tn x) (pf (th (tn x)) pr 12) (c (tn x))) (c (tn x)) (pf (th (tn x)) pr 12) (p (tn x)) else if w = nI 1 then mVal (kindf bo (tn x) (pf (th (tn x)) pr 12) (c (tn x))) (c (tn x)) (p (tn x)) else (-1000001)) else (-1000001)
def askT (n : Nat) (c th pr : Nat → Int32) (bo : Int32) (g : (Nat → Int32) × Nat) (x w : Int32) : (Nat → Int32) × Nat := if inr x n then (if w = nI 0 then wTr (kindf bo (tn x) (pf (th (tn x)) pr 12) (c (tn x))) g.1 else if w = nI 1 then mTr (kindf bo (tn x) (pf (th (tn x)) pr 12) (c (tn x))) g.1 else g) else g
set_option maxRecDepth 100000 in
set_option maxHeartbeats 4000000 in
theorem c_ask (n tr : Nat) (x w : Int32) (σ : Mem) (hn : σ 2 3 = nI n) (hn10 : n ≤ 10) (ht : σ 5 1 = nI tr) : Cc yX5_ask cX5_ask 3 (some .int) 6 [.ref 0, .int x, .int w] σ (rI (askF n (σ 17) (σ 18) (σ 19) (σ 2 6) (fun s => bcF (σ 18 s)) x w) (tcM σ (askT n (σ 17) (σ 18) (σ 19) (σ 2 6) (σ 51, tr) x w))) := by
  refine Cc.intro (by decide +kernel) [some (.ref 0), some (.int x), some (.int w)] (fun _ => rfl) rfl (fun _ => Nat.le_of_ble_eq_true rfl) ?_
  intro X hX hR hr
  have e0 : σ = tcM σ (σ 51, tr) := by unfold tcM; rw [mf_id, ← ht, mu_self]
  refine V_aload_n (pc := 0) (i := 0) hX dX5_ask_0 rfl rfl ?_
  refine V_getr (pc := 1) hX fX5_19 dX5_ask_1 rfl rfl ?_
  refine V_iload_n (pc := 4) (i := 1) hX dX5_ask_4 rfl rfl ?_
  refine V_callVi (pc := 5) hX (hR.mono (by omega)) mX5_123 (c_isSetN x n _ hn hn10) dX5_ask_5 rfl rfl rfl rfl (Nat.le_of_ble_eq_true rfl) ?_
  refine V_if_neB (pc := 8) (tgt := 14) hX dX5_ask_8 (by decide) (fun h8 => ?_) (fun h8 => ?_)
  · obtain ⟨s, hs, rfl⟩ := inr_of h8 (by omega)
    have ts : tn (nI s) = s := tn_nI (by omega)
    refine V_iload_n (pc := 14) (i := 2) hX dX5_ask_14 rfl rfl ?_
    rcases Classical.em (w = nI 0) with e15_0 | e15_0
    · refine V_lookup (pc := 15) (off := 25) (tgt := 40) hX dX5_ask_15 (by decide) (by rw [e15_0]; decide +kernel) (by decide) ?_
      refine V_aload_n (pc := 40) (i := 0) hX dX5_ask_40 rfl rfl ?_
      refine V_getr (pc := 41) hX fX5_40 dX5_ask_41 rfl rfl ?_
      refine V_aload_n (pc := 44) (i := 0) hX dX5_ask_44 rfl rfl ?_
      refine V_getr (pc := 45) hX fX5_19 dX5_ask_45 rfl rfl ?_
      refine V_iload_n (pc := 48) (i := 1) hX dX5_ask_48 rfl rfl ?_
      refine V_callVi (pc := 49) hX (hR.mono (by omega)) mX5_198 (c_askW s σ (by omega)) dX5_ask_49 rfl rfl rfl rfl (Nat.le_of_ble_eq_true rfl) ?_
      exact V_iret (pc := 52) (st := []) hX hr (by first | rfl | exact bI_nar _ | decide +kernel) dX5_ask_52 (⟨by rw [askF, h8, if_pos rfl, if_pos e15_0, ts], by rw [askT, h8, if_pos rfl, if_pos e15_0, ts]⟩)
    · skip
      rcases Classical.em (w = nI 1) with e15_1 | e15_1
      · refine V_lookup (pc := 15) (off := 38) (tgt := 53) hX dX5_ask_15 (by decide) (by rw [e15_1]; decide +kernel) (by decide) ?_
        refine V_aload_n (pc := 53) (i := 0) hX dX5_ask_53 rfl rfl ?_
        refine V_getr (pc := 54) hX fX5_40 dX5_ask_54 rfl rfl ?_
        refine V_aload_n (pc := 57) (i := 0) hX dX5_ask_57 rfl rfl ?_
        refine V_getr (pc := 58) hX fX5_19 dX5_ask_58 rfl rfl ?_
        refine V_iload_n (pc := 61) (i := 1) hX dX5_ask_61 rfl rfl ?_
        refine V_callVi (pc := 62) hX (hR.mono (by omega)) mX5_202 (c_askM s σ (by omega)) dX5_ask_62 rfl rfl rfl rfl (Nat.le_of_ble_eq_true rfl) ?_
        exact V_iret (pc := 65) (st := []) hX hr (by first | rfl | exact bI_nar _ | decide +kernel) dX5_ask_65 (⟨by rw [askF, h8, if_pos rfl, if_neg e15_0, if_pos e15_1, ts], by rw [askT, h8, if_pos rfl, if_neg e15_0, if_pos e15_1, ts]⟩)
      · skip
        refine V_lookup (pc := 15) (off := 51) (tgt := 66) hX dX5_ask_15 (by decide) (by show Op.lookupswitch.offset [(0, 25), (1, 38)] _ _ = _; rw [lv_osw e15_0 (by decide +kernel), lv_osw e15_1 (by decide +kernel)]; rfl) (by decide) ?_
        refine V_ldc (pc := 66) hX kX5_52 dX5_ask_66 ?_
        exact V_iret (pc := 68) (st := []) hX hr (by first | rfl | exact bI_nar _ | decide +kernel) dX5_ask_68 (⟨by rw [askF, h8, if_pos rfl, if_neg e15_0, if_neg e15_1], by rw [askT, h8, if_pos rfl, if_neg e15_0, if_neg e15_1]; exact e0⟩)
  · refine V_ldc (pc := 11) hX kX5_52 dX5_ask_11 ?_
    exact V_iret (pc := 13) (st := []) hX hr (by first | rfl | exact bI_nar _ | decide +kernel) dX5_ask_13 (⟨by rw [askF, h8]; rfl, by rw [askT, h8]; exact e0⟩)
def traceF (g : (Nat → Int32) × Nat) (x : Int32) : Int32 := if inr x g.2 then g.1 (tn x) else (-1000000)
set_option maxRecDepth 100000 in
set_option maxHeartbeats 4000000 in
theorem c_trace (tr : Nat) (x : Int32) (σ : Mem) (ht : σ 5 1 = nI tr) (htr : tr ≤ 16) : Cc yX5_trace cX5_trace 2 (some .int) 1 [.ref 0, .int x] σ (rI (traceF (σ 51, tr) x) σ) := by
  refine Cc.intro (by decide +kernel) [some (.ref 0), some (.int x)] (fun _ => rfl) rfl (fun _ => Nat.le_of_ble_eq_true rfl) ?_
  intro X hX hR hr
  refine V_iload_n (pc := 0) (i := 1) hX dX5_trace_0 rfl rfl ?_
  refine V_aload_n (pc := 1) (i := 0) hX dX5_trace_1 rfl rfl ?_
  refine V_getr (pc := 2) hX fX5_40 dX5_trace_2 rfl rfl ?_
  refine V_getf (pc := 5) hX fX5_205 dX5_trace_5 rfl rfl ?_
  rw [ht]
  refine V_callSi (pc := 8) hX (hR.mono (by omega)) mX5_48 (c_isUnderN x tr (by omega) _) dX5_trace_8 rfl rfl rfl (Nat.le_of_ble_eq_true rfl) ?_
  refine V_if_eqB (pc := 11) (tgt := 26) hX dX5_trace_11 (by decide) (fun h11 => ?_) (fun h11 => ?_)
  · refine V_ldc (pc := 26) hX kX5_211 dX5_trace_26 ?_
    exact V_iret (pc := 28) (st := []) hX hr (by first | rfl | exact bI_nar _ | decide +kernel) dX5_trace_28 (⟨by rw [traceF, h11]; rfl, rfl⟩)
  · obtain ⟨j, hj, rfl⟩ := inr_of h11 (by omega)
    refine V_aload_n (pc := 14) (i := 0) hX dX5_trace_14 rfl rfl ?_
    refine V_getr (pc := 15) hX fX5_40 dX5_trace_15 rfl rfl ?_
    refine V_getr (pc := 18) hX fX5_208 dX5_trace_18 rfl rfl ?_
    refine V_iload_n (pc := 21) (i := 1) hX dX5_trace_21 rfl rfl ?_
    refine V_iald (pc := 22) hX dX5_trace_22 (rfl) (rfl) (by omega) (by decide) ?_
    refine V_goto (pc := 23) (tgt := 28) hX dX5_trace_23 (by decide) ?_
    exact V_iret (pc := 28) (st := []) hX hr (by first | rfl | exact bI_nar _ | decide +kernel) dX5_trace_28 (⟨by rw [traceF, h11, if_pos rfl, tn_nI (by omega)], rfl⟩)
set_option maxRecDepth 100000 in
set_option maxHeartbeats 4000000 in
theorem c_status (σ : Mem) : Cc yX5_status cX5_status 1 (some .int) 0 [.ref 0] σ (rI (σ 0 5) σ) := by
  refine Cc.intro (by decide +kernel) [some (.ref 0)] (fun _ => rfl) rfl (fun _ => Nat.le_of_ble_eq_true rfl) ?_
  intro X hX hR hr
  refine V_aload_n (pc := 0) (i := 0) hX dX5_status_0 rfl rfl ?_
  refine V_getf (pc := 1) hX fX5_44 dX5_status_1 rfl rfl ?_
  exact V_iret (pc := 4) (st := []) hX hr (by first | rfl | exact bI_nar _ | decide +kernel) dX5_status_4 (⟨rfl, rfl⟩)
def asF (n : Nat) (c th pr : Nat → Int32) (bo x k : Int32) : Int32 := if inr x n && inr k 4 then (if kisf k (kindf bo (tn x) (pf (th (tn x)) pr 12) (c (tn x))) then c (tn x) else (-1000013)) else (-1000001)
def asS (n : Nat) (c th pr : Nat → Int32) (bo x k st : Int32) : Int32 := if inr x n && inr k 4 then (if kisf k (kindf bo (tn x) (pf (th (tn x)) pr 12) (c (tn x))) then nI 0 else nI 3) else st
set_option maxRecDepth 100000 in
set_option maxHeartbeats 4000000 in
theorem c_as (n : Nat) (x k : Int32) (σ : Mem) (hn : σ 2 3 = nI n) (hn10 : n ≤ 10) : Cc yX5_as cX5_as 3 (some .int) 5 [.ref 0, .int x, .int k] σ (rI (asF n (σ 17) (σ 18) (σ 19) (σ 2 6) x k) (mu σ 0 5 (asS n (σ 17) (σ 18) (σ 19) (σ 2 6) x k (σ 0 5)))) := by
  refine Cc.intro (by decide +kernel) [some (.ref 0), some (.int x), some (.int k)] (fun _ => rfl) rfl (fun _ => Nat.le_of_ble_eq_true rfl) ?_
  intro X hX hR hr
  refine V_aload_n (pc := 0) (i := 0) hX dX5_as_0 rfl rfl ?_
  refine V_getr (pc := 1) hX fX5_19 dX5_as_1 rfl rfl ?_
  refine V_iload_n (pc := 4) (i := 1) hX dX5_as_4 rfl rfl ?_
  refine V_callVi (pc := 5) hX (hR.mono (by omega)) mX5_123 (c_isSetN x n _ hn hn10) dX5_as_5 rfl rfl rfl rfl (Nat.le_of_ble_eq_true rfl) ?_
  refine V_if_eqB (pc := 8) (tgt := 19) hX dX5_as_8 (by decide) (fun h8 => ?_) (fun h8 => ?_)
  · refine V_ldc (pc := 19) hX kX5_52 dX5_as_19 ?_
    exact V_iret (pc := 21) (st := []) hX hr (by first | rfl | exact bI_nar _ | decide +kernel) dX5_as_21 (⟨by rw [asF, h8]; rfl, by rw [asS, h8]; exact (mu_self σ 0 5).symm⟩)
  · refine V_iload_n (pc := 11) (i := 2) hX dX5_as_11 rfl rfl ?_
    refine V_iconst (pc := 12) (v := (nI 4)) hX dX5_as_12 (by decide +kernel) ?_
    refine V_callSi (pc := 13) hX (hR.mono (by omega)) mX5_48 (c_isUnderN k 4 (by decide) _) dX5_as_13 rfl rfl rfl (Nat.le_of_ble_eq_true rfl) ?_
    refine V_if_neB (pc := 16) (tgt := 22) hX dX5_as_16 (by decide) (fun h16 => ?_) (fun h16 => ?_)
    · obtain ⟨s, hs, rfl⟩ := inr_of h8 (by omega)
      have ts : tn (nI s) = s := tn_nI (by omega)
      have eo : (inr (nI s) n && inr k 4) = true := by rw [h8, h16]; rfl
      refine V_aload_n (pc := 22) (i := 0) hX dX5_as_22 rfl rfl ?_
      refine V_aload_n (pc := 23) (i := 0) hX dX5_as_23 rfl rfl ?_
      refine V_getr (pc := 24) hX fX5_19 dX5_as_24 rfl rfl ?_
      refine V_iload_n (pc := 27) (i := 1) hX dX5_as_27 rfl rfl ?_
      refine V_iload_n (pc := 28) (i := 2) hX dX5_as_28 rfl rfl ?_
      refine V_callVi (pc := 29) hX (hR.mono (by omega)) mX5_195 (c_isOfKind s k _ (by omega)) dX5_as_29 rfl rfl rfl rfl (Nat.le_of_ble_eq_true rfl) ?_
      refine V_if_eqB (pc := 32) (tgt := 39) hX dX5_as_32 (by decide) (fun h32 => ?_) (fun h32 => ?_)
      · refine V_iconst (pc := 39) (v := (nI 3)) hX dX5_as_39 (by decide +kernel) ?_
        refine V_putf (pc := 40) hX fX5_44 gi5_5 dX5_as_40 rfl rfl ?_
        refine V_aload_n (pc := 43) (i := 0) hX dX5_as_43 rfl rfl ?_
        refine V_getf (pc := 44) hX fX5_44 dX5_as_44 rfl rfl ?_
        rw [mu_at]
        refine V_if_ne (pc := 47) (tgt := 62) hX dX5_as_47 (by decide) (fun _ => ?_) (fun h => absurd h (by decide +kernel))
        refine V_ldc (pc := 62) hX kX5_57 dX5_as_62 ?_
        refine V_aload_n (pc := 64) (i := 0) hX dX5_as_64 rfl rfl ?_
        refine V_getf (pc := 65) hX fX5_44 dX5_as_65 rfl rfl ?_
        rw [mu_at]
        refine V_isub (pc := 68) hX dX5_as_68 ?_
        exact V_iret (pc := 69) (st := []) hX hr rfl dX5_as_69 ⟨by rw [asF, eo, if_pos rfl, ts, h32]; rfl, by rw [asS, eo, if_pos rfl, ts, h32]; rfl⟩
      · refine V_iconst (pc := 35) (v := (nI 0)) hX dX5_as_35 (by decide +kernel) ?_
        refine V_goto (pc := 36) (tgt := 40) hX dX5_as_36 (by decide) ?_
        refine V_putf (pc := 40) hX fX5_44 gi5_5 dX5_as_40 rfl rfl ?_
        refine V_aload_n (pc := 43) (i := 0) hX dX5_as_43 rfl rfl ?_
        refine V_getf (pc := 44) hX fX5_44 dX5_as_44 rfl rfl ?_
        rw [mu_at]
        refine V_if_ne (pc := 47) (tgt := 62) hX dX5_as_47 (by decide) (fun h47 => absurd h47 (by intro q; exact q (by decide +kernel))) (fun h47 => ?_)
        refine V_aload_n (pc := 50) (i := 0) hX dX5_as_50 rfl rfl ?_
        refine V_getr (pc := 51) hX fX5_19 dX5_as_51 rfl rfl ?_
        refine V_getr (pc := 54) hX fX5_126 dX5_as_54 rfl rfl ?_
        refine V_iload_n (pc := 57) (i := 1) hX dX5_as_57 rfl rfl ?_
        refine V_iald (pc := 58) hX dX5_as_58 (rfl) (rfl) (by omega) (by decide) ?_
        refine V_goto (pc := 59) (tgt := 69) hX dX5_as_59 (by decide) ?_
        exact V_iret (pc := 69) (st := []) hX hr (by first | rfl | exact bI_nar _ | decide +kernel) dX5_as_69 (⟨by rw [asF, eo, if_pos rfl, ts, h32]; rfl, by rw [asS, eo, if_pos rfl, ts, h32]; rfl⟩)
    · refine V_ldc (pc := 19) hX kX5_52 dX5_as_19 ?_
      exact V_iret (pc := 21) (st := []) hX hr (by first | rfl | exact bI_nar _ | decide +kernel) dX5_as_21 (⟨by rw [asF, h8, h16]; rfl, by rw [asS, h8, h16]; exact (mu_self σ 0 5).symm⟩)
/-- count: v is what the kinds of things are in number -/
def countF (v : Nat → Int32) (w : Int32) : Int32 := if w = nI 0 then v 0 else if w = nI 1 then v 1 else if w = nI 2 then v 2 else if w = nI 3 then v 3 else if w = nI 4 then v 4 else if w = nI 5 then v 5 else if w = nI 6 then v 6 else (-1000001)
def cntC (σ : Mem) (n : Nat) : Nat → Int32 := fun k => match k with
  | 0 => nI (presf (σ 16) 8)
  | 1 => σ 2 3
  | 2 => bcF (σ 2 6)
  | 3 => nI (nearf (σ 2 6) (σ 17) (σ 18) (σ 19) n)
  | 4 => σ 3 6
  | 5 => σ 4 5
  | _ => σ 4 6
set_option maxRecDepth 100000 in
set_option maxHeartbeats 4000000 in
theorem c_count (n : Nat) (w : Int32) (σ : Mem) (hn : σ 2 3 = nI n) (hn10 : n ≤ 10) : Cc yX5_count cX5_count 2 (some .int) 5 [.ref 0, .int w] σ (rI (countF (cntC σ n) w) σ) := by
  refine Cc.intro (by decide +kernel) [some (.ref 0), some (.int w)] (fun _ => rfl) rfl (fun _ => Nat.le_of_ble_eq_true rfl) ?_
  intro X hX hR hr
  refine V_iload_n (pc := 0) (i := 1) hX dX5_count_0 rfl rfl ?_
  rcases Classical.em (w = nI 0) with e1_0 | e1_0
  · refine V_tableIn (pc := 1) (off := 43) (tgt := 44) hX dX5_count_1 (by rw [e1_0]; decide +kernel) (by rw [e1_0]; decide +kernel) (by rw [e1_0]; decide +kernel) (by decide) ?_
    refine V_aload_n (pc := 44) (i := 0) hX dX5_count_44 rfl rfl ?_
    refine V_getr (pc := 45) hX fX5_10 dX5_count_45 rfl rfl ?_
    refine V_callVi (pc := 48) hX (hR.mono (by omega)) mX5_212 (c_present _) dX5_count_48 rfl rfl rfl rfl (Nat.le_of_ble_eq_true rfl) ?_
    exact V_iret (pc := 51) (st := []) hX hr (by first | rfl | exact bI_nar _ | decide +kernel) dX5_count_51 (⟨by rw [countF, if_pos e1_0]; rfl, rfl⟩)
  · skip
    rcases Classical.em (w = nI 1) with e1_1 | e1_1
    · refine V_tableIn (pc := 1) (off := 51) (tgt := 52) hX dX5_count_1 (by rw [e1_1]; decide +kernel) (by rw [e1_1]; decide +kernel) (by rw [e1_1]; decide +kernel) (by decide) ?_
      refine V_aload_n (pc := 52) (i := 0) hX dX5_count_52 rfl rfl ?_
      refine V_getr (pc := 53) hX fX5_19 dX5_count_53 rfl rfl ?_
      refine V_getf (pc := 56) hX fX5_87 dX5_count_56 rfl rfl ?_
      exact V_iret (pc := 59) (st := []) hX hr (by first | rfl | exact bI_nar _ | decide +kernel) dX5_count_59 (⟨by rw [countF, if_neg e1_0, if_pos e1_1]; rfl, rfl⟩)
    · skip
      rcases Classical.em (w = nI 2) with e1_2 | e1_2
      · refine V_tableIn (pc := 1) (off := 59) (tgt := 60) hX dX5_count_1 (by rw [e1_2]; decide +kernel) (by rw [e1_2]; decide +kernel) (by rw [e1_2]; decide +kernel) (by decide) ?_
        refine V_aload_n (pc := 60) (i := 0) hX dX5_count_60 rfl rfl ?_
        refine V_getr (pc := 61) hX fX5_19 dX5_count_61 rfl rfl ?_
        refine V_getf (pc := 64) hX fX5_120 dX5_count_64 rfl rfl ?_
        refine V_callSi (pc := 67) hX (hR.mono (by omega)) mX5_215 (c_bitCount _ _) dX5_count_67 rfl rfl rfl (Nat.le_of_ble_eq_true rfl) ?_
        exact V_iret (pc := 70) (st := []) hX hr (by first | rfl | exact bI_nar _ | decide +kernel) dX5_count_70 (⟨by rw [countF, if_neg e1_0, if_neg e1_1, if_pos e1_2]; rfl, rfl⟩)
      · skip
        rcases Classical.em (w = nI 3) with e1_3 | e1_3
        · refine V_tableIn (pc := 1) (off := 70) (tgt := 71) hX dX5_count_1 (by rw [e1_3]; decide +kernel) (by rw [e1_3]; decide +kernel) (by rw [e1_3]; decide +kernel) (by decide) ?_
          refine V_aload_n (pc := 71) (i := 0) hX dX5_count_71 rfl rfl ?_
          refine V_getr (pc := 72) hX fX5_19 dX5_count_72 rfl rfl ?_
          refine V_callVi (pc := 75) hX (hR.mono (by omega)) mX5_220 (c_nears n _ hn hn10) dX5_count_75 rfl rfl rfl rfl (Nat.le_of_ble_eq_true rfl) ?_
          exact V_iret (pc := 78) (st := []) hX hr (by first | rfl | exact bI_nar _ | decide +kernel) dX5_count_78 (⟨by rw [countF, if_neg e1_0, if_neg e1_1, if_neg e1_2, if_pos e1_3]; rfl, rfl⟩)
        · skip
          rcases Classical.em (w = nI 4) with e1_4 | e1_4
          · refine V_tableIn (pc := 1) (off := 78) (tgt := 79) hX dX5_count_1 (by rw [e1_4]; decide +kernel) (by rw [e1_4]; decide +kernel) (by rw [e1_4]; decide +kernel) (by decide) ?_
            refine V_aload_n (pc := 79) (i := 0) hX dX5_count_79 rfl rfl ?_
            refine V_getr (pc := 80) hX fX5_26 dX5_count_80 rfl rfl ?_
            refine V_getf (pc := 83) hX fX5_148 dX5_count_83 rfl rfl ?_
            exact V_iret (pc := 86) (st := []) hX hr (by first | rfl | exact bI_nar _ | decide +kernel) dX5_count_86 (⟨by rw [countF, if_neg e1_0, if_neg e1_1, if_neg e1_2, if_neg e1_3, if_pos e1_4]; rfl, rfl⟩)
          · skip
            rcases Classical.em (w = nI 5) with e1_5 | e1_5
            · refine V_tableIn (pc := 1) (off := 86) (tgt := 87) hX dX5_count_1 (by rw [e1_5]; decide +kernel) (by rw [e1_5]; decide +kernel) (by rw [e1_5]; decide +kernel) (by decide) ?_
              refine V_aload_n (pc := 87) (i := 0) hX dX5_count_87 rfl rfl ?_
              refine V_getr (pc := 88) hX fX5_33 dX5_count_88 rfl rfl ?_
              refine V_getf (pc := 91) hX fX5_165 dX5_count_91 rfl rfl ?_
              exact V_iret (pc := 94) (st := []) hX hr (by first | rfl | exact bI_nar _ | decide +kernel) dX5_count_94 (⟨by rw [countF, if_neg e1_0, if_neg e1_1, if_neg e1_2, if_neg e1_3, if_neg e1_4, if_pos e1_5]; rfl, rfl⟩)
            · skip
              rcases Classical.em (w = nI 6) with e1_6 | e1_6
              · refine V_tableIn (pc := 1) (off := 94) (tgt := 95) hX dX5_count_1 (by rw [e1_6]; decide +kernel) (by rw [e1_6]; decide +kernel) (by rw [e1_6]; decide +kernel) (by decide) ?_
                refine V_aload_n (pc := 95) (i := 0) hX dX5_count_95 rfl rfl ?_
                refine V_getr (pc := 96) hX fX5_33 dX5_count_96 rfl rfl ?_
                refine V_getf (pc := 99) hX fX5_223 dX5_count_99 rfl rfl ?_
                exact V_iret (pc := 102) (st := []) hX hr (by first | rfl | exact bI_nar _ | decide +kernel) dX5_count_102 (⟨by rw [countF, if_neg e1_0, if_neg e1_1, if_neg e1_2, if_neg e1_3, if_neg e1_4, if_neg e1_5, if_pos e1_6]; rfl, rfl⟩)
              · skip
                refine V_tableOut (pc := 1) (tgt := 103) hX dX5_count_1 (tsw_out 6 (by
                    intro j hj
                    rcases (show j = 0 ∨ j = 1 ∨ j = 2 ∨ j = 3 ∨ j = 4 ∨ j = 5 ∨ j = 6 by omega) with rfl | rfl | rfl | rfl | rfl | rfl | rfl
                    · exact e1_0
                    · exact e1_1
                    · exact e1_2
                    · exact e1_3
                    · exact e1_4
                    · exact e1_5
                    · exact e1_6)) (by decide) ?_
                refine V_ldc (pc := 103) hX kX5_52 dX5_count_103 ?_
                exact V_iret (pc := 105) (st := []) hX hr (by first | rfl | exact bI_nar _ | decide +kernel) dX5_count_105 (⟨by rw [countF, if_neg e1_0, if_neg e1_1, if_neg e1_2, if_neg e1_3, if_neg e1_4, if_neg e1_5, if_neg e1_6], rfl⟩)

