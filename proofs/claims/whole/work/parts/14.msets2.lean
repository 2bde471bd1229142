/-- the things and the costs of the sets among the first k that the number s names -/
def allf (th : Nat → Int32) (s : Nat) : Nat → Int32
  | 0 => nI 0
  | k + 1 => if bt (nI s) k then allf th s k ||| th k else allf th s k
def sumf (c : Nat → Int32) (s : Nat) : Nat → Int32
  | 0 => nI 0
  | k + 1 => if bt (nI s) k then sumf c s k + c k else sumf c s k
def bestf (c th : Nat → Int32) (dem : Int32) (n : Nat) : Nat → Int32
  | 0 => (-1000000)
  | s + 1 => if dem &&& (allf th s n ^^^ (-1)) = 0 ∧ (bestf c th dem n s = (-1000000) ∨ sumf c s n < bestf c th dem n s) then sumf c s n else bestf c th dem n s
set_option maxRecDepth 100000 in
set_option maxHeartbeats 4000000 in
theorem l_best2 {n s : Nat} {b : Int32} {X : XC} {P : Option Value → Mem → Prop} {σ : Mem} (hX : Cok X RX6 cX6_bestOfSets 6) (hR : Rok X 0) (hr : Ret X (some .int) P) (hn : σ 52 5 = nI n) (hn10 : n ≤ 10)
    (kk : Vw X 70 [some (.ref 52), some (.int b), some (.int (nI s)), some (.int (allf (σ 57) s n)), some (.int (sumf (σ 56) s n)), some (.int (nI n))] [] σ) (k : Nat) (hk : k ≤ n) :
    Vw X 23 [some (.ref 52), some (.int b), some (.int (nI s)), some (.int (allf (σ 57) s k)), some (.int (sumf (σ 56) s k)), some (.int (nI k))] [] σ := by
  refine V_iload (pc := 23) (i := 5) hX dX6_bestOfSets_23 rfl ?_
  refine V_aload_n (pc := 25) (i := 0) hX dX6_bestOfSets_25 rfl rfl ?_
  refine V_getf (pc := 26) hX fX6_90 dX6_bestOfSets_26 rfl rfl ?_
  rw [hn]
  refine V_icmp_geN (pc := 29) (tgt := 70) hX dX6_bestOfSets_29 (by decide) (by omega) (by omega) (fun h29 => ?_) (fun h29 => ?_)
  · obtain rfl : k = n := by omega
    exact kk
  · refine V_iload_n (pc := 32) (i := 2) hX dX6_bestOfSets_32 rfl rfl ?_
    refine V_iload (pc := 33) (i := 5) hX dX6_bestOfSets_33 rfl ?_
    refine V_ishr (pc := 35) hX dX6_bestOfSets_35 ?_
    refine V_iconst (pc := 36) (v := (nI 1)) hX dX6_bestOfSets_36 (by decide +kernel) ?_
    refine V_iand (pc := 37) hX dX6_bestOfSets_37 ?_
    refine V_iconst (pc := 38) (v := (nI 1)) hX dX6_bestOfSets_38 (by decide +kernel) ?_
    refine V_icmp_neS (pc := 39) (tgt := 64) hX dX6_bestOfSets_39 (by decide) (by omega) (fun h39 => ?_) (fun h39 => ?_)
    · refine V_iinc5 (pc := 64) hX dX6_bestOfSets_64 rfl (iinc1 _) ?_
      refine V_goto (pc := 67) (tgt := 23) hX dX6_bestOfSets_67 (by decide) ?_
      have ih := l_best2 hX hR hr hn hn10 kk (k + 1) (by omega)
      simp only [allf, sumf, h39, ↓reduceIte, Bool.false_eq_true] at ih
      exact ih
    · refine V_iload_n (pc := 42) (i := 3) hX dX6_bestOfSets_42 rfl rfl ?_
      refine V_aload_n (pc := 43) (i := 0) hX dX6_bestOfSets_43 rfl rfl ?_
      refine V_getr (pc := 44) hX fX6_22 dX6_bestOfSets_44 rfl rfl ?_
      refine V_iload (pc := 47) (i := 5) hX dX6_bestOfSets_47 rfl ?_
      refine V_iald (pc := 49) hX dX6_bestOfSets_49 (rfl) (rfl) (by omega) (by decide) ?_
      refine V_ior (pc := 50) hX dX6_bestOfSets_50 ?_
      refine V_istore3 (pc := 51) hX dX6_bestOfSets_51 rfl ?_
      refine V_iload (pc := 52) (i := 4) hX dX6_bestOfSets_52 rfl ?_
      refine V_aload_n (pc := 54) (i := 0) hX dX6_bestOfSets_54 rfl rfl ?_
      refine V_getr (pc := 55) hX fX6_19 dX6_bestOfSets_55 rfl rfl ?_
      refine V_iload (pc := 58) (i := 5) hX dX6_bestOfSets_58 rfl ?_
      refine V_iald (pc := 60) hX dX6_bestOfSets_60 (rfl) (rfl) (by omega) (by decide) ?_
      refine V_iadd (pc := 61) hX dX6_bestOfSets_61 ?_
      refine V_istore4 (pc := 62) hX dX6_bestOfSets_62 rfl ?_
      refine V_iinc5 (pc := 64) hX dX6_bestOfSets_64 rfl (iinc1 _) ?_
      refine V_goto (pc := 67) (tgt := 23) hX dX6_bestOfSets_67 (by decide) ?_
      have ih := l_best2 hX hR hr hn hn10 kk (k + 1) (by omega)
      simp only [allf, sumf, h39, ↓reduceIte, Bool.false_eq_true] at ih
      exact ih
termination_by n - k
set_option maxRecDepth 100000 in
set_option maxHeartbeats 4000000 in
theorem l_best1 {n : Nat} {X : XC} {P : Option Value → Mem → Prop} {σ : Mem} (hX : Cok X RX6 cX6_bestOfSets 6) (hR : Rok X 0) (hr : Ret X (some .int) P) (hn : σ 52 5 = nI n) (hn10 : n ≤ 10) (hp : P (some (.int (bestf (σ 56) (σ 57) (σ 52 9) n (2 ^ n)))) σ) (s : Nat) (hs : s ≤ 2 ^ n) (z3 z4 z5 : Option Value) (hz : nol [z3, z4, z5] = true) :
    Vw X 5 [some (.ref 52), some (.int (bestf (σ 56) (σ 57) (σ 52 9) n s)), some (.int (nI s)), z3, z4, z5] [] σ := by
  have h1024 : 2 ^ n ≤ 1024 := Nat.pow_le_pow_right (n := 2) (by decide) hn10
  have hz3 : ∀ a : Int32, nol [some (Value.ref 52), some (.int a), some (.int (nI s)), z3, z4, z5] = true := fun _ => hz
  have hz4 : ∀ a b : Int32, nol [some (Value.ref 52), some (.int a), some (.int (nI s)), some (.int b), z4, z5] = true := fun _ _ => by
    cases z3 with
    | none => exact hz
    | some v => cases v <;> first | exact hz | (simp [nol] at hz)
  have hz5 : ∀ a b d : Int32, nol [some (Value.ref 52), some (.int a), some (.int (nI s)), some (.int b), some (.int d), z5] = true := fun _ _ _ => by
    have h2 : nol [z4, z5] = true := by
      cases z3 with
      | none => exact hz
      | some v => cases v <;> first | exact hz | (simp [nol] at hz)
    cases z4 with
    | none => exact h2
    | some v => cases v <;> first | exact h2 | (simp [nol] at h2)
  have k70 : s < 2 ^ n → Vw X 70 [some (.ref 52), some (.int (bestf (σ 56) (σ 57) (σ 52 9) n s)), some (.int (nI s)), some (.int (allf (σ 57) s n)), some (.int (sumf (σ 56) s n)), some (.int (nI n))] [] σ := by
    intro hlt
    refine V_aload_n (pc := 70) (i := 0) hX dX6_bestOfSets_70 rfl rfl ?_
    refine V_getf (pc := 71) hX fX6_100 dX6_bestOfSets_71 rfl rfl ?_
    refine V_iload_n (pc := 74) (i := 3) hX dX6_bestOfSets_74 rfl rfl ?_
    refine V_iconst (pc := 75) (v := (-1)) hX dX6_bestOfSets_75 (by decide +kernel) ?_
    refine V_ixor (pc := 76) hX dX6_bestOfSets_76 ?_
    refine V_iand (pc := 77) hX dX6_bestOfSets_77 ?_
    refine V_if_ne (pc := 78) (tgt := 98) hX dX6_bestOfSets_78 (by decide) (fun h78 => ?_) (fun h78 => ?_)
    · refine V_iload_n (pc := 98) (i := 1) hX dX6_bestOfSets_98 rfl rfl ?_
      refine V_istore1 (pc := 99) hX dX6_bestOfSets_99 rfl ?_
      refine V_iinc2 (pc := 100) hX dX6_bestOfSets_100 rfl (iinc1 _) ?_
      refine V_goto (pc := 103) (tgt := 5) hX dX6_bestOfSets_103 (by decide) ?_
      have ih := l_best1 hX hR hr hn hn10 hp (s + 1) (by omega) (some (.int (allf (σ 57) s n))) (some (.int (sumf (σ 56) s n))) (some (.int (nI n))) rfl
      rw [bestf, if_neg (fun q => h78 q.1)] at ih
      exact ih
    · refine V_iload_n (pc := 81) (i := 1) hX dX6_bestOfSets_81 rfl rfl ?_
      refine V_ldc (pc := 82) hX kX6_126 dX6_bestOfSets_82 ?_
      refine V_icmp_eq (pc := 84) (tgt := 93) hX dX6_bestOfSets_84 (by decide) (fun h84 => ?_) (fun h84 => ?_)
      · refine V_iload (pc := 93) (i := 4) hX dX6_bestOfSets_93 rfl ?_
        refine V_goto (pc := 95) (tgt := 99) hX dX6_bestOfSets_95 (by decide) ?_
        refine V_istore1 (pc := 99) hX dX6_bestOfSets_99 rfl ?_
        refine V_iinc2 (pc := 100) hX dX6_bestOfSets_100 rfl (iinc1 _) ?_
        refine V_goto (pc := 103) (tgt := 5) hX dX6_bestOfSets_103 (by decide) ?_
        have ih := l_best1 hX hR hr hn hn10 hp (s + 1) (by omega) (some (.int (allf (σ 57) s n))) (some (.int (sumf (σ 56) s n))) (some (.int (nI n))) rfl
        rw [bestf, if_pos ⟨h78, Or.inl h84⟩] at ih
        exact ih
      · refine V_iload (pc := 87) (i := 4) hX dX6_bestOfSets_87 rfl ?_
        refine V_iload_n (pc := 89) (i := 1) hX dX6_bestOfSets_89 rfl rfl ?_
        refine V_icmp_ge (pc := 90) (tgt := 98) hX dX6_bestOfSets_90 (by decide) (fun h90 => ?_) (fun h90 => ?_)
        · refine V_iload_n (pc := 98) (i := 1) hX dX6_bestOfSets_98 rfl rfl ?_
          refine V_istore1 (pc := 99) hX dX6_bestOfSets_99 rfl ?_
          refine V_iinc2 (pc := 100) hX dX6_bestOfSets_100 rfl (iinc1 _) ?_
          refine V_goto (pc := 103) (tgt := 5) hX dX6_bestOfSets_103 (by decide) ?_
          have ih := l_best1 hX hR hr hn hn10 hp (s + 1) (by omega) (some (.int (allf (σ 57) s n))) (some (.int (sumf (σ 56) s n))) (some (.int (nI n))) rfl
          rw [bestf, if_neg (fun q => q.2.elim h84 (fun q => Int32.not_le.mpr q h90))] at ih
          exact ih
        · refine V_iload (pc := 93) (i := 4) hX dX6_bestOfSets_93 rfl ?_
          refine V_goto (pc := 95) (tgt := 99) hX dX6_bestOfSets_95 (by decide) ?_
          refine V_istore1 (pc := 99) hX dX6_bestOfSets_99 rfl ?_
          refine V_iinc2 (pc := 100) hX dX6_bestOfSets_100 rfl (iinc1 _) ?_
          refine V_goto (pc := 103) (tgt := 5) hX dX6_bestOfSets_103 (by decide) ?_
          have ih := l_best1 hX hR hr hn hn10 hp (s + 1) (by omega) (some (.int (allf (σ 57) s n))) (some (.int (sumf (σ 56) s n))) (some (.int (nI n))) rfl
          rw [bestf, if_pos ⟨h78, Or.inr (Int32.not_le.mp h90)⟩] at ih
          exact ih
  refine V_iload_n (pc := 5) (i := 2) hX dX6_bestOfSets_5 rfl rfl ?_
  refine V_iconst (pc := 6) (v := (nI 1)) hX dX6_bestOfSets_6 (by decide +kernel) ?_
  refine V_aload_n (pc := 7) (i := 0) hX dX6_bestOfSets_7 rfl rfl ?_
  refine V_getf (pc := 8) hX fX6_90 dX6_bestOfSets_8 rfl rfl ?_
  refine V_ishl (pc := 11) hX dX6_bestOfSets_11 ?_
  rw [hn, shl1 (by omega)]
  refine V_icmp_geN (pc := 12) (tgt := 106) hX dX6_bestOfSets_12 (by decide) (by omega) (by omega) (fun h12 => ?_) (fun h12 => ?_)
  · obtain rfl : s = 2 ^ n := by omega
    refine V_iload_n (pc := 106) (i := 1) hX dX6_bestOfSets_106 rfl rfl ?_
    exact V_iret (pc := 107) (st := []) hX hr (by first | rfl | exact bI_nar _ | decide +kernel) dX6_bestOfSets_107 (hp)
  · refine V_iconst (pc := 15) (v := (nI 0)) hX dX6_bestOfSets_15 (by decide +kernel) ?_
    refine V_istore3 (pc := 16) hX dX6_bestOfSets_16 (hz3 _) ?_
    refine V_iconst (pc := 17) (v := (nI 0)) hX dX6_bestOfSets_17 (by decide +kernel) ?_
    refine V_istore4 (pc := 18) hX dX6_bestOfSets_18 (hz4 _ _) ?_
    refine V_iconst (pc := 20) (v := (nI 0)) hX dX6_bestOfSets_20 (by decide +kernel) ?_
    refine V_istore5 (pc := 21) hX dX6_bestOfSets_21 (hz5 _ _ _) ?_
    exact l_best2 hX hR hr hn hn10 (k70 h12) 0 (by omega)
termination_by 2 ^ n - s
set_option maxRecDepth 100000 in
set_option maxHeartbeats 4000000 in
theorem c_mbest (n : Nat) (σ : Mem) (hn : σ 52 5 = nI n) (hn10 : n ≤ 10) : Cc yX6_bestOfSets cX6_bestOfSets 6 (some .int) 0 [.ref 52] σ (rI (bestf (σ 56) (σ 57) (σ 52 9) n (2 ^ n)) σ) := by
  refine Cc.intro (by decide +kernel) [some (.ref 52), none, none, none, none, none] (fun _ => rfl) rfl (fun _ => Nat.le_of_ble_eq_true rfl) ?_
  intro X hX hR hr
  refine V_ldc (pc := 0) hX kX6_126 dX6_bestOfSets_0 ?_
  refine V_istore1 (pc := 2) hX dX6_bestOfSets_2 rfl ?_
  refine V_iconst (pc := 3) (v := (nI 0)) hX dX6_bestOfSets_3 (by decide +kernel) ?_
  refine V_istore2 (pc := 4) hX dX6_bestOfSets_4 rfl ?_
  exact l_best1 hX hR hr hn hn10 ⟨rfl, rfl⟩ 0 (Nat.zero_le _) none none none rfl
/-- how many of the first k bits are set -/
def popn (x : Int32) : Nat → Nat
  | 0 => 0
  | k + 1 => if bt x k then popn x k + 1 else popn x k
theorem popn_le (x : Int32) : ∀ k, popn x k ≤ k
  | 0 => Nat.le_refl _
  | k + 1 => by
    have := popn_le x k
    unfold popn
    split <;> omega
theorem popn_s (x : Int32) (k : Nat) : nI (popn x k) + bI (bt x k) = nI (popn x (k + 1)) := by
  have e : popn x (k + 1) = if bt x k then popn x k + 1 else popn x k := rfl
  rw [e]
  cases h : bt x k
  · exact add0 _
  · exact nI_1 _
set_option maxRecDepth 100000 in
set_option maxHeartbeats 4000000 in
theorem l_msize {x : Int32} {X : XC} {P : Option Value → Mem → Prop} {σ : Mem} (hX : Cok X RX6 cX6_size 3) (hR : Rok X 0) (hr : Ret X (some .int) P) (hp : P (some (.int (nI (popn x 12)))) σ) (k : Nat) (hk : k ≤ 12) : Vw X 4 [some (.int x), some (.int (nI (popn x k))), some (.int (nI k))] [] σ := by
  refine V_iload_n (pc := 4) (i := 2) hX dX6_size_4 rfl rfl ?_
  refine V_bipush (pc := 5) (v := (nI 12)) hX dX6_size_5 (by decide +kernel) ?_
  refine V_icmp_geN (pc := 7) (tgt := 24) hX dX6_size_7 (by decide) (by omega) (by omega) (fun h7 => ?_) (fun h7 => ?_)
  · obtain rfl : k = 12 := by omega
    refine V_iload_n (pc := 24) (i := 1) hX dX6_size_24 rfl rfl ?_
    exact V_iret (pc := 25) (st := []) hX hr (by first | rfl | exact bI_nar _ | decide +kernel) dX6_size_25 (hp)
  · refine V_iload_n (pc := 10) (i := 1) hX dX6_size_10 rfl rfl ?_
    refine V_iload_n (pc := 11) (i := 0) hX dX6_size_11 rfl rfl ?_
    refine V_iload_n (pc := 12) (i := 2) hX dX6_size_12 rfl rfl ?_
    refine V_ishr (pc := 13) hX dX6_size_13 ?_
    refine V_iconst (pc := 14) (v := (nI 1)) hX dX6_size_14 (by decide +kernel) ?_
    refine V_iand (pc := 15) hX dX6_size_15 ?_
    rw [sbit (by omega)]
    refine V_iadd (pc := 16) hX dX6_size_16 ?_
    rw [popn_s]
    refine V_istore1 (pc := 17) hX dX6_size_17 rfl ?_
    refine V_iinc2 (pc := 18) hX dX6_size_18 rfl (iinc1 _) ?_
    refine V_goto (pc := 21) (tgt := 4) hX dX6_size_21 (by decide) ?_
    exact l_msize hX hR hr hp (k + 1) (by omega)
termination_by 12 - k
set_option maxRecDepth 100000 in
set_option maxHeartbeats 4000000 in
theorem c_msize (x : Int32) (σ : Mem) : Cc yX6_size cX6_size 3 (some .int) 0 [.int x] σ (rI (nI (popn x 12)) σ) := by
  refine Cc.intro (by decide +kernel) [some (.int x), none, none] (fun _ => rfl) rfl (fun _ => Nat.le_of_ble_eq_true rfl) ?_
  intro X hX hR hr
  refine V_iconst (pc := 0) (v := (nI 0)) hX dX6_size_0 (by decide +kernel) ?_
  refine V_istore1 (pc := 1) hX dX6_size_1 rfl ?_
  refine V_iconst (pc := 2) (v := (nI 0)) hX dX6_size_2 (by decide +kernel) ?_
  refine V_istore2 (pc := 3) hX dX6_size_3 rfl ?_
  exact l_msize hX hR hr ⟨rfl, rfl⟩ 0 (by omega)
set_option maxRecDepth 100000 in
set_option maxHeartbeats 4000000 in
theorem c_mkindOf (s : Nat) (σ : Mem) (hs : s < 10) : Cc yX6_kindOf cX6_kindOf 2 (some .int) 1 [.ref 52, .int (nI s)] σ (rI (kindf (σ 52 8) s (pf (σ 57 s) (σ 58) 12) (σ 56 s)) σ) := by
  refine Cc.intro (by decide +kernel) [some (.ref 52), some (.int (nI s))] (fun _ => rfl) rfl (fun _ => Nat.le_of_ble_eq_true rfl) ?_
  intro X hX hR hr
  refine V_aload_n (pc := 0) (i := 0) hX dX6_kindOf_0 rfl rfl ?_
  refine V_iload_n (pc := 1) (i := 1) hX dX6_kindOf_1 rfl rfl ?_
  refine V_callVi (pc := 2) hX (hR.mono (by omega)) mX6_112 (c_misOwn _ _ hs) dX6_kindOf_2 rfl rfl rfl rfl (Nat.le_of_ble_eq_true rfl) ?_
  refine V_if_eqB (pc := 5) (tgt := 12) hX dX6_kindOf_5 (by decide) (fun h5 => ?_) (fun h5 => ?_)
  · refine V_iconst (pc := 12) (v := (nI 2)) hX dX6_kindOf_12 (by decide +kernel) ?_
    refine V_aload_n (pc := 13) (i := 0) hX dX6_kindOf_13 rfl rfl ?_
    refine V_iload_n (pc := 14) (i := 1) hX dX6_kindOf_14 rfl rfl ?_
    refine V_callVi (pc := 15) hX (hR.mono (by omega)) mX6_115 (c_mfilled _ _ hs) dX6_kindOf_15 rfl rfl rfl rfl (Nat.le_of_ble_eq_true rfl) ?_
    refine V_imul (pc := 18) hX dX6_kindOf_18 ?_
    refine V_aload_n (pc := 19) (i := 0) hX dX6_kindOf_19 rfl rfl ?_
    refine V_getr (pc := 20) hX fX6_19 dX6_kindOf_20 rfl rfl ?_
    refine V_iload_n (pc := 23) (i := 1) hX dX6_kindOf_23 rfl rfl ?_
    refine V_iald (pc := 24) hX dX6_kindOf_24 (rfl) (rfl) (by omega) (by decide) ?_
    refine V_icmp_lt (pc := 25) (tgt := 32) hX dX6_kindOf_25 (by decide) (fun h25 => ?_) (fun h25 => ?_)
    · refine V_iconst (pc := 32) (v := (nI 1)) hX dX6_kindOf_32 (by decide +kernel) ?_
      exact V_iret (pc := 33) (st := []) hX hr (by first | rfl | exact bI_nar _ | decide +kernel) dX6_kindOf_33 (⟨by simp only [kindf, h5, h25, Bool.false_eq_true, ↓reduceIte], rfl⟩)
    · refine V_iconst (pc := 28) (v := (nI 2)) hX dX6_kindOf_28 (by decide +kernel) ?_
      refine V_goto (pc := 29) (tgt := 33) hX dX6_kindOf_29 (by decide) ?_
      exact V_iret (pc := 33) (st := []) hX hr (by first | rfl | exact bI_nar _ | decide +kernel) dX6_kindOf_33 (⟨by simp only [kindf, h5, h25, Bool.false_eq_true, ↓reduceIte], rfl⟩)
  · refine V_iconst (pc := 8) (v := (nI 3)) hX dX6_kindOf_8 (by decide +kernel) ?_
    refine V_goto (pc := 9) (tgt := 33) hX dX6_kindOf_9 (by decide) ?_
    exact V_iret (pc := 33) (st := []) hX hr (by first | rfl | exact bI_nar _ | decide +kernel) dX6_kindOf_33 (⟨by simp only [kindf, h5, ↓reduceIte], rfl⟩)

