/-! ===== the least of SITES, the class's ===== -/
def shF (g : Nat → Int32) (far : Int32) (h : Nat → Int32) : Nat → Nat → Int32
  | 0 => g
  | b + 1 => upd (shF g far h b) b (imin (shF g far h b b) (far + h b))
theorem shF_hi (g : Nat → Int32) (far : Int32) (h : Nat → Int32) : ∀ (b j : Nat), b ≤ j → shF g far h b j = g j
  | 0, _, _ => rfl
  | b + 1, j, hj => by
    rw [shF, upd_at, if_neg (by omega), shF_hi g far h b j (by omega)]
theorem shF_lo (g : Nat → Int32) (far : Int32) (h : Nat → Int32) : ∀ (b j : Nat), j < b → shF g far h b j = imin (g j) (far + h j)
  | b + 1, j, hj => by
    rw [shF, upd_at]
    by_cases e : j = b
    · rw [if_pos e, e, shF_hi g far h b b (Nat.le_refl _)]
    · rw [if_neg e, shF_lo g far h b j (by omega)]
set_option maxRecDepth 100000 in
set_option maxHeartbeats 4000000 in
theorem l_shorten {n p ov : Nat} {far : Int32} {X : XC} {P : Option Value → Mem → Prop} {σ : Mem} (hX : Cok X RX4 cX4_shorten 5) (hR : Rok X 1) (hr : Ret X none P) (hn : σ 4 5 = nI n) (hn10 : n ≤ 10) (hv : ov < 10) (hs : shp[p]? = some (.inr (.inl (0, 10)))) (hp4 : p ≠ 4) (hp : P none (mf σ p (shF (σ p) far (σ (40 + ov)) n))) (b : Nat) (hb : b ≤ n) : Vw X 3 [some (.ref 4), some (.ref p), some (.int far), some (.int (nI ov)), some (.int (nI b))] [] (mf σ p (shF (σ p) far (σ (40 + ov)) b)) := by
  have r5 : mf σ p (shF (σ p) far (σ (40 + ov)) b) 4 5 = nI n := by rw [← mf_ne (Ne.symm hp4)]; exact hn
  have rh : mf σ p (shF (σ p) far (σ (40 + ov)) b) (40 + ov) b = σ (40 + ov) b := by
    rw [mf_at]
    by_cases e : 40 + ov = p
    · rw [if_pos e, shF_hi _ _ _ b b (Nat.le_refl _), e]
    · rw [if_neg e]
  refine V_iload (pc := 3) (i := 4) hX dX4_shorten_3 rfl ?_
  refine V_aload_n (pc := 5) (i := 0) hX dX4_shorten_5 rfl rfl ?_
  refine V_getf (pc := 6) hX fX4_29 dX4_shorten_6 rfl rfl ?_
  rw [r5]
  refine V_icmp_geN (pc := 9) (tgt := 40) hX dX4_shorten_9 (by decide) (by omega) (by omega) (fun h9 => ?_) (fun h9 => ?_)
  · obtain rfl : b = n := by omega
    exact V_vret (pc := 40) (st := []) hX hr dX4_shorten_40 (hp)
  · refine V_aload_n (pc := 12) (i := 1) hX dX4_shorten_12 rfl rfl ?_
    refine V_iload (pc := 13) (i := 4) hX dX4_shorten_13 rfl ?_
    refine V_aload_n (pc := 15) (i := 1) hX dX4_shorten_15 rfl rfl ?_
    refine V_iload (pc := 16) (i := 4) hX dX4_shorten_16 rfl ?_
    refine V_iald (pc := 18) hX dX4_shorten_18 (hs) (rfl) (by omega) (by decide) ?_
    refine V_iload_n (pc := 19) (i := 2) hX dX4_shorten_19 rfl rfl ?_
    refine V_aload_n (pc := 20) (i := 0) hX dX4_shorten_20 rfl rfl ?_
    refine V_getr (pc := 21) hX fX4_23 dX4_shorten_21 rfl rfl ?_
    refine V_iload_n (pc := 24) (i := 3) hX dX4_shorten_24 rfl rfl ?_
    refine V_aald (pc := 25) hX dX4_shorten_25 (rfl) (rfl) (by omega) (by decide) ?_
    refine V_iload (pc := 26) (i := 4) hX dX4_shorten_26 rfl ?_
    refine V_iald (pc := 28) hX dX4_shorten_28 (shp_near hv) (rfl) (by omega) (by decide) ?_
    rw [rh, mf_row]
    refine V_iadd (pc := 29) hX dX4_shorten_29 ?_
    refine V_mmin (pc := 30) hX (hR.mono (by omega)) mX4_71 dX4_shorten_30 rfl (Nat.le_of_ble_eq_true rfl) ?_
    refine V_iast (pc := 33) hX dX4_shorten_33 (hs) (rfl) (by omega) (by decide) ?_
    refine V_iinc4 (pc := 34) hX dX4_shorten_34 rfl (iinc1 _) ?_
    refine V_goto (pc := 37) (tgt := 3) hX dX4_shorten_37 (by decide) ?_
    have ih := l_shorten hX hR hr hn hn10 hv hs hp4 hp (b + 1) (by omega)
    rw [shF] at ih
    rw [mf_mu]
    exact ih
termination_by n - b
theorem c_shorten (n p ov : Nat) (far : Int32) (σ : Mem) (hn : σ 4 5 = nI n) (hn10 : n ≤ 10) (hv : ov < 10) (hs : shp[p]? = some (.inr (.inl (0, 10)))) (hp4 : p ≠ 4) : Cc yX4_shorten cX4_shorten 5 none 1 [.ref 4, .ref p, .int far, .int (nI ov)] σ (rV (mf σ p (shF (σ p) far (σ (40 + ov)) n))) := by
  refine Cc.intro (by decide +kernel) [some (.ref 4), some (.ref p), some (.int far), some (.int (nI ov)), none] (fun _ => rfl) rfl (fun _ => Nat.le_of_ble_eq_true rfl) ?_
  intro X hX hR hr
  refine V_iconst (pc := 0) (v := (nI 0)) hX dX4_shorten_0 (by decide +kernel) ?_
  refine V_istore4 (pc := 1) hX dX4_shorten_1 rfl ?_
  refine Vw.mem (show mf σ p (shF (σ p) far (σ (40 + ov)) 0) = σ from mf_id σ p) ?_
  exact l_shorten hX hR hr hn hn10 hv hs hp4 ⟨rfl, rfl⟩ 0 (Nat.zero_le _)
/-- the nearest distances: a matrix laid over the rows 40 .. -/
def mm (σ : Mem) (D : Nat → Nat → Int32) : Mem := fun q => if 40 ≤ q ∧ q < 50 then D (q - 40) else σ q
theorem mm_at {σ : Mem} {D : Nat → Nat → Int32} {a : Nat} (h : a < 10) : mm σ D (40 + a) = D a := by
  show (if 40 ≤ 40 + a ∧ 40 + a < 50 then D (40 + a - 40) else σ (40 + a)) = D a
  rw [if_pos (by omega), Nat.add_sub_cancel_left]
theorem mm_ne {σ : Mem} {D : Nat → Nat → Int32} {q : Nat} (h : q < 40 ∨ 50 ≤ q) : mm σ D q = σ q := if_neg (by omega)
def updM (D : Nat → Nat → Int32) (a : Nat) (g : Nat → Int32) : Nat → Nat → Int32 := fun b => if b = a then g else D b
theorem mm_mf {σ : Mem} {D : Nat → Nat → Int32} {a : Nat} {g : Nat → Int32} (h : a < 10) : mf (mm σ D) (40 + a) g = mm σ (updM D a g) := by
  funext q
  unfold mf mm updM
  by_cases h1 : q = 40 + a
  · rw [if_pos h1, if_pos (by omega), if_pos (by omega)]
  · rw [if_neg h1]
    by_cases h2 : 40 ≤ q ∧ q < 50
    · rw [if_pos h2, if_pos h2, if_neg (by omega)]
    · rw [if_neg h2, if_neg h2]
theorem mm_mu {σ : Mem} {D : Nat → Nat → Int32} {a i : Nat} {v : Int32} (h : a < 10) : mu (mm σ D) (40 + a) i v = mm σ (updM D a (upd (D a) i v)) := by
  rw [← mm_mf h]
  funext q j
  simp only [mu, mf, upd]
  by_cases h1 : q = 40 + a
  · subst h1
    rw [mm_at h]
    by_cases h2 : j = i <;> simp [h2, upd]
  · simp [h1]
theorem mm_id (σ : Mem) : mm σ (fun a => σ (40 + a)) = σ := by
  funext q
  unfold mm
  by_cases h : 40 ≤ q ∧ q < 50
  · rw [if_pos h]
    show σ (40 + (q - 40)) = σ q
    rw [show 40 + (q - 40) = q by omega]
  · rw [if_neg h]
theorem updM_at (D : Nat → Nat → Int32) (a : Nat) (g : Nat → Int32) (b : Nat) : updM D a g b = if b = a then g else D b := rfl
theorem updM_id (D : Nat → Nat → Int32) (a : Nat) : updM D a (D a) = D := by
  funext b
  unfold updM
  split
  · rename_i h; rw [h]
  · rfl
theorem updM_updM (D : Nat → Nat → Int32) (a : Nat) (g h : Nat → Int32) : updM (updM D a g) a h = updM D a h := by
  funext b
  unfold updM
  split <;> rfl
def fiR (l : Nat → Nat → Int32) (a : Nat) (o : Nat → Int32) : Nat → Nat → Int32
  | 0 => o
  | b + 1 => upd (fiR l a o b) b (if 0 < l a b then l a b else nI 1000000)
def fiD (l : Nat → Nat → Int32) (n : Nat) (D : Nat → Nat → Int32) : Nat → Nat → Nat → Int32
  | 0 => D
  | a + 1 => updM (fiD l n D a) a (upd (fiR l a (fiD l n D a a) n) a (nI 0))
def foA (n o : Nat) (D : Nat → Nat → Int32) : Nat → Nat → Nat → Int32
  | 0 => D
  | a + 1 => updM (foA n o D a) a (shF (foA n o D a a) (foA n o D a a o) (foA n o D a o) n)
def foO (n : Nat) (D : Nat → Nat → Int32) : Nat → Nat → Nat → Int32
  | 0 => D
  | o + 1 => foA n o (foO n D o) n
theorem mm_ln {σ : Mem} {D : Nat → Nat → Int32} : ln (mm σ D) = ln σ := ln_of (fun q h1 h2 => mm_ne (by omega))
set_option maxRecDepth 100000 in
set_option maxHeartbeats 4000000 in
theorem l_fn1 {n a : Nat} {D : Nat → Nat → Int32} {X : XC} {P : Option Value → Mem → Prop} {σ : Mem} (hX : Cok X RX4 cX4_findNearest 3) (hR : Rok X 2) (hr : Ret X none P) (hn : σ 4 5 = nI n) (hn10 : n ≤ 10) (ha : a < 10) (kk : Vw X 58 [some (.ref 4), some (.int (nI a)), some (.int (nI n))] [] (mm σ (updM D a (fiR (ln σ) a (D a) n)))) (b : Nat) (hb : b ≤ n) : Vw X 12 [some (.ref 4), some (.int (nI a)), some (.int (nI b))] [] (mm σ (updM D a (fiR (ln σ) a (D a) b))) := by
  have r5 : ∀ D, mm σ D 4 5 = nI n := fun D => by rw [mm_ne (by omega)]; exact hn
  have rl : ∀ D, mm σ D (27 + a) b = ln σ a b := fun D => (ln_at (σ := mm σ D) (b := b) ha).symm.trans (by rw [mm_ln])
  refine V_iload_n (pc := 12) (i := 2) hX dX4_findNearest_12 rfl rfl ?_
  refine V_aload_n (pc := 13) (i := 0) hX dX4_findNearest_13 rfl rfl ?_
  refine V_getf (pc := 14) hX fX4_29 dX4_findNearest_14 rfl rfl ?_
  rw [r5]
  refine V_icmp_geN (pc := 17) (tgt := 58) hX dX4_findNearest_17 (by decide) (by omega) (by omega) (fun h17 => ?_) (fun h17 => ?_)
  · obtain rfl : b = n := by omega
    exact kk
  · refine V_aload_n (pc := 20) (i := 0) hX dX4_findNearest_20 rfl rfl ?_
    refine V_getr (pc := 21) hX fX4_23 dX4_findNearest_21 rfl rfl ?_
    refine V_iload_n (pc := 24) (i := 1) hX dX4_findNearest_24 rfl rfl ?_
    refine V_aald (pc := 25) hX dX4_findNearest_25 (rfl) (rfl) (by omega) (by decide) ?_
    refine V_iload_n (pc := 26) (i := 2) hX dX4_findNearest_26 rfl rfl ?_
    refine V_aload_n (pc := 27) (i := 0) hX dX4_findNearest_27 rfl rfl ?_
    refine V_getr (pc := 28) hX fX4_11 dX4_findNearest_28 rfl rfl ?_
    refine V_iload_n (pc := 31) (i := 1) hX dX4_findNearest_31 rfl rfl ?_
    refine V_aald (pc := 32) hX dX4_findNearest_32 (rfl) (rfl) (by omega) (by decide) ?_
    refine V_iload_n (pc := 33) (i := 2) hX dX4_findNearest_33 rfl rfl ?_
    refine V_iald (pc := 34) hX dX4_findNearest_34 (shp_ways ha) (rfl) (by omega) (by decide) ?_
    rw [rl]
    refine V_if_le (pc := 35) (tgt := 49) hX dX4_findNearest_35 (by decide) (fun h35 => ?_) (fun h35 => ?_)
    · refine V_ldc (pc := 49) hX kX4_55 dX4_findNearest_49 ?_
      refine V_iast (pc := 51) hX dX4_findNearest_51 (shp_near ha) (rfl) (by omega) (by decide) ?_
      refine V_iinc2 (pc := 52) hX dX4_findNearest_52 rfl (iinc1 _) ?_
      refine V_goto (pc := 55) (tgt := 12) hX dX4_findNearest_55 (by decide) ?_
      have ih := l_fn1 hX hR hr hn hn10 ha kk (b + 1) (by omega)
      rw [fiR, if_neg (Int32.not_lt.mpr h35)] at ih
      rw [mm_mu ha, updM_at, if_pos rfl, updM_updM]
      exact ih
    · refine V_aload_n (pc := 38) (i := 0) hX dX4_findNearest_38 rfl rfl ?_
      refine V_getr (pc := 39) hX fX4_11 dX4_findNearest_39 rfl rfl ?_
      refine V_iload_n (pc := 42) (i := 1) hX dX4_findNearest_42 rfl rfl ?_
      refine V_aald (pc := 43) hX dX4_findNearest_43 (rfl) (rfl) (by omega) (by decide) ?_
      refine V_iload_n (pc := 44) (i := 2) hX dX4_findNearest_44 rfl rfl ?_
      refine V_iald (pc := 45) hX dX4_findNearest_45 (shp_ways ha) (rfl) (by omega) (by decide) ?_
      rw [rl]
      refine V_goto (pc := 46) (tgt := 51) hX dX4_findNearest_46 (by decide) ?_
      refine V_iast (pc := 51) hX dX4_findNearest_51 (shp_near ha) (rfl) (by omega) (by decide) ?_
      refine V_iinc2 (pc := 52) hX dX4_findNearest_52 rfl (iinc1 _) ?_
      refine V_goto (pc := 55) (tgt := 12) hX dX4_findNearest_55 (by decide) ?_
      have ih := l_fn1 hX hR hr hn hn10 ha kk (b + 1) (by omega)
      rw [fiR, if_pos (Int32.not_le.mp h35)] at ih
      rw [mm_mu ha, updM_at, if_pos rfl, updM_updM]
      exact ih
termination_by n - b
set_option maxRecDepth 100000 in
set_option maxHeartbeats 4000000 in
theorem l_fn2 {n : Nat} {D : Nat → Nat → Int32} {X : XC} {P : Option Value → Mem → Prop} {σ : Mem} (hX : Cok X RX4 cX4_findNearest 3) (hR : Rok X 2) (hr : Ret X none P) (hn : σ 4 5 = nI n) (hn10 : n ≤ 10) (kk : ∀ z, nol [z] = true → Vw X 73 [some (.ref 4), some (.int (nI n)), z] [] (mm σ (fiD (ln σ) n D n))) (a : Nat) (ha : a ≤ n) (z : Option Value) (hz : nol [z] = true) : Vw X 2 [some (.ref 4), some (.int (nI a)), z] [] (mm σ (fiD (ln σ) n D a)) := by
  have r5 : ∀ D, mm σ D 4 5 = nI n := fun D => by rw [mm_ne (by omega)]; exact hn
  refine V_iload_n (pc := 2) (i := 1) hX dX4_findNearest_2 rfl rfl ?_
  refine V_aload_n (pc := 3) (i := 0) hX dX4_findNearest_3 rfl rfl ?_
  refine V_getf (pc := 4) hX fX4_29 dX4_findNearest_4 rfl rfl ?_
  rw [r5]
  refine V_icmp_geN (pc := 7) (tgt := 73) hX dX4_findNearest_7 (by decide) (by omega) (by omega) (fun h7 => ?_) (fun h7 => ?_)
  · obtain rfl : a = n := by omega
    exact kk z hz
  · refine V_iconst (pc := 10) (v := (nI 0)) hX dX4_findNearest_10 (by decide +kernel) ?_
    refine V_istore2 (pc := 11) hX dX4_findNearest_11 hz ?_
    have k58 : Vw X 58 [some (.ref 4), some (.int (nI a)), some (.int (nI n))] [] (mm σ (updM (fiD (ln σ) n D a) a (fiR (ln σ) a (fiD (ln σ) n D a a) n))) := by
      have ih := l_fn2 hX hR hr hn hn10 kk (a + 1) (by omega) (some (.int (nI n))) rfl
      rw [fiD] at ih
      refine V_aload_n (pc := 58) (i := 0) hX dX4_findNearest_58 rfl rfl ?_
      refine V_getr (pc := 59) hX fX4_23 dX4_findNearest_59 rfl rfl ?_
      refine V_iload_n (pc := 62) (i := 1) hX dX4_findNearest_62 rfl rfl ?_
      refine V_aald (pc := 63) hX dX4_findNearest_63 (rfl) (rfl) (by omega) (by decide) ?_
      refine V_iload_n (pc := 64) (i := 1) hX dX4_findNearest_64 rfl rfl ?_
      refine V_iconst (pc := 65) (v := (nI 0)) hX dX4_findNearest_65 (by decide +kernel) ?_
      refine V_iast (pc := 66) hX dX4_findNearest_66 (shp_near (show a < 10 by omega)) (rfl) (by omega) (by decide) ?_
      refine V_iinc1 (pc := 67) hX dX4_findNearest_67 rfl (iinc1 _) ?_
      refine V_goto (pc := 70) (tgt := 2) hX dX4_findNearest_70 (by decide) ?_
      rw [mm_mu (by omega), updM_at, if_pos rfl, updM_updM]
      exact ih
    refine Vw.mem (show mm σ (updM (fiD (ln σ) n D a) a (fiR (ln σ) a (fiD (ln σ) n D a a) 0)) = mm σ (fiD (ln σ) n D a) from congrArg (mm σ) (updM_id _ _)) ?_
    exact l_fn1 hX hR hr hn hn10 (by omega) k58 0 (Nat.zero_le _)
termination_by n - a
set_option maxRecDepth 100000 in
set_option maxHeartbeats 4000000 in
theorem l_fn3 {n o : Nat} {D : Nat → Nat → Int32} {X : XC} {P : Option Value → Mem → Prop} {σ : Mem} (hX : Cok X RX4 cX4_findNearest 3) (hR : Rok X 2) (hr : Ret X none P) (hn : σ 4 5 = nI n) (hn10 : n ≤ 10) (ho : o < n) (kk : Vw X 118 [some (.ref 4), some (.int (nI o)), some (.int (nI n))] [] (mm σ (foA n o D n))) (a : Nat) (ha : a ≤ n) : Vw X 85 [some (.ref 4), some (.int (nI o)), some (.int (nI a))] [] (mm σ (foA n o D a)) := by
  have r5 : ∀ D, mm σ D 4 5 = nI n := fun D => by rw [mm_ne (by omega)]; exact hn
  have ih := fun (h : a < n) => l_fn3 hX hR hr hn hn10 ho kk (a + 1) h
  refine V_iload_n (pc := 85) (i := 2) hX dX4_findNearest_85 rfl rfl ?_
  refine V_aload_n (pc := 86) (i := 0) hX dX4_findNearest_86 rfl rfl ?_
  refine V_getf (pc := 87) hX fX4_29 dX4_findNearest_87 rfl rfl ?_
  rw [r5]
  refine V_icmp_geN (pc := 90) (tgt := 118) hX dX4_findNearest_90 (by decide) (by omega) (by omega) (fun h90 => ?_) (fun h90 => ?_)
  · obtain rfl : a = n := by omega
    exact kk
  · refine V_aload_n (pc := 93) (i := 0) hX dX4_findNearest_93 rfl rfl ?_
    refine V_aload_n (pc := 94) (i := 0) hX dX4_findNearest_94 rfl rfl ?_
    refine V_getr (pc := 95) hX fX4_23 dX4_findNearest_95 rfl rfl ?_
    refine V_iload_n (pc := 98) (i := 2) hX dX4_findNearest_98 rfl rfl ?_
    refine V_aald (pc := 99) hX dX4_findNearest_99 (rfl) (rfl) (by omega) (by decide) ?_
    refine V_aload_n (pc := 100) (i := 0) hX dX4_findNearest_100 rfl rfl ?_
    refine V_getr (pc := 101) hX fX4_23 dX4_findNearest_101 rfl rfl ?_
    refine V_iload_n (pc := 104) (i := 2) hX dX4_findNearest_104 rfl rfl ?_
    refine V_aald (pc := 105) hX dX4_findNearest_105 (rfl) (rfl) (by omega) (by decide) ?_
    refine V_iload_n (pc := 106) (i := 1) hX dX4_findNearest_106 rfl rfl ?_
    refine V_iald (pc := 107) hX dX4_findNearest_107 (shp_near (show a < 10 by omega)) (rfl) (by omega) (by decide) ?_
    refine V_iload_n (pc := 108) (i := 1) hX dX4_findNearest_108 rfl rfl ?_
    refine V_callVv (pc := 109) hX (hR.mono (by omega)) mX4_97 (c_shorten n (40 + a) o _ _ (r5 _) hn10 (by omega) (shp_near (by omega)) (by omega)) dX4_findNearest_109 rfl rfl rfl rfl (Nat.le_of_ble_eq_true rfl) ?_
    refine V_iinc2 (pc := 112) hX dX4_findNearest_112 rfl (iinc1 _) ?_
    refine V_goto (pc := 115) (tgt := 85) hX dX4_findNearest_115 (by decide) ?_
    have ihk := ih h90
    rw [foA] at ihk
    rw [mm_mf (by omega), mm_at (by omega), mm_at (by omega)]
    exact ihk
termination_by n - a
set_option maxRecDepth 100000 in
set_option maxHeartbeats 4000000 in
theorem l_fn4 {n : Nat} {D : Nat → Nat → Int32} {X : XC} {P : Option Value → Mem → Prop} {σ : Mem} (hX : Cok X RX4 cX4_findNearest 3) (hR : Rok X 2) (hr : Ret X none P) (hn : σ 4 5 = nI n) (hn10 : n ≤ 10) (hp : P none (mm σ (foO n D n))) (o : Nat) (ho : o ≤ n) (z : Option Value) (hz : nol [z] = true) : Vw X 75 [some (.ref 4), some (.int (nI o)), z] [] (mm σ (foO n D o)) := by
  have r5 : ∀ D, mm σ D 4 5 = nI n := fun D => by rw [mm_ne (by omega)]; exact hn
  refine V_iload_n (pc := 75) (i := 1) hX dX4_findNearest_75 rfl rfl ?_
  refine V_aload_n (pc := 76) (i := 0) hX dX4_findNearest_76 rfl rfl ?_
  refine V_getf (pc := 77) hX fX4_29 dX4_findNearest_77 rfl rfl ?_
  rw [r5]
  refine V_icmp_geN (pc := 80) (tgt := 124) hX dX4_findNearest_80 (by decide) (by omega) (by omega) (fun h80 => ?_) (fun h80 => ?_)
  · obtain rfl : o = n := by omega
    exact V_vret (pc := 124) (st := []) hX hr dX4_findNearest_124 (hp)
  · refine V_iconst (pc := 83) (v := (nI 0)) hX dX4_findNearest_83 (by decide +kernel) ?_
    refine V_istore2 (pc := 84) hX dX4_findNearest_84 hz ?_
    refine l_fn3 (D := foO n D o) hX hR hr hn hn10 h80 ?_ 0 (Nat.zero_le _)
    refine V_iinc1 (pc := 118) hX dX4_findNearest_118 rfl (iinc1 _) ?_
    refine V_goto (pc := 121) (tgt := 75) hX dX4_findNearest_121 (by decide) ?_
    exact l_fn4 hX hR hr hn hn10 hp (o + 1) (by omega) _ rfl
termination_by n - o
def nearF (σ : Mem) (n : Nat) : Nat → Nat → Int32 := foO n (fiD (ln σ) n (fun a => σ (40 + a)) n) n
set_option maxRecDepth 100000 in
set_option maxHeartbeats 4000000 in
theorem c_findNearest (n : Nat) (σ : Mem) (hn : σ 4 5 = nI n) (hn10 : n ≤ 10) : Cc yX4_findNearest cX4_findNearest 3 none 2 [.ref 4] σ (rV (mm σ (nearF σ n))) := by
  refine Cc.intro (by decide +kernel) [some (.ref 4), none, none] (fun _ => rfl) rfl (fun _ => Nat.le_of_ble_eq_true rfl) ?_
  intro X hX hR hr
  have k73 : ∀ z, nol [z] = true → Vw X 73 [some (.ref 4), some (.int (nI n)), z] [] (mm σ (fiD (ln σ) n (fun a => σ (40 + a)) n)) := by
    intro z hz
    refine V_iconst (pc := 73) (v := (nI 0)) hX dX4_findNearest_73 (by decide +kernel) ?_
    refine V_istore1 (pc := 74) hX dX4_findNearest_74 hz ?_
    exact l_fn4 (D := fiD (ln σ) n (fun a => σ (40 + a)) n) hX hR hr hn hn10 ⟨rfl, rfl⟩ 0 (Nat.zero_le _) z hz
  refine V_iconst (pc := 0) (v := (nI 0)) hX dX4_findNearest_0 (by decide +kernel) ?_
  refine V_istore1 (pc := 1) hX dX4_findNearest_1 rfl ?_
  refine Vw.mem (show mm σ (fiD (ln σ) n (fun a => σ (40 + a)) 0) = σ from mm_id σ) ?_
  exact l_fn2 (D := fun a => σ (40 + a)) hX hR hr hn hn10 k73 0 (Nat.zero_le _) none rfl
/-- the nearest of those left: (which, how near) -/
def neF (fi : Nat) (g : Nat → Int32) (left : Int32) : Nat → Nat × Int32
  | 0 => (fi, nI 1000001)
  | k + 1 => if bt left k = true ∧ g k < (neF fi g left k).2 then (k, g k) else neF fi g left k
theorem neF_lt {fi : Nat} (g : Nat → Int32) (left : Int32) (hf : fi < 10) : ∀ k, k ≤ 10 → (neF fi g left k).1 < 10
  | 0, _ => hf
  | k + 1, h => by
    unfold neF
    split
    · show k < 10
      omega
    · exact neF_lt g left hf k (by omega)
set_option maxRecDepth 100000 in
set_option maxHeartbeats 4000000 in
theorem l_nearestOf {n fi : Nat} {left : Int32} {X : XC} {P : Option Value → Mem → Prop} {σ : Mem} (hX : Cok X RX4 cX4_nearestOf 5) (hR : Rok X 1) (hr : Ret X (some .int) P) (hn : σ 4 5 = nI n) (hn10 : n ≤ 10) (hp : P (some (.int (nI (neF fi (σ 50) left n).1))) σ) (k : Nat) (hk : k ≤ n) : Vw X 11 [some (.ref 4), some (.int left), some (.int (nI (neF fi (σ 50) left k).1)), some (.int (neF fi (σ 50) left k).2), some (.int (nI k))] [] σ := by
  refine V_iload (pc := 11) (i := 4) hX dX4_nearestOf_11 rfl ?_
  refine V_aload_n (pc := 13) (i := 0) hX dX4_nearestOf_13 rfl rfl ?_
  refine V_getf (pc := 14) hX fX4_29 dX4_nearestOf_14 rfl rfl ?_
  rw [hn]
  refine V_icmp_geN (pc := 17) (tgt := 57) hX dX4_nearestOf_17 (by decide) (by omega) (by omega) (fun h17 => ?_) (fun h17 => ?_)
  · obtain rfl : k = n := by omega
    refine V_iload_n (pc := 57) (i := 2) hX dX4_nearestOf_57 rfl rfl ?_
    exact V_iret (pc := 58) (st := []) hX hr (by first | rfl | exact bI_nar _ | decide +kernel) dX4_nearestOf_58 (hp)
  · refine V_iload_n (pc := 20) (i := 1) hX dX4_nearestOf_20 rfl rfl ?_
    refine V_iload (pc := 21) (i := 4) hX dX4_nearestOf_21 rfl ?_
    refine V_callSi (pc := 23) hX (hR.mono (by omega)) mX4_37 (c_holds _ _ (by omega) _) dX4_nearestOf_23 rfl rfl rfl (Nat.le_of_ble_eq_true rfl) ?_
    refine V_if_eqB (pc := 26) (tgt := 51) hX dX4_nearestOf_26 (by decide) (fun h26 => ?_) (fun h26 => ?_)
    · refine V_iinc4 (pc := 51) hX dX4_nearestOf_51 rfl (iinc1 _) ?_
      refine V_goto (pc := 54) (tgt := 11) hX dX4_nearestOf_54 (by decide) ?_
      have ih := l_nearestOf hX hR hr hn hn10 hp (k + 1) (by omega)
      rw [neF, if_neg (fun q => absurd (h26.symm.trans q.1) (by decide))] at ih
      exact ih
    · refine V_aload_n (pc := 29) (i := 0) hX dX4_nearestOf_29 rfl rfl ?_
      refine V_getr (pc := 30) hX fX4_26 dX4_nearestOf_30 rfl rfl ?_
      refine V_iload (pc := 33) (i := 4) hX dX4_nearestOf_33 rfl ?_
      refine V_iald (pc := 35) hX dX4_nearestOf_35 (rfl) (rfl) (by omega) (by decide) ?_
      refine V_iload_n (pc := 36) (i := 3) hX dX4_nearestOf_36 rfl rfl ?_
      refine V_icmp_ge (pc := 37) (tgt := 51) hX dX4_nearestOf_37 (by decide) (fun h37 => ?_) (fun h37 => ?_)
      · refine V_iinc4 (pc := 51) hX dX4_nearestOf_51 rfl (iinc1 _) ?_
        refine V_goto (pc := 54) (tgt := 11) hX dX4_nearestOf_54 (by decide) ?_
        have ih := l_nearestOf hX hR hr hn hn10 hp (k + 1) (by omega)
        rw [neF, if_neg (fun q => Int32.not_le.mpr q.2 h37)] at ih
        exact ih
      · refine V_iload (pc := 40) (i := 4) hX dX4_nearestOf_40 rfl ?_
        refine V_istore2 (pc := 42) hX dX4_nearestOf_42 rfl ?_
        refine V_aload_n (pc := 43) (i := 0) hX dX4_nearestOf_43 rfl rfl ?_
        refine V_getr (pc := 44) hX fX4_26 dX4_nearestOf_44 rfl rfl ?_
        refine V_iload (pc := 47) (i := 4) hX dX4_nearestOf_47 rfl ?_
        refine V_iald (pc := 49) hX dX4_nearestOf_49 (rfl) (rfl) (by omega) (by decide) ?_
        refine V_istore3 (pc := 50) hX dX4_nearestOf_50 rfl ?_
        refine V_iinc4 (pc := 51) hX dX4_nearestOf_51 rfl (iinc1 _) ?_
        refine V_goto (pc := 54) (tgt := 11) hX dX4_nearestOf_54 (by decide) ?_
        have ih := l_nearestOf hX hR hr hn hn10 hp (k + 1) (by omega)
        rw [neF, if_pos ⟨h26, Int32.not_le.mp h37⟩] at ih
        exact ih
termination_by n - k
set_option maxRecDepth 100000 in
set_option maxHeartbeats 4000000 in
theorem c_nearestOf (n fi : Nat) (left : Int32) (σ : Mem) (hn : σ 4 5 = nI n) (hn10 : n ≤ 10) (hf : σ 4 7 = nI fi) : Cc yX4_nearestOf cX4_nearestOf 5 (some .int) 1 [.ref 4, .int left] σ (rI (nI (neF fi (σ 50) left n).1) σ) := by
  refine Cc.intro (by decide +kernel) [some (.ref 4), some (.int left), none, none, none] (fun _ => rfl) rfl (fun _ => Nat.le_of_ble_eq_true rfl) ?_
  intro X hX hR hr
  refine V_aload_n (pc := 0) (i := 0) hX dX4_nearestOf_0 rfl rfl ?_
  refine V_getf (pc := 1) hX fX4_46 dX4_nearestOf_1 rfl rfl ?_
  rw [hf]
  refine V_istore2 (pc := 4) hX dX4_nearestOf_4 rfl ?_
  refine V_ldc (pc := 5) hX kX4_104 dX4_nearestOf_5 ?_
  refine V_istore3 (pc := 7) hX dX4_nearestOf_7 rfl ?_
  refine V_iconst (pc := 8) (v := (nI 0)) hX dX4_nearestOf_8 (by decide +kernel) ?_
  refine V_istore4 (pc := 9) hX dX4_nearestOf_9 rfl ?_
  exact l_nearestOf hX hR hr hn hn10 ⟨rfl, rfl⟩ 0 (Nat.zero_le _)
/-- a tree as it grows: what is left, how long it is, the gaps -/
def trF (fi n : Nat) (D : Nat → Nat → Int32) (left : Int32) : Nat → Int32 × Int32 × (Nat → Int32)
  | 0 => (left, nI 0, D fi)
  | k + 1 => if (trF fi n D left k).1 = 0 then trF fi n D left k else
      ((trF fi n D left k).1 &&& (sh1 (neF fi (trF fi n D left k).2.2 (trF fi n D left k).1 n).1 ^^^ (-1)),
       (trF fi n D left k).2.1 + (trF fi n D left k).2.2 (neF fi (trF fi n D left k).2.2 (trF fi n D left k).1 n).1,
       fun s => imin ((trF fi n D left k).2.2 s) (nI 0 + D (neF fi (trF fi n D left k).2.2 (trF fi n D left k).1 n).1 s))
theorem trF_stop {fi n : Nat} {D : Nat → Nat → Int32} {left : Int32} {k : Nat} (h : (trF fi n D left k).1 = 0) : ∀ m, trF fi n D left (k + m) = trF fi n D left k
  | 0 => rfl
  | m + 1 => by
    have ih := trF_stop h m
    rw [show k + (m + 1) = (k + m) + 1 from rfl, trF, ih, if_pos h]
theorem neF_congr {fi : Nat} {g h : Nat → Int32} {left : Int32} : ∀ (k : Nat), (∀ s, s < k → g s = h s) → neF fi g left k = neF fi h left k
  | 0, _ => rfl
  | k + 1, e => by
    rw [neF, neF, neF_congr k (fun s hs => e s (by omega)), e k (by omega)]
def treeF (fi n : Nat) (D : Nat → Nat → Int32) (mem : Int32) : Int32 := (trF fi n D (mem &&& (sh1 fi ^^^ (-1))) n).2.1
/-- a world that is another but for the gaps -/
def gapM (σ τ : Mem) : Prop := ∀ q, q ≠ 50 → τ q = σ q
set_option maxRecDepth 100000 in
set_option maxHeartbeats 4000000 in
theorem l_tree1 {n fi : Nat} {mb left : Int32} {X : XC} {P : Option Value → Mem → Prop} {σ : Mem} (hX : Cok X RX4 cX4_treeOf 6) (hR : Rok X 2) (hr : Ret X (some .int) P) (hn : σ 4 5 = nI n) (hn10 : n ≤ 10) (hf : σ 4 7 = nI fi) (hf10 : fi < 10) (kk : ∀ τ, gapM σ τ → (∀ s, s < n → τ 50 s = σ (40 + fi) s) → Vw X 50 [some (.ref 4), some (.int mb), some (.int (nI 0)), some (.int left), some (.int (nI n)), none] [] τ) (k : Nat) (hk : k ≤ n) (τ : Mem) (hτ : gapM σ τ) (hg : ∀ s, s < k → τ 50 s = σ (40 + fi) s) : Vw X 16 [some (.ref 4), some (.int mb), some (.int (nI 0)), some (.int left), some (.int (nI k)), none] [] τ := by
  have r5 : τ 4 5 = nI n := by rw [hτ 4 (by decide)]; exact hn
  have r7 : τ 4 7 = nI fi := by rw [hτ 4 (by decide)]; exact hf
  refine V_iload (pc := 16) (i := 4) hX dX4_treeOf_16 rfl ?_
  refine V_aload_n (pc := 18) (i := 0) hX dX4_treeOf_18 rfl rfl ?_
  refine V_getf (pc := 19) hX fX4_29 dX4_treeOf_19 rfl rfl ?_
  rw [r5]
  refine V_icmp_geN (pc := 22) (tgt := 50) hX dX4_treeOf_22 (by decide) (by omega) (by omega) (fun h22 => ?_) (fun h22 => ?_)
  · obtain rfl : k = n := by omega
    exact kk τ hτ hg
  · refine V_aload_n (pc := 25) (i := 0) hX dX4_treeOf_25 rfl rfl ?_
    refine V_getr (pc := 26) hX fX4_26 dX4_treeOf_26 rfl rfl ?_
    refine V_iload (pc := 29) (i := 4) hX dX4_treeOf_29 rfl ?_
    refine V_aload_n (pc := 31) (i := 0) hX dX4_treeOf_31 rfl rfl ?_
    refine V_getr (pc := 32) hX fX4_23 dX4_treeOf_32 rfl rfl ?_
    refine V_aload_n (pc := 35) (i := 0) hX dX4_treeOf_35 rfl rfl ?_
    refine V_getf (pc := 36) hX fX4_46 dX4_treeOf_36 rfl rfl ?_
    rw [r7]
    refine V_aald (pc := 39) hX dX4_treeOf_39 (rfl) (rfl) (by omega) (by decide) ?_
    refine V_iload (pc := 40) (i := 4) hX dX4_treeOf_40 rfl ?_
    refine V_iald (pc := 42) hX dX4_treeOf_42 (shp_near hf10) (rfl) (by omega) (by decide) ?_
    refine V_iast (pc := 43) hX dX4_treeOf_43 (rfl) (rfl) (by omega) (by decide) ?_
    refine V_iinc4 (pc := 44) hX dX4_treeOf_44 rfl (iinc1 _) ?_
    refine V_goto (pc := 47) (tgt := 16) hX dX4_treeOf_47 (by decide) ?_
    refine l_tree1 hX hR hr hn hn10 hf hf10 kk (k + 1) (by omega) _ (fun q hq => ?_) (fun s hs => ?_)
    · rw [← mu_ne hq]; exact hτ q hq
    · by_cases e : s = k
      · rw [e, mu_at, hτ (40 + fi) (by omega)]
      · rw [mu_ni e]; exact hg s (by omega)
termination_by n - k
set_option maxRecDepth 100000 in
set_option maxHeartbeats 4000000 in
theorem l_tree2 {n fi : Nat} {mb left : Int32} {D : Nat → Nat → Int32} {X : XC} {P : Option Value → Mem → Prop} {σ : Mem} (hX : Cok X RX4 cX4_treeOf 6) (hR : Rok X 2) (hr : Ret X (some .int) P) (hn : σ 4 5 = nI n) (hn10 : n ≤ 10) (hf : σ 4 7 = nI fi) (hf10 : fi < 10) (hfi_lt : fi < n) (hD : ∀ a, a < 10 → σ (40 + a) = D a) (hp : ∀ τ, gapM σ τ → P (some (.int (trF fi n D left n).2.1)) τ) (k : Nat) (hk : k ≤ n) (τ : Mem) (hτ : gapM σ τ) (hg : ∀ s, s < n → τ 50 s = (trF fi n D left k).2.2 s) (z : Option Value) (hz : nol [z] = true) : Vw X 53 [some (.ref 4), some (.int mb), some (.int (trF fi n D left k).2.1), some (.int (trF fi n D left k).1), some (.int (nI k)), z] [] τ := by
  have r5 : τ 4 5 = nI n := by rw [hτ 4 (by decide)]; exact hn
  have r7 : τ 4 7 = nI fi := by rw [hτ 4 (by decide)]; exact hf
  have hne : neF fi (τ 50) (trF fi n D left k).1 n = neF fi (trF fi n D left k).2.2 (trF fi n D left k).1 n := neF_congr n hg
  have hx := neF_lt (trF fi n D left k).2.2 (trF fi n D left k).1 hf10 n hn10
  have ih := fun (h : k < n) (τ : Mem) (hτ : gapM σ τ) hg z hz => l_tree2 (mb := mb) hX hR hr hn hn10 hf hf10 hfi_lt hD hp (k + 1) h τ hτ hg z hz
  have hnx : (trF fi n D left k).1 ≠ 0 → (neF fi (trF fi n D left k).2.2 (trF fi n D left k).1 n).1 < n ∨ (neF fi (trF fi n D left k).2.2 (trF fi n D left k).1 n).1 = fi := fun _ => by
    have : ∀ j, j ≤ n → (neF fi (trF fi n D left k).2.2 (trF fi n D left k).1 j).1 < n ∨ (neF fi (trF fi n D left k).2.2 (trF fi n D left k).1 j).1 = fi := by
      intro j
      induction j with
      | zero => intro _; exact Or.inr rfl
      | succ j ihj =>
        intro hj
        unfold neF
        split
        · exact Or.inl (show j < n by omega)
        · exact ihj (by omega)
    exact this n (Nat.le_refl _)
  refine V_iload (pc := 53) (i := 4) hX dX4_treeOf_53 rfl ?_
  refine V_aload_n (pc := 55) (i := 0) hX dX4_treeOf_55 rfl rfl ?_
  refine V_getf (pc := 56) hX fX4_29 dX4_treeOf_56 rfl rfl ?_
  rw [r5]
  refine V_icmp_geN (pc := 59) (tgt := 109) hX dX4_treeOf_59 (by decide) (by omega) (by omega) (fun h59 => ?_) (fun h59 => ?_)
  · obtain rfl : k = n := by omega
    refine V_iload_n (pc := 109) (i := 2) hX dX4_treeOf_109 rfl rfl ?_
    exact V_iret (pc := 110) (st := []) hX hr (by first | rfl | exact bI_nar _ | decide +kernel) dX4_treeOf_110 (hp τ hτ)
  · refine V_iload_n (pc := 62) (i := 3) hX dX4_treeOf_62 rfl rfl ?_
    refine V_if_eq (pc := 63) (tgt := 109) hX dX4_treeOf_63 (by decide) (fun h63 => ?_) (fun h63 => ?_)
    · have e := trF_stop h63 (n - k)
      rw [show k + (n - k) = n by omega] at e
      rw [e] at hp
      refine V_iload_n (pc := 109) (i := 2) hX dX4_treeOf_109 rfl rfl ?_
      exact V_iret (pc := 110) (st := []) hX hr (by first | rfl | exact bI_nar _ | decide +kernel) dX4_treeOf_110 (hp τ hτ)
    · have hfn : fi < n ∨ n ≤ fi := by omega
      have ihk := ih h59
      rw [trF, if_neg h63] at ihk
      refine V_aload_n (pc := 66) (i := 0) hX dX4_treeOf_66 rfl rfl ?_
      refine V_iload_n (pc := 67) (i := 3) hX dX4_treeOf_67 rfl rfl ?_
      refine V_callVi (pc := 68) hX (hR.mono (by omega)) mX4_101 (c_nearestOf n fi _ _ r5 hn10 r7) dX4_treeOf_68 rfl rfl rfl rfl (Nat.le_of_ble_eq_true rfl) ?_
      rw [hne]
      refine V_istore5 (pc := 71) hX dX4_treeOf_71 hz ?_
      refine V_iload_n (pc := 73) (i := 2) hX dX4_treeOf_73 rfl rfl ?_
      refine V_aload_n (pc := 74) (i := 0) hX dX4_treeOf_74 rfl rfl ?_
      refine V_getr (pc := 75) hX fX4_26 dX4_treeOf_75 rfl rfl ?_
      refine V_iload (pc := 78) (i := 5) hX dX4_treeOf_78 rfl ?_
      refine V_iald (pc := 80) hX dX4_treeOf_80 (rfl) (rfl) hx (by decide) ?_
      rw [hg _ (by rcases hnx h63 with q | q; exact q; rw [q]; exact hfi_lt)]
      refine V_iadd (pc := 81) hX dX4_treeOf_81 ?_
      refine V_istore2 (pc := 82) hX dX4_treeOf_82 rfl ?_
      refine V_iload_n (pc := 83) (i := 3) hX dX4_treeOf_83 rfl rfl ?_
      refine V_iconst (pc := 84) (v := (nI 1)) hX dX4_treeOf_84 (by decide +kernel) ?_
      refine V_iload (pc := 85) (i := 5) hX dX4_treeOf_85 rfl ?_
      refine V_ishl (pc := 87) hX dX4_treeOf_87 ?_
      refine V_iconst (pc := 88) (v := (-1)) hX dX4_treeOf_88 (by decide +kernel) ?_
      refine V_ixor (pc := 89) hX dX4_treeOf_89 ?_
      refine V_iand (pc := 90) hX dX4_treeOf_90 ?_
      refine V_istore3 (pc := 91) hX dX4_treeOf_91 rfl ?_
      refine V_aload_n (pc := 92) (i := 0) hX dX4_treeOf_92 rfl rfl ?_
      refine V_aload_n (pc := 93) (i := 0) hX dX4_treeOf_93 rfl rfl ?_
      refine V_getr (pc := 94) hX fX4_26 dX4_treeOf_94 rfl rfl ?_
      refine V_iconst (pc := 97) (v := (nI 0)) hX dX4_treeOf_97 (by decide +kernel) ?_
      refine V_iload (pc := 98) (i := 5) hX dX4_treeOf_98 rfl ?_
      refine V_callVv (pc := 100) hX (hR.mono (by omega)) mX4_97 (c_shorten n 50 _ _ _ r5 hn10 hx rfl (by decide)) dX4_treeOf_100 rfl rfl rfl rfl (Nat.le_of_ble_eq_true rfl) ?_
      refine V_iinc4 (pc := 103) hX dX4_treeOf_103 rfl (iinc1 _) ?_
      refine V_goto (pc := 106) (tgt := 53) hX dX4_treeOf_106 (by decide) ?_
      refine ihk _ (fun q hq => ?_) (fun s hs => ?_) _ rfl
      · rw [← mf_ne hq]; exact hτ q hq
      · rw [mf_row, shF_lo _ _ _ n s hs, hg s hs, hτ (40 + _) (by omega), hD _ hx]
termination_by n - k
set_option maxRecDepth 100000 in
set_option maxHeartbeats 4000000 in
theorem c_treeOf (n fi : Nat) (mb : Int32) (D : Nat → Nat → Int32) (σ : Mem) (hn : σ 4 5 = nI n) (hn10 : n ≤ 10) (hf : σ 4 7 = nI fi) (hfn : fi < n) (hD : ∀ a, a < 10 → σ (40 + a) = D a) : Cc yX4_treeOf cX4_treeOf 6 (some .int) 2 [.ref 4, .int mb] σ (rP (fun v τ => v = treeF fi n D mb ∧ gapM σ τ)) := by
  refine Cc.intro (by decide +kernel) [some (.ref 4), some (.int mb), none, none, none, none] (fun _ => rfl) rfl (fun _ => Nat.le_of_ble_eq_true rfl) ?_
  intro X hX hR hr
  have k50 : ∀ τ, gapM σ τ → (∀ s, s < n → τ 50 s = σ (40 + fi) s) → Vw X 50 [some (.ref 4), some (.int mb), some (.int (nI 0)), some (.int (mb &&& (sh1 fi ^^^ (-1)))), some (.int (nI n)), none] [] τ := by
    intro τ hτ hg
    refine V_iconst (pc := 50) (v := (nI 0)) hX dX4_treeOf_50 (by decide +kernel) ?_
    refine V_istore4 (pc := 51) hX dX4_treeOf_51 rfl ?_
    exact l_tree2 (D := D) hX hR hr hn hn10 hf (by omega) hfn hD (fun τ hτ => ⟨_, rfl, rfl, hτ⟩) 0 (Nat.zero_le _) τ hτ (fun s hs => by rw [hg s hs, hD fi (by omega)]; rfl) none rfl
  refine V_iconst (pc := 0) (v := (nI 0)) hX dX4_treeOf_0 (by decide +kernel) ?_
  refine V_istore2 (pc := 1) hX dX4_treeOf_1 rfl ?_
  refine V_iload_n (pc := 2) (i := 1) hX dX4_treeOf_2 rfl rfl ?_
  refine V_iconst (pc := 3) (v := (nI 1)) hX dX4_treeOf_3 (by decide +kernel) ?_
  refine V_aload_n (pc := 4) (i := 0) hX dX4_treeOf_4 rfl rfl ?_
  refine V_getf (pc := 5) hX fX4_46 dX4_treeOf_5 rfl rfl ?_
  rw [hf]
  refine V_ishl (pc := 8) hX dX4_treeOf_8 ?_
  refine V_iconst (pc := 9) (v := (-1)) hX dX4_treeOf_9 (by decide +kernel) ?_
  refine V_ixor (pc := 10) hX dX4_treeOf_10 ?_
  refine V_iand (pc := 11) hX dX4_treeOf_11 ?_
  refine V_istore3 (pc := 12) hX dX4_treeOf_12 rfl ?_
  refine V_iconst (pc := 13) (v := (nI 0)) hX dX4_treeOf_13 (by decide +kernel) ?_
  refine V_istore4 (pc := 14) hX dX4_treeOf_14 rfl ?_
  exact l_tree1 hX hR hr hn hn10 hf (by omega) k50 0 (Nat.zero_le _) σ (fun _ _ => rfl) (fun s hs => absurd hs (by omega))
/-- the least tree among the first m sets of more sites -/
def blF (fi n : Nat) (D : Nat → Nat → Int32) (jo most : Int32) : Nat → Int32
  | 0 => nI 1000000
  | m + 1 => if nI m &&& jo = 0 ∧ bcF (nI m) ≤ most then imin (blF fi n D jo most m) (treeF fi n D (jo ||| nI m)) else blF fi n D jo most m
set_option maxRecDepth 100000 in
set_option maxHeartbeats 4000000 in
theorem l_leastS {n fi : Nat} {most : Int32} {D : Nat → Nat → Int32} {X : XC} {P : Option Value → Mem → Prop} {σ : Mem} (hX : Cok X RX4 cX4_least 4) (hR : Rok X 3) (hr : Ret X (some .int) P) (hn : σ 4 5 = nI n) (hn10 : n ≤ 10) (hf : σ 4 7 = nI fi) (hfn : fi < n) (hD : ∀ a, a < 10 → σ (40 + a) = D a) (hp : ∀ τ, gapM σ τ → P (some (.int (if blF fi n D (σ 4 8) most (2 ^ n) < nI 1000000 then blF fi n D (σ 4 8) most (2 ^ n) else (-1000000)))) τ) (m : Nat) (hm : m ≤ 2 ^ n) (τ : Mem) (hτ : gapM σ τ) : Vw X 25 [some (.ref 4), some (.int most), some (.int (blF fi n D (σ 4 8) most m)), some (.int (nI m))] [] τ := by
  have h1024 : 2 ^ n ≤ 1024 := Nat.pow_le_pow_right (n := 2) (by decide) hn10
  have r5 : τ 4 5 = nI n := by rw [hτ 4 (by decide)]; exact hn
  have r7 : τ 4 7 = nI fi := by rw [hτ 4 (by decide)]; exact hf
  have r8 : τ 4 8 = σ 4 8 := by rw [hτ 4 (by decide)]
  have rD : ∀ a, a < 10 → τ (40 + a) = D a := fun a ha => by rw [hτ _ (by omega)]; exact hD a ha
  have ih := fun (h : m < 2 ^ n) (τ : Mem) (hτ : gapM σ τ) => l_leastS hX hR hr hn hn10 hf hfn hD hp (m + 1) h τ hτ
  have k63 : m < 2 ^ n → nI m &&& σ 4 8 = 0 → ¬ most < bcF (nI m) → ∀ τ, gapM σ τ → Vw X 63 [some (.ref 4), some (.int most), some (.int (blF fi n D (σ 4 8) most m)), some (.int (nI m))] [.int (treeF fi n D (σ 4 8 ||| nI m)), .int (blF fi n D (σ 4 8) most m)] τ := by
    intro h32 h41 h49 τ hτ
    refine V_mmin (pc := 63) hX (hR.mono (by omega)) mX4_71 dX4_least_63 rfl (Nat.le_of_ble_eq_true rfl) ?_
    refine V_istore2 (pc := 66) hX dX4_least_66 rfl ?_
    refine V_iinc3 (pc := 67) hX dX4_least_67 rfl (iinc1 _) ?_
    refine V_goto (pc := 70) (tgt := 25) hX dX4_least_70 (by decide) ?_
    have ihk := ih h32 τ hτ
    rw [blF, if_pos ⟨h41, Int32.not_lt.mp h49⟩] at ihk
    exact ihk
  refine V_iload_n (pc := 25) (i := 3) hX dX4_least_25 rfl rfl ?_
  refine V_iconst (pc := 26) (v := (nI 1)) hX dX4_least_26 (by decide +kernel) ?_
  refine V_aload_n (pc := 27) (i := 0) hX dX4_least_27 rfl rfl ?_
  refine V_getf (pc := 28) hX fX4_29 dX4_least_28 rfl rfl ?_
  rw [r5]
  refine V_ishl (pc := 31) hX dX4_least_31 ?_
  rw [shl1 (by omega)]
  refine V_icmp_geN (pc := 32) (tgt := 73) hX dX4_least_32 (by decide) (by omega) (by omega) (fun h32 => ?_) (fun h32 => ?_)
  · obtain rfl : m = 2 ^ n := by omega
    refine V_iload_n (pc := 73) (i := 2) hX dX4_least_73 rfl rfl ?_
    refine V_ldc (pc := 74) hX kX4_55 dX4_least_74 ?_
    refine V_icmp_ge (pc := 76) (tgt := 83) hX dX4_least_76 (by decide) (fun h76 => ?_) (fun h76 => ?_)
    · refine V_ldc (pc := 83) hX kX4_56 dX4_least_83 ?_
      exact V_iret (pc := 85) (st := []) hX hr (by first | rfl | exact bI_nar _ | decide +kernel) dX4_least_85 (by have h := hp τ hτ; rw [if_neg (Int32.not_lt.mpr h76)] at h; exact h)
    · refine V_iload_n (pc := 79) (i := 2) hX dX4_least_79 rfl rfl ?_
      refine V_goto (pc := 80) (tgt := 85) hX dX4_least_80 (by decide) ?_
      exact V_iret (pc := 85) (st := []) hX hr (by first | rfl | exact bI_nar _ | decide +kernel) dX4_least_85 (by have h := hp τ hτ; rw [if_pos (Int32.not_le.mp h76)] at h; exact h)
  · refine V_iload_n (pc := 35) (i := 3) hX dX4_least_35 rfl rfl ?_
    refine V_aload_n (pc := 36) (i := 0) hX dX4_least_36 rfl rfl ?_
    refine V_getf (pc := 37) hX fX4_43 dX4_least_37 rfl rfl ?_
    rw [r8]
    refine V_iand (pc := 40) hX dX4_least_40 ?_
    refine V_if_ne (pc := 41) (tgt := 67) hX dX4_least_41 (by decide) (fun h41 => ?_) (fun h41 => ?_)
    · refine V_iinc3 (pc := 67) hX dX4_least_67 rfl (iinc1 _) ?_
      refine V_goto (pc := 70) (tgt := 25) hX dX4_least_70 (by decide) ?_
      have ihk := ih h32 τ hτ
      rw [blF, if_neg (fun q => h41 q.1)] at ihk
      exact ihk
    · refine V_iload_n (pc := 44) (i := 3) hX dX4_least_44 rfl rfl ?_
      refine V_callSi (pc := 45) hX (hR.mono (by omega)) mX4_86 (c_bitCount _ _) dX4_least_45 rfl rfl rfl (Nat.le_of_ble_eq_true rfl) ?_
      refine V_iload_n (pc := 48) (i := 1) hX dX4_least_48 rfl rfl ?_
      refine V_icmp_gt (pc := 49) (tgt := 67) hX dX4_least_49 (by decide) (fun h49 => ?_) (fun h49 => ?_)
      · refine V_iinc3 (pc := 67) hX dX4_least_67 rfl (iinc1 _) ?_
        refine V_goto (pc := 70) (tgt := 25) hX dX4_least_70 (by decide) ?_
        have ihk := ih h32 τ hτ
        rw [blF, if_neg (fun q => Int32.not_lt.mpr q.2 h49)] at ihk
        exact ihk
      · refine V_iload_n (pc := 52) (i := 2) hX dX4_least_52 rfl rfl ?_
        refine V_aload_n (pc := 53) (i := 0) hX dX4_least_53 rfl rfl ?_
        refine V_aload_n (pc := 54) (i := 0) hX dX4_least_54 rfl rfl ?_
        refine V_getf (pc := 55) hX fX4_43 dX4_least_55 rfl rfl ?_
        rw [r8]
        refine V_iload_n (pc := 58) (i := 3) hX dX4_least_58 rfl rfl ?_
        refine V_ior (pc := 59) hX dX4_least_59 ?_
        refine V_callV (pc := 60) hX (hR.mono (by omega)) mX4_94 (c_treeOf n fi _ D _ r5 hn10 r7 hfn rD) dX4_least_60 rfl rfl rfl rfl (Nat.le_of_ble_eq_true rfl) (fun r σ2 h => by obtain ⟨v, rfl, rfl, hg⟩ := h; exact k63 h32 h41 h49 σ2 (fun q hq => by rw [hg q hq]; exact hτ q hq))
termination_by 2 ^ n - m
def leastV (σ : Mem) (n fi : Nat) : Int32 := if bcF (σ 4 8) - nI 2 < 0 then nI 0 else if blF fi n (nearF σ n) (σ 4 8) (bcF (σ 4 8) - nI 2) (2 ^ n) < nI 1000000 then blF fi n (nearF σ n) (σ 4 8) (bcF (σ 4 8) - nI 2) (2 ^ n) else (-1000000)
/-- the scratch rows of the class's sites -/
def scrC (σ τ : Mem) : Prop := ∀ q, ¬ (40 ≤ q ∧ q ≤ 50) → τ q = σ q
set_option maxRecDepth 100000 in
set_option maxHeartbeats 4000000 in
theorem c_leastS (n fi : Nat) (σ : Mem) (hn : σ 4 5 = nI n) (hn10 : n ≤ 10) (hf : ¬ bcF (σ 4 8) - nI 2 < 0 → σ 4 7 = nI fi ∧ fi < n) : Cc yX4_least cX4_least 4 (some .int) 3 [.ref 4] σ (rP (fun v τ => v = leastV σ n fi ∧ scrC σ τ)) := by
  refine Cc.intro (by decide +kernel) [some (.ref 4), none, none, none] (fun _ => rfl) rfl (fun _ => Nat.le_of_ble_eq_true rfl) ?_
  intro X hX hR hr
  have m4 : ∀ j, mm σ (nearF σ n) 4 j = σ 4 j := fun j => by rw [mm_ne (by omega)]
  refine V_aload_n (pc := 0) (i := 0) hX dX4_least_0 rfl rfl ?_
  refine V_getf (pc := 1) hX fX4_43 dX4_least_1 rfl rfl ?_
  refine V_callSi (pc := 4) hX (hR.mono (by omega)) mX4_86 (c_bitCount _ _) dX4_least_4 rfl rfl rfl (Nat.le_of_ble_eq_true rfl) ?_
  refine V_iconst (pc := 7) (v := (nI 2)) hX dX4_least_7 (by decide +kernel) ?_
  refine V_isub (pc := 8) hX dX4_least_8 ?_
  refine V_istore1 (pc := 9) hX dX4_least_9 rfl ?_
  refine V_iload_n (pc := 10) (i := 1) hX dX4_least_10 rfl rfl ?_
  refine V_if_ge (pc := 11) (tgt := 16) hX dX4_least_11 (by decide) (fun h11 => ?_) (fun h11 => ?_)
  · refine V_aload_n (pc := 16) (i := 0) hX dX4_least_16 rfl rfl ?_
    refine V_callVv (pc := 17) hX (hR.mono (by omega)) mX4_91 (c_findNearest n _ hn hn10) dX4_least_17 rfl rfl rfl rfl (Nat.le_of_ble_eq_true rfl) ?_
    refine V_ldc (pc := 20) hX kX4_55 dX4_least_20 ?_
    refine V_istore2 (pc := 22) hX dX4_least_22 rfl ?_
    refine V_iconst (pc := 23) (v := (nI 0)) hX dX4_least_23 (by decide +kernel) ?_
    refine V_istore3 (pc := 24) hX dX4_least_24 rfl ?_
    obtain ⟨hf1, hf2⟩ := hf (Int32.not_lt.mpr h11)
    refine l_leastS (D := nearF σ n) (fi := fi) hX hR hr ((m4 5).trans hn) hn10 ((m4 7).trans hf1) hf2 (fun a ha => mm_at ha) (fun τ hτ => ?_) 0 (Nat.zero_le _) _ (fun _ _ => rfl)
    refine ⟨_, rfl, ?_, fun q hq => ?_⟩
    · rw [leastV, if_neg (Int32.not_lt.mpr h11), m4]
    · rw [hτ q (by omega), mm_ne (by omega)]
  · refine V_iconst (pc := 14) (v := (nI 0)) hX dX4_least_14 (by decide +kernel) ?_
    exact V_iret (pc := 15) (st := []) hX hr (by first | rfl | exact bI_nar _ | decide +kernel) dX4_least_15 (⟨_, rfl, by rw [leastV, if_pos (Int32.not_le.mp h11)], fun _ _ => rfl⟩)

