/-! ===== the least of SITES, the class's ===== -/
def shF (g : Nat → Int32) (far : Int32) (h : Nat → Int32) : Nat → Nat → Int32
  | 0 => g
  | b + 1 => upd (shF g far h b) b (imin (shF g far h b b) (far + h b))
theorem shF_hi (g : Nat → Int32) (far : Int32) (h : Nat → Int32) : ∀ (b j : Nat), b ≤ j → shF g far h b j = g j
  | 0, _, _ => rfl
  | b + 1, j, hj => by
    rw [shF, upd_at, if_neg (by omega), shF_hi g far h b j (by omega)]
theorem shF_lo (g : Nat → Int32) (far : Int32) (h : Nat → Int32) : ∀ (b j : Nat), j < b → shF g far h b j = imin (g j) (far + h j)
  | b + 1, j, hj => by
    rw [shF, upd_at]
    by_cases e : j = b
    · rw [if_pos e, e, shF_hi g far h b b (Nat.le_refl _)]
    · rw [if_neg e, shF_lo g far h b j (by omega)]
set_option maxRecDepth 100000 in
set_option maxHeartbeats 4000000 in
theorem l_shorten {n p ov : Nat} {far : Int32} {X : XC} {P : Option Value → Mem → Prop} {σ : Mem} (hX : Cok X RX4 cX4_shorten 5) (hR : Rok X 1) (hr : Ret X none P) (hn : σ 4 5 = nI n) (hn10 : n ≤ 10) (hv : ov < 10) (hs : shp[p]? = some (.inr (.inl (0, 10)))) (hp4 : p ≠ 4) (hp : P none (mf σ p (shF (σ p) far (σ (40 + ov)) n))) (b : Nat) (hb : b ≤ n) : Vw X 3 [some (.ref 4), some (.ref p), some (.int far), some (.int (nI ov)), some (.int (nI b))] [] (mf σ p (shF (σ p) far (σ (40 + ov)) b)) := by
  have r5 : mf σ p (shF (σ p) far (σ (40 + ov)) b) 4 5 = nI n := by rw [← mf_ne (Ne.symm hp4)]; exact hn
  have rh : mf σ p (shF (σ p) far (σ (40 + ov)) b) (40 + ov) b = σ (40 + ov) b := by
    rw [mf_at]
    by_cases e : 40 + ov = p
    · rw [if_pos e, shF_hi _ _ _ b b (Nat.le_refl _), e]
    · rw [if_neg e]
  refine V_iload (pc := 3) (i := 4) hX dX4_shorten_3 rfl ?_
  refine V_aload_n (pc := 5) (i := 0) hX dX4_shorten_5 rfl rfl ?_
  refine V_getf (pc := 6) hX fX4_29 dX4_shorten_6 rfl rfl ?_
  rw [r5]
  refine V_icmp_geN (pc := 9) (tgt := 40) hX dX4_shorten_9 (by decide) (by omega) (by omega) (fun h9 => ?_) (fun h9 => ?_)
  · obtain rfl : b = n := by omega
    exact V_vret (pc := 40) (st := []) hX hr dX4_shorten_40 (hp)
  · refine V_aload_n (pc := 12) (i := 1) hX dX4_shorten_12 rfl rfl ?_
    refine V_iload (pc := 13) (i := 4) hX dX4_shorten_13 rfl ?_
    refine V_aload_n (pc := 15) (i := 1) hX dX4_shorten_15 rfl rfl ?_
    refine V_iload (pc := 16) (i := 4) hX dX4_shorten_16 rfl ?_
    refine V_iald (pc := 18) hX dX4_shorten_18 (hs) (rfl) (by omega) (by decide) ?_
    refine V_iload_n (pc := 19) (i := 2) hX dX4_shorten_19 rfl rfl ?_
    refine V_aload_n (pc := 20) (i := 0) hX dX4_shorten_20 rfl rfl ?_
    refine V_getr (pc := 21) hX fX4_23 dX4_shorten_21 rfl rfl ?_
    refine V_iload_n (pc := 24) (i := 3) hX dX4_shorten_24 rfl rfl ?_
    refine V_aald (pc := 25) hX dX4_shorten_25 (rfl) (rfl) (by omega) (by decide) ?_
    refine V_iload (pc := 26) (i := 4) hX dX4_shorten_26 rfl ?_
    refine V_iald (pc := 28) hX dX4_shorten_28 (shp_near hv) (rfl) (by omega) (by decide) ?_
    rw [rh, mf_row]
    refine V_iadd (pc := 29) hX dX4_shorten_29 ?_
    refine V_mmin (pc := 30) hX (hR.mono (by omega)) mX4_71 dX4_shorten_30 rfl (Nat.le_of_ble_eq_true rfl) ?_
    refine V_iast (pc := 33) hX dX4_shorten_33 (hs) (rfl) (by omega) (by decide) ?_
    refine V_iinc4 (pc := 34) hX dX4_shorten_34 rfl (iinc1 _) ?_
    refine V_goto (pc := 37) (tgt := 3) hX dX4_shorten_37 (by decide) ?_
    have ih := l_shorten hX hR hr hn hn10 hv hs hp4 hp (b + 1) (by omega)
    rw [shF] at ih
    rw [mf_mu]
    exact ih
termination_by n - b
theorem c_shorten (n p ov : Nat) (far : Int32) (σ : Mem) (hn : σ 4 5 = nI n) (hn10 : n ≤ 10) (hv : ov < 10) (hs : shp[p]? = some (.inr (.inl (0, 10)))) (hp4 : p ≠ 4) : Cc yX4_shorten cX4_shorten 5 none 1 [.ref 4, .ref p, .int far, .int (nI ov)] σ (rV (mf σ p (shF (σ p) far (σ (40 + ov)) n))) := by
  refine Cc.intro (by decide +kernel) [some (.ref 4), some (.ref p), some (.int far), some (.int (nI ov)), none] (fun _ => rfl) rfl (fun _ => Nat.le_of_ble_eq_true rfl) ?_
  intro X hX hR hr
  refine V_iconst (pc := 0) (v := (nI 0)) hX dX4_shorten_0 (by decide +kernel) ?_
  refine V_istore4 (pc := 1) hX dX4_shorten_1 rfl ?_
  refine Vw.mem (show mf σ p (shF (σ p) far (σ (40 + ov)) 0) = σ from mf_id σ p) ?_
  exact l_shorten hX hR hr hn hn10 hv hs hp4 ⟨rfl, rfl⟩ 0 (Nat.zero_le _)
/-- the nearest distances: a matrix laid over the rows 40 .. -/
def mm (σ : Mem) (D : Nat → Nat → Int32) : Mem := fun q => if 40 ≤ q ∧ q < 50 then D (q - 40) else σ q
theorem mm_at {σ : Mem} {D : Nat → Nat → Int32} {a : Nat} (h : a < 10) : mm σ D (40 + a) = D a := by
  show (if 40 ≤ 40 + a ∧ 40 + a < 50 then D (40 + a - 40) else σ (40 + a)) = D a
  rw [if_pos (by omega), Nat.add_sub_cancel_left]
theorem mm_ne {σ : Mem} {D : Nat → Nat → Int32} {q : Nat} (h : q < 40 ∨ 50 ≤ q) : mm σ D q = σ q := if_neg (by omega)
def updM (D : Nat → Nat → Int32) (a : Nat) (g : Nat → Int32) : Nat → Nat → Int32 := fun b => if b = a then g else D b
theorem mm_mf {σ : Mem} {D : Nat → Nat → Int32} {a : Nat} {g : Nat → Int32} (h : a < 10) : mf (mm σ D) (40 + a) g = mm σ (updM D a g) := by
  funext q
  unfold mf mm updM
  by_cases h1 : q = 40 + a
  · rw [if_pos h1, if_pos (by omega), if_pos (by omega)]
  · rw [if_neg h1]
    by_cases h2 : 40 ≤ q ∧ q < 50
    · rw [if_pos h2, if_pos h2, if_neg (by omega)]
    · rw [if_neg h2, if_neg h2]
theorem mm_mu {σ : Mem} {D : Nat → Nat → Int32} {a i : Nat} {v : Int32} (h : a < 10) : mu (mm σ D) (40 + a) i v = mm σ (updM D a (upd (D a) i v)) := by
  rw [← mm_mf h]
  funext q j
  simp only [mu, mf, upd]
  by_cases h1 : q = 40 + a
  · subst h1
    rw [mm_at h]
    by_cases h2 : j = i <;> simp [h2]
  · simp [h1]
theorem mm_id (σ : Mem) : mm σ (fun a => σ (40 + a)) = σ := by
  funext q
  unfold mm
  by_cases h : 40 ≤ q ∧ q < 50
  · rw [if_pos h, show 40 + (q - 40) = q by omega]
  · rw [if_neg h]
theorem updM_at (D : Nat → Nat → Int32) (a : Nat) (g : Nat → Int32) (b : Nat) : updM D a g b = if b = a then g else D b := rfl
theorem updM_id (D : Nat → Nat → Int32) (a : Nat) : updM D a (D a) = D := by
  funext b
  unfold updM
  split
  · rename_i h; rw [h]
  · rfl
theorem updM_updM (D : Nat → Nat → Int32) (a : Nat) (g h : Nat → Int32) : updM (updM D a g) a h = updM D a h := by
  funext b
  unfold updM
  split <;> rfl
def fiR (l : Nat → Nat → Int32) (a : Nat) (o : Nat → Int32) : Nat → Nat → Int32
  | 0 => o
  | b + 1 => upd (fiR l a o b) b (if 0 < l a b then l a b else nI 1000000)
def fiD (l : Nat → Nat → Int32) (n : Nat) (D : Nat → Nat → Int32) : Nat → Nat → Nat → Int32
  | 0 => D
  | a + 1 => updM (fiD l n D a) a (upd (fiR l a (fiD l n D a a) n) a (nI 0))
def foA (n o : Nat) (D : Nat → Nat → Int32) : Nat → Nat → Nat → Int32
  | 0 => D
  | a + 1 => updM (foA n o D a) a (shF (foA n o D a a) (foA n o D a a o) (foA n o D a o) n)
def foO (n : Nat) (D : Nat → Nat → Int32) : Nat → Nat → Nat → Int32
  | 0 => D
  | o + 1 => foA n o (foO n D o) n
theorem mm_ln {σ : Mem} {D : Nat → Nat → Int32} : ln (mm σ D) = ln σ := ln_of (fun q h1 h2 => mm_ne (by omega))
set_option maxRecDepth 100000 in
set_option maxHeartbeats 4000000 in
theorem l_fn1 {n a : Nat} {D : Nat → Nat → Int32} {X : XC} {P : Option Value → Mem → Prop} {σ : Mem} (hX : Cok X RX4 cX4_findNearest 3) (hR : Rok X 2) (hr : Ret X none P) (hn : σ 4 5 = nI n) (hn10 : n ≤ 10) (ha : a < 10) (kk : Vw X 58 [some (.ref 4), some (.int (nI a)), some (.int (nI n))] [] (mm σ (updM D a (fiR (ln σ) a (D a) n)))) (b : Nat) (hb : b ≤ n) : Vw X 12 [some (.ref 4), some (.int (nI a)), some (.int (nI b))] [] (mm σ (updM D a (fiR (ln σ) a (D a) b))) := by
  have r5 : ∀ D, mm σ D 4 5 = nI n := fun D => by rw [mm_ne (by omega)]; exact hn
  have rl : ∀ D, mm σ D (27 + a) b = ln σ a b := fun D => by rw [← ln_at ha, mm_ln]
  refine V_iload_n (pc := 12) (i := 2) hX dX4_findNearest_12 rfl rfl ?_
  refine V_aload_n (pc := 13) (i := 0) hX dX4_findNearest_13 rfl rfl ?_
  refine V_getf (pc := 14) hX fX4_29 dX4_findNearest_14 rfl rfl ?_
  rw [r5]
  refine V_icmp_geN (pc := 17) (tgt := 58) hX dX4_findNearest_17 (by decide) (by omega) (by omega) (fun h17 => ?_) (fun h17 => ?_)
  · obtain rfl : b = n := by omega
    exact kk
  · refine V_aload_n (pc := 20) (i := 0) hX dX4_findNearest_20 rfl rfl ?_
    refine V_getr (pc := 21) hX fX4_23 dX4_findNearest_21 rfl rfl ?_
    refine V_iload_n (pc := 24) (i := 1) hX dX4_findNearest_24 rfl rfl ?_
    refine V_aald (pc := 25) hX dX4_findNearest_25 (rfl) (rfl) (by omega) (by decide) ?_
    refine V_iload_n (pc := 26) (i := 2) hX dX4_findNearest_26 rfl rfl ?_
    refine V_aload_n (pc := 27) (i := 0) hX dX4_findNearest_27 rfl rfl ?_
    refine V_getr (pc := 28) hX fX4_11 dX4_findNearest_28 rfl rfl ?_
    refine V_iload_n (pc := 31) (i := 1) hX dX4_findNearest_31 rfl rfl ?_
    refine V_aald (pc := 32) hX dX4_findNearest_32 (rfl) (rfl) (by omega) (by decide) ?_
    refine V_iload_n (pc := 33) (i := 2) hX dX4_findNearest_33 rfl rfl ?_
    refine V_iald (pc := 34) hX dX4_findNearest_34 (shp_ways ha) (rfl) (by omega) (by decide) ?_
    rw [rl]
    refine V_if_le (pc := 35) (tgt := 49) hX dX4_findNearest_35 (by decide) (fun h35 => ?_) (fun h35 => ?_)
    · refine V_ldc (pc := 49) hX kX4_55 dX4_findNearest_49 ?_
      refine V_iast (pc := 51) hX dX4_findNearest_51 (shp_near ha) (rfl) (by omega) (by decide) ?_
      refine V_iinc2 (pc := 52) hX dX4_findNearest_52 rfl (iinc1 _) ?_
      refine V_goto (pc := 55) (tgt := 12) hX dX4_findNearest_55 (by decide) ?_
      have ih := l_fn1 hX hR hr hn hn10 ha kk (b + 1) (by omega)
      rw [fiR, if_neg (Int32.not_lt.mpr h35)] at ih
      rw [mm_mu ha, updM_at, if_pos rfl, updM_updM]
      exact ih
    · refine V_aload_n (pc := 38) (i := 0) hX dX4_findNearest_38 rfl rfl ?_
      refine V_getr (pc := 39) hX fX4_11 dX4_findNearest_39 rfl rfl ?_
      refine V_iload_n (pc := 42) (i := 1) hX dX4_findNearest_42 rfl rfl ?_
      refine V_aald (pc := 43) hX dX4_findNearest_43 (rfl) (rfl) (by omega) (by decide) ?_
      refine V_iload_n (pc := 44) (i := 2) hX dX4_findNearest_44 rfl rfl ?_
      refine V_iald (pc := 45) hX dX4_findNearest_45 (shp_ways ha) (rfl) (by omega) (by decide) ?_
      rw [rl]
      refine V_goto (pc := 46) (tgt := 51) hX dX4_findNearest_46 (by decide) ?_
      refine V_iast (pc := 51) hX dX4_findNearest_51 (shp_near ha) (rfl) (by omega) (by decide) ?_
      refine V_iinc2 (pc := 52) hX dX4_findNearest_52 rfl (iinc1 _) ?_
      refine V_goto (pc := 55) (tgt := 12) hX dX4_findNearest_55 (by decide) ?_
      have ih := l_fn1 hX hR hr hn hn10 ha kk (b + 1) (by omega)
      rw [fiR, if_pos (Int32.not_le.mp h35)] at ih
      rw [mm_mu ha, updM_at, if_pos rfl, updM_updM]
      exact ih
termination_by n - b
set_option maxRecDepth 100000 in
set_option maxHeartbeats 4000000 in
theorem l_fn2 {n : Nat} {D : Nat → Nat → Int32} {X : XC} {P : Option Value → Mem → Prop} {σ : Mem} (hX : Cok X RX4 cX4_findNearest 3) (hR : Rok X 2) (hr : Ret X none P) (hn : σ 4 5 = nI n) (hn10 : n ≤ 10) (kk : ∀ z, nol [z] = true → Vw X 73 [some (.ref 4), some (.int (nI n)), z] [] (mm σ (fiD (ln σ) n D n))) (a : Nat) (ha : a ≤ n) (z : Option Value) (hz : nol [z] = true) : Vw X 2 [some (.ref 4), some (.int (nI a)), z] [] (mm σ (fiD (ln σ) n D a)) := by
  have r5 : ∀ D, mm σ D 4 5 = nI n := fun D => by rw [mm_ne (by omega)]; exact hn
  refine V_iload_n (pc := 2) (i := 1) hX dX4_findNearest_2 rfl rfl ?_
  refine V_aload_n (pc := 3) (i := 0) hX dX4_findNearest_3 rfl rfl ?_
  refine V_getf (pc := 4) hX fX4_29 dX4_findNearest_4 rfl rfl ?_
  rw [r5]
  refine V_icmp_geN (pc := 7) (tgt := 73) hX dX4_findNearest_7 (by decide) (by omega) (by omega) (fun h7 => ?_) (fun h7 => ?_)
  · obtain rfl : a = n := by omega
    exact kk z hz
  · refine V_iconst (pc := 10) (v := (nI 0)) hX dX4_findNearest_10 (by decide +kernel) ?_
    refine V_istore2 (pc := 11) hX dX4_findNearest_11 hz ?_
    have k58 : Vw X 58 [some (.ref 4), some (.int (nI a)), some (.int (nI n))] [] (mm σ (updM (fiD (ln σ) n D a) a (fiR (ln σ) a (fiD (ln σ) n D a a) n))) := by
      have ih := l_fn2 hX hR hr hn hn10 kk (a + 1) (by omega) (some (.int (nI n))) rfl
      rw [fiD] at ih
      refine V_aload_n (pc := 58) (i := 0) hX dX4_findNearest_58 rfl rfl ?_
      refine V_getr (pc := 59) hX fX4_23 dX4_findNearest_59 rfl rfl ?_
      refine V_iload_n (pc := 62) (i := 1) hX dX4_findNearest_62 rfl rfl ?_
      refine V_aald (pc := 63) hX dX4_findNearest_63 (rfl) (rfl) (by omega) (by decide) ?_
      refine V_iload_n (pc := 64) (i := 1) hX dX4_findNearest_64 rfl rfl ?_
      refine V_iconst (pc := 65) (v := (nI 0)) hX dX4_findNearest_65 (by decide +kernel) ?_
      refine V_iast (pc := 66) hX dX4_findNearest_66 (shp_near (show a < 10 by omega)) (rfl) (by omega) (by decide) ?_
      refine V_iinc1 (pc := 67) hX dX4_findNearest_67 rfl (iinc1 _) ?_
      refine V_goto (pc := 70) (tgt := 2) hX dX4_findNearest_70 (by decide) ?_
      rw [mm_mu (by omega), updM_at, if_pos rfl, updM_updM]
      exact ih
    refine Vw.mem (show mm σ (updM (fiD (ln σ) n D a) a (fiR (ln σ) a (fiD (ln σ) n D a a) 0)) = mm σ (fiD (ln σ) n D a) from congrArg (mm σ) (updM_id _ _)) ?_
    exact l_fn1 hX hR hr hn hn10 (by omega) k58 0 (Nat.zero_le _)
termination_by n - a
set_option maxRecDepth 100000 in
set_option maxHeartbeats 4000000 in
theorem l_fn3 {n o : Nat} {D : Nat → Nat → Int32} {X : XC} {P : Option Value → Mem → Prop} {σ : Mem} (hX : Cok X RX4 cX4_findNearest 3) (hR : Rok X 2) (hr : Ret X none P) (hn : σ 4 5 = nI n) (hn10 : n ≤ 10) (ho : o < n) (kk : Vw X 118 [some (.ref 4), some (.int (nI o)), some (.int (nI n))] [] (mm σ (foA n o D n))) (a : Nat) (ha : a ≤ n) : Vw X 85 [some (.ref 4), some (.int (nI o)), some (.int (nI a))] [] (mm σ (foA n o D a)) := by
  have r5 : ∀ D, mm σ D 4 5 = nI n := fun D => by rw [mm_ne (by omega)]; exact hn
  have ih := fun (h : a < n) => l_fn3 hX hR hr hn hn10 ho kk (a + 1) h
  refine V_iload_n (pc := 85) (i := 2) hX dX4_findNearest_85 rfl rfl ?_
  refine V_aload_n (pc := 86) (i := 0) hX dX4_findNearest_86 rfl rfl ?_
  refine V_getf (pc := 87) hX fX4_29 dX4_findNearest_87 rfl rfl ?_
  rw [r5]
  refine V_icmp_geN (pc := 90) (tgt := 118) hX dX4_findNearest_90 (by decide) (by omega) (by omega) (fun h90 => ?_) (fun h90 => ?_)
  · obtain rfl : a = n := by omega
    exact kk
  · refine V_aload_n (pc := 93) (i := 0) hX dX4_findNearest_93 rfl rfl ?_
    refine V_aload_n (pc := 94) (i := 0) hX dX4_findNearest_94 rfl rfl ?_
    refine V_getr (pc := 95) hX fX4_23 dX4_findNearest_95 rfl rfl ?_
    refine V_iload_n (pc := 98) (i := 2) hX dX4_findNearest_98 rfl rfl ?_
    refine V_aald (pc := 99) hX dX4_findNearest_99 (rfl) (rfl) (by omega) (by decide) ?_
    refine V_aload_n (pc := 100) (i := 0) hX dX4_findNearest_100 rfl rfl ?_
    refine V_getr (pc := 101) hX fX4_23 dX4_findNearest_101 rfl rfl ?_
    refine V_iload_n (pc := 104) (i := 2) hX dX4_findNearest_104 rfl rfl ?_
    refine V_aald (pc := 105) hX dX4_findNearest_105 (rfl) (rfl) (by omega) (by decide) ?_
    refine V_iload_n (pc := 106) (i := 1) hX dX4_findNearest_106 rfl rfl ?_
    refine V_iald (pc := 107) hX dX4_findNearest_107 (shp_near (show a < 10 by omega)) (rfl) (by omega) (by decide) ?_
    refine V_iload_n (pc := 108) (i := 1) hX dX4_findNearest_108 rfl rfl ?_
    refine V_callVv (pc := 109) hX (hR.mono (by omega)) mX4_97 (c_shorten n (40 + a) o _ _ (r5 _) hn10 (by omega) (shp_near (by omega)) (by omega)) dX4_findNearest_109 rfl rfl rfl rfl (Nat.le_of_ble_eq_true rfl) ?_
    refine V_iinc2 (pc := 112) hX dX4_findNearest_112 rfl (iinc1 _) ?_
    refine V_goto (pc := 115) (tgt := 85) hX dX4_findNearest_115 (by decide) ?_
    have ihk := ih h90
    rw [foA] at ihk
    rw [mm_mf (by omega), mm_at (by omega), mm_at (by omega)]
    exact ihk
termination_by n - a
set_option maxRecDepth 100000 in
set_option maxHeartbeats 4000000 in
theorem l_fn4 {n : Nat} {D : Nat → Nat → Int32} {X : XC} {P : Option Value → Mem → Prop} {σ : Mem} (hX : Cok X RX4 cX4_findNearest 3) (hR : Rok X 2) (hr : Ret X none P) (hn : σ 4 5 = nI n) (hn10 : n ≤ 10) (hp : P none (mm σ (foO n D n))) (o : Nat) (ho : o ≤ n) (z : Option Value) (hz : nol [z] = true) : Vw X 75 [some (.ref 4), some (.int (nI o)), z] [] (mm σ (foO n D o)) := by
  have r5 : ∀ D, mm σ D 4 5 = nI n := fun D => by rw [mm_ne (by omega)]; exact hn
  refine V_iload_n (pc := 75) (i := 1) hX dX4_findNearest_75 rfl rfl ?_
  refine V_aload_n (pc := 76) (i := 0) hX dX4_findNearest_76 rfl rfl ?_
  refine V_getf (pc := 77) hX fX4_29 dX4_findNearest_77 rfl rfl ?_
  rw [r5]
  refine V_icmp_geN (pc := 80) (tgt := 124) hX dX4_findNearest_80 (by decide) (by omega) (by omega) (fun h80 => ?_) (fun h80 => ?_)
  · obtain rfl : o = n := by omega
    exact V_vret (pc := 124) (st := []) hX hr dX4_findNearest_124 (hp)
  · refine V_iconst (pc := 83) (v := (nI 0)) hX dX4_findNearest_83 (by decide +kernel) ?_
    refine V_istore2 (pc := 84) hX dX4_findNearest_84 hz ?_
    refine l_fn3 (D := foO n D o) hX hR hr hn hn10 h80 ?_ 0 (Nat.zero_le _)
    refine V_iinc1 (pc := 118) hX dX4_findNearest_118 rfl (iinc1 _) ?_
    refine V_goto (pc := 121) (tgt := 75) hX dX4_findNearest_121 (by decide) ?_
    exact l_fn4 hX hR hr hn hn10 hp (o + 1) (by omega) _ rfl
termination_by n - o
def nearF (σ : Mem) (n : Nat) : Nat → Nat → Int32 := foO n (fiD (ln σ) n (fun a => σ (40 + a)) n) n
set_option maxRecDepth 100000 in
set_option maxHeartbeats 4000000 in
theorem c_findNearest (n : Nat) (σ : Mem) (hn : σ 4 5 = nI n) (hn10 : n ≤ 10) : Cc yX4_findNearest cX4_findNearest 3 none 2 [.ref 4] σ (rV (mm σ (nearF σ n))) := by
  refine Cc.intro (by decide +kernel) [some (.ref 4), none, none] (fun _ => rfl) rfl (fun _ => Nat.le_of_ble_eq_true rfl) ?_
  intro X hX hR hr
  have k73 : ∀ z, nol [z] = true → Vw X 73 [some (.ref 4), some (.int (nI n)), z] [] (mm σ (fiD (ln σ) n (fun a => σ (40 + a)) n)) := by
    intro z hz
    refine V_iconst (pc := 73) (v := (nI 0)) hX dX4_findNearest_73 (by decide +kernel) ?_
    refine V_istore1 (pc := 74) hX dX4_findNearest_74 hz ?_
    exact l_fn4 (D := fiD (ln σ) n (fun a => σ (40 + a)) n) hX hR hr hn hn10 ⟨rfl, rfl⟩ 0 (Nat.zero_le _) z hz
  refine V_iconst (pc := 0) (v := (nI 0)) hX dX4_findNearest_0 (by decide +kernel) ?_
  refine V_istore1 (pc := 1) hX dX4_findNearest_1 rfl ?_
  refine Vw.mem (show mm σ (fiD (ln σ) n (fun a => σ (40 + a)) 0) = σ from mm_id σ) ?_
  exact l_fn2 (D := fun a => σ (40 + a)) hX hR hr hn hn10 k73 0 (Nat.zero_le _) none rfl

