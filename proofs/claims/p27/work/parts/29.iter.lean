/-! ===== the law's body: the demands ===== -/
theorem LI.n {L : Nat} {xs : Nat → Int32} {σ : Mem} {N P : Nat} {dem bo : Int32} (h : LI L xs σ N dem bo P) : σ 2 3 = nI N ∧ N ≤ 10 := ⟨h.1.2.2, by have := h.1.2.1; omega⟩
theorem k_cov0 {L : Nat} {xs : Nat → Int32} {σ : Mem} {N P : Nat} {dem bo : Int32} (h : LI L xs σ N dem bo P) : Cc yX5_covers cX5_covers 2 (some .int) 13 [.ref 0, .int (nI 0)] σ (rI (nI P) σ) := by
  have c := c_covers N (nI 0) σ h.n.1 h.n.2
  rw [coversF, if_pos rfl, h.2.2.2.1.2.2] at c
  exact c
theorem k_cov4 {L : Nat} {xs : Nat → Int32} {σ : Mem} {N P : Nat} {dem bo : Int32} (h : LI L xs σ N dem bo P) : Cc yX5_covers cX5_covers 2 (some .int) 13 [.ref 0, .int (nI 4)] σ (rI dem σ) := by
  have c := c_covers N (nI 4) σ h.n.1 h.n.2
  rw [coversF, if_neg (by decide +kernel), if_neg (by decide +kernel), if_neg (by decide +kernel), if_neg (by decide +kernel), if_pos rfl, h.2.2.2.1.1] at c
  exact c
theorem k_cov5 {L : Nat} {xs : Nat → Int32} {σ : Mem} {N P : Nat} {dem bo : Int32} (h : LI L xs σ N dem bo P) : Cc yX5_covers cX5_covers 2 (some .int) 13 [.ref 0, .int (nI 5)] σ (rI bo σ) := by
  have c := c_covers N (nI 5) σ h.n.1 h.n.2
  rw [coversF, if_neg (by decide +kernel), if_neg (by decide +kernel), if_neg (by decide +kernel), if_neg (by decide +kernel), if_neg (by decide +kernel), if_pos rfl, h.2.2.2.1.2.1] at c
  exact c
theorem k_price {L : Nat} {xs : Nat → Int32} {σ : Mem} {N P x : Nat} {dem bo : Int32} (h : LI L xs σ N dem bo P) (hx : x < 12) : Cc yX5_price cX5_price 2 (some .int) 1 [.ref 0, .int (nI x)] σ (rI (σ 53 x) σ) := by
  have c := c_price (nI x) σ
  rw [priceF, if_pos (inr_nI hx (by decide)), tn_nI (by omega), ← h.2.2.2.2.1 x hx] at c
  exact c
set_option maxRecDepth 100000 in
set_option maxHeartbeats 4000000 in
theorem l_359 {L : Nat} {xs : Nat → Int32} {X : XC} (hX : Cok X RL cL_law 15) (hp : Pok X) (hR : Rok X 20) (hs : Scr X L xs) (hL : L < 2 ^ 31) {σ : Mem} {N P x t : Nat} {dem bo pd had pays : Int32} {v10 v12 v13 v14 : Option Value} (hx : x ≤ 12) (h : LI L xs σ N dem bo P) (hP : pd + pays = nI P) (ih : Lw X 38 [some (.ref 52), some (.ref 0), some (.int (nI N)), some (.int (dem)), some (.int (bo)), some (.int (nI P)), some (.ref 53), some (.int (nI (t + 1))), none, none, none, none, none, none, none] [] σ) : Lw X 359 [some (.ref 52), some (.ref 0), some (.int (nI N)), some (.int (dem)), some (.int (bo)), some (.int (pd)), some (.ref 53), some (.int (nI t)), some (.int (nI x)), some (.int (had)), none, some (.int (pays)), none, none, none] [] σ := by
  refine L_iload (pc := 359) (i := 5) hX dL_law_359 rfl ?_
  refine L_iload (pc := 361) (i := 11) hX dL_law_361 rfl ?_
  refine L_iadd (pc := 363) hX dL_law_363 ?_
  refine L_istore5 (pc := 364) hX dL_law_364 rfl ?_
  rw [hP]
  refine L_aload_n (pc := 366) (i := 1) hX dL_law_366 rfl rfl ?_
  refine L_iconst (pc := 367) (v := (nI 0)) hX dL_law_367 (by decide +kernel) ?_
  refine L_callVi (pc := 368) hX hp (hR.mono (by omega)) mL_42 (k_cov0 h) dL_law_368 rfl rfl rfl rfl (Nat.le_of_ble_eq_true rfl) (rfl) ?_
  refine L_iload (pc := 371) (i := 5) hX dL_law_371 rfl ?_
  refine L_icmp_ne (pc := 373) (tgt := 416) hX dL_law_373 (by decide) (fun h373 => absurd h373 (fun q => q rfl)) (fun h373 => ?_)
  refine L_aload_n (pc := 376) (i := 1) hX dL_law_376 rfl rfl ?_
  refine L_iconst (pc := 377) (v := (nI 4)) hX dL_law_377 (by decide +kernel) ?_
  refine L_callVi (pc := 378) hX hp (hR.mono (by omega)) mL_42 (k_cov4 h) dL_law_378 rfl rfl rfl rfl (Nat.le_of_ble_eq_true rfl) (rfl) ?_
  refine L_iload_n (pc := 381) (i := 3) hX dL_law_381 rfl rfl ?_
  refine L_icmp_ne (pc := 382) (tgt := 416) hX dL_law_382 (by decide) (fun h382 => absurd h382 (fun q => q rfl)) (fun h382 => ?_)
  refine L_aload_n (pc := 385) (i := 1) hX dL_law_385 rfl rfl ?_
  refine L_iconst (pc := 386) (v := (nI 5)) hX dL_law_386 (by decide +kernel) ?_
  refine L_callVi (pc := 387) hX hp (hR.mono (by omega)) mL_42 (k_cov5 h) dL_law_387 rfl rfl rfl rfl (Nat.le_of_ble_eq_true rfl) (rfl) ?_
  refine L_iload (pc := 390) (i := 4) hX dL_law_390 rfl ?_
  refine L_icmp_ne (pc := 392) (tgt := 416) hX dL_law_392 (by decide) (fun h392 => absurd h392 (fun q => q rfl)) (fun h392 => ?_)
  refine L_iload (pc := 395) (i := 8) hX dL_law_395 rfl ?_
  refine L_bipush (pc := 397) (v := (nI 12)) hX dL_law_397 (by decide +kernel) ?_
  refine L_icmp_geN (pc := 399) (tgt := 418) hX dL_law_399 (by decide) (by omega) (by omega) (fun h399 => ?_) (fun h399 => ?_)
  · refine L_iinc7 (pc := 418) hX dL_law_418 rfl (iinc1 _) ?_
    refine L_goto (pc := 421) (tgt := 38) hX dL_law_421 (by decide) ?_
    exact Lw.fg (by repeat (first | exact fgt_n | refine fgt_c (Or.inr rfl) ?_ | refine fgt_c (Or.inl rfl) ?_)) ih
  · refine L_aload_n (pc := 402) (i := 1) hX dL_law_402 rfl rfl ?_
    refine L_iload (pc := 403) (i := 8) hX dL_law_403 rfl ?_
    refine L_callVi (pc := 405) hX hp (hR.mono (by omega)) mL_45 (k_price h (by omega)) dL_law_405 rfl rfl rfl rfl (Nat.le_of_ble_eq_true rfl) (rfl) ?_
    refine L_aload (pc := 408) (i := 6) hX dL_law_408 rfl ?_
    refine L_iload (pc := 410) (i := 8) hX dL_law_410 rfl ?_
    refine L_pld (pc := 412) hX dL_law_412 (rfl) (by omega) ?_
    refine L_icmp_eq (pc := 413) (tgt := 418) hX dL_law_413 (by decide) (fun h413 => ?_) (fun h413 => absurd h413 (fun q => q rfl))
    refine L_iinc7 (pc := 418) hX dL_law_418 rfl (iinc1 _) ?_
    refine L_goto (pc := 421) (tgt := 38) hX dL_law_421 (by decide) ?_
    exact Lw.fg (by repeat (first | exact fgt_n | refine fgt_c (Or.inr rfl) ?_ | refine fgt_c (Or.inl rfl) ?_)) ih
set_option maxRecDepth 100000 in
set_option maxHeartbeats 4000000 in
theorem l_306 {L : Nat} {xs : Nat → Int32} {X : XC} (hX : Cok X RL cL_law 15) (hp : Pok X) (hR : Rok X 20) (hs : Scr X L xs) (hL : L < 2 ^ 31) {σ τ : Mem} {N P x t : Nat} {dem bo pd had pays v : Int32} (hx : x ≤ 12) (hn : σ 2 3 = nI N) (hN : N ≤ 10) (hV : demandV σ N (nI x) = v) (hM : demandM σ N (nI x) = τ) (h53 : τ 53 = σ 53) (hv : v = if x = 12 then (-1000001) else if had = 0 then (-1000002) else pays) (hz : pays = 0 → ¬ had = 0 → ¬ had &&& bo = 0) (h : LI L xs τ N dem bo P) (hP : pd + pays = nI P) (ih : Lw X 38 [some (.ref 52), some (.ref 0), some (.int (nI N)), some (.int (dem)), some (.int (bo)), some (.int (nI P)), some (.ref 53), some (.int (nI (t + 1))), none, none, none, none, none, none, none] [] τ) : Lw X 306 [some (.ref 52), some (.ref 0), some (.int (nI N)), some (.int (dem)), some (.int (bo)), some (.int (pd)), some (.ref 53), some (.int (nI t)), some (.int (nI x)), some (.int (had)), none, some (.int (pays)), none, none, none] [] σ := by
  have c := c_demand N (nI x) σ hn hN
  rw [hV, hM] at c
  refine L_aload_n (pc := 306) (i := 1) hX dL_law_306 rfl rfl ?_
  refine L_iload (pc := 307) (i := 8) hX dL_law_307 rfl ?_
  refine L_callVi (pc := 309) hX hp (hR.mono (by omega)) mL_36 (c) dL_law_309 rfl rfl rfl rfl (Nat.le_of_ble_eq_true rfl) (h53) ?_
  refine L_iload (pc := 312) (i := 8) hX dL_law_312 rfl ?_
  refine L_bipush (pc := 314) (v := (nI 12)) hX dL_law_314 (by decide +kernel) ?_
  refine L_icmp_neN (pc := 316) (tgt := 324) hX dL_law_316 (by decide) (by omega) (by omega) (fun h316 => ?_) (fun h316 => ?_)
  · refine L_iload (pc := 324) (i := 9) hX dL_law_324 rfl ?_
    refine L_if_ne (pc := 326) (tgt := 334) hX dL_law_326 (by decide) (fun h326 => ?_) (fun h326 => ?_)
    · refine L_iload (pc := 334) (i := 11) hX dL_law_334 rfl ?_
      refine L_icmp_ne (pc := 336) (tgt := 357) hX dL_law_336 (by decide) (fun h336 => absurd h336 (fun q => q (by first | (rw [hv, if_pos h316]) | (rw [hv, if_neg h316, if_pos h326]) | (rw [hv, if_neg h316, if_neg h326])))) (fun h336 => ?_)
      refine L_iload (pc := 339) (i := 11) hX dL_law_339 rfl ?_
      refine L_if_ne (pc := 341) (tgt := 359) hX dL_law_341 (by decide) (fun h341 => ?_) (fun h341 => ?_)
      · exact l_359 hX hp hR hs hL (v10 := none) (v12 := none) (v13 := none) (v14 := none) hx h hP ih
      · refine L_iload (pc := 344) (i := 9) hX dL_law_344 rfl ?_
        refine L_if_eq (pc := 346) (tgt := 359) hX dL_law_346 (by decide) (fun h346 => ?_) (fun h346 => ?_)
        · exact l_359 hX hp hR hs hL (v10 := none) (v12 := none) (v13 := none) (v14 := none) hx h hP ih
        · refine L_iload (pc := 349) (i := 9) hX dL_law_349 rfl ?_
          refine L_iload (pc := 351) (i := 4) hX dL_law_351 rfl ?_
          refine L_iand (pc := 353) hX dL_law_353 ?_
          refine L_if_ne (pc := 354) (tgt := 359) hX dL_law_354 (by decide) (fun h354 => ?_) (fun h354 => absurd h354 ((hz h341 h346)))
          exact l_359 hX hp hR hs hL (v10 := none) (v12 := none) (v13 := none) (v14 := none) hx h hP ih
    · refine L_ldc (pc := 329) hX kL_41 dL_law_329 ?_
      refine L_goto (pc := 331) (tgt := 336) hX dL_law_331 (by decide) ?_
      refine L_icmp_ne (pc := 336) (tgt := 357) hX dL_law_336 (by decide) (fun h336 => absurd h336 (fun q => q (by first | (rw [hv, if_pos h316]) | (rw [hv, if_neg h316, if_pos h326]) | (rw [hv, if_neg h316, if_neg h326])))) (fun h336 => ?_)
      refine L_iload (pc := 339) (i := 11) hX dL_law_339 rfl ?_
      refine L_if_ne (pc := 341) (tgt := 359) hX dL_law_341 (by decide) (fun h341 => ?_) (fun h341 => ?_)
      · exact l_359 hX hp hR hs hL (v10 := none) (v12 := none) (v13 := none) (v14 := none) hx h hP ih
      · refine L_iload (pc := 344) (i := 9) hX dL_law_344 rfl ?_
        refine L_if_eq (pc := 346) (tgt := 359) hX dL_law_346 (by decide) (fun h346 => ?_) (fun h346 => ?_)
        · exact l_359 hX hp hR hs hL (v10 := none) (v12 := none) (v13 := none) (v14 := none) hx h hP ih
        · refine L_iload (pc := 349) (i := 9) hX dL_law_349 rfl ?_
          refine L_iload (pc := 351) (i := 4) hX dL_law_351 rfl ?_
          refine L_iand (pc := 353) hX dL_law_353 ?_
          refine L_if_ne (pc := 354) (tgt := 359) hX dL_law_354 (by decide) (fun h354 => ?_) (fun h354 => absurd h354 ((hz h341 h346)))
          exact l_359 hX hp hR hs hL (v10 := none) (v12 := none) (v13 := none) (v14 := none) hx h hP ih
  · refine L_ldc (pc := 319) hX kL_40 dL_law_319 ?_
    refine L_goto (pc := 321) (tgt := 336) hX dL_law_321 (by decide) ?_
    refine L_icmp_ne (pc := 336) (tgt := 357) hX dL_law_336 (by decide) (fun h336 => absurd h336 (fun q => q (by first | (rw [hv, if_pos h316]) | (rw [hv, if_neg h316, if_pos h326]) | (rw [hv, if_neg h316, if_neg h326])))) (fun h336 => ?_)
    refine L_iload (pc := 339) (i := 11) hX dL_law_339 rfl ?_
    refine L_if_ne (pc := 341) (tgt := 359) hX dL_law_341 (by decide) (fun h341 => ?_) (fun h341 => ?_)
    · exact l_359 hX hp hR hs hL (v10 := none) (v12 := none) (v13 := none) (v14 := none) hx h hP ih
    · refine L_iload (pc := 344) (i := 9) hX dL_law_344 rfl ?_
      refine L_if_eq (pc := 346) (tgt := 359) hX dL_law_346 (by decide) (fun h346 => ?_) (fun h346 => ?_)
      · exact l_359 hX hp hR hs hL (v10 := none) (v12 := none) (v13 := none) (v14 := none) hx h hP ih
      · refine L_iload (pc := 349) (i := 9) hX dL_law_349 rfl ?_
        refine L_iload (pc := 351) (i := 4) hX dL_law_351 rfl ?_
        refine L_iand (pc := 353) hX dL_law_353 ?_
        refine L_if_ne (pc := 354) (tgt := 359) hX dL_law_354 (by decide) (fun h354 => ?_) (fun h354 => absurd h354 ((hz h341 h346)))
        exact l_359 hX hp hR hs hL (v10 := none) (v12 := none) (v13 := none) (v14 := none) hx h hP ih
theorem LI.mem {L : Nat} {xs : Nat → Int32} {σ : Mem} {N P : Nat} {dem bo : Int32} (h : LI L xs σ N dem bo P) : N ≤ 9 ∧ 1 ≤ N := ⟨h.1.2.1, h.1.1⟩
set_option maxRecDepth 100000 in
set_option maxHeartbeats 4000000 in
theorem l_176 {L : Nat} {xs : Nat → Int32} {X : XC} (hX : Cok X RL cL_law 15) (hp : Pok X) (hR : Rok X 20) (hs : Scr X L xs) (hL : L < 2 ^ 31) {σ : Mem} {N P x t : Nat} {dem bo : Int32} (hx : x < 12) (h : LI L xs σ N dem bo P) (ih : ∀ dem2 bo2 P2 τ, LI L xs τ N dem2 bo2 P2 → Lw X 38 [some (.ref 52), some (.ref 0), some (.int (nI N)), some (.int (dem2)), some (.int (bo2)), some (.int (nI P2)), some (.ref 53), some (.int (nI (t + 1))), none, none, none, none, none, none, none] [] τ) : Lw X 176 [some (.ref 52), some (.ref 0), some (.int (nI N)), some (.int (dem)), some (.int (bo)), some (.int (nI P)), some (.ref 53), some (.int (nI t)), some (.int (nI x)), some (.int (hadF (thF L xs) x N)), some (.int (lgm (cF L xs) (thF L xs) (σ 53) x N)), some (.int (nI N)), none, none, none] [] σ := by
  have hN := h.mem.1
  refine L_iconst (pc := 176) (v := (nI 0)) hX dL_law_176 (by decide +kernel) ?_
  refine L_istore11 (pc := 177) hX dL_law_177 rfl ?_
  refine L_iload (pc := 179) (i := 9) hX dL_law_179 rfl ?_
  refine L_if_eq (pc := 181) (tgt := 306) hX dL_law_181 (by decide) (fun h181 => ?_) (fun h181 => ?_)
  · have hz := (had_z (by omega)).mp h181
    have s := st_no h hx hz
    exact Lw.fg (by repeat (first | exact fgt_n | refine fgt_c (Or.inr rfl) ?_ | refine fgt_c (Or.inl rfl) ?_)) (l_306 (τ := σ) hX hp hR hs hL (by omega) h.n.1 h.n.2 s.1 s.2 rfl (by rw [if_neg (by omega), if_pos h181]) (fun _ q => absurd h181 q) h (add0 _) (ih _ _ _ _ h))
  · refine L_iload_n (pc := 184) (i := 3) hX dL_law_184 rfl rfl ?_
    refine L_iconst (pc := 185) (v := (nI 1)) hX dL_law_185 (by decide +kernel) ?_
    refine L_iload (pc := 186) (i := 8) hX dL_law_186 rfl ?_
    refine L_ishl (pc := 188) hX dL_law_188 ?_
    refine L_ior (pc := 189) hX dL_law_189 ?_
    refine L_istore3 (pc := 190) hX dL_law_190 rfl ?_
    refine L_iload (pc := 191) (i := 9) hX dL_law_191 rfl ?_
    refine L_iload (pc := 193) (i := 4) hX dL_law_193 rfl ?_
    refine L_iand (pc := 195) hX dL_law_195 ?_
    refine L_if_ne (pc := 196) (tgt := 306) hX dL_law_196 (by decide) (fun h196 => ?_) (fun h196 => ?_)
    · have hex : ∃ k, k < N ∧ bt (thF L xs k) x = true := Classical.byContradiction fun q => h181 ((had_z (by omega)).mpr fun k hk => by
        cases hb : bt (thF L xs k) x with
        | false => rfl
        | true => exact absurd ⟨k, hk, hb⟩ q)
      have s := st_met h hx hex ((st_me h hx).mp h196)
      exact Lw.fg (by repeat (first | exact fgt_n | refine fgt_c (Or.inr rfl) ?_ | refine fgt_c (Or.inl rfl) ?_)) (l_306 hX hp hR hs hL (by omega) h.n.1 h.n.2 s.1 rfl s.2.2 (by rw [if_neg (by omega), if_neg h181]) (fun _ _ => h196) s.2.1 (add0 _) (ih _ _ _ _ s.2.1))
    · refine L_aload (pc := 199) (i := 6) hX dL_law_199 rfl ?_
      refine L_iload (pc := 201) (i := 8) hX dL_law_201 rfl ?_
      refine L_dup2 (pc := 203) hX dL_law_203 rfl rfl ?_
      refine L_pld (pc := 204) hX dL_law_204 (rfl) (hx) ?_
      refine L_iload (pc := 205) (i := 10) hX dL_law_205 rfl ?_
      refine L_iadd (pc := 207) hX dL_law_207 ?_
      refine L_past (pc := 208) hX hp dL_law_208 (rfl) (hx) ?_
      refine L_iconst (pc := 209) (v := (nI 0)) hX dL_law_209 (by decide +kernel) ?_
      refine L_istore12 (pc := 210) hX dL_law_210 rfl ?_
      have hex : ∃ k, k < N ∧ bt (thF L xs k) x = true := Classical.byContradiction fun q => h181 ((had_z (by omega)).mpr fun k hk => by
        cases hb : bt (thF L xs k) x with
        | false => rfl
        | true => exact absurd ⟨k, hk, hb⟩ q)
      have hno : bt (σ 2 7) x = false := by
        cases hb : bt (σ 2 7) x with
        | false => rfl
        | true => exact absurd h196 ((st_me h hx).mpr hb)
      obtain ⟨S, s1, s2, s3, s4, s5, s6⟩ := st_buy h hx hex hno rfl
      refine l_buy hX hp hR hs hL (bo := bo) hN (fun k hk => ?_) ?_ 0 (Nat.zero_le _)
      · cases hb : bt (thF L xs k) x with
        | true => exact (hadF_bt N (by omega)).mpr ⟨hk, hb⟩
        | false =>
          cases hb2 : bt (hadF (thF L xs) x N) k with
          | false => rfl
          | true =>
            have := ((hadF_bt N (by omega)).mp hb2).2
            rw [hb] at this
            exact absurd this (by decide)
      · rw [s3]
        exact Lw.fg (by repeat (first | exact fgt_n | refine fgt_c (Or.inr rfl) ?_ | refine fgt_c (Or.inl rfl) ?_)) (l_306 hX hp hR hs hL (by omega) (by rw [mu_q (by decide)]; exact h.n.1) h.n.2 s4 rfl s6 (by rw [if_neg (by omega), if_neg h181]) (fun q _ => absurd q (nI_ne00 (by omega) (by omega))) s5 (nI_add _ _) (ih _ _ _ _ s5))
set_option maxRecDepth 100000 in
set_option maxHeartbeats 4000000 in
theorem l_176x {L : Nat} {xs : Nat → Int32} {X : XC} (hX : Cok X RL cL_law 15) (hp : Pok X) (hR : Rok X 20) (hs : Scr X L xs) (hL : L < 2 ^ 31) {σ : Mem} {N P t : Nat} {dem bo : Int32} (h : LI L xs σ N dem bo P) (ih : ∀ dem2 bo2 P2 τ, LI L xs τ N dem2 bo2 P2 → Lw X 38 [some (.ref 52), some (.ref 0), some (.int (nI N)), some (.int (dem2)), some (.int (bo2)), some (.int (nI P2)), some (.ref 53), some (.int (nI (t + 1))), none, none, none, none, none, none, none] [] τ) : Lw X 176 [some (.ref 52), some (.ref 0), some (.int (nI N)), some (.int (dem)), some (.int (bo)), some (.int (nI P)), some (.ref 53), some (.int (nI t)), some (.int (nI 12)), some (.int (nI 0)), some (.int (nI 1000000)), some (.int (nI N)), none, none, none] [] σ := by
  refine L_iconst (pc := 176) (v := (nI 0)) hX dL_law_176 (by decide +kernel) ?_
  refine L_istore11 (pc := 177) hX dL_law_177 rfl ?_
  refine L_iload (pc := 179) (i := 9) hX dL_law_179 rfl ?_
  refine L_if_eq (pc := 181) (tgt := 306) hX dL_law_181 (by decide) (fun h181 => ?_) (fun h181 => absurd h181 (fun q => q nI_0))
  exact Lw.fg (by repeat (first | exact fgt_n | refine fgt_c (Or.inr rfl) ?_ | refine fgt_c (Or.inl rfl) ?_)) (l_306 (τ := σ) hX hp hR hs hL (by omega) h.n.1 h.n.2 st_12.1 st_12.2 rfl (by rw [if_pos rfl]) (fun _ q => absurd nI_0 q) h (add0 _) (ih _ _ _ _ h))
set_option maxRecDepth 100000 in
set_option maxHeartbeats 4000000 in
theorem l_iter {L : Nat} {xs : Nat → Int32} {X : XC} (hX : Cok X RL cL_law 15) (hp : Pok X) (hR : Rok X 20) (hs : Scr X L xs) (hL : L < 2 ^ 31) {N : Nat} (kk : ∀ dem bo P σ, LI L xs σ N dem bo P → Lw X 424 [some (.ref 52), some (.ref 0), some (.int (nI N)), some (.int (dem)), some (.int (bo)), some (.int (nI P)), some (.ref 53), some (.int (nI 20)), none, none, none, none, none, none, none] [] σ) (t : Nat) (ht : t ≤ 20) {σ : Mem} {dem bo : Int32} {P : Nat} (h : LI L xs σ N dem bo P) : Lw X 38 [some (.ref 52), some (.ref 0), some (.int (nI N)), some (.int (dem)), some (.int (bo)), some (.int (nI P)), some (.ref 53), some (.int (nI t)), none, none, none, none, none, none, none] [] σ := by
  have hN := h.mem.1
  refine L_iload (pc := 38) (i := 7) hX dL_law_38 rfl ?_
  refine L_bipush (pc := 40) (v := (nI 20)) hX dL_law_40 (by decide +kernel) ?_
  refine L_icmp_geN (pc := 42) (tgt := 424) hX dL_law_42 (by decide) (by omega) (by omega) (fun h42 => ?_) (fun h42 => ?_)
  · obtain rfl : t = 20 := by omega
    exact kk _ _ _ _ h
  · refine L_aload_n (pc := 45) (i := 0) hX dL_law_45 rfl rfl ?_
    refine L_bipush (pc := 46) (v := (nI 11)) hX dL_law_46 (by decide +kernel) ?_
    refine L_iload (pc := 48) (i := 7) hX dL_law_48 rfl ?_
    refine L_iadd (pc := 50) hX dL_law_50 ?_
    rw [nI_add]
    refine L_callSsi (pc := 51) hX hp (hR.mono (by omega)) mL_9 hs (c_cell hL _ (by omega) _) dL_law_51 rfl rfl rfl (Nat.le_of_ble_eq_true rfl) (rfl) ?_
    refine L_bipush (pc := 54) (v := (nI 13)) hX dL_law_54 (by decide +kernel) ?_
    refine L_callSsi (pc := 56) hX hp (hR.mono (by omega)) mL_15 hs (c_low _ _ (by decide) (by decide) _) dL_law_56 rfl rfl rfl (Nat.le_of_ble_eq_true rfl) (rfl) ?_
    refine L_istore8 (pc := 59) hX dL_law_59 rfl ?_
    refine L_iconst (pc := 61) (v := (nI 0)) hX dL_law_61 (by decide +kernel) ?_
    refine L_istore9 (pc := 62) hX dL_law_62 rfl ?_
    refine L_ldc (pc := 64) hX kL_32 dL_law_64 ?_
    refine L_istore10 (pc := 66) hX dL_law_66 rfl ?_
    refine L_iconst (pc := 68) (v := (nI 0)) hX dL_law_68 (by decide +kernel) ?_
    refine L_istore11 (pc := 69) hX dL_law_69 rfl ?_
    have hx := lowN_lt (v := cellF L xs (11 + t)) (n := 13) (by decide)
    generalize lowN (cellF L xs (11 + t)) 13 = x at hx ⊢
    have ih : ∀ dem2 bo2 P2 τ, LI L xs τ N dem2 bo2 P2 → Lw X 38 [some (.ref 52), some (.ref 0), some (.int (nI N)), some (.int (dem2)), some (.int (bo2)), some (.int (nI P2)), some (.ref 53), some (.int (nI (t + 1))), none, none, none, none, none, none, none] [] τ := fun dem2 bo2 P2 τ h2 => l_iter hX hp hR hs hL kk (t + 1) (by omega) h2
    by_cases q : x = 12
    · subst q
      exact l_had12 hX hp hR hs hL hN (l_176x hX hp hR hs hL h ih) 0 (Nat.zero_le _)
    · exact l_had hX hp hR hs hL hN (show x < 12 by omega) (l_176 hX hp hR hs hL (by omega) h ih) 0 (Nat.zero_le _)
termination_by 20 - t

