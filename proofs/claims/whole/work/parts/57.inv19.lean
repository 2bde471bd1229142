/-! ===== LEASES' least, the reference's: the levels ===== -/
theorem sub_i {b r f j : Nat} : f * (r * b) + j * b = (f * r + j) * b := by rw [Nat.add_mul, Nat.mul_assoc]
theorem rowK_inv {g : Nat → Int32} {b r C : Nat} {c : Int32} {T : Nat → Nat} (hb : 1 ≤ b) (hr : 1 ≤ r) (hc : c = nI C) (hC : C ≤ 1000) (hT : ∀ f, T f ≤ 1000) (hT0 : ∀ f, 128 ≤ f * b → T f = 0) (hg : ∀ i, i < 128 → g i = nI (if i % b = 0 then T (i / b) else 0)) (hr2 : r ≤ 64) : ∀ f, (∀ j, j < f → j * (r * b) < 128) → ∀ i, i < 128 → rowK g b (r * b) c f i = nI (if i < f * (r * b) then (if i % (r * b) = 0 then min C (rs T (i / (r * b) * r) r) else 0) else (if i % b = 0 then T (i / b) else 0))
  | 0, _, i, hi => by rw [rowK, hg i hi, if_neg (show ¬ i < 0 * (r * b) by omega)]
  | f + 1, hf, i, hi => by
    have ih := rowK_inv hb hr hc hC hT hT0 hg hr2 f (fun j hj => hf j (by omega))
    have hfl := hf f (Nat.lt_succ_self f)
    have hrb : 1 ≤ r * b := Nat.mul_pos hr hb
    generalize hm : stp (r * b) b (f * (r * b)) = m
    have mi : ∀ j, j < m ↔ j * b < r * b ∧ f * (r * b) + j * b < 128 := fun j => by
      rw [← hm, stp_iff hb hfl]; omega
    have hmr : m ≤ r := by
      rcases Nat.lt_or_ge r m with q | q
      · have := (mi r).mp q; omega
      · exact q
    have hs : sI (rowK g b (r * b) c f) b (f * (r * b)) m = nI (rs T (f * r) m) := sI_rs hb m (fun j hj => by
      have h1 := (mi j).mp hj
      rw [ih _ h1.2, if_neg (show ¬ f * (r * b) + j * b < f * (r * b) by omega), sub_i, Nat.mul_mod_left, if_pos rfl, Nat.mul_div_cancel _ (show 0 < b by omega)])
    have hz : rs T (f * r) r = rs T (f * r) m := by
      have e := rs_add T (f * r) m (r - m)
      rw [show m + (r - m) = r by omega] at e
      rw [e, rs_0 (r - m) (fun i h1 h2 => hT0 i (by
        have h3 : ¬ i - f * r < m := by omega
        have h4 : (i - f * r) * b < r * b := Nat.mul_lt_mul_of_pos_right (by omega) (by omega)
        have h5 : ¬ f * (r * b) + (i - f * r) * b < 128 := fun q => h3 ((mi _).mpr ⟨h4, q⟩)
        rw [sub_i, show f * r + (i - f * r) = i by omega] at h5
        omega)), Nat.add_zero]
    have hB := rs_le hT (f * r) m
    have hI : imin c (nI (rs T (f * r) m)) = nI (min C (rs T (f * r) m)) := by rw [hc, imin_nI (by omega) (by omega)]
    rw [rowK, hm, hs, hI]
    have eS : (f + 1) * (r * b) = f * (r * b) + r * b := Nat.succ_mul _ _
    by_cases h1 : i = f * (r * b)
    · subst h1
      rw [upd_s, if_pos (by omega), Nat.mul_mod_left, if_pos rfl, Nat.mul_div_cancel _ hrb, hz]
    · rw [upd_n h1]
      by_cases h2 : i < f * (r * b)
      · rw [zI_out m (fun j _ => by omega), ih i hi, if_pos h2, if_pos (show i < (f + 1) * (r * b) by omega)]
      · by_cases h3 : i < f * (r * b) + r * b
        · have hnd : ¬ i % (r * b) = 0 := fun q => by
            obtain ⟨z, hz⟩ := Nat.dvd_of_mod_eq_zero q
            rw [Nat.mul_comm] at hz
            have a1 : f < z := by
              apply Nat.lt_of_mul_lt_mul_right (a := r * b)
              omega
            have a2 : z < f + 1 := by
              apply Nat.lt_of_mul_lt_mul_right (a := r * b)
              omega
            omega
          rw [if_pos (show i < (f + 1) * (r * b) by omega), if_neg hnd]
          by_cases h4 : i % b = 0
          · obtain ⟨z, hz⟩ := Nat.dvd_of_mod_eq_zero h4
            rw [Nat.mul_comm] at hz
            have a1 : f * r < z := by
              apply Nat.lt_of_mul_lt_mul_right (a := b)
              rw [Nat.mul_assoc]
              omega
            have e1 : i = f * (r * b) + (z - f * r) * b := by
              rw [sub_i, show f * r + (z - f * r) = z by omega]
              exact hz
            have hj : z - f * r < m := (mi _).mpr ⟨by omega, by omega⟩
            rw [e1]
            exact zI_in hb m _ hj
          · rw [zI_out m (fun j _ q => h4 (by rw [q, sub_i, Nat.mul_mod_left])), ih i hi, if_neg h2, if_neg h4]
        · rw [zI_out m (fun j hj q => by have := (mi j).mp hj; omega), ih i hi, if_neg h2, if_neg (show ¬ i < (f + 1) * (r * b) by omega)]
theorem lev_inv {A : Nat → Bool} {C L : Nat → Nat} {c g : Nat → Int32} {n D : Nat} (hL : chL L n) (hL64 : ∀ k, k < n → L k ≤ 64) (hC : ∀ k, k < n → C k ≤ 1000) (hc : ∀ k, k < n → c k = nI (C k)) (hA : ∀ e, D ≤ e → A e = false) (hD : D ≤ 128) (hg : ∀ i, i < 128 → g i = nI (if i % L 0 = 0 then TT A C L 0 (i / L 0) else 0)) : ∀ k, k < n → ∀ i, i < 128 → lev g c L k i = nI (if i % L k = 0 then TT A C L k (i / L k) else 0)
  | 0, _, i, hi => hg i hi
  | k + 1, hk, i, hi => by
    have ih := lev_inv hL hL64 hC hc hA hD hg k (by omega)
    have hk1 := hL.1 k (by omega)
    have hk2 := hL.1 (k + 1) hk
    have hr := chL_r hL hk
    have hr1 : 1 ≤ L (k + 1) / L k := by
      rcases Nat.eq_zero_or_pos (L (k + 1) / L k) with q | q
      · rw [q, Nat.zero_mul] at hr; omega
      · exact q
    have hr2 : L (k + 1) / L k ≤ 64 := Nat.le_trans (Nat.div_le_self _ _) (hL64 (k + 1) hk)
    have hF : ∀ f, f < (128 + L (k + 1) - 1) / L (k + 1) ↔ f * L (k + 1) < 128 := fun f => by
      rw [Nat.lt_iff_add_one_le, Nat.le_div_iff_mul_le (by omega), Nat.add_mul, Nat.one_mul]
      omega
    have h := rowK_inv (g := lev g c L k) (b := L k) (r := L (k + 1) / L k) (C := C (k + 1)) (c := c (k + 1)) (T := TT A C L k) hk1 hr1 (hc (k + 1) hk) (hC (k + 1) hk) (fun f => Nat.le_trans (TT_le A C L k f) (hC k (by omega))) (fun f q => TT_0 hL hA k (by omega) f (by omega)) ih hr2 ((128 + L (k + 1) - 1) / L (k + 1)) (fun j hj => by rw [hr]; exact (hF j).mp hj) i hi
    rw [hr] at h
    rw [lev, h, if_pos]
    · rfl
    · rcases Nat.lt_or_ge i ((128 + L (k + 1) - 1) / L (k + 1) * L (k + 1)) with q | q
      · exact q
      · have := mt (hF ((128 + L (k + 1) - 1) / L (k + 1))).mpr (Nat.lt_irrefl _)
        omega
theorem cA_ne {A : Nat → Bool} {a e : Nat} (h : A e = true) (h1 : a ≤ e) : ∀ m, e < a + m → ¬ cA A a m = 0
  | 0, h2 => by omega
  | m + 1, h2 => by
    show ¬ rs _ a m + (if A (a + m) then 1 else 0) = 0
    by_cases q : e = a + m
    · rw [← q, h, if_pos rfl]; omega
    · have := cA_ne h h1 m (by omega)
      unfold cA at this
      omega
theorem p2_inv {A : Nat → Bool} {C L : Nat → Nat} {as o : Nat → Int32} {c0 : Int32} (hL0 : 1 ≤ L 0) (has : ∀ d, d < 128 → (A d = true ↔ ¬ as d = 0)) (hA : ∀ d, 128 ≤ d → A d = false) (hc : c0 = nI (C 0)) (ho : ∀ i, i < 128 → o i = nI 0) (i : Nat) (hi : i < 128) : p2f as c0 (L 0) o 128 i = nI (if i % L 0 = 0 then TT A C L 0 (i / L 0) else 0) := by
  by_cases h : ∃ e, e < 128 ∧ ¬ as e = 0 ∧ fo (L 0) e = i
  · rw [p2f_in 128 h, hc]
    obtain ⟨e, h1, h2, h3⟩ := h
    have hm : i % L 0 = 0 := by rw [← h3]; exact fo_mod
    have hd : i / L 0 * L 0 = i := Nat.div_mul_cancel (Nat.dvd_of_mod_eq_zero hm)
    have hlt := fo_lt (L := L 0) (d := e) hL0
    have hle := fo_le (L 0) e
    rw [if_pos hm]
    show nI (C 0) = nI (if cA A (i / L 0 * L 0) (L 0) = 0 then 0 else C 0)
    rw [hd, if_neg (cA_ne ((has e h1).mpr h2) (by omega) (L 0) (by omega))]
  · have hn : ∀ e, e < 128 → ¬ as e = 0 → fo (L 0) e ≠ i := fun e h1 h2 h3 => h ⟨e, h1, h2, h3⟩
    rw [p2f_out 128 hn, ho i hi]
    congr 1
    by_cases hm : i % L 0 = 0
    · have hd : i / L 0 * L 0 = i := Nat.div_mul_cancel (Nat.dvd_of_mod_eq_zero hm)
      rw [if_pos hm]
      show 0 = if cA A (i / L 0 * L 0) (L 0) = 0 then 0 else C 0
      have z : cA A (i / L 0 * L 0) (L 0) = 0 := rs_0 (L 0) (fun e h1 h2 => by
        show (if A e then 1 else 0) = 0
        cases ha : A e with
        | false => rfl
        | true =>
          rw [hd] at h1 h2
          have he : e < 128 := by
            rcases Nat.lt_or_ge e 128 with q | q
            · exact q
            · rw [hA e q] at ha; exact absurd ha (by decide)
          exact absurd (fo_eq hL0 hm h1 h2) (hn e he ((has e he).mp ha)))
      rw [if_pos z]
    · rw [if_neg hm]
theorem sumR_inv {g : Nat → Int32} {b : Nat} {T : Nat → Nat} (hb : 1 ≤ b) (hg : ∀ i, i < 128 → g i = nI (if i % b = 0 then T (i / b) else 0)) : ∀ m, m ≤ 128 → sumR g m = nI (rs T 0 ((m + b - 1) / b))
  | 0, _ => by
    rw [sumR, Nat.div_eq_of_lt (by omega)]
    rfl
  | m + 1, hm => by
    rw [sumR, sumR_inv hb hg m (by omega), hg m (by omega), nI_add]
    have e1 : (m + 1 + b - 1) / b = m / b + 1 := by
      rw [show m + 1 + b - 1 = m + b by omega]
      exact Nat.add_div_right m (by omega)
    have e0 := Nat.div_add_mod m b
    congr 1
    by_cases h : m % b = 0
    · have e2 : (m + b - 1) / b = m / b := by
        have e3 : m + b - 1 = b * (m / b) + (b - 1) := by omega
        rw [e3, Nat.mul_add_div (by omega), Nat.div_eq_of_lt (show b - 1 < b by omega), Nat.add_zero]
      rw [e1, e2, if_pos h, rs, Nat.zero_add]
    · have e2 : (m + b - 1) / b = m / b + 1 := by
        have e3 : m + b - 1 = (m - 1) + b := by omega
        have e4 : m - 1 = b * (m / b) + (m % b - 1) := by omega
        have hl := Nat.mod_lt m (show 0 < b by omega)
        rw [e3, Nat.add_div_right _ (by omega), e4, Nat.mul_add_div (by omega), Nat.div_eq_of_lt (show m % b - 1 < b by omega), Nat.add_zero]
      rw [e1, e2, if_neg h, Nat.add_zero]
theorem rs_end {T : Nat → Nat} {b D : Nat} (hb : 1 ≤ b) (hD : D ≤ 128) (hT : ∀ f, D ≤ f * b → T f = 0) : rs T 0 ((128 + b - 1) / b) = rs T 0 (if D = 0 then 0 else (D - 1) / b + 1) := by
  generalize hN : (if D = 0 then 0 else (D - 1) / b + 1) = N
  have h1 : N ≤ (128 + b - 1) / b := by
    rw [← hN]
    by_cases h : D = 0
    · rw [if_pos h]; exact Nat.zero_le _
    · rw [if_neg h, ← Nat.add_div_right (D - 1) (show 0 < b by omega)]
      exact Nat.div_le_div_right (by omega)
  have h2 : D ≤ N * b := by
    rw [← hN]
    by_cases h : D = 0
    · rw [if_pos h]; omega
    · rw [if_neg h]
      have := div_lt_s (L := b) (d := D - 1) hb
      omega
  have e := rs_add T 0 N ((128 + b - 1) / b - N)
  rw [show N + ((128 + b - 1) / b - N) = (128 + b - 1) / b by omega] at e
  rw [e, rs_0 ((128 + b - 1) / b - N) (fun i q _ => hT i (by
    have := Nat.mul_le_mul_right b (show N ≤ i by omega)
    omega)), Nat.add_zero]
theorem clrf_lt {f : Nat → Int32} {N i : Nat} (h : i < N) : clrf f N i = nI 0 := if_pos h
theorem sumR_z {g : Nat → Int32} : ∀ m, (∀ i, i < m → g i = nI 0) → sumR g m = nI 0
  | 0, _ => rfl
  | m + 1, h => by rw [sumR, sumR_z m (fun i hi => h i (by omega)), h m (by omega), nI_add]
theorem lv1_1 {toll as : Nat → Int32} : ∀ m, m ≤ 128 → lv1 (nI 1) toll as m = ps toll 0 m
  | 0, _ => rfl
  | m + 1, h => by rw [lv1, ps, lv1_1 m (by omega), if_pos rfl, if_pos (by omega), Nat.zero_add]
theorem lv1_3 {toll as : Nat → Int32} : ∀ m, lv1 (nI 3) toll as m = nI (cntZ as m)
  | 0 => rfl
  | m + 1 => by
    rw [lv1, cntZ, lv1_3 m, if_neg (by decide +kernel)]
    by_cases h : as m = 0
    · rw [if_neg (fun q => q.2 h), if_pos h, nI_add]; rfl
    · rw [if_pos ⟨rfl, h⟩, if_neg h, nI_add]
theorem lv1_4 {toll as : Nat → Int32} : ∀ m, lv1 (nI 4) toll as m = nI 0
  | 0 => rfl
  | m + 1 => by rw [lv1, lv1_4 m, if_neg (by decide +kernel), if_neg (fun q => absurd q.1 (by decide +kernel)), nI_add]
theorem lv2_c {ib : Nat → Int32} : ∀ m, lv2 (nI 0) ib m = nI (cntZ ib m)
  | 0 => rfl
  | m + 1 => by
    rw [lv2, cntZ, lv2_c m]
    by_cases h : ib m = 0
    · rw [if_pos h, if_pos h, nI_add]; rfl
    · rw [if_neg h, if_neg h, nI_add]
theorem least_leases {c pr as bf ib o o2 : Nat → Int32} {L : Nat → Nat} {n D : Nat} {das sp : Int32} (hn0 : 0 < n) (hL : ∀ k, k < n → 1 ≤ L k ∧ L k ≤ 64) (hD : D ≤ 128) (h : leOKs c pr L n D as bf ib das sp) (ho : ∀ j, j ≤ n → o j = nI 0) (ho2 : ∀ j, j < 128 → o2 j = nI 0) : sumR (lev (p2f as (c 0) (L 0) o2 128) c L (n - 1)) 128 = lsf c L as D n o D n := by
  obtain ⟨s1, s2, s3, -⟩ := h
  have hch : chL L n := ⟨fun k hk => (hL k hk).1, fun k hk => (s1 k hk).2⟩
  have hC : ∀ k, k < n → tn (c k) ≤ 1000 ∧ c k = nI (tn (c k)) := fun k hk => by
    obtain ⟨x, -, a2, a3, -⟩ := s2 k hk
    rw [a3, tn_nI (by omega)]
    exact ⟨a2, rfl⟩
  have hA : ∀ e, D ≤ e → (fun d => decide (¬ as d = 0)) e = false := fun e he => decide_eq_false (fun q => q (by rw [(s3 e he).2, nI_0]))
  have hL0 := (hL 0 hn0).1
  have base := p2_inv (A := fun d => decide (¬ as d = 0)) (C := fun k => tn (c k)) (L := L) (as := as) (o := o2) (c0 := c 0) hL0 (fun d _ => decide_eq_true_iff) (fun d hd => hA d (by omega)) (hC 0 hn0).2 ho2
  have lv := lev_inv (A := fun d => decide (¬ as d = 0)) (C := fun k => tn (c k)) hch (fun k hk => (hL k hk).2) (fun k hk => (hC k hk).1) (fun k hk => (hC k hk).2) hA hD base (n - 1) (by omega)
  rw [sumR_inv (hL (n - 1) (by omega)).1 lv 128 (Nat.le_refl _), rs_end (hL (n - 1) (by omega)).1 hD (fun f hf => TT_0 hch hA (n - 1) (by omega) f hf)]
  obtain ⟨k, rfl⟩ : ∃ k, n = k + 1 := ⟨n - 1, by omega⟩
  rw [lsf_fin (A := fun d => decide (¬ as d = 0)) (C := fun k => tn (c k)) hch (fun k hk => (hC k hk).1) (fun k hk => (hC k hk).2) hA hD (fun d _ => decide_eq_true_iff) ho]
  rfl
theorem t_leases (w : Int32) (σ : Mem) (g : GL σ) : Pair yX5_leases cX5_leases 2 3 [.ref 0, .int w] yX6_leases cX6_leases 4 2 [.ref 52, .int w] σ (frAll σ) := by
  obtain ⟨n, D, L, n4, ⟨hD, hD0⟩, e1, e2, e3, e4, e5, e6, e7, e8, e9, hL, hs⟩ := g
  have k1 := c_leases n D L w σ e1 hL n4 hD e7
  generalize hσ1 : leasesM σ L n D w = σ1 at k1
  have b : ∀ {q : Nat}, q ≠ 25 → σ1 q = σ q := fun h => by
    rw [← hσ1]
    unfold leasesM
    split
    · exact mf_q h
    · rfl
  have hL2 : lok σ1 59 n L := fun k hk => by rw [b (by decide), e3]; exact hL k hk
  have k2 := c_mleases n L w σ1 (by rw [b (by decide)]; exact e2) hL2 n4
  have hB : mleasesB σ1 L n = lsf (σ 21) L (σ 23) D n (clrf (σ 25) (n + 1)) D n := by
    unfold mleasesB
    by_cases h0 : n = 0
    · have := hD0 h0
      subst h0
      subst this
      rw [if_pos rfl, sumR_z 128 (fun i hi => clrf_lt hi)]
      exact (clrf_lt (by omega)).symm
    · rw [if_neg h0]
      unfold mbRow
      rw [b (by decide), b (by decide), e4, e6]
      exact least_leases (by omega) (fun k hk => (hL k hk).2) hD hs (fun j hj => clrf_lt (by omega)) (fun j hj => clrf_lt hj)
  have ev : mleasesF (σ1 52 19) (mleasesB σ1 L n) (lv1 w (σ1 62) (σ1 61) 128) (lv2 (lv1 w (σ1 62) (σ1 61) 128) (σ1 63) 512) w = leasesF (σ 3 10) (ps (σ 22) 0 128) (lsf (σ 21) L (σ 23) D n (clrf (σ 25) (n + 1)) D n) (σ 3 8) (σ 3 9) w := by
    rw [hB, b (by decide), b (by decide), b (by decide), b (by decide), e5, e6, e9]
    obtain ⟨-, -, -, -, s5, -, s7⟩ := hs
    unfold mleasesF leasesF
    cases hw : inr2 w 0 4 with
    | false =>
      have nw : ∀ j, j ≤ 4 → ¬ w = nI j := fun j hj q => by
        rw [q, inr2_0, inr_nI (by omega) (by decide)] at hw
        exact absurd hw (by decide)
      rw [if_neg Bool.false_ne_true, if_neg (nw 0 (by decide)), if_neg (nw 1 (by decide)), if_neg (nw 2 (by decide)), if_neg (nw 3 (by decide)), if_neg (nw 4 (by decide))]
    | true =>
      obtain ⟨j, -, hj, rfl⟩ := inr2_of hw (by decide)
      rw [if_pos rfl]
      have nn : ∀ {a c : Nat}, a ≤ 4 → c ≤ 4 → a ≠ c → ¬ nI a = nI c := fun ha hc h q => h (nI_ij (by omega) (by omega) q)
      rcases (show j = 0 ∨ j = 1 ∨ j = 2 ∨ j = 3 ∨ j = 4 by omega) with rfl | rfl | rfl | rfl | rfl
      · rw [if_pos rfl, if_pos rfl]
      · rw [if_neg (nn (by decide) (by decide) (by decide)), if_neg (nn (by decide) (by decide) (by decide)), if_neg (nn (by decide) (by decide) (by decide)), if_neg (nn (by decide) (by decide) (by decide)), if_pos rfl, lv1_1 128 (Nat.le_refl _)]
      · rw [if_neg (nn (by decide) (by decide) (by decide)), if_pos rfl, if_neg (nn (by decide) (by decide) (by decide)), if_neg (nn (by decide) (by decide) (by decide)), if_pos rfl]
      · rw [if_neg (nn (by decide) (by decide) (by decide)), if_neg (nn (by decide) (by decide) (by decide)), if_neg (nn (by decide) (by decide) (by decide)), if_neg (nn (by decide) (by decide) (by decide)), if_neg (nn (by decide) (by decide) (by decide)), if_neg (nn (by decide) (by decide) (by decide)), if_pos rfl, lv1_3, s5]
      · rw [if_neg (nn (by decide) (by decide) (by decide)), if_neg (nn (by decide) (by decide) (by decide)), if_pos rfl, if_neg (nn (by decide) (by decide) (by decide)), if_neg (nn (by decide) (by decide) (by decide)), if_neg (nn (by decide) (by decide) (by decide)), if_neg (nn (by decide) (by decide) (by decide)), if_pos rfl, lv1_4, lv2_c, s7]
  rw [ev] at k2
  refine ⟨_, _, _, k1, k2, ?_⟩
  have c2 : ∀ {q : Nat}, q ≠ 25 → q ≠ 64 → q ≠ 52 → mleasesM (m0 σ1) L n w q = σ q := fun h h2 h3 => by
    unfold mleasesM
    split
    · rw [mf_q h2, m0_q h3, b h]
    · rw [m0_q h3, b h]
  have c3 : ∀ {j : Nat}, j ≠ 0 → mleasesM (m0 σ1) L n w 52 j = σ 52 j := fun h => by
    unfold mleasesM
    split
    · rw [mf_q (by decide), m0_c h, b (by decide)]
    · rw [m0_c h, b (by decide)]
  exact ⟨fun q h => c2 (by omega) (by omega) (by omega), ⟨fun q h => c2 (by omega) (by omega) (by omega), fun j h => c3 (by omega)⟩, ⟨fun q h => c2 (by omega) (by omega) (by omega), fun j h => c3 (by omega)⟩, ⟨fun q h => c2 (by omega) (by omega) (by omega), fun j h => c3 (by omega)⟩, ⟨fun q h => c2 (by omega) (by omega) (by omega), fun j h => c3 (by omega)⟩⟩
