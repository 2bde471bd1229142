/-! ===== LEASES, both: a day ===== -/
theorem day_ok {c pr as bf ib : Nat → Int32} {L : Nat → Nat} {n D d : Nat} {das sp : Int32} (n4 : n ≤ 4) (hn : 0 < n) (hL : ∀ k, k < n → 1 ≤ L k ∧ L k ≤ 64) (hD : D ≤ d) (hd : d < 128) (h : leOKs c pr L n D as bf ib das sp) : pr d + lgL c pr L d n = lgLm c pr L d n ∧ leOKs c (upd pr d (pr d + lgL c pr L d n)) L n (d + 1) (upd as d (nI 1)) bf ib (das + nI 1) sp := by
  obtain ⟨s1, s2, s3, s4, s5, s6, s7⟩ := h
  have hX : ∃ X Y : Nat → Nat, ∀ k, k < n → c k = nI (X k) ∧ ps pr (fo (L k) d) (L k) = nI (Y k) ∧ Y k ≤ X k ∧ X k ≤ 1000 := by
    refine ⟨fun k => tn (c k), fun k => tn (ps pr (fo (L k) d) (L k)), fun k hk => ?_⟩
    obtain ⟨x, a1, a2, a3, a4⟩ := s2 k hk
    obtain ⟨y, b1, b2⟩ := a4 (fo (L k) d) fo_mod
    show c k = nI (tn (c k)) ∧ ps pr (fo (L k) d) (L k) = nI (tn (ps pr (fo (L k) d) (L k))) ∧ tn (ps pr (fo (L k) d) (L k)) ≤ tn (c k) ∧ tn (c k) ≤ 1000
    rw [a3, b2, tn_nI (by omega), tn_nI (by omega)]
    exact ⟨rfl, rfl, b1, a2⟩
  obtain ⟨X, Y, hXY⟩ := hX
  obtain ⟨G, g1, g2, g3, g4, -⟩ := lgL_spec hXY n (Nat.le_refl n)
  have pd : pr d = nI 0 := (s3 d hD).1
  rw [if_neg (by omega)] at g4
  have z : pr d + lgL c pr L d n = nI G := by rw [pd, g2, nI_add, Nat.zero_add]
  refine ⟨z.trans g4.symm, s1, fun k hk => ?_, fun e he => ?_, fun _ => ?_, ?_, s6, s7⟩
  · obtain ⟨x, a1, a2, a3, a4⟩ := s2 k hk
    refine ⟨x, a1, a2, a3, fun f hf => ?_⟩
    obtain ⟨y, b1, b2⟩ := a4 f hf
    rw [ps_upd hd, b2]
    by_cases hc : f ≤ d ∧ d < f + L k
    · rw [if_pos hc, g2, nI_add]
      have e := fo_eq (hL k hk).1 hf hc.1 hc.2
      obtain ⟨c1, c2, c3, c4⟩ := hXY k hk
      rw [e, b2] at c2
      have ey : Y k = y := (nI_ij (by omega) (by omega) c2).symm
      have ex : X k = x := nI_ij (by omega) (by omega) (c1.symm.trans a3)
      have := g3 k hk
      exact ⟨y + G, by omega, rfl⟩
    · rw [if_neg hc]
      exact ⟨y, b1, rfl⟩
  · rw [upd_n (by omega), upd_n (by omega)]
    exact s3 e (by omega)
  · rw [Nat.add_sub_cancel, upd_s]
    decide +kernel
  · have h0 : as d = 0 := by rw [(s3 d hD).2, nI_0]
    rw [cntZ_upd h0, if_pos hd, s5, nI_add]
theorem buyL_ok {c pr as bf ib : Nat → Int32} {L : Nat → Nat} {n D d : Nat} {das sp : Int32} (n4 : n ≤ 4) (hd : d < 128) (h : leOKs c pr L n D as bf ib das sp) (hc : covf ib L d n = false) : leOKs c pr L n D as (bfF c pr L d bf n) (ibF c pr L d ib n) das (spF c pr L d sp n) := by
  obtain ⟨s1, s2, s3, s4, s5, s6, s7⟩ := h
  refine ⟨s1, s2, s3, s4, s5, fun k f hk hf => ?_, cnt_ib hd s7 n n4 (cov_iff n hc)⟩
  rw [bfF_bt n (by omega), ibF_ne n, s6 k f hk hf]
  constructor
  · rintro (q | ⟨q1, q2, q3⟩)
    · exact Or.inl q
    · exact Or.inr ⟨k, q1, q2, by rw [q3]⟩
  · rintro (q | ⟨j, q1, q2, q3⟩)
    · exact Or.inl q
    · have := fo_le (L j) d
      obtain rfl : j = k := by omega
      exact Or.inr ⟨q1, q2, by omega⟩
theorem t_day (x : Int32) (σ : Mem) (g : GL σ) : PL yX5_day cX5_day 2 4 [.ref 0, .int x] yX6_day cX6_day 5 2 [.ref 52, .int x] σ := by
  obtain ⟨n, D, L, n4, ⟨hD, hD0⟩, e1, e2, e3, e4, e5, e6, e7, e8, e9, hL, hs⟩ := g
  have hL2 : lok σ 59 n L := by unfold lok; rw [e3]; exact hL
  have k1 := c_day n L x σ e1 hL n4
  have same : (inr x 128 = false ∨ (inr x 128 = true ∧ ¬ (0 < n ∧ σ 3 7 < x))) → PL yX5_day cX5_day 2 4 [.ref 0, .int x] yX6_day cX6_day 5 2 [.ref 52, .int x] σ := by
    intro h
    have k2 := c_mday n L x σ e2 hL2 n4
    rcases h with h | ⟨h, h2⟩
    · rw [dayV, dayM, h, if_neg Bool.false_ne_true, if_neg Bool.false_ne_true] at k1
      rw [mdayV, mdayM, h, if_neg Bool.false_ne_true, if_neg Bool.false_ne_true] at k2
      exact ⟨_, _, _, k1, k2, PL.of (GL.fr (fr_m0 σ).2.2.1 ⟨n, D, L, n4, ⟨hD, hD0⟩, e1, e2, e3, e4, e5, e6, e7, e8, e9, hL, hs⟩) (onL.m0 σ)⟩
    · rw [dayV, dayM, h, if_pos rfl, if_pos rfl, if_neg h2, if_neg h2] at k1
      rw [mdayV, mdayM, h, if_pos rfl, if_pos rfl, e8, ← e7, if_neg h2, if_neg h2] at k2
      exact ⟨_, _, _, k1, k2, PL.of (GL.fr (fr_m0 σ).2.2.1 ⟨n, D, L, n4, ⟨hD, hD0⟩, e1, e2, e3, e4, e5, e6, e7, e8, e9, hL, hs⟩) (onL.m0 σ)⟩
  cases hx : inr x 128 with
  | false => exact same (Or.inl hx)
  | true =>
    by_cases hq : 0 < n ∧ σ 3 7 < x
    · obtain ⟨d, hd, rfl⟩ := inr_of hx (by decide)
      have td : tn (nI d) = d := tn_nI (by omega)
      have hDd : D ≤ d := by
        have h := hq.2
        rw [e7, Int32.lt_iff_toInt_lt, nI_pred' (by omega), nI_toInt (by omega)] at h
        omega
      rw [dayV, dayM, hx, if_pos rfl, if_pos rfl, if_pos hq, if_pos hq, td] at k1
      have hL' : ∀ k, k < n → 1 ≤ L k ∧ L k ≤ 64 := fun k hk => (hL k hk).2
      have mc := met_cov (L := L) hd hs.2.2.2.2.2.1 n n4
      obtain ⟨z1, z2⟩ := day_ok n4 hq.1 hL' hDd hd hs
      have zask : leOKs (σ 21) (σ 22) L n (d + 1) (upd (σ 23) d (nI 1)) (σ 24) (σ 63) (σ 3 8 + nI 1) (σ 3 9) := by
        obtain ⟨s1, s2, s3, s4, s5, s6, s7⟩ := hs
        refine ⟨s1, s2, fun e he => ?_, fun _ => ?_, ?_, s6, s7⟩
        · rw [upd_n (by omega)]; exact s3 e (by omega)
        · rw [Nat.add_sub_cancel, upd_s]; decide +kernel
        · have h0 : σ 23 d = 0 := by rw [(s3 d hDd).2, nI_0]
          rw [cntZ_upd h0, if_pos hd, s5, nI_add]
      have ed : nI d = nI (d + 1) - nI 1 := by rw [pk_sub (by omega), Nat.add_sub_cancel]
      cases hm : metf (σ 24) L d n with
      | true =>
        rw [meetLV, meetLM, hm, if_pos rfl, if_pos rfl] at k1
        have b : ∀ {q : Nat}, q ≠ 3 → q ≠ 23 → lask σ d q = σ q := fun h h2 => by unfold lask; simp (disch := omega) only [mu_q]
        have k2 := c_mday n L (nI d) (lask σ d) (by rw [b (by decide) (by decide)]; exact e2) (by unfold lok; rw [b (by decide) (by decide)]; exact hL2) n4
        rw [mdayV, mdayM, hx, if_pos rfl, if_pos rfl, b (by decide) (by decide), e8, ← e7, if_pos hq, if_pos hq, td, mmeetLV, mmeetLM, m0_q (by decide), b (by decide) (by decide), ← mc, hm, if_pos rfl, if_pos rfl] at k2
        refine ⟨_, _, _, k1, k2, PL.of ⟨n, d + 1, L, n4, ⟨by omega, fun q => absurd q (Nat.ne_of_gt hq.1)⟩, ?_, ?_, ?_, ?_, ?_, ?_, ?_, ?_, ?_, ?_, ?_⟩ ⟨fun q h h2 => ?_, fun j h => ?_⟩⟩
        · simp (disch := omega) only [mlask, lask, m0, mu_q, mu_s, upd_n]; exact e1
        · simp (disch := omega) only [mlask, lask, m0, mu_q, mu_s, upd_n]; exact e2
        · simp (disch := omega) only [mlask, lask, m0, mu_q, mu_s]; exact e3
        · simp (disch := omega) only [mlask, lask, m0, mu_q, mu_s]; exact e4
        · simp (disch := omega) only [mlask, lask, m0, mu_q, mu_s]; exact e5
        · simp (disch := omega) only [mlask, lask, m0, mu_q, mu_s]; rw [e6]
        · simp (disch := omega) only [mlask, lask, m0, mu_q, mu_s, upd_s]; exact ed
        · simp (disch := omega) only [mlask, lask, m0, mu_q, mu_s, upd_s]; exact ed
        · simp (disch := omega) only [mlask, lask, m0, mu_q, mu_s, upd_n]; exact e9
        · intro k hk
          simp (disch := omega) only [mlask, lask, m0, mu_q]
          exact hL k hk
        · simp (disch := omega) only [mlask, lask, m0, mu_q, mu_s, upd_n, upd_s]
          exact zask
        · simp (disch := omega) only [mlask, lask, m0, mu_q]
        · simp (disch := omega) only [mlask, lask, m0, mu_q, mu_s, upd_n]
      | false =>
        have r22 : lraise σ L n d 22 = upd (σ 22) d (σ 22 d + lgL (σ 21) (σ 22) L d n) := by
          simp (disch := omega) only [lraise, lask, mu_q, mu_s]
        rw [meetLV, meetLM, hm, if_neg Bool.false_ne_true, if_neg Bool.false_ne_true, r22] at k1
        generalize hσ1 : mu (mbL (lraise σ L n d) L d n) 3 10 (σ 3 10 + bcL (σ 21) (upd (σ 22) d (σ 22 d + lgL (σ 21) (σ 22) L d n)) L d n) = σ1 at k1
        have b : ∀ {q : Nat}, ¬ (q = 3 ∨ (22 ≤ q ∧ q ≤ 24)) → σ1 q = σ q := fun h => by
          rw [← hσ1]
          simp (disch := omega) only [mbL, lraise, lask, mu_q, mf_q]
        have k2 := c_mday n L (nI d) σ1 (by rw [b (by omega)]; exact e2) (by unfold lok; rw [b (by omega)]; exact hL2) n4
        have r62 : mlraise (m0 σ1) L n d 62 = upd (σ 22) d (σ 22 d + lgL (σ 21) (σ 22) L d n) := by
          simp (disch := omega) only [mlraise, mlask, mu_q, mu_s, m0_q, b]
          rw [e4, e5, z1]
        rw [mdayV, mdayM, hx, if_pos rfl, if_pos rfl, b (by omega), e8, ← e7, if_pos hq, if_pos hq, td, mmeetLM, m0_q (by decide), b (by omega), ← mc, hm, if_neg Bool.false_ne_true, r62, m0_c (by decide), b (q := 52) (by omega), e9, m0_q (by decide), b (q := 60) (by omega), e4] at k2
        have ev : mmeetLV σ1 L n d = bcL (σ 21) (upd (σ 22) d (σ 22 d + lgL (σ 21) (σ 22) L d n)) L d n := by
          have r62' : mlraise σ1 L n d 62 = upd (σ 22) d (σ 22 d + lgL (σ 21) (σ 22) L d n) := by
            simp (disch := omega) only [mlraise, mlask, mu_q, mu_s, b]
            rw [e4, e5, z1]
          rw [mmeetLV, b (by omega), ← mc, hm, if_neg Bool.false_ne_true, r62', b (by omega), e4]
        rw [ev] at k2
        have zb := buyL_ok n4 hd z2 (mc.symm.trans hm)
        refine ⟨_, _, _, k1, k2, ?_⟩
        rw [← hσ1]
        refine PL.of ⟨n, d + 1, L, n4, ⟨by omega, fun q => absurd q (Nat.ne_of_gt hq.1)⟩, ?_, ?_, ?_, ?_, ?_, ?_, ?_, ?_, ?_, ?_, ?_⟩ ⟨fun q h h2 => ?_, fun j h => ?_⟩
        · simp (disch := omega) only [mbM, mlraise, mlask, mbL, lraise, lask, m0, mu_q, mu_s, mf_q, upd_n]; exact e1
        · simp (disch := omega) only [mbM, mlraise, mlask, mbL, lraise, lask, m0, mu_q, mu_s, mf_q, upd_n]; exact e2
        · simp (disch := omega) only [mbM, mlraise, mlask, mbL, lraise, lask, m0, mu_q, mu_s, mf_q]; exact e3
        · simp (disch := omega) only [mbM, mlraise, mlask, mbL, lraise, lask, m0, mu_q, mu_s, mf_q]; exact e4
        · simp (disch := omega) only [mbM, mlraise, mlask, mbL, lraise, lask, m0, mu_q, mu_s, mf_q]; rw [e4, e5, z1]
        · simp (disch := omega) only [mbM, mlraise, mlask, mbL, lraise, lask, m0, mu_q, mu_s, mf_q]; rw [e6]
        · simp (disch := omega) only [mbM, mlraise, mlask, mbL, lraise, lask, m0, mu_q, mu_s, mf_q, upd_s, upd_n]; exact ed
        · simp (disch := omega) only [mbM, mlraise, mlask, mbL, lraise, lask, m0, mu_q, mu_s, mf_q, upd_s, upd_n]; exact ed
        · simp (disch := omega) only [mbM, mlraise, mlask, mbL, lraise, lask, m0, mu_q, mu_s, mf_q, upd_n, upd_s]
        · intro k hk
          simp (disch := omega) only [mbM, mlraise, mlask, mbL, lraise, lask, m0, mu_q, mf_q]
          exact hL k hk
        · simp (disch := omega) only [mbM, mlraise, mlask, mbL, lraise, lask, m0, mu_q, mu_s, mf_q, mf_s, upd_n, upd_s]
          rw [e4, e5, ← z1]
          exact zb
        · simp (disch := omega) only [mbM, mlraise, mlask, mbL, lraise, lask, m0, mu_q, mf_q]
        · simp (disch := omega) only [mbM, mlraise, mlask, mbL, lraise, lask, m0, mu_q, mu_s, mf_q, upd_n]
    · exact same (Or.inr ⟨hx, hq⟩)

