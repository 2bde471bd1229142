/-! ===== LEASES, both: the calls lease, day, covered ===== -/
abbrev PL (yc : MethodName) (cc : ByteArray) (mxc dc : Nat) (ac : List Value) (ym : MethodName) (cm : ByteArray) (mxm dm : Nat) (am : List Value) (σ : Mem) : Prop := Pair yc cc mxc dc ac ym cm mxm dm am σ (fun τ => GL τ ∧ frS σ τ ∧ frT σ τ ∧ frW σ τ ∧ frA σ τ)
def onL (σ τ : Mem) : Prop := (∀ q, ¬ (q = 3 ∨ (20 ≤ q ∧ q ≤ 25) ∨ (59 ≤ q ∧ q ≤ 64)) → q ≠ 52 → τ q = σ q) ∧ ∀ j, ¬ (j = 0 ∨ j = 12 ∨ j = 18 ∨ j = 19) → τ 52 j = σ 52 j
theorem PL.of {σ τ : Mem} (g : GL τ) (h : onL σ τ) : GL τ ∧ frS σ τ ∧ frT σ τ ∧ frW σ τ ∧ frA σ τ := ⟨g, fun q z => h.1 q (by omega) (by omega), ⟨fun q z => h.1 q (by omega) (by omega), fun j z => h.2 j (by omega)⟩, ⟨fun q z => h.1 q (by omega) (by omega), fun j z => h.2 j (by omega)⟩, ⟨fun q z => h.1 q (by omega) (by omega), fun j z => h.2 j (by omega)⟩⟩
theorem onL.m0 (σ : Mem) : onL σ (m0 σ) := ⟨fun q _ h => m0_r h, fun j h => m0_c (by omega)⟩
theorem t_covered (x : Int32) (σ : Mem) (g : GL σ) : Pair yX5_covered cX5_covered 2 2 [.ref 0, .int x] yX6_covered cX6_covered 2 2 [.ref 52, .int x] σ (frAll σ) := by
  obtain ⟨n, D, L, n4, ⟨hD, hD0⟩, e1, e2, e3, e4, e5, e6, e7, e8, e9, hL, hs⟩ := g
  have hL2 : lok σ 59 n L := by unfold lok; rw [e3]; exact hL
  have k2 := c_mcov n L x σ e2 hL2 n4
  have e : coveredF (fun d => covf (σ 63) L d n) x = coveredF (fun d => metf (σ 24) L d n) x := by
    unfold coveredF
    cases hx : inr x 128 with
    | false => rfl
    | true =>
      obtain ⟨d, hd, rfl⟩ := inr_of hx (by decide)
      rw [if_pos rfl, if_pos rfl, tn_nI (by omega)]
      show bI (covf (σ 63) L d n) = bI (metf (σ 24) L d n)
      rw [met_cov hd hs.2.2.2.2.2.1 n n4]
  rw [e] at k2
  exact ⟨_, _, _, c_covered n L x σ e1 hL n4, k2, fr_m0 σ⟩
theorem D_0 {n D : Nat} {L : Nat → Nat} {c pr as bf ib : Nat → Int32} {das sp : Int32} (hD : D ≤ 128) (h : leOKs c pr L n D as bf ib das sp) : decide (0 < das) = decide (0 < D) := by
  obtain ⟨-, -, h3, h4, h5, -⟩ := h
  have pos : ∀ N i, i < N → ¬ as i = 0 → 0 < cntZ as N := by
    intro N
    induction N with
    | zero => intro i hi; omega
    | succ N ih =>
      intro i hi hz
      rw [cntZ]
      by_cases e : i = N
      · subst e; rw [if_neg hz]; omega
      · have := ih i (by omega) hz
        split <;> omega
  have zer : D = 0 → ∀ N, cntZ as N = 0 := by
    intro hd N
    induction N with
    | zero => rfl
    | succ N ih => rw [cntZ, if_pos (by rw [(h3 N (by omega)).2, nI_0]), ih]
  have le := cntZ_le as 128
  rw [h5]
  apply decide_eq_decide.mpr
  rw [Int32.lt_iff_toInt_lt, Int32.toInt_zero, nI_toInt (by omega)]
  constructor
  · intro q
    rcases Nat.eq_zero_or_pos D with e | e
    · rw [zer e 128] at q; omega
    · exact e
  · intro q
    have := pos 128 (D - 1) (by omega) (by rw [← nI_0]; exact h4 q)
    omega
def updN (L : Nat → Nat) (n l : Nat) : Nat → Nat := fun k => if k = n then l else L k
theorem updN_s {L : Nat → Nat} {n l : Nat} : updN L n l n = l := if_pos rfl
theorem updN_n {L : Nat → Nat} {n l k : Nat} (h : k ≠ n) : updN L n l k = L k := if_neg h
theorem t_lease (l c : Int32) (σ : Mem) (g : GL σ) : PL yX5_lease cX5_lease 3 2 [.ref 0, .int l, .int c] yX6_lease cX6_lease 3 1 [.ref 52, .int l, .int c] σ := by
  obtain ⟨n, D, L, n4, ⟨hD, hD0⟩, e1, e2, e3, e4, e5, e6, e7, e8, e9, hL, hs⟩ := g
  have hL2 : lok σ 59 n L := by unfold lok; rw [e3]; exact hL
  have k1 := c_lease n L l c σ e1 hL n4
  have q1 := D_0 hD hs
  have q2 : decide (0 ≤ σ 52 18) = decide (0 < D) := by
    rw [e8]
    apply decide_eq_decide.mpr
    rw [Int32.le_iff_toInt_le, Int32.toInt_zero, nI_pred' (by omega)]
    omega
  rw [q1] at k1
  have same : leaseM σ L n (decide (0 < D)) l c = σ → mleaseM (m0 σ) L n (decide (0 < D)) l c = m0 σ → mleaseF L n (decide (0 < D)) l c = leaseF L n (decide (0 < D)) l c → PL yX5_lease cX5_lease 3 2 [.ref 0, .int l, .int c] yX6_lease cX6_lease 3 1 [.ref 52, .int l, .int c] σ := by
    intro a1 a2 a3
    have k2 := c_mlease n L l c σ e2 hL2 n4
    rw [a1] at k1
    rw [q2, a2, a3] at k2
    exact ⟨_, _, _, k1, k2, PL.of (GL.fr (fr_m0 σ).2.2.1 ⟨n, D, L, n4, ⟨hD, hD0⟩, e1, e2, e3, e4, e5, e6, e7, e8, e9, hL, hs⟩) (onL.m0 σ)⟩
  cases ho : leOK l c with
  | false => exact same (by rw [leaseM, ho, if_neg Bool.false_ne_true]) (by rw [mleaseM, ho, if_neg Bool.false_ne_true]) (by rw [mleaseF, leaseF, ho, if_neg Bool.false_ne_true, if_neg Bool.false_ne_true])
  | true =>
    have h1 : inr2 l 1 64 = true ∧ inr2 c 1 1000 = true := by
      unfold leOK at ho
      rw [Bool.and_eq_true] at ho
      exact ho
    obtain ⟨l', hl1, hl2, rfl⟩ := inr2_of h1.1 (by decide)
    obtain ⟨x, hx1, hx2, rfl⟩ := inr2_of h1.2 (by decide)
    have tl : tn (nI l') = l' := tn_nI (by omega)
    have enx : mnextF L n l' = nextF L n l' := by
      unfold mnextF nextF
      apply decide_eq_decide.mpr
      constructor
      · rintro (h | ⟨h, h2⟩)
        · exact Or.inl h
        · by_cases hn0 : n = 0
          · exact Or.inl hn0
          · obtain ⟨k, hk⟩ := Nat.dvd_of_mod_eq_zero h
            refine Or.inr ⟨?_, h⟩
            have : k ≠ 0 := by rintro rfl; omega
            have : k ≠ 1 := by rintro rfl; rw [Nat.mul_one] at hk; exact h2 hk
            have := Nat.mul_le_mul_left (L (n - 1)) (show 2 ≤ k by omega)
            omega
      · rintro (h | ⟨h, h2⟩)
        · exact Or.inl h
        · by_cases hn0 : n = 0
          · exact Or.inl hn0
          · have := (hL (n - 1) (by omega)).2.1
            exact Or.inr ⟨h2, by omega⟩
    by_cases hq : (decide (0 < D) || !(nextF L n l')) = true
    · exact same (by rw [leaseM, ho, if_pos rfl, tl, if_pos hq]) (by rw [mleaseM, ho, if_pos rfl, tl, enx, if_pos hq]) (by rw [mleaseF, leaseF, ho, if_pos rfl, if_pos rfl, tl, enx, if_pos hq, if_pos hq])
    · by_cases hn : n < 4
      · have hq2 := hq
        rw [Bool.not_eq_true, Bool.or_eq_false_iff] at hq
        have hD0 : D = 0 := by have := of_decide_eq_false hq.1; omega
        have hnx : nextF L n l' = true := by
          cases h : nextF L n l' with
          | true => rfl
          | false => rw [h] at hq; exact absurd hq.2 (by decide)
        have hnx := of_decide_eq_true hnx
        have a1 : leaseM σ L n (decide (0 < D)) (nI l') (nI x) = laddM σ n (nI l') (nI x) := by rw [leaseM, ho, if_pos rfl, tl, if_neg hq2, if_pos hn]
        have a1v : leaseF L n (decide (0 < D)) (nI l') (nI x) = nI n := by rw [leaseF, ho, if_pos rfl, tl, if_neg hq2, if_pos hn]
        rw [a1, a1v] at k1
        have b : ∀ {q : Nat}, q ≠ 3 → q ≠ 20 → q ≠ 21 → laddM σ n (nI l') (nI x) q = σ q := fun h h2 h3 => by unfold laddM; simp (disch := omega) only [mu_q]
        have k2 := c_mlease n L (nI l') (nI x) (laddM σ n (nI l') (nI x)) (by rw [b (by decide) (by decide) (by decide)]; exact e2) (by unfold lok; rw [b (by decide) (by decide) (by decide)]; exact hL2) n4
        have a2 : mleaseM (m0 (laddM σ n (nI l') (nI x))) L n (decide (0 < D)) (nI l') (nI x) = mladdM (m0 (laddM σ n (nI l') (nI x))) n (nI l') (nI x) := by rw [mleaseM, ho, if_pos rfl, tl, enx, if_neg hq2, if_neg (by omega)]
        have a2v : mleaseF L n (decide (0 < D)) (nI l') (nI x) = nI n := by rw [mleaseF, ho, if_pos rfl, tl, enx, if_neg hq2, if_neg (by omega)]
        rw [b (by decide) (by decide) (by decide), q2, a2, a2v] at k2
        refine ⟨_, _, _, k1, k2, PL.of ⟨n + 1, D, updN L n l', ?_, ⟨hD, fun q => absurd q (Nat.succ_ne_zero n)⟩, ?_, ?_, ?_, ?_, ?_, ?_, ?_, ?_, ?_, ?_, ?_⟩ ⟨fun q h h2 => ?_, fun j h => ?_⟩⟩
        · omega
        · simp (disch := omega) only [mladdM, laddM, m0, mu_q, mu_s, upd_s]
        · simp (disch := omega) only [mladdM, laddM, m0, mu_q, mu_s, upd_s]
        · simp (disch := omega) only [mladdM, laddM, m0, mu_q, mu_s]; rw [e3]
        · simp (disch := omega) only [mladdM, laddM, m0, mu_q, mu_s]; rw [e4]
        · simp (disch := omega) only [mladdM, laddM, m0, mu_q, mu_s]; exact e5
        · simp (disch := omega) only [mladdM, laddM, m0, mu_q, mu_s]; exact e6
        · simp (disch := omega) only [mladdM, laddM, m0, mu_q, mu_s, upd_n]; exact e7
        · simp (disch := omega) only [mladdM, laddM, m0, mu_q, mu_s, upd_n]; exact e8
        · simp (disch := omega) only [mladdM, laddM, m0, mu_q, mu_s, upd_n]; exact e9
        · intro k hk
          simp (disch := omega) only [mladdM, laddM, m0, mu_q, mu_s]
          by_cases e : k = n
          · subst e
            rw [upd_s, updN_s]
            exact ⟨rfl, hl1, hl2⟩
          · rw [upd_n e, updN_n e]
            exact hL k (by omega)
        · simp (disch := omega) only [mladdM, laddM, m0, mu_q, mu_s, upd_n]
          obtain ⟨s1, s2, s3, s4, s5, s6, s7⟩ := hs
          refine ⟨fun k hk => ?_, fun k hk => ?_, s3, s4, s5, s6, s7⟩
          · rw [updN_n (show k ≠ n by omega)]
            by_cases e : k + 1 = n
            · rw [e, updN_s]
              rcases hnx with h | ⟨h, h2⟩
              · omega
              · rw [show n - 1 = k by omega] at h h2
                exact ⟨h, h2⟩
            · rw [updN_n e]
              exact s1 k (by omega)
          · by_cases e : k = n
            · subst e
              rw [upd_s, updN_s]
              refine ⟨x, hx1, hx2, rfl, fun f _ => ⟨0, Nat.zero_le x, ?_⟩⟩
              have p0 : ∀ m, ps (σ 22) f m = nI 0 := by
                intro m
                induction m with
                | zero => rfl
                | succ m ih =>
                  rw [ps, ih, (s3 (f + m) (by omega)).1]
                  split <;> decide +kernel
              exact p0 l'
            · rw [upd_n e, updN_n e]
              exact s2 k (by omega)
        · simp (disch := omega) only [mladdM, laddM, m0, mu_q]
        · simp (disch := omega) only [mladdM, laddM, m0, mu_q, mu_s, upd_n]
      · have hn4 : n = 4 := by omega
        exact same (by rw [leaseM, ho, if_pos rfl, tl, if_neg hq, if_neg hn]) (by rw [mleaseM, ho, if_pos rfl, tl, enx, if_neg hq, if_pos hn4]) (by rw [mleaseF, leaseF, ho, if_pos rfl, if_pos rfl, tl, enx, if_neg hq, if_neg hq, if_neg hn, if_pos hn4])

