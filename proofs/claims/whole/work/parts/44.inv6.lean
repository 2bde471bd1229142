/-! ===== SETS, both: the calls ===== -/
abbrev PT (yc : MethodName) (cc : ByteArray) (mxc dc : Nat) (ac : List Value) (ym : MethodName) (cm : ByteArray) (mxm dm : Nat) (am : List Value) (σ : Mem) : Prop := Pair yc cc mxc dc ac ym cm mxm dm am σ (fun τ => GT τ ∧ frS σ τ ∧ frL σ τ ∧ frW σ τ ∧ frA σ τ)
theorem onT.d {σ : Mem} {n : Nat} {x : Int32} : onT σ (demandM σ n x) := by
  unfold demandM
  split
  · split
    · exact onT.cm
    · exact onT.rf
  · exact onT.rf
theorem onT.mdd {σ : Mem} {n : Nat} {x : Int32} : onT σ (mdemandM σ n x) := by
  unfold mdemandM
  split
  · exact onT.md
  · exact onT.rf
theorem d_52 {σ : Mem} {n : Nat} {x : Int32} {q : Nat} (h : q = 52 ∨ (56 ≤ q ∧ q ≤ 58)) : demandM σ n x q = σ q := by
  unfold demandM
  split
  · split
    · exact cm_52 h
    · rfl
  · rfl
theorem md_2x {σ : Mem} {n : Nat} {x : Int32} {q : Nat} (h : q = 2 ∨ (17 ≤ q ∧ q ≤ 19)) : mdemandM σ n x q = σ q := by
  unfold mdemandM
  split
  · exact md_2 h
  · rfl
theorem neg_lt {x : Int32} (h : x.toInt ≤ 0) : ¬ (0 : Int32) < x := fun q => by
  rw [Int32.lt_iff_toInt_lt, Int32.toInt_zero] at q
  omega
theorem dem_item {σ τ : Mem} {n : Nat} {x : Int32} (g : GT2 σ τ n) : mdemandV τ n x = demandV σ n x ∧ mdstV τ n x = dstV σ n x ∧ GT2 (demandM σ n x) (mdemandM τ n x) n := by
  unfold mdstV dstV
  rw [mdemandV, mdemandM, demandV, demandM]
  cases hx : inr x 12 with
  | false =>
    rw [if_neg Bool.false_ne_true, if_neg Bool.false_ne_true, if_neg Bool.false_ne_true, if_neg Bool.false_ne_true, if_neg Bool.false_ne_true, if_neg (neg_lt (by decide))]
    exact ⟨rfl, rfl, g⟩
  | true =>
    obtain ⟨t, ht, rfl⟩ := inr_of hx (by decide)
    rw [if_pos rfl, if_pos rfl, if_pos rfl, if_pos rfl, if_pos rfl, tn_nI (by omega)]
    cases ho : bt (σ 2 4) t with
    | false =>
      obtain ⟨e1, e2⟩ := dem_no g ht ho
      rw [e1, e2, if_neg Bool.false_ne_true, if_neg Bool.false_ne_true, if_neg Bool.false_ne_true, if_neg (neg_lt (by decide))]
      exact ⟨rfl, rfl, g⟩
    | true =>
      obtain ⟨e1, ⟨s, e2, e3⟩, e4⟩ := dem_step g ht ho
      rw [e1, if_pos rfl, if_pos rfl, if_pos rfl]
      refine ⟨rfl, ?_, e4⟩
      rw [e3]
      by_cases hs : s = 0
      · subst hs
        rw [if_neg (by decide +kernel)]
      · rw [if_pos (by rw [Int32.lt_iff_toInt_lt, Int32.toInt_zero, nI_toInt (by omega)]; omega)]
theorem dem_run {n : Nat} {it it2 : Nat → Int32} : ∀ (m : Nat) {σ τ : Mem}, (∀ k, k < m → it2 k = it k) → GT2 σ τ n → mdfV τ n it2 m = dfV σ n it m ∧ GT2 (dfM σ n it m) (mdfM τ n it2 m) n
  | 0, σ, τ, _, g => ⟨rfl, g⟩
  | m + 1, σ, τ, hi, g => by
    obtain ⟨h1, h2⟩ := dem_run m (fun k hk => hi k (by omega)) g
    obtain ⟨-, h4, h5⟩ := dem_item (x := it m) h2
    rw [mdfV, dfV, mdfM, dfM, hi m (Nat.lt_succ_self m), h1, h4]
    exact ⟨rfl, h5⟩
theorem onT.df {σ : Mem} {n : Nat} {it : Nat → Int32} : ∀ m, onT σ (dfM σ n it m)
  | 0 => onT.rf
  | m + 1 => (onT.df m).tr onT.d
theorem onT.mdf {σ : Mem} {n : Nat} {it : Nat → Int32} : ∀ m, onT σ (mdfM σ n it m)
  | 0 => onT.rf
  | m + 1 => (onT.mdf m).tr onT.mdd
theorem df_52 {σ : Mem} {n : Nat} {it : Nat → Int32} {q : Nat} (h : q = 52 ∨ (56 ≤ q ∧ q ≤ 58)) : ∀ m, dfM σ n it m q = σ q
  | 0 => rfl
  | m + 1 => by rw [dfM, d_52 h, df_52 h m]
theorem mdf_2 {σ : Mem} {n : Nat} {it : Nat → Int32} {q : Nat} (h : q = 2 ∨ (17 ≤ q ∧ q ≤ 19)) : ∀ m, mdfM σ n it m q = σ q
  | 0 => rfl
  | m + 1 => by rw [mdfM, md_2x h, mdf_2 h m]
theorem PT.of {σ τ : Mem} (g : GT τ) (h : onT σ τ) : GT τ ∧ frS σ τ ∧ frL σ τ ∧ frW σ τ ∧ frA σ τ := ⟨g, h.S, h.L, h.W, h.A⟩
theorem t_demand (x : Int32) (σ : Mem) (g : GT σ) : PT yX5_demand cX5_demand 2 6 [.ref 0, .int x] yX6_demand cX6_demand 2 2 [.ref 52, .int x] σ := by
  obtain ⟨n, g⟩ := g
  have g2 : GT2 σ (m0 (demandM σ n x)) n := GT2.fr (σ := σ) (τ := σ) (fun q _ => rfl) (fun q h => by rw [m0_q (by omega), d_52 (Or.inr h)]) (fun j h => by rw [m0_c (by omega), d_52 (Or.inl rfl)]) g
  obtain ⟨e1, -, e3⟩ := dem_item (x := x) g2
  have c2 := c_mdemand n x (demandM σ n x) (by rw [d_52 (Or.inl rfl)]; exact g.2.2.1) g.1
  rw [e1] at c2
  refine ⟨_, _, _, c_demand n x σ g.2.1 g.1, c2, PT.of ⟨n, ?_⟩ ((onT.d.tr (onT.m0 _)).tr onT.mdd)⟩
  exact GT2.fr (fun q h => by rw [md_2x h, m0_q (by omega)]) (fun q _ => rfl) (fun j _ => rfl) e3
theorem caddM_of {c th pr : Nat → Int32} {n : Nat} {of bo me : Int32} {x m : Nat} (h : setsOK c th pr n of 0 bo me) (hn : n < 10) (hx1 : 1 ≤ x) (hx : x ≤ 1000) (hm : m < 4096) : setsOK (upd c n (nI x)) (upd th n (nI m)) pr (n + 1) (of ||| nI m) 0 bo me := by
  obtain ⟨h1, h2, h3, h4, h5, h6, h7⟩ := h
  have p0 : ∀ (b : Int32) (k : Nat), k ≤ 12 → pf b pr k = nI 0 := by
    intro b k
    induction k with
    | zero => intro _; rfl
    | succ k ih =>
      intro hk
      rw [pf, ih (by omega), h3 k (by omega) (b_0 k)]
      split <;> decide +kernel
  refine ⟨fun k hk => ?_, fun k => ?_, h3, fun t ht => ?_, fun t ht => ?_, fun k hk => ?_, fun t ht => ?_⟩
  · by_cases e : k = n
    · subst e
      rw [upd_s, upd_s, p0 _ _ (Nat.le_refl 12)]
      exact ⟨x, 0, hx1, hx, rfl, Nat.zero_le x, rfl⟩
    · rw [upd_n e, upd_n e]
      exact h1 k (by omega)
  · by_cases e : k = n
    · subst e; rw [upd_s]; exact ⟨m, hm, rfl⟩
    · rw [upd_n e]; exact h2 k
  · rw [b_or, Bool.or_eq_true, h4 t ht]
    constructor
    · rintro (⟨k, q1, q2⟩ | q)
      · exact ⟨k, by omega, by rw [upd_n (by omega)]; exact q2⟩
      · exact ⟨n, by omega, by rw [upd_s]; exact q⟩
    · rintro ⟨k, q1, q2⟩
      by_cases e : k = n
      · subst e; rw [upd_s] at q2; exact Or.inr q2
      · rw [upd_n e] at q2; exact Or.inl ⟨k, by omega, q2⟩
  · rw [b_0] at ht; exact absurd ht (by decide)
  · have := h6 k hk; omega
  · rw [h7 t ht]
    constructor
    · rintro ⟨k, q1, q2, q3⟩
      exact ⟨k, by omega, q2, by rw [upd_n (by omega)]; exact q3⟩
    · rintro ⟨k, q1, q2, q3⟩
      have := h6 k q2
      exact ⟨k, this, q2, by rw [upd_n (by omega)] at q3; exact q3⟩
theorem t_offer (c th : Int32) (σ : Mem) (g : GT σ) : PT yX5_offer cX5_offer 3 1 [.ref 0, .int c, .int th] yX6_offer cX6_offer 3 1 [.ref 52, .int c, .int th] σ := by
  obtain ⟨n, h10, e1, e2, e3, e4, e5, e6, e7, e8, hs⟩ := g
  have k1 := c_offer n c th σ e1 h10
  have same : offerM σ n c th = σ → mofferM (m0 σ) n c th = m0 σ → PT yX5_offer cX5_offer 3 1 [.ref 0, .int c, .int th] yX6_offer cX6_offer 3 1 [.ref 52, .int c, .int th] σ := by
    intro a1 a2
    have k2 := c_moffer n c th σ e2 h10
    rw [a1] at k1
    rw [a2, e7] at k2
    exact ⟨_, _, _, k1, k2, PT.of (GT.fr (fr_m0 σ).2.1 ⟨n, h10, e1, e2, e3, e4, e5, e6, e7, e8, hs⟩) (onT.m0 σ)⟩
  cases ho : (inr2 c 1 1000 && inr2 th 1 4095) with
  | false => exact same (by rw [offerM, ho, if_neg Bool.false_ne_true]) (by rw [mofferM, ho, if_neg Bool.false_ne_true])
  | true =>
    by_cases hd : σ 2 5 = 0
    · by_cases hn : n < 10
      · rw [Bool.and_eq_true] at ho
        obtain ⟨x, hx1, hx, rfl⟩ := inr2_of ho.1 (by decide)
        obtain ⟨m, hm1, hm, rfl⟩ := inr2_of ho.2 (by decide)
        have ho2 : (inr2 (nI x) 1 1000 && inr2 (nI m) 1 4095) = true := by rw [Bool.and_eq_true]; exact ho
        have a1 : offerM σ n (nI x) (nI m) = caddM σ n (nI x) (nI m) := by rw [offerM, ho2, if_pos rfl, if_pos hd, if_pos hn]
        rw [a1] at k1
        have k2 := c_moffer n (nI x) (nI m) (caddM σ n (nI x) (nI m)) (by unfold caddM; simp (disch := omega) only [mu_q]; exact e2) h10
        have a2 : mofferM (m0 (caddM σ n (nI x) (nI m))) n (nI x) (nI m) = maddM (m0 (caddM σ n (nI x) (nI m))) n (nI x) (nI m) := by
          rw [mofferM, ho2, if_pos rfl, m0_c (by decide), if_pos (by unfold caddM; simp (disch := omega) only [mu_q]; rw [e7]; exact hd), if_pos hn]
        have a3 : caddM σ n (nI x) (nI m) 52 9 = σ 2 5 := by unfold caddM; simp (disch := omega) only [mu_q]; exact e7
        rw [a2, a3] at k2
        refine ⟨_, _, _, k1, k2, PT.of ⟨n + 1, ?_, ?_, ?_, ?_, ?_, ?_, ?_, ?_, ?_, ?_⟩ ⟨fun q h h2 => ?_, fun j h => ?_⟩⟩
        · omega
        · simp (disch := omega) only [maddM, caddM, m0, mu_q, mu_s, upd_s]
        · simp (disch := omega) only [maddM, caddM, m0, mu_q, mu_s, upd_s]
        · simp (disch := omega) only [maddM, caddM, m0, mu_q, mu_s]; rw [e3]
        · simp (disch := omega) only [maddM, caddM, m0, mu_q, mu_s]; rw [e4]
        · simp (disch := omega) only [maddM, caddM, m0, mu_q, mu_s]; exact e5
        · simp (disch := omega) only [maddM, caddM, m0, mu_q, mu_s, upd_n]; exact e6
        · simp (disch := omega) only [maddM, caddM, m0, mu_q, mu_s, upd_n]; exact e7
        · simp (disch := omega) only [maddM, caddM, m0, mu_q, mu_s, upd_n]; exact e8
        · simp (disch := omega) only [maddM, caddM, m0, mu_q, mu_s, upd_n, upd_s]
          rw [hd]
          rw [hd] at hs
          exact caddM_of hs hn hx1 hx (by omega)
        · simp (disch := omega) only [maddM, caddM, m0, mu_q]
        · simp (disch := omega) only [maddM, caddM, m0, mu_q, mu_s, upd_n]
      · exact same (by rw [offerM, ho, if_pos rfl, if_pos hd, if_neg hn]) (by rw [mofferM, ho, if_pos rfl, m0_c (by decide), e7, if_pos hd, if_neg hn])
    · exact same (by rw [offerM, ho, if_pos rfl, if_neg hd]) (by rw [mofferM, ho, if_pos rfl, m0_c (by decide), e7, if_neg hd])

