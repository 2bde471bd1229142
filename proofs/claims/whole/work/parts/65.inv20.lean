/-! ===== SITES, both: the relation; site, way, joins ===== -/
def GWn (σ : Mem) (n : Nat) (l : Nat → Nat → Nat) : Prop :=
  (n ≤ 10 ∧ σ 4 5 = nI n ∧ σ 52 21 = nI n) ∧
  ((∀ a b, l a b ≤ 1000) ∧ (∀ a b, l a b = l b a) ∧ (∀ a b, 0 < l a b → a < n ∧ b < n ∧ a ≠ b)) ∧
  (∀ a b, a < 10 → b < 10 → σ (27 + a) b = nI (l a b) ∧ σ 65 (10 * a + b) = nI (l a b)) ∧
  (∃ W, σ 4 6 = nI W ∧ cntG (σ 65) 100 = 2 * W) ∧
  (σ 52 24 = σ 4 8 ∧ σ 52 25 = σ 4 9 ∧ σ 52 26 = σ 4 11) ∧
  (∀ a b, a < 10 → b < 10 → (bt (σ 37 a) b = true ↔ ¬ σ 66 (10 * a + b) = 0)) ∧
  (∀ a b, a < 10 → b < 10 → ¬ σ 66 (10 * a + b) = 0 → bt (σ 4 9) a = true ∧ bt (σ 4 9) b = true) ∧
  (∃ B, σ 4 10 = nI B ∧ cntZ (σ 66) 100 = 2 * B) ∧
  ((∀ i, bt (σ 4 8) i = true → bt (σ 4 9) i = true) ∧ (∀ i, bt (σ 4 9) i = true → i < n) ∧ (σ 4 8 = 0 → σ 4 9 = 0) ∧ (¬ σ 4 8 = 0 → ∃ fi, σ 4 7 = nI fi ∧ bt (σ 4 8) fi = true))
def GW (σ : Mem) : Prop := ∃ n l, GWn σ n l
theorem GWn.fr {σ τ : Mem} {n : Nat} {l : Nat → Nat → Nat} (h : frW σ τ) (g : GWn σ n l) : GWn τ n l := by
  obtain ⟨g1, g2, g3, g4, g5, g6, g7, g8, g9⟩ := g
  refine ⟨?_, g2, fun a b ha hb => ?_, ?_, ?_, ?_, ?_, ?_, ?_⟩
  · rw [h.1 4 (by omega), h.2 21 (by omega)]; exact g1
  · rw [h.1 (27 + a) (by omega), h.1 65 (by omega)]; exact g3 a b ha hb
  · rw [h.1 4 (by omega), h.1 65 (by omega)]; exact g4
  · rw [h.1 4 (by omega), h.2 24 (by omega), h.2 25 (by omega), h.2 26 (by omega)]; exact g5
  · rw [h.1 37 (by omega), h.1 66 (by omega)]; exact g6
  · rw [h.1 4 (by omega), h.1 66 (by omega)]; exact g7
  · rw [h.1 4 (by omega), h.1 66 (by omega)]; exact g8
  · rw [h.1 4 (by omega)]; exact g9
theorem GW.fr {σ τ : Mem} (h : frW σ τ) (g : GW σ) : GW τ := g.elim fun n g => g.elim fun l g => ⟨n, l, g.fr h⟩
abbrev PW (yc : MethodName) (cc : ByteArray) (mxc dc : Nat) (ac : List Value) (ym : MethodName) (cm : ByteArray) (mxm dm : Nat) (am : List Value) (σ : Mem) : Prop := Pair yc cc mxc dc ac ym cm mxm dm am σ (fun τ => GW τ ∧ frS σ τ ∧ frT σ τ ∧ frL σ τ ∧ frA σ τ)
def onW (σ τ : Mem) : Prop := (∀ q, ¬ (q = 4 ∨ (27 ≤ q ∧ q ≤ 50) ∨ (65 ≤ q ∧ q ≤ 68)) → q ≠ 52 → τ q = σ q) ∧ ∀ j, ¬ (j = 0 ∨ j = 21 ∨ j = 24 ∨ j = 25 ∨ j = 26 ∨ j = 29) → τ 52 j = σ 52 j
theorem PW.of {σ τ : Mem} (g : GW τ) (h : onW σ τ) : GW τ ∧ frS σ τ ∧ frT σ τ ∧ frL σ τ ∧ frA σ τ := ⟨g, fun q z => h.1 q (by omega) (by omega), ⟨fun q z => h.1 q (by omega) (by omega), fun j z => h.2 j (by omega)⟩, ⟨fun q z => h.1 q (by omega) (by omega), fun j z => h.2 j (by omega)⟩, ⟨fun q z => h.1 q (by omega) (by omega), fun j z => h.2 j (by omega)⟩⟩
theorem onW.m0 (σ : Mem) : onW σ (m0 σ) := ⟨fun q _ h => m0_r h, fun j h => m0_c (by omega)⟩
theorem t_site (σ : Mem) (g : GW σ) : PW yX5_site cX5_site 1 1 [.ref 0] yX6_site cX6_site 1 0 [.ref 52] σ := by
  obtain ⟨n, l, ⟨g1, g1a, g1b⟩, g2, g3, g4, g5, g6, g7, g8, g9⟩ := g
  have k1 := c_site n σ g1a g1
  by_cases hn : n < 10
  · have e1 : csiteM σ n = mu σ 4 5 (nI (n + 1)) := if_pos hn
    rw [e1] at k1
    have k2 := c_msite n (mu σ 4 5 (nI (n + 1))) (by simp (disch := omega) only [mu_q]; exact g1b) g1
    have e2 : msiteM (m0 (mu σ 4 5 (nI (n + 1)))) n = mu (m0 (mu σ 4 5 (nI (n + 1)))) 52 21 (nI (n + 1)) := if_pos hn
    rw [e2] at k2
    refine ⟨_, _, _, k1, k2, PW.of ⟨n + 1, l, ?_, ?_, fun a b ha hb => ?_, ?_, ?_, ?_, ?_, ?_, ?_⟩ ⟨fun q h h2 => ?_, fun j h => ?_⟩⟩
    · simp (disch := omega) only [m0, mu_q, mu_s, upd_s]
      exact ⟨by omega, trivial, trivial⟩
    · exact ⟨g2.1, g2.2.1, fun a b h => by obtain ⟨x, y, z⟩ := g2.2.2 a b h; exact ⟨by omega, by omega, z⟩⟩
    · simp (disch := omega) only [m0, mu_q]
      exact g3 a b ha hb
    · simp (disch := omega) only [m0, mu_q, mu_s, upd_n]
      exact g4
    · simp (disch := omega) only [m0, mu_q, mu_s, upd_n]
      exact g5
    · simp (disch := omega) only [m0, mu_q]
      exact g6
    · simp (disch := omega) only [m0, mu_q, mu_s, upd_n]
      exact g7
    · simp (disch := omega) only [m0, mu_q, mu_s, upd_n]
      exact g8
    · simp (disch := omega) only [m0, mu_q, mu_s, upd_n]
      exact ⟨g9.1, fun i hi => by have := g9.2.1 i hi; omega, g9.2.2.1, g9.2.2.2⟩
    · simp (disch := omega) only [m0, mu_q]
    · simp (disch := omega) only [m0, mu_q, mu_s, upd_n]
  · have e1 : csiteM σ n = σ := if_neg hn
    rw [e1] at k1
    have k2 := c_msite n σ g1b g1
    have e2 : msiteM (m0 σ) n = m0 σ := if_neg hn
    rw [e2] at k2
    exact ⟨_, _, _, k1, k2, PW.of (GW.fr (fr_m0 σ).2.2.2.1 ⟨n, l, ⟨g1, g1a, g1b⟩, g2, g3, g4, g5, g6, g7, g8, g9⟩) (onW.m0 σ)⟩
theorem cntG_new {g : Nat → Int32} {i : Nat} {v : Int32} (h : g i ≤ 0) (hv : ¬ v ≤ 0) : ∀ N, cntG (upd g i v) N = cntG g N + if i < N then 1 else 0
  | 0 => rfl
  | N + 1 => by
    rw [cntG, cntG, cntG_new h hv N]
    by_cases e : N = i
    · subst e
      rw [upd_s, if_neg hv, if_pos h, if_neg (Nat.lt_irrefl N), if_pos (Nat.lt_succ_self N)]
    · rw [upd_n e]
      by_cases h2 : i < N
      · rw [if_pos h2, if_pos (show i < N + 1 by omega)]
        split <;> omega
      · rw [if_neg h2, if_neg (show ¬ i < N + 1 by omega)]
        rfl
theorem cntG_old {g : Nat → Int32} {i : Nat} {v : Int32} (h : ¬ g i ≤ 0) (hv : ¬ v ≤ 0) : ∀ N, cntG (upd g i v) N = cntG g N
  | 0 => rfl
  | N + 1 => by
    rw [cntG, cntG, cntG_old h hv N]
    by_cases e : N = i
    · subst e
      rw [upd_s, if_neg hv, if_neg h]
    · rw [upd_n e]
theorem nI_npos {x : Nat} (h : x < 2 ^ 31) : nI x ≤ 0 ↔ x = 0 := by
  rw [← nI_0, nI_leI h (by decide)]
  omega
theorem t_way (x y v : Int32) (σ : Mem) (g : GW σ) : PW yX5_way cX5_way 4 2 [.ref 0, .int x, .int y, .int v] yX6_way cX6_way 5 2 [.ref 52, .int x, .int y, .int v] σ := by
  obtain ⟨n, l, ⟨g1, g1a, g1b⟩, g2, g3, g4, g5, g6, g7, g8, g9⟩ := g
  have k1 := c_way n x y v σ g1a g1
  have same : wayV σ n x y v = mwayV σ n x y v → cwayM σ n x y v = σ → mwayM (m0 σ) n x y v = m0 σ → PW yX5_way cX5_way 4 2 [.ref 0, .int x, .int y, .int v] yX6_way cX6_way 5 2 [.ref 52, .int x, .int y, .int v] σ := by
    intro h1 h2 h3
    have k2 := c_mway n x y v σ g1b g1
    rw [h1, h2] at k1
    rw [h3] at k2
    exact ⟨_, _, _, k1, k2, PW.of (GW.fr (fr_m0 σ).2.2.2.1 ⟨n, l, ⟨g1, g1a, g1b⟩, g2, g3, g4, g5, g6, g7, g8, g9⟩) (onW.m0 σ)⟩
  cases ho : wayOK n x y v with
  | false =>
    exact same (by rw [wayV, mwayV, ho, if_neg Bool.false_ne_true, if_neg Bool.false_ne_true]) (by rw [cwayM, ho, if_neg Bool.false_ne_true]) (by rw [mwayM, ho, if_neg Bool.false_ne_true])
  | true =>
    have h1 : ((inr x n = true ∧ inr y n = true) ∧ ¬ x = y) ∧ inr2 v 1 1000 = true := by
      unfold wayOK at ho
      rw [Bool.and_eq_true, Bool.and_eq_true, Bool.and_eq_true, decide_eq_true_iff] at ho
      exact ho
    obtain ⟨a, ha, rfl⟩ := inr_of h1.1.1.1 (by omega)
    obtain ⟨b, hb, rfl⟩ := inr_of h1.1.1.2 (by omega)
    obtain ⟨u, hu1, hu2, rfl⟩ := inr2_of h1.2 (by decide)
    have hab : a ≠ b := fun e => h1.1.2 (by rw [e])
    have ta : tn (nI a) = a := tn_nI (by omega)
    have tb : tn (nI b) = b := tn_nI (by omega)
    obtain ⟨p1, p2⟩ := g3 a b (by omega) (by omega)
    obtain ⟨p3, p4⟩ := g3 b a (by omega) (by omega)
    have hp := g6 a b (by omega) (by omega)
    have lab := g2.1 a b
    by_cases hz : σ 66 (10 * a + b) = 0
    · have hbt : bt (σ 37 a) b = false := bnt (fun q => hp.mp q hz)
      have ev1 : wayV σ n (nI a) (nI b) (nI u) = nI (l a b) := by
        rw [wayV, ho, if_pos rfl, ta, tb, hbt, if_neg Bool.false_ne_true, ln_at (by omega), p1]
      have em1 : cwayM σ n (nI a) (nI b) (nI u) = wayM σ a b (nI u) := by
        rw [cwayM, ho, if_pos rfl, ta, tb, hbt, if_neg Bool.false_ne_true]
      rw [ev1, em1] at k1
      obtain ⟨W, w1, w2⟩ := g4
      have eM : wayM σ a b (nI u) = mu (mu (mu σ 4 6 (nI (if l a b = 0 then W + 1 else W))) (27 + a) b (nI u)) (27 + b) a (nI u) := by
        unfold wayM
        rw [ln_at (by omega), p1]
        by_cases q : l a b = 0
        · rw [if_pos (show nI (l a b) = 0 by rw [q, nI_0]), if_pos q, w1, nI_add]
        · rw [if_neg (show ¬ nI (l a b) = 0 from nI_ne0 (by omega) (by omega)), if_neg q, ← w1, mu_self]
      rw [eM] at k1
      generalize hσ1 : mu (mu (mu σ 4 6 (nI (if l a b = 0 then W + 1 else W))) (27 + a) b (nI u)) (27 + b) a (nI u) = σ1 at k1
      have r : ∀ {q : Nat}, q ≠ 4 → ¬ (27 ≤ q ∧ q < 37) → σ1 q = σ q := fun h h2 => by
        rw [← hσ1]
        simp (disch := omega) only [mu_q]
      have r4 : ∀ {j : Nat}, j ≠ 6 → σ1 4 j = σ 4 j := fun h => by
        rw [← hσ1]
        simp (disch := omega) only [mu_q, mu_s, upd_n]
      have k2 := c_mway n (nI a) (nI b) (nI u) σ1 (by rw [r (by decide) (by omega)]; exact g1b) g1
      have ev2 : mwayV σ1 n (nI a) (nI b) (nI u) = nI (l a b) := by
        rw [mwayV, ho, if_pos rfl, ta, tb, r (by decide) (by omega), hz, if_pos rfl]
        show σ1 65 (10 * a + b) = _
        rw [r (by decide) (by omega), p2]
      have em2 : mwayM (m0 σ1) n (nI a) (nI b) (nI u) = mu (mu (m0 σ1) 65 (10 * a + b) (nI u)) 65 (10 * b + a) (nI u) := by
        rw [mwayM, ho, if_pos rfl, ta, tb, m0_r (by decide), r (by decide) (by omega), hz, if_pos rfl]
      rw [ev2, em2] at k2
      have s4 : ∀ {j : Nat}, j ≠ 6 → mu (mu (m0 σ1) 65 (10 * a + b) (nI u)) 65 (10 * b + a) (nI u) 4 j = σ 4 j := fun h => by
        simp (disch := omega) only [mu_q, m0_q]
        exact r4 h
      have s52 : ∀ {j : Nat}, j ≠ 0 → mu (mu (m0 σ1) 65 (10 * a + b) (nI u)) 65 (10 * b + a) (nI u) 52 j = σ 52 j := fun h => by
        simp (disch := omega) only [mu_q]
        rw [m0_c h, r (by decide) (by omega)]
      have sq : ∀ {q : Nat}, q ≠ 4 → ¬ (27 ≤ q ∧ q < 37) → q ≠ 52 → q ≠ 65 → mu (mu (m0 σ1) 65 (10 * a + b) (nI u)) 65 (10 * b + a) (nI u) q = σ q := fun h h2 h3 h4 => by
        simp (disch := omega) only [mu_q, m0_q]
        exact r h h2
      have s65 : mu (mu (m0 σ1) 65 (10 * a + b) (nI u)) 65 (10 * b + a) (nI u) 65 = upd (upd (σ 65) (10 * a + b) (nI u)) (10 * b + a) (nI u) := by
        rw [mu_s, mu_s, m0_q (by decide), r (by decide) (by omega)]
      have ne : 10 * a + b ≠ 10 * b + a := by omega
      refine ⟨_, _, _, k1, k2, PW.of ⟨n, fun i j => if (i = a ∧ j = b) ∨ (i = b ∧ j = a) then u else l i j, ?_, ⟨fun i j => ?_, fun i j => ?_, fun i j h => ?_⟩, fun i j hi hj => ⟨?_, ?_⟩, ⟨if l a b = 0 then W + 1 else W, ?_, ?_⟩, ?_, ?_, ?_, ?_, ?_⟩ ⟨fun q h h2 => ?_, fun j h => ?_⟩⟩
      · rw [s4 (by decide), s52 (by decide)]; exact ⟨g1, g1a, g1b⟩
      · show (if (i = a ∧ j = b) ∨ (i = b ∧ j = a) then u else l i j) ≤ 1000
        have := g2.1 i j
        split <;> omega
      · show (if (i = a ∧ j = b) ∨ (i = b ∧ j = a) then u else l i j) = (if (j = a ∧ i = b) ∨ (j = b ∧ i = a) then u else l j i)
        rw [g2.2.1 i j]
        by_cases q : (i = a ∧ j = b) ∨ (i = b ∧ j = a)
        · rw [if_pos q, if_pos (by omega)]
        · rw [if_neg q, if_neg (by omega)]
      · have h : 0 < (if (i = a ∧ j = b) ∨ (i = b ∧ j = a) then u else l i j) := h
        by_cases q : (i = a ∧ j = b) ∨ (i = b ∧ j = a)
        · rcases q with ⟨rfl, rfl⟩ | ⟨rfl, rfl⟩
          · exact ⟨ha, hb, hab⟩
          · exact ⟨hb, ha, Ne.symm hab⟩
        · rw [if_neg q] at h; exact g2.2.2 i j h
      · show _ = nI (if (i = a ∧ j = b) ∨ (i = b ∧ j = a) then u else l i j)
        obtain ⟨o1, -⟩ := g3 i j hi hj
        rw [show mu (mu (m0 σ1) 65 (10 * a + b) (nI u)) 65 (10 * b + a) (nI u) (27 + i) = σ1 (27 + i) by simp (disch := omega) only [mu_q, m0_q], ← hσ1]
        by_cases q1 : i = b
        · subst q1
          rw [mu_s]
          by_cases q2 : j = a
          · subst q2
            rw [upd_s, if_pos (Or.inr ⟨rfl, rfl⟩)]
          · rw [upd_n q2]
            simp (disch := omega) only [mu_q]
            rw [if_neg (by omega)]
            exact o1
        · rw [mu_q (by omega)]
          by_cases q2 : i = a
          · subst q2
            rw [mu_s]
            by_cases q3 : j = b
            · subst q3
              rw [upd_s, if_pos (Or.inl ⟨rfl, rfl⟩)]
            · rw [upd_n q3]
              simp (disch := omega) only [mu_q]
              rw [if_neg (by omega)]
              exact o1
          · rw [mu_q (by omega), mu_q (by omega), if_neg (by omega)]
            exact o1
      · show _ = nI (if (i = a ∧ j = b) ∨ (i = b ∧ j = a) then u else l i j)
        obtain ⟨-, o2⟩ := g3 i j hi hj
        rw [s65]
        by_cases q1 : i = b ∧ j = a
        · obtain ⟨rfl, rfl⟩ := q1
          rw [upd_s, if_pos (Or.inr ⟨rfl, rfl⟩)]
        · rw [upd_n (by omega)]
          by_cases q2 : i = a ∧ j = b
          · obtain ⟨rfl, rfl⟩ := q2
            rw [upd_s, if_pos (Or.inl ⟨rfl, rfl⟩)]
          · rw [upd_n (by omega), if_neg (by omega)]
            exact o2
      · rw [show mu (mu (m0 σ1) 65 (10 * a + b) (nI u)) 65 (10 * b + a) (nI u) 4 6 = σ1 4 6 by simp (disch := omega) only [mu_q, m0_q], ← hσ1]
        simp (disch := omega) only [mu_q, mu_s, upd_s]
      · have np : ¬ nI u ≤ 0 := fun q => by have := (nI_npos (by omega)).mp q; omega
        rw [s65]
        by_cases q : l a b = 0
        · have q' : l b a = 0 := by rw [g2.2.1 b a]; exact q
          rw [if_pos q, cntG_new (by rw [upd_n (Ne.symm ne), p4, q', nI_0]; decide) np, cntG_new (by rw [p2, q, nI_0]; decide) np, w2, if_pos (by omega), if_pos (by omega)]
          omega
        · have q' : ¬ l b a = 0 := by rw [g2.2.1 b a]; exact q
          have lba := g2.1 b a
          rw [if_neg q, cntG_old (by rw [upd_n (Ne.symm ne), p4]; exact fun z => q' ((nI_npos (by omega)).mp z)) np, cntG_old (by rw [p2]; exact fun z => q ((nI_npos (by omega)).mp z)) np, w2]
      · rw [s4 (by decide), s4 (by decide), s4 (by decide), s52 (by decide), s52 (by decide), s52 (by decide)]; exact g5
      · rw [sq (by decide) (by omega) (by decide) (by decide), sq (by decide) (by omega) (by decide) (by decide)]; exact g6
      · rw [s4 (by decide), sq (by decide) (by omega) (by decide) (by decide)]; exact g7
      · rw [s4 (by decide), sq (by decide) (by omega) (by decide) (by decide)]; exact g8
      · rw [s4 (by decide), s4 (by decide), s4 (by decide)]; exact g9
      · exact sq (by omega) (by omega) (by omega) (by omega)
      · exact s52 (by omega)
    · have hbt : bt (σ 37 a) b = true := hp.mpr hz
      exact same (by rw [wayV, mwayV, ho, if_pos rfl, if_pos rfl, ta, tb, hbt, if_pos rfl, if_neg hz]) (by rw [cwayM, ho, if_pos rfl, ta, tb, hbt, if_pos rfl]) (by rw [mwayM, ho, if_pos rfl, ta, tb, m0_r (by decide), if_neg hz])
/-- a pair of calls whose memory is told by what it keeps -/
def PairR (yc : MethodName) (cc : ByteArray) (mxc dc : Nat) (ac : List Value) (ym : MethodName) (cm : ByteArray) (mxm dm : Nat) (am : List Value) (σ : Mem) (K : Mem → Prop) : Prop := ∃ P1, Cc yc cc mxc (some .int) dc ac σ P1 ∧ ∀ r σ1, P1 r σ1 → ∃ v : Int32, r = some (.int v) ∧ ∃ P2, Cc ym cm mxm (some .int) dm am σ1 P2 ∧ ∀ r2 σ2, P2 r2 σ2 → r2 = some (.int v) ∧ K σ2
theorem t_joins (w : Int32) (σ : Mem) (g : GW σ) : PairR yX5_joins cX5_joins 2 4 [.ref 0, .int w] yX6_joins cX6_joins 4 3 [.ref 52, .int w] σ (frAll σ) := by
  obtain ⟨n, l, ⟨g1, g1a, g1b⟩, ⟨l1, l2, l3⟩, g3, g4, ⟨g5a, g5b, g5c⟩, g6, g7, ⟨B, b1, b2⟩, g9a, g9b, g9c, g9d⟩ := g
  have hJ : ∀ z, bt (σ 4 8) z = true → z < n := fun z hz => g9b z (g9a z hz)
  have ex : ∃ fi, ¬ bcF (σ 4 8) - nI 2 < 0 → σ 4 7 = nI fi ∧ fi < n ∧ bt (σ 4 8) fi = true := by
    by_cases h0 : σ 4 8 = 0
    · exact ⟨0, fun q => absurd (by rw [h0]; decide +kernel) q⟩
    · obtain ⟨fi, f1, f2⟩ := g9d h0
      exact ⟨fi, fun _ => ⟨f1, hJ fi f2, f2⟩⟩
  obtain ⟨fi, hfi⟩ := ex
  refine ⟨_, c_joins n fi w σ g1a g1 (fun q => ⟨(hfi q).1, (hfi q).2.1⟩), fun r σ1 hr => ?_⟩
  obtain ⟨v, rfl, hv, hσ1⟩ := hr
  refine ⟨v, rfl, ?_⟩
  have hwy : ∀ a b, a < n → b < n → wy σ1 a b = nI (l a b) := fun a b ha hb => by
    show σ1 65 (10 * a + b) = _
    rw [hσ1 65 (by omega)]
    exact (g3 a b (by omega) (by omega)).2
  obtain ⟨F, K, hFK⟩ := RM_ex g1 l1 hwy
  have c52 : σ1 52 = σ 52 := hσ1 52 (by omega)
  refine ⟨_, c_mjoins n F K w σ1 (by rw [c52]; exact g1b) g1 (fun _ m m1 m2 => (hFK m m1 m2).1), fun r2 σ2 hr2 => ?_⟩
  obtain ⟨v2, rfl, hv2, hσ2⟩ := hr2
  have hR : ∀ m, 1 ≤ m → m < 2 ^ n → bt (nI m) (F m) = true ∧ RM l (wy σ1) n m (F m) (K m) := fun m m1 m2 => ⟨(hFK m m1 m2).1.2.1, (hFK m m1 m2).2⟩
  have eb : mbestV σ1 n F K = leastV σ n fi := by
    unfold mbestV leastV
    rw [c52, g5a]
    by_cases h0 : σ 4 8 = 0
    · rw [h0, if_pos rfl, if_pos (by decide +kernel)]
    · rw [if_neg h0]
      obtain ⟨j, j1, j2⟩ := bits_nI (x := σ 4 8) (N := n) (by omega) hJ
      have hbc : bcF (σ 4 8) = nI (ct (bt (σ 4 8)) n) := by rw [j2]; exact bc_ct g1 j1
      have hle := ct_le (bt (σ 4 8)) n
      rcases Nat.lt_or_ge (ct (bt (σ 4 8)) n) 2 with q | q
      · have h1 : ct (bt (σ 4 8)) n = 1 := by
          obtain ⟨fi, -, f2⟩ := g9d h0
          have := ct_mono (S := one fi) (T := bt (σ 4 8)) n (fun z _ hz => by rw [one_iff.mp hz]; exact f2)
          rw [ct_one (hJ fi f2)] at this
          omega
        rw [least_one g1 hJ h1 hR, hbc, h1, if_pos (by decide +kernel)]
      · have hn2 : ¬ bcF (σ 4 8) - nI 2 < 0 := by
          rw [hbc, pk_sub q]
          exact nI_pos (by omega)
        rw [if_neg hn2, hbc, pk_sub q]
        exact (least_sites (D := nearF σ n) g1 l1 l2 (near_at l1 (fun a b ha hb => by
          rw [ln_at (by omega)]
          exact (g3 a b (by omega) (by omega)).1)) hJ (hfi hn2).2.2 rfl q hR).symm
  refine ⟨?_, ?_⟩
  · rw [hv2, hv, eb, c52, hσ1 66 (by omega), g5a, g5b, g5c, b1, b2, Nat.mul_div_cancel_left B (by decide)]
  · have a : ∀ q, ¬ (40 ≤ q ∧ q ≤ 50) → q ≠ 52 → σ2 q = σ q := fun q h h2 => by rw [hσ2.1 q h2, m0_r h2, hσ1 q h]
    have b : ∀ j, j ≠ 0 → j ≠ 29 → σ2 52 j = σ 52 j := fun j h h2 => by rw [hσ2.2 j h2, m0_c h, c52]
    exact ⟨fun q h => a q (by omega) (by omega), ⟨fun q h => a q (by omega) (by omega), fun j h => b j (by omega) (by omega)⟩, ⟨fun q h => a q (by omega) (by omega), fun j h => b j (by omega) (by omega)⟩, ⟨fun q h => a q (by omega) (by omega), fun j h => b j (by omega) (by omega)⟩, ⟨fun q h => a q (by omega) (by omega), fun j h => b j (by omega) (by omega)⟩⟩
