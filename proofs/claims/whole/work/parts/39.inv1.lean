/-! ===== the invariant, its groups and frames ===== -/
theorem mu_rw {σ : Mem} {p i : Nat} {v : Int32} {q : Nat} : mu σ p i v q = if q = p then upd (σ p) i v else σ q := by
  by_cases h : q = p
  · rw [if_pos h, h, mu_row]
  · rw [if_neg h, ← mu_ne h]
theorem mu_q {σ : Mem} {p i : Nat} {v : Int32} {q : Nat} (h : q ≠ p) : mu σ p i v q = σ q := (mu_ne h).symm
theorem mf_q {σ : Mem} {p : Nat} {g : Nat → Int32} {q : Nat} (h : q ≠ p) : mf σ p g q = σ q := (mf_ne h).symm
theorem m0_q {σ : Mem} {q : Nat} (h : q ≠ 52) : m0 σ q = σ q := m0_r h
theorem m1_q {σ : Mem} {q : Nat} (h : q ≠ 52) : m1 σ q = σ q := m1_r h
theorem mf_s {σ : Mem} {p : Nat} {g : Nat → Int32} : mf σ p g p = g := mf_row σ p g
theorem mu_s {σ : Mem} {p i : Nat} {v : Int32} : mu σ p i v p = upd (σ p) i v := mu_row σ p i v
theorem upd_n {f : Nat → Int32} {i j : Nat} {v : Int32} (h : j ≠ i) : upd f i v j = f j := if_neg h
theorem upd_s {f : Nat → Int32} {i : Nat} {v : Int32} : upd f i v i = v := if_pos rfl
def frS (σ τ : Mem) : Prop := ∀ q, (7 ≤ q ∧ q ≤ 16) ∨ (53 ≤ q ∧ q ≤ 55) → τ q = σ q
def frT (σ τ : Mem) : Prop := (∀ q, q = 2 ∨ (17 ≤ q ∧ q ≤ 19) ∨ (56 ≤ q ∧ q ≤ 58) → τ q = σ q) ∧ ∀ j, j = 5 ∨ j = 8 ∨ j = 9 ∨ j = 11 → τ 52 j = σ 52 j
def frL (σ τ : Mem) : Prop := (∀ q, q = 3 ∨ (20 ≤ q ∧ q ≤ 24) ∨ (59 ≤ q ∧ q ≤ 63) → τ q = σ q) ∧ ∀ j, j = 12 ∨ j = 18 ∨ j = 19 → τ 52 j = σ 52 j
def frW (σ τ : Mem) : Prop := (∀ q, q = 4 ∨ (27 ≤ q ∧ q ≤ 37) ∨ q = 65 ∨ q = 66 → τ q = σ q) ∧ ∀ j, j = 21 ∨ j = 24 ∨ j = 25 ∨ j = 26 → τ 52 j = σ 52 j
def frA (σ τ : Mem) : Prop := (∀ q, q = 0 ∨ q = 5 ∨ q = 51 ∨ q = 69 → τ q = σ q) ∧ ∀ j, j = 1 ∨ j = 31 → τ 52 j = σ 52 j
def GS (σ : Mem) : Prop := ∀ s, s < 8 → (σ 16 s = (-1) ∧ σ 53 s = (-1) ∧ ∃ m : Nat, m ≤ 60 ∧ σ 54 s = nI m) ∨ ∃ l m : Nat, l < 3 ∧ m ≤ 60 ∧ σ 15 s = nI l ∧ σ 53 s = nI l ∧ σ 16 s = nI m ∧ σ 54 s = nI m ∧ ∀ i, i < m → σ (7 + s) i = σ 55 (60 * s + i)
theorem GS.fr {σ τ : Mem} (h : frS σ τ) (g : GS σ) : GS τ := by
  intro s hs
  rw [h 16 (by omega), h 53 (by omega), h 54 (by omega), h 55 (by omega), h 15 (by omega), h (7 + s) (by omega)]
  exact g s hs
theorem GS.sz {σ : Mem} (g : GS σ) : szok σ := fun s hs => by
  rcases g s hs with ⟨h, -⟩ | ⟨l, m, -, hm, -, -, h, -⟩
  · exact Or.inl h
  · exact Or.inr ⟨m, hm, h⟩
theorem GS.mz {σ : Mem} (g : GS σ) : mzok σ := fun s hs => by
  rcases g s hs with ⟨-, h, h2⟩ | ⟨l, m, hl, hm, -, h, -, h2, -⟩
  · exact ⟨Or.inl h, h2⟩
  · exact ⟨Or.inr ⟨l, hl, h⟩, m, hm, h2⟩
/-- what holds of the sets -/
def setsOK (c th pr : Nat → Int32) (n : Nat) (of dem bo me : Int32) : Prop :=
  (∀ k, k < n → ∃ x y : Nat, 1 ≤ x ∧ x ≤ 1000 ∧ c k = nI x ∧ y ≤ x ∧ pf (th k) pr 12 = nI y) ∧
  (∀ k, ∃ m : Nat, m < 4096 ∧ th k = nI m) ∧
  (∀ t, t < 12 → bt dem t = false → pr t = nI 0) ∧
  (∀ t, t < 12 → (bt of t = true ↔ ∃ k, k < n ∧ bt (th k) t = true)) ∧
  (∀ t, bt dem t = true → t < 12 ∧ bt of t = true) ∧
  (∀ k, bt bo k = true → k < n) ∧
  (∀ t, t < 12 → (bt me t = true ↔ ∃ k, k < n ∧ bt bo k = true ∧ bt (th k) t = true))
def GTn (σ : Mem) (n : Nat) : Prop := n ≤ 10 ∧ σ 2 3 = nI n ∧ σ 52 5 = nI n ∧ σ 56 = σ 17 ∧ σ 57 = σ 18 ∧ σ 58 = σ 19 ∧ σ 52 8 = σ 2 6 ∧ σ 52 9 = σ 2 5 ∧ σ 52 11 = σ 2 8 ∧ setsOK (σ 17) (σ 18) (σ 19) n (σ 2 4) (σ 2 5) (σ 2 6) (σ 2 7)
def GT (σ : Mem) : Prop := ∃ n, GTn σ n
theorem GTn.fr {σ τ : Mem} {n : Nat} (h : frT σ τ) (g : GTn σ n) : GTn τ n := by
  unfold GTn
  rw [h.1 2 (by omega), h.1 17 (by omega), h.1 18 (by omega), h.1 19 (by omega), h.1 56 (by omega), h.1 57 (by omega), h.1 58 (by omega), h.2 5 (by omega), h.2 8 (by omega), h.2 9 (by omega), h.2 11 (by omega)]
  exact g
theorem GT.fr {σ τ : Mem} (h : frT σ τ) (g : GT σ) : GT τ := g.elim fun n g => ⟨n, g.fr h⟩
def GA (σ : Mem) : Prop := ∃ tr : Nat, tr ≤ 16 ∧ σ 5 1 = nI tr ∧ σ 52 31 = nI tr ∧ σ 69 = σ 51 ∧ σ 52 1 = σ 0 5
theorem GA.fr {σ τ : Mem} (h : frA σ τ) (g : GA σ) : GA τ := by
  unfold GA
  rw [h.1 0 (by omega), h.1 5 (by omega), h.1 51 (by omega), h.1 69 (by omega), h.2 1 (by omega), h.2 31 (by omega)]
  exact g
/-- a pair of calls: the same answer, and K of the memory behind them -/
def Pair (yc : MethodName) (cc : ByteArray) (mxc dc : Nat) (ac : List Value) (ym : MethodName) (cm : ByteArray) (mxm dm : Nat) (am : List Value) (σ : Mem) (K : Mem → Prop) : Prop :=
  ∃ (v : Int32) (σ1 σ2 : Mem), Cc yc cc mxc (some .int) dc ac σ (rI v σ1) ∧ Cc ym cm mxm (some .int) dm am σ1 (rI v σ2) ∧ K σ2
theorem Pair.st {I : Mem → Prop} {yc : MethodName} {cc : ByteArray} {mxc dc : Nat} {ac : List Value} {ym : MethodName} {cm : ByteArray} {mxm dm : Nat} {am : List Value} (h : ∀ σ, I σ → Pair yc cc mxc dc ac ym cm mxm dm am σ I) : St2 I yc cc mxc dc ac ym cm mxm dm am := by
  intro σ hσ
  obtain ⟨v, σ1, σ2, h1, h2, h3⟩ := h σ hσ
  refine ⟨_, h1, fun r τ hr => ?_⟩
  obtain ⟨rfl, rfl⟩ := hr
  refine ⟨v, rfl, _, h2, fun r2 τ2 hr2 => ?_⟩
  obtain ⟨rfl, rfl⟩ := hr2
  exact ⟨rfl, h3⟩
def frAll (σ τ : Mem) : Prop := frS σ τ ∧ frT σ τ ∧ frL σ τ ∧ frW σ τ ∧ frA σ τ
theorem fr_m0 (σ : Mem) : frAll σ (m0 σ) := by
  refine ⟨fun q h => m0_r (by omega), ⟨fun q h => m0_r (by omega), fun j h => m0_c (by omega)⟩, ⟨fun q h => m0_r (by omega), fun j h => m0_c (by omega)⟩, ⟨fun q h => m0_r (by omega), fun j h => m0_c (by omega)⟩, ⟨fun q h => m0_r (by omega), fun j h => m0_c (by omega)⟩⟩
theorem t_price (x : Int32) (σ : Mem) (g : GT σ) : Pair yX5_price cX5_price 2 1 [.ref 0, .int x] yX6_price cX6_price 2 1 [.ref 52, .int x] σ (frAll σ) := by
  obtain ⟨n, -, h1, h2, h3, h4, h5, h6, h7, h8, -⟩ := g
  refine ⟨_, _, _, c_price x σ, ?_, fr_m0 σ⟩
  rw [← h5]
  exact c_mprice x σ
theorem t_told (x w : Int32) (σ : Mem) (g : GT σ) : Pair yX5_told cX5_told 3 4 [.ref 0, .int x, .int w] yX6_told cX6_told 3 2 [.ref 52, .int x, .int w] σ (frAll σ) := by
  obtain ⟨n, hn10, h1, h2, h3, h4, h5, h6, h7, h8, -⟩ := g
  refine ⟨_, _, _, c_told n x w σ h1 hn10, ?_, fr_m0 σ⟩
  rw [← h3, ← h4, ← h5, ← h6]
  exact c_mtold n x w σ h2 hn10
theorem t_kind (x : Int32) (σ : Mem) (g : GT σ) : Pair yX5_kind cX5_kind 2 5 [.ref 0, .int x] yX6_kind cX6_kind 2 2 [.ref 52, .int x] σ (frAll σ) := by
  obtain ⟨n, hn10, h1, h2, h3, h4, h5, h6, h7, h8, -⟩ := g
  refine ⟨_, _, _, c_kind n x σ h1 hn10, ?_, fr_m0 σ⟩
  rw [← h3, ← h4, ← h5, ← h6]
  exact c_mkind n x σ h2 hn10
theorem t_status (σ : Mem) (g : GA σ) : Pair yX5_status cX5_status 1 0 [.ref 0] yX6_status cX6_status 1 0 [.ref 52] σ (frAll σ) := by
  obtain ⟨tr, ht, h1, h2, h3, h4⟩ := g
  refine ⟨_, _, _, c_status σ, ?_, fr_m0 σ⟩
  rw [← h4]
  exact c_mstatus σ
theorem t_trace (x : Int32) (σ : Mem) (g : GA σ) : Pair yX5_trace cX5_trace 2 1 [.ref 0, .int x] yX6_trace cX6_trace 2 1 [.ref 52, .int x] σ (frAll σ) := by
  obtain ⟨tr, ht, h1, h2, h3, h4⟩ := g
  refine ⟨_, _, _, c_trace tr x σ h1 ht, ?_, fr_m0 σ⟩
  rw [← h3]
  exact c_mtrace tr x σ h2 ht
/-- all but the trace and the status -/
def frNA (σ τ : Mem) : Prop := frS σ τ ∧ frT σ τ ∧ frL σ τ ∧ frW σ τ
theorem t_as (x k : Int32) (σ : Mem) (g : GT σ) (ga : GA σ) : Pair yX5_as cX5_as 3 5 [.ref 0, .int x, .int k] yX6_as cX6_as 4 2 [.ref 52, .int x, .int k] σ (fun τ => frNA σ τ ∧ GA τ) := by
  obtain ⟨n, hn10, h1, h2, h3, h4, h5, h6, h7, h8, -⟩ := g
  obtain ⟨tr, ht, a1, a2, a3, a4⟩ := ga
  have b : ∀ {q : Nat}, q ≠ 0 → mu σ 0 5 (asS n (σ 17) (σ 18) (σ 19) (σ 2 6) x k (σ 0 5)) q = σ q := fun h => mu_q h
  have e := c_mas n x k (mu σ 0 5 (asS n (σ 17) (σ 18) (σ 19) (σ 2 6) x k (σ 0 5))) (by rw [b (by decide)]; exact h2) hn10
  rw [b (by decide), b (by decide), b (by decide), b (by decide), h3, h4, h5, h6, a4] at e
  refine ⟨_, _, _, c_as n x k σ h1 hn10, e, ⟨⟨fun q h => ?_, ⟨fun q h => ?_, fun j h => ?_⟩, ⟨fun q h => ?_, fun j h => ?_⟩, ⟨fun q h => ?_, fun j h => ?_⟩⟩, tr, ht, ?_, ?_, ?_, ?_⟩⟩
  · simp (disch := omega) only [mu_q, m0_q]
  · simp (disch := omega) only [mu_q, m0_q]
  · rw [mu_ni (by omega), m0_c (by omega), b (by decide)]
  · simp (disch := omega) only [mu_q, m0_q]
  · rw [mu_ni (by omega), m0_c (by omega), b (by decide)]
  · simp (disch := omega) only [mu_q, m0_q]
  · rw [mu_ni (by omega), m0_c (by omega), b (by decide)]
  · simp (disch := omega) only [mu_q, m0_q]; exact a1
  · rw [mu_ni (by omega), m0_c (by omega), b (by decide)]; exact a2
  · simp (disch := omega) only [mu_q, m0_q]; exact a3
  · rw [mu_at, mu_q (by decide), m0_q (by decide), mu_at]
theorem askT_le {n : Nat} {c th pr : Nat → Int32} {bo : Int32} {g : (Nat → Int32) × Nat} {x w : Int32} (h : g.2 ≤ 16) : (askT n c th pr bo g x w).2 ≤ 16 := by
  have w1 : ∀ kd h, (wTr kd h).2 ≤ 16 := fun kd h => by
    unfold wTr
    split
    · exact bgF_le (bgF_le (bgF_le (bgF_le (bgF_le (Nat.zero_le _)))))
    · split
      · exact bgF_le (bgF_le (Nat.zero_le _))
      · exact bgF_le (bgF_le (Nat.zero_le _))
  have w2 : ∀ kd h, (mTr kd h).2 ≤ 16 := fun kd h => by
    unfold mTr
    split
    · exact bgF_le (bgF_le (Nat.zero_le _))
    · split
      · exact bgF_le (bgF_le (bgF_le (bgF_le (Nat.zero_le _))))
      · exact bgF_le (Nat.zero_le _)
  unfold askT
  split
  · split
    · exact w1 _ _
    · split
      · exact w2 _ _
      · exact h
  · exact h
theorem t_ask (x w : Int32) (σ : Mem) (g : GT σ) (ga : GA σ) : Pair yX5_ask cX5_ask 3 6 [.ref 0, .int x, .int w] yX6_ask cX6_ask 3 4 [.ref 52, .int x, .int w] σ (fun τ => frNA σ τ ∧ GA τ) := by
  obtain ⟨n, hn10, h1, h2, h3, h4, h5, h6, h7, h8, hs⟩ := g
  obtain ⟨tr, ht, a1, a2, a3, a4⟩ := ga
  have ep : (fun s => bcF (σ 18 s)) = fun s => nI (popn (σ 18 s) 12) := by
    funext s
    obtain ⟨m, hm, e⟩ := hs.2.1 s
    rw [e]
    exact bcF_pop m hm
  have b : ∀ {q : Nat}, q ≠ 5 → q ≠ 51 → tcM σ (askT n (σ 17) (σ 18) (σ 19) (σ 2 6) (σ 51, tr) x w) q = σ q := fun h h2 => tcM_r h h2
  have e := c_mask n tr x w (tcM σ (askT n (σ 17) (σ 18) (σ 19) (σ 2 6) (σ 51, tr) x w)) (by rw [b (by decide) (by decide)]; exact h2) hn10 (by rw [b (by decide) (by decide)]; exact a2)
  have le := askT_le (n := n) (c := σ 17) (th := σ 18) (pr := σ 19) (bo := σ 2 6) (g := (σ 51, tr)) (x := x) (w := w) ht
  rw [b (by decide) (by decide), b (by decide) (by decide), b (by decide) (by decide), b (by decide) (by decide), b (by decide) (by decide), h3, h4, h5, h6, a3, ← ep] at e
  refine ⟨_, _, _, c_ask n tr x w σ h1 hn10 a1, e, ?_⟩
  generalize askT n (σ 17) (σ 18) (σ 19) (σ 2 6) (σ 51, tr) x w = g at b le ⊢
  refine ⟨⟨fun q h => ?_, ⟨fun q h => ?_, fun j h => ?_⟩, ⟨fun q h => ?_, fun j h => ?_⟩, ⟨fun q h => ?_, fun j h => ?_⟩⟩, g.2, le, ?_, ?_, ?_, ?_⟩
  · rw [tmM_r (by omega) (by omega), m0_r (by omega), b (by omega) (by omega)]
  · rw [tmM_r (by omega) (by omega), m0_r (by omega), b (by omega) (by omega)]
  · rw [tmM_c (by omega), m0_c (by omega), b (by decide) (by decide)]
  · rw [tmM_r (by omega) (by omega), m0_r (by omega), b (by omega) (by omega)]
  · rw [tmM_c (by omega), m0_c (by omega), b (by decide) (by decide)]
  · rw [tmM_r (by omega) (by omega), m0_r (by omega), b (by omega) (by omega)]
  · rw [tmM_c (by omega), m0_c (by omega), b (by decide) (by decide)]
  · rw [tmM_r (by decide) (by decide), m0_r (by decide)]; exact mu_at
  · exact mu_at
  · unfold tmM tcM
    simp (disch := decide) only [mu_q, mf_s, mf_q, m0_q]
  · rw [tmM_c (by decide), m0_c (by decide), b (by decide) (by decide), tmM_r (by decide) (by decide), m0_r (by decide), b (by decide) (by decide)]
    exact a4

