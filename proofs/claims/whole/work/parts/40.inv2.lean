/-! ===== SHEETS, both: the same answers ===== -/
def frNS (σ τ : Mem) : Prop := frT σ τ ∧ frL σ τ ∧ frW σ τ
theorem frNS.tr {σ τ ρ : Mem} (h : frNS σ τ) (h2 : frNS τ ρ) : frNS σ ρ :=
  ⟨⟨fun q z => (h2.1.1 q z).trans (h.1.1 q z), fun j z => (h2.1.2 j z).trans (h.1.2 j z)⟩, ⟨fun q z => (h2.2.1.1 q z).trans (h.2.1.1 q z), fun j z => (h2.2.1.2 j z).trans (h.2.1.2 j z)⟩, ⟨fun q z => (h2.2.2.1 q z).trans (h.2.2.1 q z), fun j z => (h2.2.2.2 j z).trans (h.2.2.2 j z)⟩⟩
theorem frNS.of {σ τ : Mem} (h : frAll σ τ) : frNS σ τ := ⟨h.2.1, h.2.2.1, h.2.2.2.1⟩
/-- both statuses set to k -/
def stM (σ : Mem) (k : Int32) : Mem := mu (m1 (mu σ 0 5 k)) 52 1 k
theorem stM_q {σ : Mem} {k : Int32} {q : Nat} (h : q ≠ 0) (h2 : q ≠ 52) : stM σ k q = σ q := by unfold stM; rw [mu_q h2, m1_q h2, mu_q h]
theorem stM_c {σ : Mem} {k : Int32} {j : Nat} (h : j ≠ 0) (h2 : j ≠ 1) : stM σ k 52 j = σ 52 j := by unfold stM; rw [mu_ni h2, m1_c h h2, mu_q (by decide)]
theorem stM_A {σ : Mem} {k : Int32} (g : GA σ) : GA (stM σ k) := by
  obtain ⟨tr, ht, a1, a2, a3, a4⟩ := g
  refine ⟨tr, ht, by rw [stM_q (by decide) (by decide)]; exact a1, by rw [stM_c (by decide) (by decide)]; exact a2, by rw [stM_q (by decide) (by decide), stM_q (by decide) (by decide)]; exact a3, ?_⟩
  unfold stM
  rw [mu_at, mu_q (by decide), m1_q (by decide), mu_at]
theorem stM_S {σ : Mem} {k : Int32} : frS σ (stM σ k) := fun q h => stM_q (by omega) (by omega)
theorem stM_N {σ : Mem} {k : Int32} : frNS σ (stM σ k) := ⟨⟨fun q h => stM_q (by omega) (by omega), fun j h => stM_c (by omega) (by omega)⟩, ⟨fun q h => stM_q (by omega) (by omega), fun j h => stM_c (by omega) (by omega)⟩, ⟨fun q h => stM_q (by omega) (by omega), fun j h => stM_c (by omega) (by omega)⟩⟩
/-- rows and cells that only SHEETS may change -/
def onS (σ τ : Mem) : Prop := ∀ q, ¬ ((7 ≤ q ∧ q ≤ 16) ∨ (53 ≤ q ∧ q ≤ 55)) → τ q = σ q
theorem onS.N {σ τ : Mem} (h : onS σ τ) : frNS σ τ := ⟨⟨fun q z => h q (by omega), fun j _ => by rw [h 52 (by omega)]⟩, ⟨fun q z => h q (by omega), fun j _ => by rw [h 52 (by omega)]⟩, ⟨fun q z => h q (by omega), fun j _ => by rw [h 52 (by omega)]⟩⟩
theorem onS.A {σ τ : Mem} (h : onS σ τ) : frA σ τ := ⟨fun q z => h q (by omega), fun j _ => by rw [h 52 (by omega)]⟩
abbrev PS (yc : MethodName) (cc : ByteArray) (mxc dc : Nat) (ac : List Value) (ym : MethodName) (cm : ByteArray) (mxm dm : Nat) (am : List Value) (σ : Mem) : Prop := Pair yc cc mxc dc ac ym cm mxm dm am σ (fun τ => GS τ ∧ GA τ ∧ frNS σ τ)
theorem kS_m0 {σ : Mem} (g : GS σ) (ga : GA σ) : GS (m0 σ) ∧ GA (m0 σ) ∧ frNS σ (m0 σ) := ⟨g.fr (fr_m0 σ).1, ga.fr (fr_m0 σ).2.2.2.2, frNS.of (fr_m0 σ)⟩
theorem kS_st {σ : Mem} {k : Int32} (g : GS σ) (ga : GA σ) : GS (stM σ k) ∧ GA (stM σ k) ∧ frNS σ (stM σ k) := ⟨g.fr stM_S, stM_A ga, stM_N⟩
theorem st_m1 (σ : Mem) : m1 (mu σ 0 5 (nI 0)) = stM σ (nI 0) := by
  unfold stM
  conv => rhs; unfold m1
  rw [mu_mu]
  rfl
/-- a step on SHEETS behind the status 0 -/
theorem kS_on {σ τ : Mem} (ga : GA σ) (h : onS (stM σ (nI 0)) τ) (g : GS τ) : GS τ ∧ GA τ ∧ frNS σ τ := ⟨g, (stM_A ga).fr h.A, stM_N.tr h.N⟩
theorem nI_ne1 {m : Nat} (h : m < 2 ^ 31) : ¬ nI m = (-1) := fun q => by
  have := congrArg Int32.toInt q
  rw [nI_toInt h, show (-1 : Int32).toInt = -1 by decide] at this
  omega
set_option maxRecDepth 100000 in
set_option maxHeartbeats 4000000 in
theorem t_sheet (x l m : Int32) (σ : Mem) (g : GS σ) (ga : GA σ) : PS yX5_sheet cX5_sheet 4 1 [.ref 0, .int x, .int l, .int m] yX6_sheet cX6_sheet 5 2 [.ref 52, .int x, .int l, .int m] σ := by
  refine ⟨_, _, _, c_sheet x l m σ, c_msheet x l m _, ?_⟩
  unfold sheetM msheetM
  cases ho : shOK x l m with
  | false =>
    rw [if_neg Bool.false_ne_true, if_neg Bool.false_ne_true]
    exact kS_m0 g ga
  | true =>
    rw [if_pos rfl, if_pos rfl]
    have h1 : (inr x 8 = true ∧ inr l 3 = true) ∧ m ≤ nI 60 := by
      unfold shOK at ho
      rw [Bool.and_eq_true, Bool.and_eq_true, decide_eq_true_iff] at ho
      exact ho
    by_cases hm : m < 0
    · rw [if_pos hm, if_pos hm]
      exact kS_st g ga
    · rw [if_neg hm, if_neg hm]
      obtain ⟨s, hs, rfl⟩ := inr_of h1.1.1 (by decide)
      obtain ⟨l', hl, rfl⟩ := inr_of h1.1.2 (by decide)
      obtain ⟨m', hm', rfl⟩ := nI_of60 hm h1.2
      rw [tn_nI (by omega), tn_nI (by omega)]
      unfold layM layM2
      refine kS_on ga (fun q hq => ?_) (fun s' hs' => ?_)
      · simp (disch := omega) only [mu_q, mf_q]
        by_cases h52 : q = 52
        · subst h52
          unfold stM m1 m0
          simp (disch := omega) only [mu_s, mu_q, mf_q]
          funext j
          simp only [upd]
          split <;> rfl
        · rw [m1_q h52]
          simp (disch := omega) only [mu_q, mf_q]
          unfold stM
          rw [mu_q h52, m1_q h52]
      · simp (disch := omega) only [mu_q, mf_q, mu_s, mf_s, m1_q]
        by_cases e : s' = s
        · subst e
          refine Or.inr ⟨l', m', hl, hm', upd_s, upd_s, upd_s, upd_s, fun i hi => ?_⟩
          rw [show clr2 (σ 55) s' 60 (60 * s' + i) = nI 0 from if_pos (by omega)]
          simp (disch := omega) only [mu_q, mf_s]
          exact if_pos hi
        · rw [upd_n e, upd_n e, upd_n e, upd_n e]
          rcases g s' hs' with ⟨q1, q2, q3⟩ | ⟨l2, m2, z1, z2, z3, z4, z5, z6, z7⟩
          · exact Or.inl ⟨q1, q2, q3⟩
          · refine Or.inr ⟨l2, m2, z1, z2, z3, z4, z5, z6, fun i hi => ?_⟩
            rw [show clr2 (σ 55) s 60 (60 * s' + i) = σ 55 (60 * s' + i) from if_neg (by omega)]
            simp (disch := omega) only [mu_q, mf_q]
            exact z7 i hi

