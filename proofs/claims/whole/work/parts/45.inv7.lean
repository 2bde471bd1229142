/-! ===== demands of a sheet's row, both ===== -/
theorem onT.m1c {σ τ : Mem} (h : onT σ τ) : onT (m1 σ) (m1 τ) := by
  refine ⟨fun q z z2 => by rw [m1_q z2, m1_q z2]; exact h.1 q z z2, fun j z => ?_⟩
  by_cases h1 : j = 1
  · subst h1; unfold m1; rw [mu_at, mu_at]
  · rw [m1_c (by omega) h1, m1_c (by omega) h1]; exact h.2 j z
theorem t_demands (x i m : Int32) (σ : Mem) (gs : GS σ) (g : GT σ) (ga : GA σ) : Pair yX5_demands cX5_demands 4 7 [.ref 0, .int x, .int i, .int m] yX6_demands cX6_demands 7 3 [.ref 52, .int x, .int i, .int m] σ (fun τ => GS τ ∧ GT τ ∧ GA τ ∧ frL σ τ ∧ frW σ τ) := by
  obtain ⟨n, g⟩ := g
  have e1 := c_demands n x i m σ g.2.1 g.1 gs.sz
  cases ho : dsOK x m with
  | false =>
    have e2 := c_mdemands n x i m σ g.2.2.1 g.1 gs.mz
    rw [demandsV, demandsM, ho, if_neg Bool.false_ne_true, if_neg Bool.false_ne_true] at e1
    rw [mdemandsV, mdemandsM, ho, if_neg Bool.false_ne_true, if_neg Bool.false_ne_true] at e2
    exact ⟨_, _, _, e1, e2, gs.fr (fr_m0 σ).1, ⟨n, g.fr (fr_m0 σ).2.1⟩, ga.fr (fr_m0 σ).2.2.2.2, (fr_m0 σ).2.2.1, (fr_m0 σ).2.2.2.1⟩
  | true =>
    have h1 : inr x 8 = true ∧ inr2 m 1 60 = true := by
      unfold dsOK at ho
      rw [Bool.and_eq_true] at ho
      exact ho
    obtain ⟨s, hs, rfl⟩ := inr_of h1.1 (by decide)
    obtain ⟨m', hm1, hm60, rfl⟩ := inr2_of h1.2 (by decide)
    have ts : tn (nI s) = s := tn_nI (by omega)
    have tm : tn (nI m') = m' := tn_nI (by omega)
    rw [demandsV, demandsM, ho, if_pos rfl, if_pos rfl, ts] at e1
    have bad : ∀ k : Nat, k ≠ 0 → k < 6 → fiF (σ 16 s) i (nI m') = nI k → mfi σ (nI s) i (nI m') = nI k → Pair yX5_demands cX5_demands 4 7 [.ref 0, .int (nI s), .int i, .int (nI m')] yX6_demands cX6_demands 7 3 [.ref 52, .int (nI s), .int i, .int (nI m')] σ (fun τ => GS τ ∧ GT τ ∧ GA τ ∧ frL σ τ ∧ frW σ τ) := by
      intro k k0 k6 ek ek2
      rw [ek, if_neg (nI_ne0 (by omega) (by omega)), if_neg (nI_ne0 (by omega) (by omega))] at e1
      have e2 := c_mdemands n (nI s) i (nI m') (mu σ 0 5 (nI k)) (by rw [mu_q (by decide)]; exact g.2.2.1) g.1 (gs.fr (fun q h => mu_q (by omega))).mz
      have ek3 : mfi (mu σ 0 5 (nI k)) (nI s) i (nI m') = nI k := by
        rw [← ek2]
        unfold mfi
        rw [mu_q (by decide), mu_q (by decide)]
      rw [mdemandsV, mdemandsM, ho, if_pos rfl, if_pos rfl, ek3, if_neg (nI_ne0 (by omega) (by omega)), if_neg (nI_ne0 (by omega) (by omega))] at e2
      exact ⟨_, _, _, e1, e2, gs.fr stM_S, ⟨n, g.fr stM_N.1⟩, stM_A ga, stM_N.2.1, stM_N.2.2⟩
    rcases gs s hs with ⟨q1, q2, q3⟩ | ⟨l, z, z1, z2, z3, z4, z5, z6, z7⟩
    · exact bad 1 (by decide) (by decide) (by rw [fiF, if_pos q1]) (by rw [mfi, ts, if_pos q2])
    · have n1 : ¬ σ 16 s = (-1) := by rw [z5]; exact nI_ne1 (by omega)
      have n2 : ¬ σ 53 s = (-1) := by rw [z4]; exact nI_ne1 (by omega)
      by_cases er : rowM (nI z) i (nI m') = true
      · rw [fiF, if_neg n1, z5, rowF_eq z2, if_pos er, if_pos nI_0, if_pos nI_0, tm] at e1
        obtain ⟨i', n', rfl, en, hl1⟩ := rowM_of z2 er
        obtain rfl : m' = n' := nI_ij (by omega) (by omega) en
        have ti : tn (nI i') = i' := tn_nI (by omega)
        rw [ti] at e1
        have o1 := onT.df (σ := mu σ 0 5 (nI 0)) (n := n) (it := fun k => σ (7 + s) (i' + k)) m'
        have b52 : ∀ {q : Nat}, q = 52 ∨ (56 ≤ q ∧ q ≤ 58) → dfM (mu σ 0 5 (nI 0)) n (fun k => σ (7 + s) (i' + k)) m' q = σ q := fun h => by rw [df_52 h, mu_q (by omega)]
        have b53 : ∀ {q : Nat}, 53 ≤ q ∧ q ≤ 55 → dfM (mu σ 0 5 (nI 0)) n (fun k => σ (7 + s) (i' + k)) m' q = σ q := fun h => by rw [o1.1 _ (by omega) (by omega), mu_q (by omega)]
        generalize hσ1 : dfM (mu σ 0 5 (nI 0)) n (fun k => σ (7 + s) (i' + k)) m' = σ1 at e1 o1 b52 b53
        have e2 := c_mdemands n (nI s) (nI i') (nI m') σ1 (by rw [b52 (Or.inl rfl)]; exact g.2.2.1) g.1 (by
          have h := gs.mz
          intro s' hs'
          rw [b53 (by omega), b53 (by omega)]
          exact h s' hs')
        have c2 : mfi σ1 (nI s) (nI i') (nI m') = nI 0 := by
          unfold mfi
          rw [b53 (by omega), b53 (by omega), ts, if_neg n2, z6, if_pos er]
        rw [mdemandsV, mdemandsM, ho, if_pos rfl, if_pos rfl, c2, if_pos nI_0, if_pos nI_0, ts, ti, tm, b53 (by omega)] at e2
        have g2 : GT2 (mu σ 0 5 (nI 0)) (m1 σ1) n := GT2.fr (σ := σ) (τ := σ) (fun q h => mu_q (by omega)) (fun q h => by rw [m1_q (by omega), b52 (Or.inr h)]) (fun j h => by rw [m1_c (by omega) (by omega), b52 (Or.inl rfl)]) g
        obtain ⟨ev, g3⟩ := dem_run (it := fun k => σ (7 + s) (i' + k)) (it2 := fun k => σ 55 (60 * s + i' + k)) m' (fun k hk => by
          show σ 55 (60 * s + i' + k) = σ (7 + s) (i' + k)
          rw [z7 (i' + k) (by omega), Nat.add_assoc]) g2
        rw [ev] at e2
        rw [hσ1] at g3
        have o2 : onT (stM σ (nI 0)) (mdfM (m1 σ1) n (fun k => σ 55 (60 * s + i' + k)) m') := by
          rw [← st_m1]
          exact (onT.m1c o1).tr (onT.mdf m')
        refine ⟨_, _, _, e1, e2, (gs.fr stM_S).fr o2.S, ⟨n, ?_⟩, (stM_A ga).fr o2.A, ?_, ?_⟩
        · exact GT2.fr (fun q h => by rw [mdf_2 h, m1_q (by omega)]) (fun q _ => rfl) (fun j _ => rfl) g3
        · exact ⟨fun q h => (o2.L.1 q h).trans (stM_N.2.1.1 q h), fun j h => (o2.L.2 j h).trans (stM_N.2.1.2 j h)⟩
        · exact ⟨fun q h => (o2.W.1 q h).trans (stM_N.2.2.1 q h), fun j h => (o2.W.2 j h).trans (stM_N.2.2.2 j h)⟩
      · exact bad 2 (by decide) (by decide) (by rw [fiF, if_neg n1, z5, rowF_eq z2, if_neg er]) (by rw [mfi, ts, if_neg n2, z6, if_neg er])

