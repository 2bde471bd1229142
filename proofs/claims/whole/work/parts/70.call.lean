/-! ===== SITES, both: call ===== -/
theorem or0 {x : Int32} : (0 : Int32) ||| x = x := b_ext (fun i _ => by rw [b_or, b_0, Bool.false_or])
theorem bt_sh1 {a z : Nat} (ha : a < 32) : bt (sh1 a) z = true ↔ z = a := by
  unfold sh1
  rw [bt_sh ha, decide_eq_true_iff]
theorem t_call (x : Int32) (σ : Mem) (g : GW σ) : PW yX5_call cX5_call 2 4 [.ref 0, .int x] yX6_call cX6_call 7 2 [.ref 52, .int x] σ := by
  obtain ⟨n, l, ⟨g1, g1a, g1b⟩, ⟨l1, l2, l3⟩, g3, g4, ⟨g5a, g5b, g5c⟩, g6, g7, ⟨B, b1, b2⟩, g9a, g9b, g9c, g9d⟩ := id g
  have k1 := c_call n x σ g1a g1
  have hli : ∀ a b, 0 < l a b → a ≠ b := fun a b h => (l3 a b h).2.2
  have hll : ∀ a b, a < n → b < n → ln σ a b = nI (l a b) := fun a b ha hb => by
    rw [ln_at (by omega)]
    exact (g3 a b (by omega) (by omega)).1
  cases hx : inr x n with
  | false =>
    rw [ccallV, ccallM, hx, if_neg Bool.false_ne_true, if_neg Bool.false_ne_true] at k1
    exact ⟨_, _, _, k1, c_mcallBad n x σ g1b g1 hx, PW.of (GW.fr (fr_m0 σ).2.2.2.1 g) (onW.m0 σ)⟩
  | true =>
    obtain ⟨a, ha, rfl⟩ := inr_of hx (by omega)
    have ta : tn (nI a) = a := tn_nI (by omega)
    rw [ccallV, ccallM, hx, if_pos rfl, if_pos rfl, ta] at k1
    cases hj : bt (σ 4 8) a with
    | true =>
      rw [hj, if_pos rfl, if_pos rfl] at k1
      exact ⟨_, _, _, k1, c_mcallS n a σ g1b g1 ha (by rw [g5a]; exact hj), PW.of (GW.fr (fr_m0 σ).2.2.2.1 g) (onW.m0 σ)⟩
    | false =>
      rw [hj, if_neg Bool.false_ne_true, if_neg Bool.false_ne_true] at k1
      have s52 : joinM σ n a 52 = σ 52 := joinM_r (by decide) (by decide) (by decide)
      have s65 : joinM σ n a 65 = σ 65 := joinM_r (by decide) (by decide) (by decide)
      have s66 : joinM σ n a 66 = σ 66 := joinM_r (by decide) (by decide) (by decide)
      have hwy : ∀ c d, c < n → d < n → wy (joinM σ n a) c d = nI (l c d) := fun c d hc hd => by
        show joinM σ n a 65 (10 * c + d) = _
        rw [s65]
        exact (g3 c d (by omega) (by omega)).2
      by_cases h0 : σ 4 8 = 0
      · -- the first one
        have hon := g9c h0
        obtain ⟨R, p, q, -, -, hB, -⟩ := looked (σ := mu σ 52 25 (sh1 a)) (l := l) g1 l1 hli (fun c d hc hd => by
          show mu σ 52 25 (sh1 a) 65 (10 * c + d) = _
          rw [mu_q (by decide)]
          exact (g3 c d (by omega) (by omega)).2)
        rw [mu_at] at hB
        have ej : j1M σ a = mu (mu σ 4 7 (nI a)) 4 9 (sh1 a) := if_pos h0
        have ln1 : ln (j1M σ a) = ln σ := by rw [ej, ln_mu (by omega), ln_mu (by omega)]
        have hW := wt_at (σ := j1M σ a) (l := l) (n := n) (p := p) (q := q) (by rw [ej, mu_at]; exact hB) l1 (by rw [ln1]; exact hll) a ha
        obtain ⟨p0, q0⟩ := hB.1 a ha ((bt_sh1 (by omega)).mpr rfl)
        have eW : wtF (j1M σ a) n a = nI 0 := by
          rw [hW]
          congr 1
          unfold dW
          rw [p0, q0]
          rfl
        have hlt : wtF (j1M σ a) n a < nI 1000000 := by rw [eW]; exact (nI_ltI (by decide) (by decide)).mpr (by decide)
        obtain ⟨-, st2, st3⟩ := br_stop (σ := j2M σ n a) (w := wtF (j1M σ a) n) (l := ln σ) (n := n) (s := a) (k := 0) (by
          show ¬ 0 < wtF (j1M σ a) n a
          rw [eW, nI_0]
          decide) n
        rw [Nat.zero_add] at st2 st3
        have eV : joinV σ n a = nI 0 := by rw [joinV, if_pos hlt, st2]; rfl
        have e3 : j3M σ n a = mf (mu (mu σ 4 7 (nI a)) 4 9 (sh1 a)) 38 (wtF (j1M σ a) n) := by
          unfold j3M
          rw [st3]
          show j2M σ n a = _
          unfold j2M
          rw [ej]
        have eM : joinM σ n a = mu (mu (mf (mu (mu σ 4 7 (nI a)) 4 9 (sh1 a)) 38 (wtF (j1M σ a) n)) 4 8 (sh1 a)) 4 11 (σ 4 11) := by
          rw [joinM, if_pos hlt, st2, e3, h0, or0]
          show mu _ 4 11 (σ 4 11 + nI 0) = _
          rw [add0]
        rw [eV] at k1
        have k2 := c_mcall1 n a (joinM σ n a) (by rw [s52]; exact g1b) g1 ha (by rw [s52, g5a]; exact h0)
        refine ⟨_, _, _, k1, k2, ?_⟩
        rw [eM]
        unfold mfirstM
        refine PW.of ⟨n, l, ?_, ⟨l1, l2, l3⟩, fun c d hc hd => ?_, ?_, ?_, ?_, ?_, ⟨B, ?_, ?_⟩, ?_⟩ ⟨fun q h h2 => ?_, fun j h => ?_⟩
        · simp (disch := omega) only [m0, mu_q, mu_s, mf_q, upd_n]
          exact ⟨g1, g1a, g1b⟩
        · simp (disch := omega) only [m0, mu_q, mf_q]
          exact g3 c d hc hd
        · simp (disch := omega) only [m0, mu_q, mu_s, mf_q, upd_n]
          exact g4
        · simp (disch := omega) only [m0, mu_q, mu_s, mf_q, upd_n, upd_s]
          rw [g5b, hon, or0]
          refine ⟨?_, ?_, g5c⟩ <;> first | rfl | trivial
        · simp (disch := omega) only [m0, mu_q, mf_q]
          exact g6
        · simp (disch := omega) only [m0, mu_q, mf_q]
          intro c d hc hd hp
          have := (g7 c d hc hd hp).1
          rw [hon, b_0] at this
          exact absurd this (by decide)
        · simp (disch := omega) only [m0, mu_q, mu_s, mf_q, upd_n]
          exact b1
        · simp (disch := omega) only [m0, mu_q, mf_q]
          exact b2
        · simp (disch := omega) only [m0, mu_q, mu_s, mf_q, upd_n, upd_s]
          refine ⟨fun i hi => hi, fun i hi => by rw [(bt_sh1 (by omega)).mp hi]; exact ha, fun z => ?_, fun _ => ⟨a, rfl, (bt_sh1 (by omega)).mpr rfl⟩⟩
          have : bt (sh1 a) a = true := (bt_sh1 (by omega)).mpr rfl
          rw [z, b_0] at this
          exact absurd this (by decide)
        · simp (disch := omega) only [m0, mu_q, mf_q]
        · simp (disch := omega) only [m0, mu_q, mu_s, mf_q, upd_n]
      · have ej : j1M σ a = σ := if_neg h0
        have hw0 : wy (m0 (joinM σ n a)) = wy (joinM σ n a) := by
          funext c d
          show m0 (joinM σ n a) 65 _ = joinM σ n a 65 _
          rw [m0_r (by decide)]
        have hon1 : m0 (joinM σ n a) 52 25 = σ 4 9 := by rw [m0_c (by decide), s52, g5b]
        obtain ⟨R, p, q, u1, u2, hB, hZ⟩ := looked (σ := m0 (joinM σ n a)) (l := l) g1 l1 hli (by rw [hw0]; exact hwy)
        rw [hon1] at hB
        have hW := wt_at (σ := σ) hB l1 hll
        have hjm : bt (joinM σ n a 52 24) a = false := by rw [s52, g5a]; exact hj
        have hjm0 : ¬ joinM σ n a 52 24 = 0 := by rw [s52, g5a]; exact h0
        by_cases hp : p a < 100000
        · have ea : dW p q a = 16 * p a + q a := if_pos hp
          have a2 := (hB.2.1 a ha).2 hp
          have hlt : wtF (j1M σ a) n a < nI 1000000 := by
            rw [ej, hW a ha]
            exact (nI_ltI (by omega) (by decide)).mpr (by omega)
          have rs := row_spec (ll := ln σ) (w := wy (joinM σ n a)) (f := (cRF (m0 (joinM σ n a)) n R).1) (s := (cRF (m0 (joinM σ n a)) n R).2.1) hB l1 hll hwy hW hZ ha hp
          generalize hpb : brA (wtF σ n) (ln σ) n a = pb at rs
          obtain ⟨eK1, eK2, eK3, eK4, eK5, -⟩ := rs (q a) (Nat.le_refl _)
          have onK : bt (σ 4 9) (pb (q a)) = true := by
            cases ho : bt (σ 4 9) (pb (q a)) with
            | true => rfl
            | false =>
              obtain ⟨c, -, -, -, -, c5⟩ := hB.2.2.2 _ eK1 ho eK2
              omega
          obtain ⟨pK, qK⟩ := hB.1 _ eK1 onK
          have WK : wtF σ n (pb (q a)) = nI 0 := by
            rw [hW _ eK1]
            congr 1
            unfold dW
            rw [pK, qK]
            rfl
          obtain ⟨st1, st2, st3⟩ := br_stop (σ := j2M σ n a) (w := wtF σ n) (l := ln σ) (n := n) (s := a) (k := q a) (by
            rw [hpb, WK, nI_0]
            decide) (n - q a)
          rw [show q a + (n - q a) = n by omega] at st2 st3
          have eC : brC (wtF σ n) (ln σ) n a n = nI (p a) := by
            rw [st2, eK4, pK, Nat.sub_zero]
          have eV : joinV σ n a = nI (p a) := by
            rw [joinV, if_pos hlt, ej, eC]
          have e3 : j3M σ n a = brM (j2M σ n a) (wtF σ n) (ln σ) n a (q a) := by
            unfold j3M
            rw [ej, st3]
          have eM : joinM σ n a = mu (mu (brM (j2M σ n a) (wtF σ n) (ln σ) n a (q a)) 4 8 (σ 4 8 ||| sh1 a)) 4 11 (σ 4 11 + nI (p a)) := by
            rw [joinM, if_pos hlt, ej, eC, e3]
          have fa : (cRF (m0 (joinM σ n a)) n R).1 a = nI (p a) := by rw [(hZ a ha).1, fI_f hp]
          have hinj : ∀ i j, i ≤ q a → j ≤ q a → pb i = pb j → i = j := fun i j hi hj2 e => by
            have h1 := (rs i hi).2.2.1
            have h2 := (rs j hj2).2.2.1
            rw [e] at h1
            omega
          have cM25 : c1M (m0 (joinM σ n a)) n R a 52 25 = σ 4 9 := by
            unfold c1M
            rw [mu_ni (by decide), m2_r (by decide) (by decide), hon1]
          have cM66 : c1M (m0 (joinM σ n a)) n R a 66 = σ 66 := by
            unfold c1M
            rw [mu_q (by decide), m2_r (by decide) (by decide), m0_r (by decide), s66]
          have rm := row_mem (pb := pb) (C := fun k => brM (j2M σ n a) (wtF σ n) (ln σ) n a k) (M := fun k => pmF pb (c1M (m0 (joinM σ n a)) n R a) k) (on := σ 4 9) (K := q a) (B := B) (fun k hk => by
            obtain ⟨-, -, -, -, -, h⟩ := rs k (by omega)
            obtain ⟨-, h2, h3, -⟩ := h hk
            show brM (j2M σ n a) (wtF σ n) (ln σ) n a (k + 1) = bwM (brM (j2M σ n a) (wtF σ n) (ln σ) n a k) (pb k) (pb (k + 1))
            rw [brM, hpb, if_pos h2, h3]) (fun k hk => rfl) (fun k hk => by have := (rs k hk).1; omega) hinj (fun k hk => ((rs k (by omega)).2.2.2.2.2 hk).1) ⟨fun c d hc hd => by
              show bt (j2M σ n a 37 c) d = true ↔ ¬ c1M (m0 (joinM σ n a)) n R a 66 (10 * c + d) = 0
              unfold j2M
              rw [ej, mf_q (by decide), cM66]
              exact g6 c d hc hd, fun c d hc hd h => by
              have h : ¬ c1M (m0 (joinM σ n a)) n R a 66 (10 * c + d) = 0 := h
              rw [cM66] at h
              exact Or.inl (g7 c d hc hd h), ⟨by
              show j2M σ n a 4 10 = _
              unfold j2M
              rw [ej, mf_q (by decide)]
              exact b1, by
              show cntZ (c1M (m0 (joinM σ n a)) n R a 66) 100 = _
              rw [cM66]
              exact b2⟩, fun z => by
              show bt (j2M σ n a 4 9) z = true ↔ _
              unfold j2M
              rw [ej, mf_q (by decide)]
              exact ⟨Or.inl, fun h => h.elim id (fun ⟨j, h, _⟩ => absurd h (Nat.not_lt_zero j))⟩, fun z => by
              show bt (c1M (m0 (joinM σ n a)) n R a 52 25) z = true ↔ _
              rw [cM25]
              exact ⟨Or.inl, fun h => h.elim id (fun ⟨j, h, _⟩ => absurd h (Nat.not_lt_zero j))⟩⟩
          have k2 := c_mcallG n a R (q a) pb (joinM σ n a) (by rw [s52]; exact g1b) g1 ha hjm hjm0 u1 u2 (by rw [fa]; exact nI_m6 (by omega)) (by rw [← hpb]; rfl) (fun k hk => (rs k hk).1) (fun k hk => by
            obtain ⟨-, -, -, -, -, h⟩ := rs k (by omega)
            obtain ⟨h1, -, -, h4⟩ := h hk
            refine ⟨bnt (fun z => ?_), h4⟩
            rcases ((rm k (by omega)).2.2.2.2 (pb k)).mp z with z | ⟨j, hj2, z⟩
            · rw [h1] at z; exact absurd z (by decide)
            · have := hinj k j (by omega) (by omega) z
              omega) (((rm (q a) (Nat.le_refl _)).2.2.2.2 (pb (q a))).mpr (Or.inl onK))
          rw [fa] at k2
          rw [eV] at k1
          obtain ⟨m1', m2', ⟨m3, m3'⟩, m4, m5⟩ := rm (q a) (Nat.le_refl _)
          have m1 : ∀ x y, x < 10 → y < 10 → (bt (brM (j2M σ n a) (wtF σ n) (ln σ) n a (q a) 37 x) y = true ↔ ¬ pmF pb (c1M (m0 (joinM σ n a)) n R a) (q a) 66 (10 * x + y) = 0) := m1'
          have m2 : ∀ x y, x < 10 → y < 10 → ¬ pmF pb (c1M (m0 (joinM σ n a)) n R a) (q a) 66 (10 * x + y) = 0 → (bt (σ 4 9) x = true ∧ bt (σ 4 9) y = true) ∨ ∃ j, j < q a ∧ ((x = pb j ∧ y = pb (j + 1)) ∨ (x = pb (j + 1) ∧ y = pb j)) := m2'
          have m3 : brM (j2M σ n a) (wtF σ n) (ln σ) n a (q a) 4 10 = nI (B + q a) := m3
          have m3' : cntZ (pmF pb (c1M (m0 (joinM σ n a)) n R a) (q a) 66) 100 = 2 * (B + q a) := m3'
          have m4 : ∀ z, bt (brM (j2M σ n a) (wtF σ n) (ln σ) n a (q a) 4 9) z = true ↔ bt (σ 4 9) z = true ∨ ∃ j, j < q a ∧ (z = pb j ∨ z = pb (j + 1)) := m4
          have m5 : ∀ z, bt (pmF pb (c1M (m0 (joinM σ n a)) n R a) (q a) 52 25) z = true ↔ bt (σ 4 9) z = true ∨ ∃ j, j < q a ∧ z = pb j := m5
          have e9 : pmF pb (c1M (m0 (joinM σ n a)) n R a) (q a) 52 25 = brM (j2M σ n a) (wtF σ n) (ln σ) n a (q a) 4 9 := b_ext (fun i _ => by
            have h1 := m4 i
            have h2 := m5 i
            have h3 : (bt (σ 4 9) i = true ∨ ∃ j, j < q a ∧ (i = pb j ∨ i = pb (j + 1))) ↔ (bt (σ 4 9) i = true ∨ ∃ j, j < q a ∧ i = pb j) := by
              constructor
              · rintro (z | ⟨j, hj2, z | z⟩)
                · exact Or.inl z
                · exact Or.inr ⟨j, hj2, z⟩
                · by_cases e : j + 1 = q a
                  · rw [e] at z
                    rw [z]
                    exact Or.inl onK
                  · exact Or.inr ⟨j + 1, by omega, z⟩
              · rintro (z | ⟨j, hj2, z⟩)
                · exact Or.inl z
                · exact Or.inr ⟨j, hj2, Or.inl z⟩
            exact Bool.eq_iff_iff.mpr (h2.trans (h3.symm.trans h1.symm)))
          -- what the model keeps
          have fin : ∀ {q' : Nat}, q' ≠ 52 → q' ≠ 66 → q' ≠ 67 → q' ≠ 68 → mu (pmF pb (c1M (m0 (joinM σ n a)) n R a) (q a)) 52 26 (joinM σ n a 52 26 + nI (p a)) q' = joinM σ n a q' := fun h2 h3 h4 h5 => by
            rw [mu_q h2, pmF_r h2 h3]
            unfold c1M
            rw [mu_q h2, m2_r h4 h5, m0_r h2]
          have fin52 : ∀ {j : Nat}, j ≠ 0 → j ≠ 24 → j ≠ 25 → j ≠ 26 → mu (pmF pb (c1M (m0 (joinM σ n a)) n R a) (q a)) 52 26 (joinM σ n a 52 26 + nI (p a)) 52 j = σ 52 j := fun h2 h3 h4 h5 => by
            rw [mu_ni h5, pmF_c h4]
            unfold c1M
            rw [mu_ni h3, m2_r (by decide) (by decide), m0_c h2, s52]
          have f4 : ∀ {j : Nat}, j ≠ 8 → j ≠ 9 → j ≠ 10 → j ≠ 11 → joinM σ n a 4 j = σ 4 j := fun h2 h3 h4 h5 => by
            rw [eM, mu_ni h5, mu_ni h2, brM_c h3 h4]
            unfold j2M
            rw [ej, mf_q (by decide)]
          have f49 : joinM σ n a 4 9 = brM (j2M σ n a) (wtF σ n) (ln σ) n a (q a) 4 9 := by rw [eM, mu_ni (by decide), mu_ni (by decide)]
          have f48 : joinM σ n a 4 8 = σ 4 8 ||| sh1 a := by rw [eM, mu_ni (by decide), mu_at]
          have frow : ∀ {r : Nat}, r < 10 → joinM σ n a (27 + r) = σ (27 + r) := fun h => joinM_r (by omega) (by omega) (by omega)
          have on2 : ∀ z, bt (σ 4 9) z = true → bt (joinM σ n a 4 9) z = true := fun z hz => by rw [f49]; exact (m4 z).mpr (Or.inl hz)
          have onp : ∀ j, j ≤ q a → bt (joinM σ n a 4 9) (pb j) = true := fun j hj2 => by
            by_cases e : j = q a
            · rw [e]; exact on2 _ onK
            · rw [f49]; exact (m4 _).mpr (Or.inr ⟨j, by omega, Or.inl rfl⟩)
          have pb0 : pb 0 = a := by rw [← hpb]; rfl
          have fin4 := fin (q' := 4) (by decide) (by decide) (by decide) (by decide)
          have fin37 := fin (q' := 37) (by decide) (by decide) (by decide) (by decide)
          have fin65 := fin (q' := 65) (by decide) (by decide) (by decide) (by decide)
          have fin66 : mu (pmF pb (c1M (m0 (joinM σ n a)) n R a) (q a)) 52 26 (joinM σ n a 52 26 + nI (p a)) 66 = pmF pb (c1M (m0 (joinM σ n a)) n R a) (q a) 66 := mu_q (by decide)
          have f24 : mu (pmF pb (c1M (m0 (joinM σ n a)) n R a) (q a)) 52 26 (joinM σ n a 52 26 + nI (p a)) 52 24 = σ 4 8 ||| sh1 a := by
            rw [mu_ni (by decide), pmF_c (by decide)]
            unfold c1M
            rw [mu_at, m0_c (by decide), s52, g5a]
          have f25 : mu (pmF pb (c1M (m0 (joinM σ n a)) n R a) (q a)) 52 26 (joinM σ n a 52 26 + nI (p a)) 52 25 = brM (j2M σ n a) (wtF σ n) (ln σ) n a (q a) 4 9 := by
            rw [mu_ni (by decide), e9]
          have f26 : mu (pmF pb (c1M (m0 (joinM σ n a)) n R a) (q a)) 52 26 (joinM σ n a 52 26 + nI (p a)) 52 26 = σ 4 11 + nI (p a) := by
            rw [mu_at, s52, g5c]
          have f411 : joinM σ n a 4 11 = σ 4 11 + nI (p a) := by rw [eM, mu_at]
          have f410 : joinM σ n a 4 10 = nI (B + q a) := by rw [eM, mu_ni (by decide), mu_ni (by decide)]; exact m3
          have f37 : joinM σ n a 37 = brM (j2M σ n a) (wtF σ n) (ln σ) n a (q a) 37 := by rw [eM, mu_q (by decide), mu_q (by decide)]
          generalize hτ : mu (pmF pb (c1M (m0 (joinM σ n a)) n R a) (q a)) 52 26 (joinM σ n a 52 26 + nI (p a)) = τ at k2 fin fin52 fin4 fin37 fin65 fin66 f24 f25 f26
          refine ⟨_, _, _, k1, k2, PW.of ⟨n, l, ?_, ⟨l1, l2, l3⟩, fun c d hc hd => ?_, ?_, ?_, ?_, ?_, ⟨B + q a, ?_, ?_⟩, ?_⟩ ⟨fun q' h h2 => ?_, fun j h => ?_⟩⟩
          · rw [fin4, fin52 (by decide) (by decide) (by decide) (by decide), f4 (by decide) (by decide) (by decide) (by decide)]
            exact ⟨g1, g1a, g1b⟩
          · rw [fin (by omega) (by omega) (by omega) (by omega), fin65, frow hc, s65]
            exact g3 c d hc hd
          · rw [fin4, fin65, f4 (by decide) (by decide) (by decide) (by decide), s65]
            exact g4
          · rw [fin4, f24, f25, f26, f48, f49, f411]
            exact ⟨rfl, rfl, rfl⟩
          · rw [fin37, fin66, f37]
            exact m1
          · rw [fin4, fin66]
            intro c d hc hd h
            rcases m2 c d hc hd h with ⟨z1, z2⟩ | ⟨j, hj2, ⟨z1, z2⟩ | ⟨z1, z2⟩⟩
            · exact ⟨on2 c z1, on2 d z2⟩
            · rw [z1, z2]; exact ⟨onp j (by omega), onp (j + 1) (by omega)⟩
            · rw [z1, z2]; exact ⟨onp (j + 1) (by omega), onp j (by omega)⟩
          · rw [fin4]; exact f410
          · rw [fin66]; exact m3'
          · rw [fin4, f48, f4 (j := 7) (by decide) (by decide) (by decide) (by decide)]
            refine ⟨fun i hi => ?_, fun i hi => ?_, fun z => ?_, fun _ => ?_⟩
            · rcases (bt_or_sh (by omega)).mp hi with z | z
              · exact on2 i (g9a i z)
              · have h00 := onp 0 (Nat.zero_le _)
                rw [pb0] at h00
                rw [z]; exact h00
            · rw [f49] at hi
              rcases (m4 i).mp hi with z | ⟨j, hj2, z | z⟩
              · exact g9b i z
              · rw [z]; exact (rs j (by omega)).1
              · rw [z]; exact (rs (j + 1) (by omega)).1
            · have : bt (σ 4 8 ||| sh1 a) a = true := (bt_or_sh (by omega)).mpr (Or.inr rfl)
              rw [z, b_0] at this
              exact absurd this (by decide)
            · obtain ⟨fi, f1, f2⟩ := g9d h0
              exact ⟨fi, f1, (bt_or_sh (by omega)).mpr (Or.inl f2)⟩
          · rw [fin (by omega) (by omega) (by omega) (by omega)]
            exact joinM_r (by omega) (by omega) (by omega)
          · exact fin52 (by omega) (by omega) (by omega) (by omega)
        · have ea : dW p q a = 1000000 := if_neg hp
          have hnl : ¬ wtF (j1M σ a) n a < nI 1000000 := by
            rw [ej, hW a ha, ea]
            exact fun z => absurd ((nI_ltI (by decide) (by decide)).mp z) (by decide)
          have eV : joinV σ n a = (-1000000) := by rw [joinV, if_neg hnl]
          have eM : joinM σ n a = mf σ 38 (wtF σ n) := by
            rw [joinM, if_neg hnl]
            unfold j2M
            rw [ej]
          rw [eV] at k1
          have k2 := c_mcallN n a R (joinM σ n a) (by rw [s52]; exact g1b) g1 ha hjm hjm0 u1 u2 (by rw [(hZ a ha).1]; exact fI_n hp)
          have fin : ∀ {q' : Nat}, q' ≠ 52 → q' ≠ 38 → q' ≠ 67 → q' ≠ 68 → m2 (m0 (joinM σ n a)) (cRF (m0 (joinM σ n a)) n R) q' = σ q' := fun h2 h3 h4 h5 => by
            rw [m2_r h4 h5, m0_r h2, eM, mf_q h3]
          have fin52 : ∀ {j : Nat}, j ≠ 0 → m2 (m0 (joinM σ n a)) (cRF (m0 (joinM σ n a)) n R) 52 j = σ 52 j := fun h2 => by
            rw [m2_r (by decide) (by decide), m0_c h2, s52]
          refine ⟨_, _, _, k1, k2, PW.of (GW.fr ⟨fun q' h => fin (by omega) (by omega) (by omega) (by omega), fun j h => fin52 (by omega)⟩ g) ⟨fun q' h h2 => fin (by omega) (by omega) (by omega) (by omega), fun j h => fin52 (by omega)⟩⟩
