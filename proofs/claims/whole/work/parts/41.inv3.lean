/-! ===== SHEETS, both: set, drop, copy ===== -/
theorem m1_at {σ τ : Mem} {k : Int32} (h0 : τ 52 = σ 52) (hq : ∀ q, q ≠ 0 → ¬ ((7 ≤ q ∧ q ≤ 16) ∨ (53 ≤ q ∧ q ≤ 55)) → τ q = σ q) (h1 : τ 0 = upd (σ 0) 5 k) (hk : k = nI 0) : onS (stM σ (nI 0)) (m1 τ) := by
  subst hk
  intro q hq2
  by_cases h52 : q = 52
  · subst h52
    unfold stM m1 m0
    simp (disch := omega) only [mu_s, mu_q]
    rw [h0]
    funext j
    simp only [upd]
    split <;> rfl
  · by_cases h00 : q = 0
    · subst h00
      rw [m1_q (by decide), h1]
      unfold stM
      rw [mu_q (by decide), m1_q (by decide), mu_s]
    · rw [m1_q h52, hq q h00 hq2, stM_q h00 h52]
theorem onS.mu {σ τ : Mem} {p i : Nat} {v : Int32} (h : onS σ τ) (hp : (7 ≤ p ∧ p ≤ 16) ∨ (53 ≤ p ∧ p ≤ 55)) : onS σ (mu τ p i v) := fun q hq => by rw [mu_q (by omega)]; exact h q hq
theorem onS.mf {σ τ : Mem} {p : Nat} {f : Nat → Int32} (h : onS σ τ) (hp : (7 ≤ p ∧ p ≤ 16) ∨ (53 ≤ p ∧ p ≤ 55)) : onS σ (mf τ p f) := fun q hq => by rw [mf_q (by omega)]; exact h q hq
theorem nI_ij {a b : Nat} (ha : a < 2 ^ 31) (hb : b < 2 ^ 31) (h : nI a = nI b) : a = b := by
  have := congrArg Int32.toInt h
  rw [nI_toInt ha, nI_toInt hb] at this
  omega
theorem rowF_1 {i : Int32} {m : Nat} (hm : m ≤ 60) : rowF (nI m) i (nI 1) = inr i m := by
  rw [rowF_eq hm]
  unfold rowM inr
  rw [nI_toInt (by omega), nI_toInt (by omega)]
  exact decide_eq_decide.mpr ⟨fun h => ⟨h.1, by omega⟩, fun h => ⟨h.1, by omega, by omega⟩⟩
theorem t_setS (x i v : Int32) (σ : Mem) (g : GS σ) (ga : GA σ) : PS yX5_set cX5_set 4 2 [.ref 0, .int x, .int i, .int v] yX6_set cX6_set 4 2 [.ref 52, .int x, .int i, .int v] σ := by
  cases hx : inr x 8 with
  | false =>
    have e1 := c_set x i v σ g.sz
    have e2 := c_mset x i v σ g.mz
    rw [setV, setM, hx, if_neg Bool.false_ne_true, if_neg Bool.false_ne_true] at e1
    rw [msetV, msetM, hx, if_neg Bool.false_ne_true, if_neg Bool.false_ne_true] at e2
    exact ⟨_, _, _, e1, e2, kS_m0 g ga⟩
  | true =>
    obtain ⟨s, hs, rfl⟩ := inr_of hx (by decide)
    have ts : tn (nI s) = s := tn_nI (by omega)
    have e1 := c_set (nI s) i v σ g.sz
    rw [setV, setM, hx, if_pos rfl, if_pos rfl, ts] at e1
    have st : ∀ k : Int32, GS (mu σ 0 5 k) := fun k => g.fr (fun q h => mu_q (by omega))
    have bad : ∀ k : Nat, k ≠ 0 → k < 6 → fiF (σ 16 s) i (nI 1) = nI k → (σ 53 s = (-1) ∧ k = 1 ∨ ¬ σ 53 s = (-1) ∧ inr i (tn (σ 54 s)) = false ∧ k = 2) → PS yX5_set cX5_set 4 2 [.ref 0, .int (nI s), .int i, .int v] yX6_set cX6_set 4 2 [.ref 52, .int (nI s), .int i, .int v] σ := by
      intro k k0 k6 ek hc
      rw [ek, if_neg (nI_ne0 (by omega) (by omega)), if_neg (nI_ne0 (by omega) (by omega))] at e1
      have e2 := c_mset (nI s) i v (mu σ 0 5 (nI k)) (st _).mz
      rw [msetV, msetM, hx, if_pos rfl, if_pos rfl, ts, mu_q (by decide), mu_q (by decide)] at e2
      rcases hc with ⟨h1, rfl⟩ | ⟨h1, h2, rfl⟩
      · rw [if_pos h1, if_pos h1] at e2
        exact ⟨_, _, _, e1, e2, kS_st g ga⟩
      · rw [if_neg h1, if_neg h1, h2, if_neg Bool.false_ne_true, if_neg Bool.false_ne_true] at e2
        exact ⟨_, _, _, e1, e2, kS_st g ga⟩
    rcases g s hs with ⟨q1, q2, q3⟩ | ⟨l, m, z1, z2, z3, z4, z5, z6, z7⟩
    · exact bad 1 (by decide) (by decide) (by rw [fiF, if_pos q1]) (Or.inl ⟨q2, rfl⟩)
    · cases hi : inr i m with
      | false => exact bad 2 (by decide) (by decide) (by rw [fiF, z5, if_neg (nI_ne1 (by omega)), rowF_1 z2, hi, if_neg Bool.false_ne_true]) (Or.inr ⟨by rw [z4]; exact nI_ne1 (by omega), by rw [z6, tn_nI (by omega)]; exact hi, rfl⟩)
      | true =>
        obtain ⟨j, hj, rfl⟩ := inr_of hi (by omega)
        have tj : tn (nI j) = j := tn_nI (by omega)
        rw [fiF, z5, if_neg (nI_ne1 (by omega)), rowF_1 z2, hi, if_pos rfl, if_pos nI_0, if_pos nI_0, tj, z3] at e1
        have g2 : GS (mu (mu σ 0 5 (nI 0)) (7 + s) j (fitF (nI l) v)) → True := fun _ => trivial
        have mz2 : mzok (mu (mu σ 0 5 (nI 0)) (7 + s) j (fitF (nI l) v)) := by
          have h := g.mz
          intro s' hs'
          rw [mu_q (by omega), mu_q (by omega), mu_q (by omega), mu_q (by omega)]
          exact h s' hs'
        have e2 := c_mset (nI s) (nI j) v (mu (mu σ 0 5 (nI 0)) (7 + s) j (fitF (nI l) v)) mz2
        rw [msetV, msetM, hx, if_pos rfl, if_pos rfl, ts] at e2
        simp (disch := omega) only [mu_q] at e2
        rw [z4, z6, tn_nI (j := m) (by omega), hi, if_neg (nI_ne1 (by omega)), if_neg (nI_ne1 (by omega)), if_pos rfl, if_pos rfl, tj] at e2
        refine ⟨_, _, _, e1, e2, kS_on ga (onS.mu (m1_at (by simp (disch := omega) only [mu_q]) (fun q h h2 => by simp (disch := omega) only [mu_q]) (by simp (disch := omega) only [mu_q, mu_s]) rfl) (by omega)) (fun s' hs' => ?_)⟩
        simp (disch := omega) only [mu_q, mu_s, m1_q]
        rcases g s' hs' with ⟨q1, q2, q3⟩ | ⟨l2, m2, y1, y2, y3, y4, y5, y6, y7⟩
        · exact Or.inl ⟨q1, q2, q3⟩
        · refine Or.inr ⟨l2, m2, y1, y2, y3, y4, y5, y6, fun i hi => ?_⟩
          by_cases e : s' = s
          · subst e
            rw [mu_s]
            have em : m2 = m := nI_ij (by omega) (by omega) (y5.symm.trans z5)
            by_cases ei : i = j
            · subst ei
              rw [upd_s, upd_s]
            · rw [upd_n ei, upd_n (by omega)]
              simp (disch := omega) only [mu_q]
              exact y7 i hi
          · rw [mu_q (by omega), upd_n (by omega)]
            simp (disch := omega) only [mu_q]
            exact y7 i hi
theorem t_drop (x : Int32) (σ : Mem) (g : GS σ) (ga : GA σ) : PS yX5_drop cX5_drop 2 1 [.ref 0, .int x] yX6_drop cX6_drop 2 2 [.ref 52, .int x] σ := by
  have e1 := c_drop x σ
  cases hx : inr x 8 with
  | false =>
    have e2 := c_mdrop x σ g.mz
    rw [dropV, dropM, hx, if_neg Bool.false_ne_true, if_neg Bool.false_ne_true] at e1
    rw [mdropV, mdropM, hx, if_neg Bool.false_ne_true, if_neg Bool.false_ne_true] at e2
    exact ⟨_, _, _, e1, e2, kS_m0 g ga⟩
  | true =>
    obtain ⟨s, hs, rfl⟩ := inr_of hx (by decide)
    have ts : tn (nI s) = s := tn_nI (by omega)
    rw [dropV, dropM, hx, if_pos rfl, if_pos rfl, ts] at e1
    rcases g s hs with ⟨q1, q2, q3⟩ | ⟨l, m, z1, z2, z3, z4, z5, z6, z7⟩
    · rw [if_pos q1, if_pos q1] at e1
      have e2 := c_mdrop (nI s) (mu σ 0 5 (nI 1)) (g.fr (fun q h => mu_q (by omega))).mz
      rw [mdropV, mdropM, hx, if_pos rfl, if_pos rfl, ts, mu_q (by decide), if_pos q2, if_pos q2] at e2
      exact ⟨_, _, _, e1, e2, kS_st g ga⟩
    · have n1 : ¬ σ 16 s = (-1) := by rw [z5]; exact nI_ne1 (by omega)
      have n2 : ¬ σ 53 s = (-1) := by rw [z4]; exact nI_ne1 (by omega)
      rw [if_neg n1, if_neg n1] at e1
      have e2 := c_mdrop (nI s) (mu (mu σ 0 5 (nI 0)) 16 s (-1)) (by
        have h := g.mz
        intro s' hs'
        rw [mu_q (by omega), mu_q (by omega), mu_q (by omega), mu_q (by omega)]
        exact h s' hs')
      rw [mdropV, mdropM, hx, if_pos rfl, if_pos rfl, ts] at e2
      simp (disch := omega) only [mu_q] at e2
      rw [if_neg n2, if_neg n2, z6, ← z5] at e2
      refine ⟨_, _, _, e1, e2, kS_on ga (onS.mu (m1_at (by simp (disch := omega) only [mu_q]) (fun q h h2 => by simp (disch := omega) only [mu_q]) (by simp (disch := omega) only [mu_q, mu_s]) rfl) (by omega)) (fun s' hs' => ?_)⟩
      simp (disch := omega) only [mu_q, mu_s, m1_q]
      by_cases e : s' = s
      · subst e
        exact Or.inl ⟨upd_s, upd_s, m, z2, z6⟩
      · rw [upd_n e, upd_n e]
        exact g s' hs'
theorem t_copy (a i b j n : Int32) (σ : Mem) (g : GS σ) (ga : GA σ) : PS yX5_copy cX5_copy 6 2 [.ref 0, .int a, .int i, .int b, .int j, .int n] yX6_copy cX6_copy 9 2 [.ref 52, .int a, .int i, .int b, .int j, .int n] σ := by
  cases ho : cpOK a b with
  | false =>
    have e1 := c_copy a i b j n σ g.sz
    have e2 := c_mcopy a i b j n σ g.mz
    rw [copyV, copyM, ho, if_neg Bool.false_ne_true, if_neg Bool.false_ne_true] at e1
    rw [mcopyV, mcopyM, ho, if_neg Bool.false_ne_true, if_neg Bool.false_ne_true] at e2
    exact ⟨_, _, _, e1, e2, kS_m0 g ga⟩
  | true =>
    have h1 : inr a 8 = true ∧ inr b 8 = true := by
      unfold cpOK at ho
      rw [Bool.and_eq_true] at ho
      exact ho
    obtain ⟨s, hs, rfl⟩ := inr_of h1.1 (by decide)
    obtain ⟨t, ht, rfl⟩ := inr_of h1.2 (by decide)
    have ts : tn (nI s) = s := tn_nI (by omega)
    have tt : tn (nI t) = t := tn_nI (by omega)
    have e1 := c_copy (nI s) i (nI t) j n σ g.sz
    rw [copyV, copyM, ho, if_pos rfl, if_pos rfl] at e1
    have st : ∀ k : Int32, GS (mu σ 0 5 k) := fun k => g.fr (fun q h => mu_q (by omega))
    have bad : ∀ k : Nat, k ≠ 0 → k < 6 → cpf σ (nI s) (nI t) i j n = nI k → mcpf σ (nI s) (nI t) i j n = nI k → PS yX5_copy cX5_copy 6 2 [.ref 0, .int (nI s), .int i, .int (nI t), .int j, .int n] yX6_copy cX6_copy 9 2 [.ref 52, .int (nI s), .int i, .int (nI t), .int j, .int n] σ := by
      intro k k0 k6 ek ek2
      rw [ek, if_neg (nI_ne0 (by omega) (by omega)), if_neg (nI_ne0 (by omega) (by omega))] at e1
      have e2 := c_mcopy (nI s) i (nI t) j n (mu σ 0 5 (nI k)) (st _).mz
      have ek3 : mcpf (mu σ 0 5 (nI k)) (nI s) (nI t) i j n = nI k := by
        rw [← ek2]
        unfold mcpf
        rw [mu_q (by decide), mu_q (by decide)]
      rw [mcopyV, mcopyM, ho, if_pos rfl, if_pos rfl, ek3, if_neg (nI_ne0 (by omega) (by omega)), if_neg (nI_ne0 (by omega) (by omega))] at e2
      exact ⟨_, _, _, e1, e2, kS_st g ga⟩
    rcases g s hs with ⟨q1, q2, q3⟩ | ⟨l, m, z1, z2, z3, z4, z5, z6, z7⟩
    · exact bad 1 (by decide) (by decide) (by rw [cpf, fpF, ts, if_pos (Or.inl q1)]) (by rw [mcpf, ts, if_pos (Or.inl q2)])
    · rcases g t ht with ⟨q1, q2, q3⟩ | ⟨l2, m2, y1, y2, y3, y4, y5, y6, y7⟩
      · exact bad 1 (by decide) (by decide) (by rw [cpf, fpF, tt, if_pos (Or.inr q1)]) (by rw [mcpf, tt, if_pos (Or.inr q2)])
      · have n1 : ¬ (σ 16 s = (-1) ∨ σ 16 t = (-1)) := by rw [z5, y5]; exact fun h => h.elim (nI_ne1 (by omega)) (nI_ne1 (by omega))
        have n2 : ¬ (σ 53 s = (-1) ∨ σ 53 t = (-1)) := by rw [z4, y4]; exact fun h => h.elim (nI_ne1 (by omega)) (nI_ne1 (by omega))
        by_cases el : nI l = nI l2
        · by_cases er : rowM (nI m) i n = true ∧ rowM (nI m2) j n = true
          · have c0 : cpf σ (nI s) (nI t) i j n = nI 0 := by rw [cpf, fpF, ts, tt, if_neg n1, z3, y3, if_pos el, z5, y5, rowF_eq z2, rowF_eq y2, if_pos er]
            rw [c0, if_pos nI_0, if_pos nI_0, ts, tt] at e1
            obtain ⟨i', n', rfl, rfl, hl1⟩ := rowM_of z2 er.1
            obtain ⟨j', n2', rfl, en, hl2⟩ := rowM_of y2 er.2
            obtain rfl : n' = n2' := nI_ij (by omega) (by omega) en
            rw [tn_nI (by omega), tn_nI (by omega), tn_nI (by omega)] at e1
            have e2 := c_mcopy (nI s) (nI i') (nI t) (nI j') (nI n') (mf (mu σ 0 5 (nI 0)) (7 + t) (va_cpy (σ (7 + s)) (σ (7 + t)) i' j' n')) (by
              have h := g.mz
              intro s' hs'
              rw [mf_q (by omega), mu_q (by omega), mf_q (by omega), mu_q (by omega)]
              exact h s' hs')
            have c2 : mcpf (mf (mu σ 0 5 (nI 0)) (7 + t) (va_cpy (σ (7 + s)) (σ (7 + t)) i' j' n')) (nI s) (nI t) (nI i') (nI j') (nI n') = nI 0 := by
              unfold mcpf
              simp (disch := omega) only [mu_q, mf_q]
              rw [ts, tt, if_neg n2, z4, y4, if_pos el, z6, y6, if_pos er]
            rw [mcopyV, mcopyM, ho, if_pos rfl, if_pos rfl, c2, if_pos nI_0, if_pos nI_0, ts, tt, tn_nI (by omega), tn_nI (by omega), tn_nI (by omega)] at e2
            simp (disch := omega) only [mu_q, mf_q] at e2
            refine ⟨_, _, _, e1, e2, kS_on ga (onS.mf (m1_at (by simp (disch := omega) only [mu_q, mf_q]) (fun q h h2 => by simp (disch := omega) only [mu_q, mf_q]) (by simp (disch := omega) only [mu_q, mf_q, mu_s]) rfl) (by omega)) (fun s' hs' => ?_)⟩
            simp (disch := omega) only [mu_q, mf_q, mf_s, m1_q]
            rcases g s' hs' with ⟨q1, q2, q3⟩ | ⟨l3, m3, w1, w2, w3, w4, w5, w6, w7⟩
            · exact Or.inl ⟨q1, q2, q3⟩
            · refine Or.inr ⟨l3, m3, w1, w2, w3, w4, w5, w6, fun k hk => ?_⟩
              by_cases e : s' = t
              · subst e
                rw [mf_s]
                have em : m3 = m2 := nI_ij (by omega) (by omega) (w5.symm.trans y5)
                unfold va_cpy
                by_cases hr : j' ≤ k ∧ k < j' + n'
                · rw [if_pos hr, if_pos (by omega), show 60 * s + i' + (60 * s' + k - (60 * s' + j')) = 60 * s + (i' + (k - j')) by omega]
                  exact z7 _ (by omega)
                · rw [if_neg hr, if_neg (by omega)]
                  exact w7 k hk
              · rw [mf_q (by omega), mu_q (by omega)]
                unfold va_cpy
                rw [if_neg (by omega)]
                exact w7 k hk
          · exact bad 2 (by decide) (by decide) (by rw [cpf, fpF, ts, tt, if_neg n1, z3, y3, if_pos el, z5, y5, rowF_eq z2, rowF_eq y2, if_neg er]) (by rw [mcpf, ts, tt, if_neg n2, z4, y4, if_pos el, z6, y6, if_neg er])
        · exact bad 5 (by decide) (by decide) (by rw [cpf, fpF, ts, tt, if_neg n1, z3, y3, if_neg el]) (by rw [mcpf, ts, tt, if_neg n2, z4, y4, if_neg el])

