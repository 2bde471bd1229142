/-! ===== one demand: the state of the law and of the class ===== -/
theorem pf_cg {b : Int32} {pr pr' : Nat → Int32} : ∀ m, (∀ i, i < m → pr i = pr' i) → pf b pr m = pf b pr' m
  | 0, _ => rfl
  | m + 1, h => by rw [pf, pf, pf_cg m (fun i hi => h i (by omega)), h m (by omega)]
theorem lgm_cg {c c' th th' pr pr' : Nat → Int32} {t : Nat} (hp : ∀ i, i < 12 → pr i = pr' i) : ∀ k, (∀ j, j < k → c j = c' j ∧ th j = th' j) → lgm c th pr t k = lgm c' th' pr' t k
  | 0, _ => rfl
  | k + 1, h => by rw [lgm, lgm, lgm_cg hp k (fun j hj => h j (by omega)), (h k (by omega)).1, (h k (by omega)).2, pf_cg 12 hp]
theorem tight_cg {c c' th th' pr pr' : Nat → Int32} {t k : Nat} (hp : ∀ i, i < 12 → pr i = pr' i) (hc : c k = c' k) (ht : th k = th' k) : tight c th pr t k = tight c' th' pr' t k := by
  unfold tight
  rw [hc, ht, pf_cg 12 hp]
theorem buyB_cg {c c' th th' pr pr' : Nat → Int32} {t : Nat} {b : Int32} (hp : ∀ i, i < 12 → pr i = pr' i) : ∀ k, (∀ j, j < k → c j = c' j ∧ th j = th' j) → buyB c th pr t b k = buyB c' th' pr' t b k
  | 0, _ => rfl
  | k + 1, h => by rw [buyB, buyB, buyB_cg hp k (fun j hj => h j (by omega)), tight_cg hp (h k (by omega)).1 (h k (by omega)).2]
theorem buyC_cg {c c' th th' pr pr' : Nat → Int32} {t : Nat} (hp : ∀ i, i < 12 → pr i = pr' i) : ∀ k, (∀ j, j < k → c j = c' j ∧ th j = th' j) → buyC c th pr t k = buyC c' th' pr' t k
  | 0, _ => rfl
  | k + 1, h => by rw [buyC, buyC, buyC_cg hp k (fun j hj => h j (by omega)), tight_cg hp (h k (by omega)).1 (h k (by omega)).2, (h k (by omega)).1]
theorem lgm_att {c th pr : Nat → Int32} {t n : Nat} {X Y : Nat → Nat} (hc : ∀ k, k < n → c k = nI (X k) ∧ pf (th k) pr 12 = nI (Y k) ∧ Y k ≤ X k ∧ X k ≤ 1000) : ∀ k, k ≤ n → (lgm c th pr t k = nI 1000000 ∧ ∀ j, j < k → bt (th j) t = false) ∨ ∃ j, j < k ∧ bt (th j) t = true ∧ lgm c th pr t k = nI (X j - Y j)
  | 0, _ => Or.inl ⟨rfl, fun j h => absurd h (Nat.not_lt_zero j)⟩
  | k + 1, hk => by
    obtain ⟨e1, e2, e3, e4⟩ := hc k (by omega)
    rw [lgm]
    cases hb : bt (th k) t with
    | false =>
      rw [if_neg Bool.false_ne_true]
      rcases lgm_att hc k (by omega) with ⟨h1, h2⟩ | ⟨j, h1, h2, h3⟩
      · refine Or.inl ⟨h1, fun j hj => ?_⟩
        by_cases q : j = k
        · subst q; exact hb
        · exact h2 j (by omega)
      · exact Or.inr ⟨j, by omega, h2, h3⟩
    | true =>
      rw [if_pos rfl, e1, e2, pk_sub e3]
      refine Or.inr ?_
      rcases lgm_att hc k (by omega) with ⟨h1, h2⟩ | ⟨j, h1, h2, h3⟩
      · rw [h1, imin_nI (by decide) (by omega), Nat.min_eq_right (by omega)]
        exact ⟨k, by omega, hb, rfl⟩
      · rw [h3, imin_nI (by have := hc j (by omega); omega) (by omega)]
        by_cases q : X j - Y j ≤ X k - Y k
        · rw [Nat.min_eq_left q]
          exact ⟨j, by omega, h2, rfl⟩
        · rw [Nat.min_eq_right (by omega)]
          exact ⟨k, by omega, hb, rfl⟩
theorem smN_or {X : Nat → Nat} {S T U : Nat → Bool} : ∀ n, (∀ k, k < n → U k = (S k || T k)) → (∀ k, k < n → S k = true → T k = false) → smN X U n = smN X S n + smN X T n
  | 0, _, _ => rfl
  | n + 1, h, h2 => by
    rw [smN, smN, smN, smN_or n (fun k hk => h k (by omega)) (fun k hk => h2 k (by omega)), h n (by omega)]
    cases hs : S n with
    | false =>
      rw [Bool.false_or, if_neg Bool.false_ne_true]
      omega
    | true =>
      rw [Bool.true_or, if_pos rfl, h2 n (by omega) hs, if_neg Bool.false_ne_true]
      omega
theorem smN_mem {X : Nat → Nat} {S : Nat → Bool} {j : Nat} : ∀ n, j < n → S j = true → X j ≤ smN X S n
  | 0, h, _ => absurd h (Nat.not_lt_zero j)
  | n + 1, h, hs => by
    rw [smN]
    by_cases q : j = n
    · subst q
      rw [if_pos hs]
      omega
    · have := smN_mem (X := X) n (by omega) hs
      omega
theorem smN_le {X : Nat → Nat} {S : Nat → Bool} {B : Nat} : ∀ n, (∀ k, k < n → X k ≤ B) → smN X S n ≤ B * n
  | 0, _ => Nat.zero_le _
  | n + 1, h => by
    have h1 := smN_le (S := S) n (fun k hk => h k (by omega))
    have h2 := h n (by omega)
    rw [smN, Nat.mul_succ]
    split <;> omega
theorem buyC_sm {c th pr : Nat → Int32} {t n : Nat} {X : Nat → Nat} (hc : ∀ k, k < n → c k = nI (X k)) : ∀ k, k ≤ n → buyC c th pr t k = nI (smN X (fun j => tight c th pr t j) k)
  | 0, _ => rfl
  | k + 1, h => by
    rw [buyC, smN, buyC_sm hc k (by omega), hc k (by omega)]
    by_cases q : tight c th pr t k = true
    · rw [if_pos q, if_pos q, nI_add]
    · rw [if_neg q, if_neg q, Nat.add_zero]
/-- the law's numbers beside the class's memory -/
def LI (L : Nat) (xs : Nat → Int32) (σ : Mem) (N : Nat) (dem bo : Int32) (P : Nat) : Prop :=
  (1 ≤ N ∧ N ≤ 9 ∧ σ 2 3 = nI N) ∧ (∀ k, k < N → σ 17 k = cF L xs k ∧ σ 18 k = thF L xs k) ∧ setsOK (σ 17) (σ 18) (σ 19) N (σ 2 4) dem bo (σ 2 7) ∧ (σ 2 5 = dem ∧ σ 2 6 = bo ∧ σ 2 8 = nI P) ∧ (∀ i, i < 12 → σ 53 i = σ 19 i) ∧ (∃ tr : Nat, tr ≤ 16 ∧ σ 5 1 = nI tr) ∧
  (∀ k, k < N → bt bo k = true → pf (σ 18 k) (σ 19) 12 = σ 17 k) ∧ (∀ i, bt dem i = true → ∃ k, k < N ∧ bt bo k = true ∧ bt (σ 18 k) i = true) ∧ P = smN (coN L xs) (fun k => bt bo k) N ∧ (∀ i, i < 12 → ∃ q : Nat, q ≤ 1000 ∧ σ 19 i = nI q)
theorem had_z {th : Nat → Int32} {t N : Nat} (hN : N ≤ 32) : hadF th t N = 0 ↔ ∀ k, k < N → bt (th k) t = false := by
  rw [x0_b]
  constructor
  · intro h k hk
    cases hb : bt (th k) t with
    | false => rfl
    | true =>
      have := (hadF_bt (th := th) (t := t) (i := k) N hN).mpr ⟨hk, hb⟩
      rw [h k] at this
      exact absurd this (by decide)
  · intro h i
    cases hb : bt (hadF th t N) i with
    | false => rfl
    | true =>
      obtain ⟨h1, h2⟩ := (hadF_bt (th := th) (t := t) (i := i) N hN).mp hb
      rw [h i h1] at h2
      exact absurd h2 (by decide)
/-- among the sets with t there is a bought one -/
theorem had_bo {th : Nat → Int32} {t N : Nat} {bo : Int32} (hN : N ≤ 32) : ¬ hadF th t N &&& bo = 0 ↔ ∃ k, k < N ∧ bt bo k = true ∧ bt (th k) t = true := by
  rw [and_0]
  constructor
  · intro h
    refine Classical.byContradiction fun q => h fun i hi => ?_
    obtain ⟨h1, h2⟩ := (hadF_bt N hN).mp hi
    cases hb : bt bo i with
    | false => rfl
    | true => exact absurd ⟨i, h1, hb, h2⟩ q
  · rintro ⟨k, h1, h2, h3⟩ h
    have := h k ((hadF_bt N hN).mpr ⟨h1, h3⟩)
    rw [h2] at this
    exact absurd this (by decide)
theorem st_12 {σ : Mem} {N : Nat} : demandV σ N (nI 12) = (-1000001) ∧ demandM σ N (nI 12) = σ := by
  have e : inr (nI 12) 12 = false := by decide +kernel
  exact ⟨by rw [demandV, e, if_neg Bool.false_ne_true], by rw [demandM, e, if_neg Bool.false_ne_true]⟩
theorem st_no {L : Nat} {xs : Nat → Int32} {σ : Mem} {N x P : Nat} {dem bo : Int32} (h : LI L xs σ N dem bo P) (hx : x < 12) (hz : ∀ k, k < N → bt (thF L xs k) x = false) : demandV σ N (nI x) = (-1000002) ∧ demandM σ N (nI x) = σ := by
  obtain ⟨⟨n1, n2, n3⟩, hc, hs, -⟩ := h
  have e : inr (nI x) 12 = true := inr_nI hx (by decide)
  have et : tn (nI x) = x := tn_nI (by omega)
  have eo : bt (σ 2 4) x = false := by
    cases hb : bt (σ 2 4) x with
    | false => rfl
    | true =>
      obtain ⟨k, h1, h2⟩ := (hs.2.2.2.1 x hx).mp hb
      rw [(hc k h1).2, hz k h1] at h2
      exact absurd h2 (by decide)
  exact ⟨by rw [demandV, e, if_pos rfl, et, eo, if_neg Bool.false_ne_true], by rw [demandM, e, if_pos rfl, et, eo, if_neg Bool.false_ne_true]⟩
theorem st_of {L : Nat} {xs : Nat → Int32} {σ : Mem} {N x P : Nat} {dem bo : Int32} (h : LI L xs σ N dem bo P) (hx : x < 12) (hex : ∃ k, k < N ∧ bt (thF L xs k) x = true) : bt (σ 2 4) x = true := by
  obtain ⟨-, hc, hs, -⟩ := h
  obtain ⟨k, h1, h2⟩ := hex
  exact (hs.2.2.2.1 x hx).mpr ⟨k, h1, by rw [(hc k h1).2]; exact h2⟩
theorem st_me {L : Nat} {xs : Nat → Int32} {σ : Mem} {N x P : Nat} {dem bo : Int32} (h : LI L xs σ N dem bo P) (hx : x < 12) : (¬ hadF (thF L xs) x N &&& bo = 0) ↔ bt (σ 2 7) x = true := by
  obtain ⟨⟨n1, n2, n3⟩, hc, hs, -⟩ := h
  rw [had_bo (by omega), hs.2.2.2.2.2.2 x hx]
  constructor
  · rintro ⟨k, h1, h2, h3⟩
    exact ⟨k, h1, h2, by rw [(hc k h1).2]; exact h3⟩
  · rintro ⟨k, h1, h2, h3⟩
    exact ⟨k, h1, h2, by rw [(hc k h1).2] at h3; exact h3⟩
theorem st_met {L : Nat} {xs : Nat → Int32} {σ : Mem} {N x P : Nat} {dem bo : Int32} (h : LI L xs σ N dem bo P) (hx : x < 12) (hex : ∃ k, k < N ∧ bt (thF L xs k) x = true) (hme : bt (σ 2 7) x = true) : demandV σ N (nI x) = nI 0 ∧ LI L xs (demandM σ N (nI x)) N (dem ||| (nI 1 <<< (nI x &&& 31))) bo P ∧ demandM σ N (nI x) 53 = σ 53 := by
  have ho := st_of h hx hex
  obtain ⟨⟨n1, n2, n3⟩, hc, hs, ⟨d1, d2, d3⟩, hpr, htr, ha, hb, hP⟩ := h
  have e : inr (nI x) 12 = true := inr_nI hx (by decide)
  have et : tn (nI x) = x := tn_nI (by omega)
  have eM : demandM σ N (nI x) = mask σ x := by rw [demandM, e, if_pos rfl, et, ho, if_pos rfl, cmeetM, hme, if_pos rfl]
  rw [eM]
  have r2 : ∀ j, j ≠ 5 → mask σ x 2 j = σ 2 j := fun j hj => mask_c hj
  have r5 : mask σ x 2 5 = dem ||| (nI 1 <<< (nI x &&& 31)) := by unfold mask; rw [mu_at, d1]
  refine ⟨by rw [demandV, e, if_pos rfl, et, ho, if_pos rfl, cmeetV, hme, if_pos rfl], ?_, mask_r (by decide)⟩
  unfold LI
  rw [mask_r (σ := σ) (t := x) (q := 17) (by decide), mask_r (σ := σ) (t := x) (q := 18) (by decide), mask_r (σ := σ) (t := x) (q := 19) (by decide), mask_r (σ := σ) (t := x) (q := 53) (by decide), mask_r (σ := σ) (t := x) (q := 5) (by decide), r2 3 (by decide), r2 4 (by decide), r2 7 (by decide), r2 6 (by decide), r2 8 (by decide), r5]
  refine ⟨⟨n1, n2, n3⟩, hc, or_dem hs hx ho, ⟨rfl, d2, d3⟩, hpr, htr, ha, fun i hi => ?_, hP⟩
  rw [b_or, Bool.or_eq_true, bt_sh (by omega), decide_eq_true_iff] at hi
  rcases hi with hi | rfl
  · exact hb i hi
  · exact (hs.2.2.2.2.2.2 i hx).mp hme
theorem st_buy {L : Nat} {xs : Nat → Int32} {σ : Mem} {N x P : Nat} {dem bo : Int32} (h : LI L xs σ N dem bo P) (hx : x < 12) (hex : ∃ k, k < N ∧ bt (thF L xs k) x = true) (hno : bt (σ 2 7) x = false) {τ : Mem} (hτ : τ = mu σ 53 x (σ 53 x + lgm (cF L xs) (thF L xs) (σ 53) x N)) :
    ∃ S : Nat, 1 ≤ S ∧ S ≤ 400 ∧ buyC (cF L xs) (thF L xs) (τ 53) x N = nI S ∧ demandV τ N (nI x) = nI S ∧ LI L xs (demandM τ N (nI x)) N (dem ||| (nI 1 <<< (nI x &&& 31))) (buyB (cF L xs) (thF L xs) (τ 53) x bo N) (P + S) ∧ demandM τ N (nI x) 53 = τ 53 := by
  have ho := st_of h hx hex
  obtain ⟨⟨n1, n2, n3⟩, hc, hs, ⟨d1, d2, d3⟩, hpr, htr, ha, hb, hP, hpn⟩ := h
  have e : inr (nI x) 12 = true := inr_nI hx (by decide)
  have et : tn (nI x) = x := tn_nI (by omega)
  have q2 : τ 2 = σ 2 := by rw [hτ, mu_q (by decide)]
  have q17 : τ 17 = σ 17 := by rw [hτ, mu_q (by decide)]
  have q18 : τ 18 = σ 18 := by rw [hτ, mu_q (by decide)]
  have q19 : τ 19 = σ 19 := by rw [hτ, mu_q (by decide)]
  have q5 : τ 5 = σ 5 := by rw [hτ, mu_q (by decide)]
  have q53 : τ 53 = upd (σ 53) x (σ 53 x + lgm (cF L xs) (thF L xs) (σ 53) x N) := by rw [hτ, mu_s]
  obtain ⟨b1, b2⟩ := buy_ok (by omega) hs hx ho
  have elg : lgm (cF L xs) (thF L xs) (σ 53) x N = lgap (σ 17) (σ 18) (σ 19) x N := by
    rw [← b1]
    exact lgm_cg hpr N (fun j hj => ⟨(hc j hj).1.symm, (hc j hj).2.symm⟩)
  generalize hg : lgap (σ 17) (σ 18) (σ 19) x N = g at b1 b2 elg
  have hpr' : ∀ i, i < 12 → τ 53 i = upd (σ 19) x (σ 19 x + g) i := by
    intro i hi
    rw [q53, elg]
    by_cases q : i = x
    · subst q; rw [upd_s, upd_s, hpr i hi]
    · rw [upd_n q, upd_n q, hpr i hi]
  have hcg : ∀ j, j < N → cF L xs j = σ 17 j ∧ thF L xs j = σ 18 j := fun j hj => ⟨(hc j hj).1.symm, (hc j hj).2.symm⟩
  have eB : buyB (cF L xs) (thF L xs) (τ 53) x bo N = buyB (σ 17) (σ 18) (upd (σ 19) x (σ 19 x + g)) x bo N := buyB_cg hpr' N hcg
  have eC : buyC (cF L xs) (thF L xs) (τ 53) x N = buyC (σ 17) (σ 18) (upd (σ 19) x (σ 19 x + g)) x N := buyC_cg hpr' N hcg
  have hco : ∀ k, k < N → σ 17 k = nI (coN L xs k) := fun k hk => (hc k hk).1
  generalize hpp : upd (σ 19) x (σ 19 x + g) = pr' at hpr' eB eC b2
  have hpf : ∀ k, pf (σ 18 k) pr' 12 = if x < 12 ∧ bt (σ 18 k) x = true then pf (σ 18 k) (σ 19) 12 + g else pf (σ 18 k) (σ 19) 12 := fun k => by rw [← hpp]; exact pf_upd 12
  -- no bought set has x
  have hnb : ∀ k, k < N → bt bo k = true → bt (σ 18 k) x = false := by
    intro k hk hbk
    cases hbx : bt (σ 18 k) x with
    | false => rfl
    | true =>
      rw [(hs.2.2.2.2.2.2 x hx).mpr ⟨k, hk, hbk, hbx⟩] at hno
      exact absurd hno (by decide)
  -- a set with x is tight now
  obtain ⟨X, Y, hXY⟩ := X_Y hs.1
  have htg : ∃ j, j < N ∧ tight (σ 17) (σ 18) pr' x j = true := by
    rcases lgm_att (t := x) (fun k hk => ⟨(hXY k hk).1, (hXY k hk).2.1, (hXY k hk).2.2.1, (hXY k hk).2.2.2.1⟩) N (Nat.le_refl N) with ⟨h1, h2⟩ | ⟨j, h1, h2, h3⟩
    · obtain ⟨k, k1, k2⟩ := hex
      have := h2 k k1
      rw [(hc k k1).2, k2] at this
      exact absurd this (by decide)
    · refine ⟨j, h1, tight_iff.mpr ⟨h2, ?_⟩⟩
      obtain ⟨a1, a2, a3, a4, a5⟩ := hXY j h1
      rw [hpf, if_pos ⟨hx, h2⟩, ← b1, h3, a2, a1, nI_add]
      congr 1
      omega
  have hsm : buyC (σ 17) (σ 18) pr' x N = nI (smN (coN L xs) (fun j => tight (σ 17) (σ 18) pr' x j) N) := buyC_sm hco N (Nat.le_refl N)
  have hcol : ∀ k, k < N → coN L xs k ≤ 40 := fun k _ => coN_le.2
  have hS2 := smN_le (S := fun j => tight (σ 17) (σ 18) pr' x j) N hcol
  have hS1 : 1 ≤ smN (coN L xs) (fun j => tight (σ 17) (σ 18) pr' x j) N := by
    obtain ⟨j, j1, j2⟩ := htg
    exact Nat.le_trans coN_le.1 (smN_mem N j1 j2)
  generalize hSd : smN (coN L xs) (fun j => tight (σ 17) (σ 18) pr' x j) N = S at hsm hS2 hS1
  have m7 : bt (τ 2 7) x = false := by rw [q2]; exact hno
  have o4 : bt (τ 2 4) x = true := by rw [q2]; exact ho
  have r19 : mraise τ N x 19 = pr' := by
    rw [mraise, mu_s, q17, q18, q19, mask_r (by decide), q19, hg, hpp]
  have r17 : mraise τ N x 17 = σ 17 := by rw [mraise_r (by decide), mask_r (by decide), q17]
  have r18 : mraise τ N x 18 = σ 18 := by rw [mraise_r (by decide), mask_r (by decide), q18]
  have r2 : mraise τ N x 2 = mask τ x 2 := mraise_r (by decide)
  have eM : demandM τ N (nI x) = mu (mbuy (mraise τ N x) x N) 2 8 (nI (P + S)) := by
    rw [demandM, e, if_pos rfl, et, o4, if_pos rfl, cmeetM, m7, if_neg Bool.false_ne_true, r19, q17, q18, q2, d3, hsm, nI_add]
  have eV : demandV τ N (nI x) = nI S := by
    rw [demandV, e, if_pos rfl, et, o4, if_pos rfl, cmeetV, m7, if_neg Bool.false_ne_true, r19, q17, q18, hsm]
  have t53 : demandM τ N (nI x) 53 = τ 53 := by rw [eM, mu_q (by decide), mbuy_r (by decide), mraise_r (by decide), mask_r (by decide)]
  refine ⟨S, hS1, by omega, by rw [eC, hsm], eV, ?_, t53⟩
  have t17 : demandM τ N (nI x) 17 = σ 17 := by rw [eM, mu_q (by decide), mbuy_r (by decide), r17]
  have t18 : demandM τ N (nI x) 18 = σ 18 := by rw [eM, mu_q (by decide), mbuy_r (by decide), r18]
  have t19 : demandM τ N (nI x) 19 = pr' := by rw [eM, mu_q (by decide), mbuy_r (by decide), r19]
  have t5 : demandM τ N (nI x) 5 = σ 5 := by rw [eM, mu_q (by decide), mbuy_r (by decide), mraise_r (by decide), mask_r (by decide), q5]
  have t2 : ∀ j, j ≠ 5 → j ≠ 6 → j ≠ 7 → j ≠ 8 → demandM τ N (nI x) 2 j = σ 2 j := by
    intro j h5 h6 h7 h8
    rw [eM, mu_ni h8, mbuy_c h6 h7, r2, mask_c h5, q2]
  have t25 : demandM τ N (nI x) 2 5 = dem ||| (nI 1 <<< (nI x &&& 31)) := by
    rw [eM, mu_ni (by decide), mbuy_c (by decide) (by decide), r2, mask, mu_at, q2, d1]
  have t26 : demandM τ N (nI x) 2 6 = buyB (σ 17) (σ 18) pr' x bo N := by
    rw [eM, mu_ni (by decide), mbuy, mu_ni (by decide), mu_at, r17, r18, r19, r2, mask_c (by decide), q2, d2]
  have t27 : demandM τ N (nI x) 2 7 = buyM (σ 17) (σ 18) pr' x (σ 2 7) N := by
    rw [eM, mu_ni (by decide), mbuy, mu_at, r17, r18, r19, r2, mask_c (by decide), q2]
  have t28 : demandM τ N (nI x) 2 8 = nI (P + S) := by rw [eM, mu_at]
  unfold LI
  rw [t17, t18, t19, t53, t5, t2 3 (by decide) (by decide) (by decide) (by decide), t2 4 (by decide) (by decide) (by decide) (by decide), t25, t26, t27, t28, eB]
  have hbb : ∀ k, bt (buyB (σ 17) (σ 18) pr' x bo N) k = true ↔ bt bo k = true ∨ (k < N ∧ tight (σ 17) (σ 18) pr' x k = true) := fun k => buyB_bt N (by omega)
  refine ⟨⟨n1, n2, n3⟩, hc, b2, ⟨rfl, rfl, rfl⟩, hpr', htr, fun k hk hbk => ?_, fun i hi => ?_, ?_, fun i hi => ?_⟩
  · rcases (hbb k).mp hbk with q | q
    · rw [hpf, if_neg (fun z => by rw [hnb k hk q] at z; exact absurd z.2 (by decide))]
      exact ha k hk q
    · exact (tight_iff.mp q.2).2
  · rw [b_or, Bool.or_eq_true, bt_sh (by omega), decide_eq_true_iff] at hi
    rcases hi with hi | rfl
    · obtain ⟨k, k1, k2, k3⟩ := hb i hi
      exact ⟨k, k1, (hbb k).mpr (Or.inl k2), k3⟩
    · obtain ⟨j, j1, j2⟩ := htg
      exact ⟨j, j1, (hbb j).mpr (Or.inr ⟨j1, j2⟩), (tight_iff.mp j2).1⟩
  · rw [hP, ← hSd]
    refine (smN_or N (fun k hk => ?_) (fun k hk hbk => ?_)).symm
    · have hb9 := hbb k
      cases h1 : bt bo k with
      | true => rw [Bool.true_or]; exact hb9.mpr (Or.inl h1)
      | false =>
        cases h2 : tight (σ 17) (σ 18) pr' x k with
        | true => rw [Bool.false_or]; exact hb9.mpr (Or.inr ⟨hk, h2⟩)
        | false =>
          rw [Bool.false_or]
          cases h3 : bt (buyB (σ 17) (σ 18) pr' x bo N) k with
          | false => rfl
          | true =>
            rcases hb9.mp h3 with q | q
            · rw [h1] at q; exact absurd q (by decide)
            · rw [h2] at q; exact absurd q.2 (by decide)
    · cases h2 : tight (σ 17) (σ 18) pr' x k with
      | false => rfl
      | true =>
        have := (tight_iff.mp h2).1
        rw [hnb k hk hbk] at this
        exact absurd this (by decide)
  · by_cases q : i = x
    · subst q
      have hdx : bt dem i = false := by
        cases hd : bt dem i with
        | false => rfl
        | true =>
          obtain ⟨k, k1, k2, k3⟩ := hb i hd
          rw [hnb k k1 k2] at k3
          exact absurd k3 (by decide)
      rcases lgm_att (t := i) (fun k hk => ⟨(hXY k hk).1, (hXY k hk).2.1, (hXY k hk).2.2.1, (hXY k hk).2.2.2.1⟩) N (Nat.le_refl N) with ⟨h1, h2⟩ | ⟨j, h1, h2, h3⟩
      · obtain ⟨k, k1, k2⟩ := hex
        have := h2 k k1
        rw [(hc k k1).2, k2] at this
        exact absurd this (by decide)
      · refine ⟨X j - Y j, by have := (hXY j h1).2.2.2.1; omega, ?_⟩
        rw [← hpp, upd_s, hs.2.2.1 i hi hdx, ← b1, h3, nI_add, Nat.zero_add]
    · rw [← hpp, upd_n q]
      exact hpn i hi
