/-! ===== what COVERS tells, both ===== -/
def smN (X : Nat → Nat) (S : Nat → Bool) : Nat → Nat
  | 0 => 0
  | k + 1 => smN X S k + (if S k then X k else 0)
def csN (X : Nat → Nat) (S : Nat → Bool) (n : Nat) : Nat → Nat
  | 0 => 0
  | m + 1 => csN X S n m + (if S (n - (m + 1)) then X (n - (m + 1)) else 0)
theorem cs_sm (X : Nat → Nat) (S : Nat → Bool) (n : Nat) : ∀ m, m ≤ n → csN X S n m + smN X S (n - m) = smN X S n
  | 0, _ => by rw [csN, Nat.sub_zero, Nat.zero_add]
  | m + 1, h => by
    have ih := cs_sm X S n m (by omega)
    rw [show n - m = n - (m + 1) + 1 by omega, smN] at ih
    rw [csN]
    omega
theorem csN_congr {X : Nat → Nat} {S S' : Nat → Bool} {n : Nat} : ∀ m, m ≤ n → (∀ k, n - m ≤ k → k < n → S k = S' k) → csN X S n m = csN X S' n m
  | 0, _, _ => rfl
  | m + 1, h, hs => by rw [csN, csN, csN_congr m (by omega) (fun k h1 h2 => hs k (by omega) h2), hs (n - (m + 1)) (by omega) (by omega)]
theorem csN_le {X : Nat → Nat} {S : Nat → Bool} {n : Nat} (hX : ∀ k, k < n → X k ≤ 1000) : ∀ m, m ≤ n → csN X S n m ≤ 1000 * m
  | 0, _ => Nat.le_refl _
  | m + 1, h => by
    have h1 := csN_le (S := S) hX m (by omega)
    have h2 := hX (n - (m + 1)) (by omega)
    rw [csN]
    split <;> omega
/-- S, of the sets n - m and on, covers mis -/
def cvS (th : Nat → Int32) (S : Nat → Bool) (n m : Nat) (mis : Int32) : Prop := ∀ i, bt mis i = true → ∃ k, n - m ≤ k ∧ k < n ∧ S k = true ∧ bt (th k) i = true
theorem and_0 {x y : Int32} : x &&& y = 0 ↔ ∀ i, bt x i = true → bt y i = false := by
  constructor
  · intro h i hi
    have h1 : bt (x &&& y) i = bt 0 i := by rw [h]
    rw [b_and, b_0, hi, Bool.true_and] at h1
    exact h1
  · intro h
    apply b_ext
    intro i hi
    rw [b_and, b_0]
    cases hx : bt x i with
    | false => rfl
    | true => rw [h i hx]; rfl
theorem b_not {x : Int32} {i : Nat} (hi : i < 32) : bt (x ^^^ (-1)) i = !bt x i := by
  rw [b_xor, b_m1 i hi, Bool.xor_true]
theorem x0_b {x : Int32} : x = 0 ↔ ∀ i, bt x i = false := ⟨fun h i => by rw [h, b_0], fun h => b_ext fun i _ => by rw [h, b_0]⟩
theorem lff_spec {c th : Nat → Int32} {n : Nat} {X : Nat → Nat} (hc : ∀ k, k < n → c k = nI (X k) ∧ X k ≤ 1000) (hn : n ≤ 10) : ∀ m, m ≤ n → ∀ mis : Int32, ∃ V : Nat, V ≤ 1000000 + 1000 * m ∧ lff c th n m mis = nI V ∧ (∀ S, cvS th S n m mis → V ≤ csN X S n m) ∧ (1000000 ≤ V ∨ ∃ S, cvS th S n m mis ∧ csN X S n m = V)
  | 0, _, mis => by
    rw [lff]
    by_cases h : mis = 0
    · rw [if_pos h]
      exact ⟨0, by omega, rfl, fun _ _ => Nat.zero_le _, Or.inr ⟨fun _ => false, fun i hi => by rw [h, b_0] at hi; exact absurd hi (by decide), rfl⟩⟩
    · rw [if_neg h]
      refine ⟨1000000, by omega, rfl, fun S hS => ?_, Or.inl (Nat.le_refl _)⟩
      exfalso
      apply h
      apply x0_b.mpr
      intro i
      cases hb : bt mis i with
      | false => rfl
      | true =>
        obtain ⟨k, h1, h2, -⟩ := hS i hb
        omega
  | m + 1, hm, mis => by
    rw [lff]
    by_cases h : mis = 0
    · rw [if_pos h]
      refine ⟨0, by omega, rfl, fun _ _ => Nat.zero_le _, Or.inr ⟨fun _ => false, fun i hi => by rw [h, b_0] at hi; exact absurd hi (by decide), ?_⟩⟩
      have : ∀ m, csN X (fun _ => false) n m = 0 := by
        intro m
        induction m with
        | zero => rfl
        | succ m ih => rw [csN, ih]; rfl
      exact this _
    · rw [if_neg h]
      obtain ⟨e1, e2⟩ := hc (n - (m + 1)) (by omega)
      have hk : n - (m + 1) < n := by omega
      generalize hkd : n - (m + 1) = k at e1 e2 hk ⊢
      obtain ⟨V, v1, v2, v3, v4⟩ := lff_spec (th := th) hc hn m (by omega) mis
      -- without the set k
      have out : ∀ S, cvS th S n m mis → ∃ S', cvS th S' n (m + 1) mis ∧ csN X S' n (m + 1) = csN X S n m := by
        intro S hS
        refine ⟨fun j => if j = k then false else S j, fun i hi => ?_, ?_⟩
        · obtain ⟨j, a1, a2, a3, a4⟩ := hS i hi
          exact ⟨j, by omega, a2, by show (if j = k then false else S j) = true; rw [if_neg (by omega)]; exact a3, a4⟩
        · rw [csN, hkd, csN_congr (S' := S) m (by omega) (fun j a1 a2 => if_neg (by omega))]
          simp
      have noK : ∀ S, cvS th S n (m + 1) mis → (S k = false ∨ th k &&& mis = 0) → cvS th S n m mis := by
        intro S hS hk2 i hi
        obtain ⟨j, a1, a2, a3, a4⟩ := hS i hi
        refine ⟨j, ?_, a2, a3, a4⟩
        rcases Nat.lt_or_ge j (n - m) with q | q
        · exfalso
          obtain rfl : j = k := by omega
          rcases hk2 with q2 | q2
          · rw [q2] at a3; exact absurd a3 (by decide)
          · rw [(and_0.mp q2) i a4] at hi; exact absurd hi (by decide)
        · exact q
      have cs1 : ∀ S, csN X S n m ≤ csN X S n (m + 1) := fun S => by rw [csN]; omega
      by_cases h2 : th k &&& mis = 0
      · rw [if_pos h2]
        refine ⟨V, by omega, v2, fun S hS => Nat.le_trans (v3 S (noK S hS (Or.inr h2))) (cs1 S), ?_⟩
        rcases v4 with q | ⟨S, q1, q2⟩
        · exact Or.inl q
        · obtain ⟨S', b1, b2⟩ := out S q1
          exact Or.inr ⟨S', b1, by rw [b2, q2]⟩
      · rw [if_neg h2]
        obtain ⟨V', u1, u2, u3, u4⟩ := lff_spec (th := th) hc hn m (by omega) (mis &&& (th k ^^^ (-1)))
        rw [v2, u2, e1, nI_add, imin_nI (by omega) (by omega)]
        have hin : ∀ S, cvS th S n (m + 1) mis → S k = true → cvS th S n m (mis &&& (th k ^^^ (-1))) := by
          clear v4 u4 v3 u3
          intro S hS hSk i hi
          have hi32 := bt_lt hi
          rw [b_and, Bool.and_eq_true, b_not hi32] at hi
          obtain ⟨j, a1, a2, a3, a4⟩ := hS i hi.1
          refine ⟨j, ?_, a2, a3, a4⟩
          rcases Nat.lt_or_ge j (n - m) with q | q
          · exfalso
            obtain rfl : j = k := by omega
            rw [a4] at hi
            exact absurd hi.2 (by decide)
          · exact q
        refine ⟨min V (X k + V'), by omega, rfl, fun S hS => ?_, ?_⟩
        · cases hSk : S k with
          | false =>
            have := v3 S (noK S hS (Or.inl hSk))
            have := cs1 S
            omega
          | true =>
            have h3 := u3 S (hin S hS hSk)
            have h4 : csN X S n (m + 1) = csN X S n m + X k := by rw [csN, hkd, if_pos hSk]
            omega
        · by_cases hm2 : V ≤ X k + V'
          · rw [Nat.min_eq_left hm2]
            rcases v4 with q | ⟨S, q1, q2⟩
            · exact Or.inl q
            · obtain ⟨S', b1, b2⟩ := out S q1
              exact Or.inr ⟨S', b1, by rw [b2, q2]⟩
          · rw [Nat.min_eq_right (by omega)]
            rcases u4 with q | ⟨S, q1, q2⟩
            · exact Or.inl (by omega)
            · refine Or.inr ⟨fun j => if j = k then true else S j, fun i hi => ?_, ?_⟩
              · cases hb : bt (th k) i with
                | true => exact ⟨k, by omega, hk, if_pos rfl, hb⟩
                | false =>
                  obtain ⟨j, a1, a2, a3, a4⟩ := q1 i (by rw [b_and, hi, b_not (bt_lt hi), hb]; rfl)
                  exact ⟨j, by omega, a2, by show (if j = k then true else S j) = true; rw [if_neg (by omega)]; exact a3, a4⟩
              · rw [csN, hkd, csN_congr (S' := S) m (by omega) (fun j a1 a2 => if_neg (by omega)), q2]
                simp
                omega
theorem sumf_N {c : Nat → Int32} {X : Nat → Nat} {n s : Nat} (hc : ∀ k, k < n → c k = nI (X k)) : ∀ k, k ≤ n → sumf c s k = nI (smN X (fun j => bt (nI s) j) k)
  | 0, _ => rfl
  | k + 1, h => by
    rw [sumf, smN, sumf_N hc k (by omega), hc k (by omega)]
    by_cases hb : bt (nI s) k = true
    · rw [if_pos hb, if_pos hb, nI_add]
    · rw [if_neg hb, if_neg hb, Nat.add_zero]
theorem allf_b {th : Nat → Int32} {s i : Nat} : ∀ k, bt (allf th s k) i = true ↔ ∃ j, j < k ∧ bt (nI s) j = true ∧ bt (th j) i = true
  | 0 => by
    rw [allf, nI_0, b_0]
    exact ⟨fun h => (by cases h), fun ⟨j, h, _⟩ => absurd h (Nat.not_lt_zero j)⟩
  | k + 1 => by
    have ih := allf_b (th := th) (s := s) (i := i) k
    rw [allf]
    cases hb : bt (nI s) k with
    | false =>
      rw [if_neg Bool.false_ne_true, ih]
      constructor
      · rintro ⟨j, h, h2⟩
        exact ⟨j, by omega, h2⟩
      · rintro ⟨j, h, h2, h3⟩
        refine ⟨j, ?_, h2, h3⟩
        rcases Nat.lt_or_ge j k with q | q
        · exact q
        · obtain rfl : j = k := by omega
          rw [hb] at h2
          exact absurd h2 (by decide)
    | true =>
      rw [if_pos rfl, b_or, Bool.or_eq_true, ih]
      constructor
      · rintro (⟨j, h, h2⟩ | h)
        · exact ⟨j, by omega, h2⟩
        · exact ⟨k, by omega, hb, h⟩
      · rintro ⟨j, h, h2, h3⟩
        by_cases q : j = k
        · subst q; exact Or.inr h3
        · exact Or.inl ⟨j, by omega, h2, h3⟩
/-- the sets of s cover dem -/
def fea (th : Nat → Int32) (dem : Int32) (n s : Nat) : Prop := ∀ i, bt dem i = true → ∃ j, j < n ∧ bt (nI s) j = true ∧ bt (th j) i = true
theorem fea_iff {th : Nat → Int32} {dem : Int32} {n s : Nat} : dem &&& (allf th s n ^^^ (-1)) = 0 ↔ fea th dem n s := by
  rw [and_0]
  constructor
  · intro h i hi
    have h1 := h i hi
    rw [b_not (bt_lt hi)] at h1
    exact (allf_b n).mp (by cases hb : bt (allf th s n) i with
      | true => rfl
      | false => rw [hb] at h1; exact absurd h1 (by decide))
  · intro h i hi
    rw [b_not (bt_lt hi), (allf_b n).mpr (h i hi)]
    rfl
theorem nI_ltm {a b : Nat} (ha : a < 2 ^ 31) (hb : b < 2 ^ 31) : nI a < nI b ↔ a < b := nI_ltI ha hb
theorem nI_m6 {a : Nat} (ha : a < 2 ^ 31) : ¬ nI a = (-1000000) := fun q => by
  have := congrArg Int32.toInt q
  rw [nI_toInt ha, show (-1000000 : Int32).toInt = -1000000 by decide] at this
  omega
theorem bestf_spec {c th : Nat → Int32} {dem : Int32} {n : Nat} {X : Nat → Nat} (hc : ∀ k, k < n → c k = nI (X k)) (hX : ∀ S, smN X S n ≤ 10000) : ∀ M, ((∀ s, s < M → ¬ fea th dem n s) ∧ bestf c th dem n M = (-1000000)) ∨ ∃ W : Nat, W ≤ 10000 ∧ bestf c th dem n M = nI W ∧ (∃ s, s < M ∧ fea th dem n s ∧ smN X (fun j => bt (nI s) j) n = W) ∧ ∀ s, s < M → fea th dem n s → W ≤ smN X (fun j => bt (nI s) j) n
  | 0 => Or.inl ⟨fun s h => absurd h (Nat.not_lt_zero s), rfl⟩
  | M + 1 => by
    have ih := bestf_spec (th := th) (dem := dem) hc hX M
    rw [bestf, sumf_N hc n (Nat.le_refl n)]
    have hs := hX (fun j => bt (nI M) j)
    by_cases hf : fea th dem n M
    · refine Or.inr ?_
      rcases ih with ⟨h1, h2⟩ | ⟨W, w1, w2, ⟨s, w3, w4, w5⟩, w6⟩
      · rw [if_pos ⟨fea_iff.mpr hf, Or.inl h2⟩]
        refine ⟨_, hs, rfl, ⟨M, by omega, hf, rfl⟩, fun s a1 a2 => ?_⟩
        by_cases e : s = M
        · subst e; exact Nat.le_refl _
        · exact absurd a2 (h1 s (by omega))
      · rw [w2]
        by_cases hlt : smN X (fun j => bt (nI M) j) n < W
        · rw [if_pos ⟨fea_iff.mpr hf, Or.inr ((nI_ltm (by omega) (by omega)).mpr hlt)⟩]
          refine ⟨_, hs, rfl, ⟨M, by omega, hf, rfl⟩, fun s a1 a2 => ?_⟩
          by_cases e : s = M
          · subst e; exact Nat.le_refl _
          · have := w6 s (by omega) a2; omega
        · rw [if_neg (fun q => q.2.elim (nI_m6 (by omega)) (fun z => hlt ((nI_ltm (by omega) (by omega)).mp z)))]
          refine ⟨W, w1, rfl, ⟨s, by omega, w4, w5⟩, fun s a1 a2 => ?_⟩
          by_cases e : s = M
          · subst e; omega
          · exact w6 s (by omega) a2
    · rw [if_neg (fun q => hf (fea_iff.mp q.1))]
      rcases ih with ⟨h1, h2⟩ | ⟨W, w1, w2, ⟨s, w3, w4, w5⟩, w6⟩
      · refine Or.inl ⟨fun s a1 => ?_, h2⟩
        by_cases e : s = M
        · subst e; exact hf
        · exact h1 s (by omega)
      · refine Or.inr ⟨W, w1, w2, ⟨s, by omega, w4, w5⟩, fun s a1 a2 => ?_⟩
        by_cases e : s = M
        · subst e; exact absurd a2 hf
        · exact w6 s (by omega) a2
theorem ofS (S : Nat → Bool) : ∀ n, ∃ s, s < 2 ^ n ∧ ∀ k, k < n → s.testBit k = S k
  | 0 => ⟨0, by decide, fun k h => absurd h (Nat.not_lt_zero k)⟩
  | n + 1 => by
    obtain ⟨s, h1, h2⟩ := ofS S n
    have hlt : s < 2 ^ (n + 1) := Nat.lt_of_lt_of_le h1 (Nat.pow_le_pow_right (by decide) (by omega))
    cases hn : S n with
    | false =>
      refine ⟨s, hlt, fun k hk => ?_⟩
      by_cases e : k = n
      · subst e; rw [hn]; exact Nat.testBit_lt_two_pow h1
      · exact h2 k (by omega)
    | true =>
      refine ⟨s ||| 2 ^ n, Nat.or_lt_two_pow hlt (Nat.pow_lt_pow_right (by decide) (by omega)), fun k hk => ?_⟩
      rw [Nat.testBit_or, Nat.testBit_two_pow]
      by_cases e : k = n
      · subst e; rw [hn, decide_eq_true rfl, Bool.or_true]
      · rw [decide_eq_false (Ne.symm e), Bool.or_false]; exact h2 k (by omega)
theorem smN_congr {X : Nat → Nat} {S S' : Nat → Bool} : ∀ n, (∀ k, k < n → S k = S' k) → smN X S n = smN X S' n
  | 0, _ => rfl
  | n + 1, h => by rw [smN, smN, smN_congr n (fun k hk => h k (by omega)), h n (by omega)]
theorem least_sets {c th pr : Nat → Int32} {n : Nat} {of dem bo me : Int32} (hn : n ≤ 10) (h : setsOK c th pr n of dem bo me) : lff c th n n dem = bestf c th dem n (2 ^ n) := by
  obtain ⟨X, Y, hXY⟩ := X_Y h.1
  have hp : (2 : Nat) ^ n ≤ 2 ^ 10 := Nat.pow_le_pow_right (by decide) hn
  have hle : ∀ S, smN X S n ≤ 10000 := fun S => by
    have h1 := cs_sm X S n n (Nat.le_refl n)
    have h2 := csN_le (X := X) (S := S) (n := n) (fun k hk => (hXY k hk).2.2.2.1) n (Nat.le_refl n)
    rw [Nat.sub_self, smN] at h1
    omega
  have cs0 : ∀ S, csN X S n n = smN X S n := fun S => by
    have h1 := cs_sm X S n n (Nat.le_refl n)
    rw [Nat.sub_self, smN] at h1
    omega
  obtain ⟨V, v1, v2, v3, v4⟩ := lff_spec (c := c) (th := th) (n := n) (X := X) (fun k hk => ⟨(hXY k hk).1, (hXY k hk).2.2.2.1⟩) hn n (Nat.le_refl n) dem
  have bitS : ∀ S : Nat → Bool, ∃ s, s < 2 ^ n ∧ ∀ k, k < n → bt (nI s) k = S k := fun S => by
    obtain ⟨s, h1, h2⟩ := ofS S n
    exact ⟨s, h1, fun k hk => by rw [bt_nI (by omega)]; exact h2 k hk⟩
  have feaS : ∀ S : Nat → Bool, cvS th S n n dem → ∃ s, s < 2 ^ n ∧ fea th dem n s ∧ smN X (fun j => bt (nI s) j) n = smN X S n := fun S hS => by
    obtain ⟨s, h1, h2⟩ := bitS S
    refine ⟨s, h1, fun i hi => ?_, smN_congr n h2⟩
    obtain ⟨k, a1, a2, a3, a4⟩ := hS i hi
    exact ⟨k, a2, by rw [h2 k a2]; exact a3, a4⟩
  have all : cvS th (fun _ => true) n n dem := fun i hi => by
    obtain ⟨h12, ho⟩ := h.2.2.2.2.1 i hi
    obtain ⟨k, a1, a2⟩ := (h.2.2.2.1 i h12).mp ho
    exact ⟨k, by omega, a1, rfl, a2⟩
  rcases bestf_spec (c := c) (th := th) (dem := dem) (n := n) (X := X) (fun k hk => (hXY k hk).1) hle (2 ^ n) with ⟨b1, -⟩ | ⟨W, w1, w2, ⟨s, w3, w4, w5⟩, w6⟩
  · obtain ⟨s, h1, h2, -⟩ := feaS _ all
    exact absurd h2 (b1 s h1)
  · rw [v2, w2]
    congr 1
    have a1 : V ≤ W := by
      rw [← w5, ← cs0]
      refine v3 _ (fun i hi => ?_)
      obtain ⟨j, q1, q2, q3⟩ := w4 i hi
      exact ⟨j, by omega, q1, q2, q3⟩
    have a2 : W ≤ V := by
      rcases v4 with q | ⟨S, q1, q2⟩
      · omega
      · obtain ⟨s', b1, b2, b3⟩ := feaS S q1
        rw [← q2, cs0, ← b3]
        exact w6 s' b1 b2
    omega
theorem mcv_1 {pr th : Nat → Int32} {dem : Int32} {n : Nat} : ∀ t, t ≤ 12 → mcv (nI 1) pr th dem n t = pf (nI 4095) pr t
  | 0, _ => rfl
  | t + 1, h => by
    have hb : bt (nI 4095) t = true := (by decide +kernel : ∀ t, t < 12 → bt (nI 4095) t = true) t (by omega)
    rw [mcv, pf, if_pos rfl, mcv_1 t (by omega), if_pos hb]
theorem shm_h {th : Nat → Int32} {dem : Int32} {t : Nat} : ∀ n, shm th dem t n = if bt dem t then havf th t n else 0
  | 0 => by rw [shm, havf]; split <;> rfl
  | n + 1 => by
    rw [shm, havf, shm_h n]
    cases bt dem t <;> cases bt (th n) t <;> rfl
theorem imax_nI {a b : Nat} (ha : a < 2 ^ 31) (hb : b < 2 ^ 31) : imax (nI a) (nI b) = nI (max a b) := by
  unfold imax
  by_cases h : a < b
  · rw [if_pos ((nI_ltI ha hb).mpr h), Nat.max_eq_right (by omega)]
  · rw [if_neg (fun q => h ((nI_ltI ha hb).mp q)), Nat.max_eq_left (by omega)]
theorem havf_le2 (th : Nat → Int32) (t : Nat) : ∀ k, havf th t k ≤ k
  | 0 => Nat.le_refl _
  | k + 1 => by
    have := havf_le2 th t k
    unfold havf
    split <;> omega
theorem mcv_3 {pr th : Nat → Int32} {dem : Int32} {n : Nat} (hn : n ≤ 10) : ∀ t, ∃ v : Nat, v ≤ 10 ∧ sharf dem th n t = nI v ∧ mcv (nI 3) pr th dem n t = nI v
  | 0 => ⟨0, by decide, rfl, rfl⟩
  | t + 1 => by
    obtain ⟨v, h1, h2, h3⟩ := mcv_3 (pr := pr) (th := th) (dem := dem) hn t
    have h4 := havf_le2 th t n
    rw [sharf, mcv, if_neg (show ¬ nI 3 = nI 1 by decide +kernel), h2, h3, shm_h]
    cases hb : bt dem t with
    | false =>
      rw [if_neg Bool.false_ne_true, if_neg Bool.false_ne_true, imax_nI (by omega) (by decide), Nat.max_eq_left (Nat.zero_le v)]
      exact ⟨v, h1, rfl, rfl⟩
    | true =>
      rw [if_pos rfl, if_pos rfl, imax_nI (by omega) (by omega)]
      exact ⟨_, by omega, rfl, rfl⟩
theorem t_covers (w : Int32) (σ : Mem) (g : GT σ) : Pair yX5_covers cX5_covers 2 13 [.ref 0, .int w] yX6_covers cX6_covers 6 1 [.ref 52, .int w] σ (frAll σ) := by
  obtain ⟨n, h10, e1, e2, e3, e4, e5, e6, e7, e8, hs⟩ := g
  have k2 := c_mcovers n w σ e2 h10
  rw [e3, e4, e5, e6, e7, e8] at k2
  have e : mcoversF n (σ 17) (σ 18) (σ 19) (σ 2 8) (σ 2 5) (σ 2 6) w = coversF n (σ 17) (σ 18) (σ 19) (σ 2 8) (σ 2 5) (σ 2 6) w := by
    obtain ⟨v, -, v1, v2⟩ := mcv_3 (pr := σ 19) (th := σ 18) (dem := σ 2 5) h10 12
    unfold mcoversF coversF
    rw [mcv_1 12 (Nat.le_refl 12), v2, v1, least_sets h10 hs]
  rw [e] at k2
  exact ⟨_, _, _, c_covers n w σ e1 h10, k2, fr_m0 σ⟩

