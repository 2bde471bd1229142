/-! ===== SETS, both: offer, demand, demands ===== -/
theorem bt_nI {m i : Nat} (h : m < 2 ^ 31) : bt (nI m) i = m.testBit i := by
  show (Int32.ofNat m).toBitVec.getLsbD i = _
  rw [show (Int32.ofNat m).toBitVec = BitVec.ofNat 32 m from rfl, BitVec.getLsbD_ofNat]
  by_cases hi : i < 32
  · rw [decide_eq_true hi, Bool.true_and]
  · rw [decide_eq_false hi, Bool.false_and]
    exact (Nat.testBit_lt_two_pow (Nat.lt_of_lt_of_le h (Nat.pow_le_pow_right (by decide) (by omega)))).symm
theorem bt_lt {x : Int32} {i : Nat} (h : bt x i = true) : i < 32 := by
  rcases Nat.lt_or_ge i 32 with h1 | h1
  · exact h1
  · rw [b_big h1] at h
    exact absurd h (by decide)
theorem bt_sh {k i : Nat} (hk : k < 32) : bt (nI 1 <<< (nI k &&& 31)) i = decide (i = k) := by
  rcases Nat.lt_or_ge i 32 with hi | hi
  · rw [b_shl k hk (nI 1) hi]
    by_cases h : k ≤ i
    · rw [decide_eq_true h, Bool.true_and, b_one _ (by omega)]
      exact decide_eq_decide.mpr (by omega)
    · rw [decide_eq_false h, Bool.false_and]
      exact (decide_eq_false (by omega)).symm
  · rw [b_big hi]
    exact (decide_eq_false (by omega)).symm
theorem bits_nI {x : Int32} {N : Nat} (hN : N ≤ 30) (h : ∀ i, bt x i = true → i < N) : ∃ m : Nat, m < 2 ^ N ∧ x = nI m := by
  have hlt : x.toBitVec.toNat < 2 ^ N := by
    apply Nat.lt_pow_two_of_testBit
    intro i hi
    cases hb : x.toBitVec.toNat.testBit i with
    | false => rfl
    | true => exact absurd (h i hb) (by omega)
  refine ⟨x.toBitVec.toNat, hlt, ?_⟩
  apply Int32.toBitVec_inj.mp
  show x.toBitVec = BitVec.ofNat 32 x.toBitVec.toNat
  rw [BitVec.ofNat_toNat, BitVec.setWidth_eq]
theorem owf_iff {bo : Int32} {th : Nat → Int32} {t : Nat} : ∀ n, owf bo th t n = true ↔ ∃ k, k < n ∧ bt (th k) t = true ∧ bt bo k = true
  | 0 => ⟨fun h => (by cases h), fun ⟨k, h, _⟩ => absurd h (Nat.not_lt_zero k)⟩
  | n + 1 => by
    rw [owf]
    have ih := owf_iff (bo := bo) (th := th) (t := t) n
    constructor
    · intro h
      cases hb : bt (th n) t with
      | false =>
        rw [hb, if_neg Bool.false_ne_true] at h
        obtain ⟨k, h1, h2⟩ := ih.mp h
        exact ⟨k, by omega, h2⟩
      | true =>
        rw [hb, if_pos rfl, Bool.or_eq_true] at h
        rcases h with h | h
        · obtain ⟨k, h1, h2⟩ := ih.mp h
          exact ⟨k, by omega, h2⟩
        · exact ⟨n, by omega, hb, h⟩
    · rintro ⟨k, h1, h2, h3⟩
      by_cases hk : k = n
      · subst hk
        rw [h2, if_pos rfl, h3, Bool.or_true]
      · have h4 := ih.mpr ⟨k, by omega, h2, h3⟩
        rw [h4]
        split
        · rfl
        · rfl
theorem smf_iff {th : Nat → Int32} {t : Nat} : ∀ n, smf th t n = true ↔ ∃ k, k < n ∧ bt (th k) t = true
  | 0 => ⟨fun h => (by cases h), fun ⟨k, h, _⟩ => absurd h (Nat.not_lt_zero k)⟩
  | n + 1 => by
    rw [smf]
    have ih := smf_iff (th := th) (t := t) n
    constructor
    · intro h
      cases hb : bt (th n) t with
      | false =>
        rw [hb, if_neg Bool.false_ne_true] at h
        obtain ⟨k, h1, h2⟩ := ih.mp h
        exact ⟨k, by omega, h2⟩
      | true => exact ⟨n, by omega, hb⟩
    · rintro ⟨k, h1, h2⟩
      by_cases hk : k = n
      · subst hk
        rw [h2, if_pos rfl]
      · rw [ih.mpr ⟨k, by omega, h2⟩]
        split <;> rfl
theorem tight_iff {c th pr : Nat → Int32} {t k : Nat} : tight c th pr t k = true ↔ bt (th k) t = true ∧ pf (th k) pr 12 = c k := by
  unfold tight
  rw [Bool.and_eq_true, decide_eq_true_iff]
theorem buyB_bt {c th pr : Nat → Int32} {t : Nat} {b : Int32} {i : Nat} : ∀ k, k ≤ 32 → (bt (buyB c th pr t b k) i = true ↔ bt b i = true ∨ (i < k ∧ tight c th pr t i = true))
  | 0, _ => by
    rw [buyB]
    exact ⟨Or.inl, fun h => h.elim id (fun h => absurd h.1 (Nat.not_lt_zero i))⟩
  | k + 1, hk => by
    have ih := buyB_bt (c := c) (th := th) (pr := pr) (t := t) (b := b) (i := i) k (by omega)
    rw [buyB]
    cases ht : tight c th pr t k with
    | false =>
      rw [if_neg Bool.false_ne_true, ih]
      constructor
      · rintro (h | ⟨h, h2⟩)
        · exact Or.inl h
        · exact Or.inr ⟨by omega, h2⟩
      · rintro (h | ⟨h, h2⟩)
        · exact Or.inl h
        · refine Or.inr ⟨?_, h2⟩
          rcases Nat.lt_or_ge i k with q | q
          · exact q
          · obtain rfl : i = k := by omega
            rw [ht] at h2
            exact absurd h2 (by decide)
    | true =>
      rw [if_pos rfl, b_or, Bool.or_eq_true, ih, bt_sh (by omega), decide_eq_true_iff]
      constructor
      · rintro ((h | ⟨h, h2⟩) | rfl)
        · exact Or.inl h
        · exact Or.inr ⟨by omega, h2⟩
        · exact Or.inr ⟨by omega, ht⟩
      · rintro (h | ⟨h, h2⟩)
        · exact Or.inl (Or.inl h)
        · by_cases q : i = k
          · exact Or.inr q
          · exact Or.inl (Or.inr ⟨by omega, h2⟩)
theorem buyM_bt {c th pr : Nat → Int32} {t : Nat} {b : Int32} {i : Nat} : ∀ k, (bt (buyM c th pr t b k) i = true ↔ bt b i = true ∨ ∃ j, j < k ∧ tight c th pr t j = true ∧ bt (th j) i = true)
  | 0 => by
    rw [buyM]
    exact ⟨Or.inl, fun h => h.elim id (fun ⟨j, h, _⟩ => absurd h (Nat.not_lt_zero j))⟩
  | k + 1 => by
    have ih := buyM_bt (c := c) (th := th) (pr := pr) (t := t) (b := b) (i := i) k
    rw [buyM]
    cases ht : tight c th pr t k with
    | false =>
      rw [if_neg Bool.false_ne_true, ih]
      constructor
      · rintro (h | ⟨j, h, h2⟩)
        · exact Or.inl h
        · exact Or.inr ⟨j, by omega, h2⟩
      · rintro (h | ⟨j, h, h2, h3⟩)
        · exact Or.inl h
        · refine Or.inr ⟨j, ?_, h2, h3⟩
          rcases Nat.lt_or_ge j k with q | q
          · exact q
          · obtain rfl : j = k := by omega
            rw [ht] at h2
            exact absurd h2 (by decide)
    | true =>
      rw [if_pos rfl, b_or, Bool.or_eq_true, ih]
      constructor
      · rintro ((h | ⟨j, h, h2⟩) | h)
        · exact Or.inl h
        · exact Or.inr ⟨j, by omega, h2⟩
        · exact Or.inr ⟨k, by omega, ht, h⟩
      · rintro (h | ⟨j, h, h2, h3⟩)
        · exact Or.inl (Or.inl h)
        · by_cases q : j = k
          · subst q
            exact Or.inr h3
          · exact Or.inl (Or.inr ⟨j, by omega, h2, h3⟩)
theorem buyC_nI {c th pr : Nat → Int32} {t : Nat} {n : Nat} (hc : ∀ k, k < n → ∃ x : Nat, x ≤ 1000 ∧ c k = nI x) : ∀ k, k ≤ n → ∃ s : Nat, s ≤ 1000 * k ∧ buyC c th pr t k = nI s
  | 0, _ => ⟨0, Nat.le_refl _, rfl⟩
  | k + 1, hk => by
    obtain ⟨s, h1, h2⟩ := buyC_nI hc k (by omega)
    obtain ⟨x, h3, h4⟩ := hc k (by omega)
    rw [buyC, h2, h4]
    split
    · exact ⟨s + x, by omega, nI_add s x⟩
    · exact ⟨s, by omega, rfl⟩
theorem pf_upd {b : Int32} {pr : Nat → Int32} {t : Nat} {g : Int32} : ∀ m, pf b (upd pr t (pr t + g)) m = if t < m ∧ bt b t = true then pf b pr m + g else pf b pr m
  | 0 => by rw [if_neg (fun h => absurd h.1 (Nat.not_lt_zero t))]; rfl
  | m + 1 => by
    rw [pf, pf, pf_upd m]
    by_cases hb : bt b m = true
    · rw [if_pos hb, if_pos hb]
      by_cases hm : m = t
      · subst hm
        rw [if_neg (fun h => absurd h.1 (Nat.lt_irrefl m)), upd_s, if_pos ⟨Nat.lt_succ_self m, hb⟩, Int32.add_assoc]
      · rw [upd_n hm]
        by_cases h1 : t < m ∧ bt b t = true
        · rw [if_pos h1, if_pos ⟨by omega, h1.2⟩, Int32.add_assoc, Int32.add_assoc, Int32.add_comm g]
        · rw [if_neg h1, if_neg (fun h => h1 ⟨by omega, h.2⟩)]
    · rw [if_neg hb, if_neg hb]
      by_cases h1 : t < m ∧ bt b t = true
      · rw [if_pos h1, if_pos ⟨by omega, h1.2⟩]
      · rw [if_neg h1, if_neg (fun h => h1 ⟨by
          by_cases q : m = t
          · subst q; exact absurd h.2 hb
          · omega, h.2⟩)]
theorem imin_nI {a b : Nat} (ha : a < 2 ^ 31) (hb : b < 2 ^ 31) : imin (nI a) (nI b) = nI (min a b) := by
  unfold imin
  by_cases h : b < a
  · rw [if_pos ((nI_ltI hb ha).mpr h), Nat.min_eq_right (by omega)]
  · rw [if_neg (fun q => h ((nI_ltI hb ha).mp q)), Nat.min_eq_left (by omega)]
theorem lgap_spec {c th pr : Nat → Int32} {t n : Nat} {X Y : Nat → Nat} (hc : ∀ k, k < n → c k = nI (X k) ∧ pf (th k) pr 12 = nI (Y k) ∧ Y k ≤ X k ∧ X k ≤ 1000) : ∀ k, k ≤ n → ∃ G : Nat, G ≤ 1000 ∧ lgap c th pr t k = nI G ∧ (∀ j, j < k → bt (th j) t = true → G ≤ X j - Y j) ∧ ((∃ j, j < k ∧ bt (th j) t = true) → lgm c th pr t k = nI G) ∧ ((¬ ∃ j, j < k ∧ bt (th j) t = true) → lgm c th pr t k = nI 1000000 ∧ G = 1000)
  | 0, _ => ⟨1000, Nat.le_refl _, rfl, fun j h => absurd h (Nat.not_lt_zero j), fun ⟨j, h, _⟩ => absurd h (Nat.not_lt_zero j), fun _ => ⟨rfl, rfl⟩⟩
  | k + 1, hk => by
    obtain ⟨G, h1, h2, h3, h4, h5⟩ := lgap_spec hc k (by omega)
    obtain ⟨e1, e2, e3, e4⟩ := hc k (by omega)
    rw [lgap, lgm]
    cases hb : bt (th k) t with
    | false =>
      rw [if_neg Bool.false_ne_true, if_neg Bool.false_ne_true]
      have hx : (∃ j, j < k + 1 ∧ bt (th j) t = true) → ∃ j, j < k ∧ bt (th j) t = true := by
        rintro ⟨j, q1, q2⟩
        refine ⟨j, ?_, q2⟩
        rcases Nat.lt_or_ge j k with q | q
        · exact q
        · obtain rfl : j = k := by omega
          rw [hb] at q2
          exact absurd q2 (by decide)
      refine ⟨G, h1, h2, fun j q1 q2 => ?_, fun q => h4 (hx q), fun q => h5 (fun ⟨j, q1, q2⟩ => q ⟨j, by omega, q2⟩)⟩
      obtain ⟨j', q3, q4⟩ := hx ⟨j, q1, q2⟩
      rcases Nat.lt_or_ge j k with q | q
      · exact h3 j q q2
      · obtain rfl : j = k := by omega
        rw [hb] at q2
        exact absurd q2 (by decide)
    | true =>
      rw [if_pos rfl, if_pos rfl, e1, e2, pk_sub e3, h2, imin_nI (by omega) (by omega)]
      refine ⟨min G (X k - Y k), by omega, rfl, fun j q1 q2 => ?_, fun _ => ?_, fun q => absurd ⟨k, by omega, hb⟩ q⟩
      · by_cases q : j = k
        · subst q; omega
        · have := h3 j (by omega) q2; omega
      · by_cases q : ∃ j, j < k ∧ bt (th j) t = true
        · rw [h4 q, imin_nI (by omega) (by omega)]
        · obtain ⟨q5, q6⟩ := h5 q
          rw [q5, imin_nI (by omega) (by omega), q6]
          congr 1
          omega

