/-! ===== the least of SITES: sets, their numbers; the two loops ===== -/
theorem mbits {m n z : Nat} (hn : n ≤ 10) (hm : m < 2 ^ n) (h : bt (nI m) z = true) : z < n := by
  have h1024 : 2 ^ n ≤ 1024 := Nat.pow_le_pow_right (n := 2) (by decide) hn
  rw [bt_nI (by omega)] at h
  rcases Nat.lt_or_ge z n with q | q
  · exact q
  · rw [Nat.testBit_lt_two_pow (Nat.lt_of_lt_of_le hm (Nat.pow_le_pow_right (by decide) q))] at h
    exact absurd h (by decide)
theorem bitsOf {n : Nat} (hn : n ≤ 10) (S : Nat → Bool) (hS : ∀ z, S z = true → z < n) : ∃ m, m < 2 ^ n ∧ bt (nI m) = S := by
  have h1024 : 2 ^ n ≤ 1024 := Nat.pow_le_pow_right (n := 2) (by decide) hn
  obtain ⟨m, h1, h2⟩ := ofS S n
  refine ⟨m, h1, funext fun z => ?_⟩
  rcases Nat.lt_or_ge z n with q | q
  · rw [bt_nI (by omega)]; exact h2 z q
  · have a : bt (nI m) z = false := bnt (fun w => by have := mbits hn h1 w; omega)
    have b : S z = false := bnt (fun w => by have := hS z w; omega)
    rw [a, b]
theorem ct_ext {S : Nat → Bool} {n : Nat} (hS : ∀ z, S z = true → z < n) : ∀ k, ct S (n + k) = ct S n
  | 0 => rfl
  | k + 1 => by
    show ct S (n + k) + (if S (n + k) then 1 else 0) = ct S n
    have : S (n + k) = false := bnt (fun q => by have := hS _ q; omega)
    rw [ct_ext hS k, this, if_neg Bool.false_ne_true, Nat.add_zero]
theorem popn_ct (x : Int32) : ∀ k, popn x k = ct (bt x) k
  | 0 => rfl
  | k + 1 => by
    rw [popn, ct, popn_ct x k]
    split <;> rfl
theorem bc_ct {m n : Nat} (hn : n ≤ 10) (hm : m < 2 ^ n) : bcF (nI m) = nI (ct (bt (nI m)) n) := by
  have h1024 : 2 ^ n ≤ 1024 := Nat.pow_le_pow_right (n := 2) (by decide) hn
  have e := ct_ext (S := bt (nI m)) (n := n) (fun z hz => mbits hn hm hz) (12 - n)
  rw [show n + (12 - n) = 12 by omega] at e
  rw [bcF_pop m (by omega), popn_ct, e]
theorem ct_diff {S J : Nat → Bool} : ∀ n, (∀ z, z < n → J z = true → S z = true) → ct S n = ct J n + ct (fun z => S z && !J z) n
  | 0, _ => rfl
  | n + 1, h => by
    have h1 := h n (Nat.lt_succ_self n)
    rw [ct, ct, ct, ct_diff n (fun z hz => h z (by omega))]
    cases hj : J n with
    | true => rw [h1 hj]; simp; omega
    | false => cases hs : S n <;> simp; omega
theorem low {x : Int32} (i : Nat) (h : bt x i = true) : ∃ f, bt x f = true ∧ ∀ j, j < f → bt x j = false := by
  by_cases q : ∃ j, j < i ∧ bt x j = true
  · obtain ⟨j, hj, h2⟩ := q
    exact low j h2
  · exact ⟨i, h, fun j hj => bnt (fun w => q ⟨j, hj, w⟩)⟩
termination_by i
theorem some_bit {m : Nat} (h : 1 ≤ m) (hm : m < 2 ^ 31) : ∃ i, bt (nI m) i = true := by
  apply Classical.byContradiction
  intro hn
  have : nI m = 0 := x0_b.mpr (fun i => bnt (fun q => hn ⟨i, q⟩))
  rw [← nI_0] at this
  have := nI_ij hm (by decide) this
  omega
def val (jo most : Int32) (m : Nat) : Prop := nI m &&& jo = 0 ∧ bcF (nI m) ≤ most
theorem blF_spec {fi n : Nat} {D : Nat → Nat → Int32} {jo most : Int32} {T : Nat → Nat} {R : Nat} (hT : ∀ m, m < R → val jo most m → treeF fi n D (jo ||| nI m) = nI (T m) ∧ T m ≤ 20000000) : ∀ M, M ≤ R → ∃ B, B ≤ 1000000 ∧ blF fi n D jo most M = nI B ∧ (B = 1000000 ∨ ∃ m, m < M ∧ val jo most m ∧ T m = B) ∧ ∀ m, m < M → val jo most m → B ≤ T m
  | 0, _ => ⟨1000000, Nat.le_refl _, rfl, Or.inl rfl, fun m h => absurd h (Nat.not_lt_zero m)⟩
  | M + 1, hM => by
    obtain ⟨B, b1, b2, b3, b4⟩ := blF_spec hT M (by omega)
    rw [blF]
    by_cases hv : val jo most M
    · obtain ⟨t1, t2⟩ := hT M (by omega) hv
      rw [if_pos (show nI M &&& jo = 0 ∧ bcF (nI M) ≤ most from hv), b2, t1, imin_nI (by omega) (by omega)]
      refine ⟨min B (T M), by omega, rfl, ?_, fun m hm hvm => ?_⟩
      · rcases Nat.lt_or_ge (T M) B with q | q
        · exact Or.inr ⟨M, Nat.lt_succ_self M, hv, (Nat.min_eq_right (Nat.le_of_lt q)).symm⟩
        · rw [Nat.min_eq_left q]
          rcases b3 with z | ⟨m, z1, z2, z3⟩
          · exact Or.inl z
          · exact Or.inr ⟨m, by omega, z2, z3⟩
      · by_cases e : m = M
        · rw [e]; exact Nat.min_le_right _ _
        · exact Nat.le_trans (Nat.min_le_left _ _) (b4 m (by omega) hvm)
    · rw [if_neg (show ¬ (nI M &&& jo = 0 ∧ bcF (nI M) ≤ most) from hv)]
      refine ⟨B, b1, b2, ?_, fun m hm hvm => ?_⟩
      · rcases b3 with z | ⟨m, z1, z2, z3⟩
        · exact Or.inl z
        · exact Or.inr ⟨m, by omega, z2, z3⟩
      · by_cases e : m = M
        · rw [e] at hvm; exact absurd hvm hv
        · exact b4 m (by omega) hvm
def sub2 (jo : Int32) (m : Nat) : Prop := jo &&& (nI m ^^^ (-1)) = 0
theorem sub2_iff {jo : Int32} {m : Nat} : sub2 jo m ↔ ∀ i, bt jo i = true → bt (nI m) i = true := by
  unfold sub2
  rw [and_0]
  constructor
  · intro h i hi
    have := h i hi
    rw [b_not (bt_lt hi)] at this
    cases q : bt (nI m) i with
    | true => rfl
    | false => rw [q] at this; exact absurd this (by decide)
  · intro h i hi
    rw [b_not (bt_lt hi), h i hi]
    rfl
theorem mbF_spec {w : Nat → Nat → Int32} {jo : Int32} {n R : Nat} {F K : Nat → Nat} (hU : ∀ m, 1 ≤ m → m < R → mtV w (nI m) n (F m) (K m) = (-1000000) ∨ ∃ u, u ≤ 20000 ∧ mtV w (nI m) n (F m) (K m) = nI u) : ∀ M, M + 1 ≤ R → (mbF w jo n F K (M + 1) = (-1000000) ∧ ∀ m, 1 ≤ m → m < M + 1 → sub2 jo m → mtV w (nI m) n (F m) (K m) = (-1000000)) ∨ ∃ W, W ≤ 20000 ∧ mbF w jo n F K (M + 1) = nI W ∧ (∃ m, 1 ≤ m ∧ m < M + 1 ∧ sub2 jo m ∧ mtV w (nI m) n (F m) (K m) = nI W) ∧ ∀ m, 1 ≤ m → m < M + 1 → sub2 jo m → ∀ u, u ≤ 20000 → mtV w (nI m) n (F m) (K m) = nI u → W ≤ u
  | 0, _ => Or.inl ⟨by rw [mbF, if_pos (by rfl)], fun m h1 h2 => by omega⟩
  | M + 1, hM => by
    have ih := mbF_spec (jo := jo) hU M (by omega)
    rw [mbF, if_neg (show ¬ M + 1 + 1 = 1 by omega)]
    by_cases hs : sub2 jo (M + 1)
    · rw [if_pos (show jo &&& (nI (M + 1) ^^^ (-1)) = 0 from hs)]
      rcases hU (M + 1) (by omega) (by omega) with hN | ⟨u, u1, u2⟩
      · rw [if_neg (fun q => q.1 hN)]
        rcases ih with ⟨i1, i2⟩ | ⟨W, i1, i2, ⟨m, a1, a2, a3, a4⟩, i4⟩
        · refine Or.inl ⟨i1, fun m h1 h2 h3 => ?_⟩
          by_cases e : m = M + 1
          · rw [e]; exact hN
          · exact i2 m h1 (by omega) h3
        · refine Or.inr ⟨W, i1, i2, ⟨m, a1, by omega, a3, a4⟩, fun m h1 h2 h3 v v1 v2 => ?_⟩
          by_cases e : m = M + 1
          · rw [e, hN] at v2; exact absurd v2.symm (nI_m6 (by omega))
          · exact i4 m h1 (by omega) h3 v v1 v2
      · rcases ih with ⟨i1, i2⟩ | ⟨W, i1, i2, ⟨m, a1, a2, a3, a4⟩, i4⟩
        · rw [if_pos ⟨by rw [u2]; exact nI_m6 (by omega), Or.inl i1⟩]
          refine Or.inr ⟨u, u1, u2, ⟨M + 1, by omega, by omega, hs, u2⟩, fun m h1 h2 h3 v v1 v2 => ?_⟩
          by_cases e : m = M + 1
          · rw [e, u2] at v2; exact Nat.le_of_eq (nI_ij (by omega) (by omega) v2)
          · rw [i2 m h1 (by omega) h3] at v2; exact absurd v2.symm (nI_m6 (by omega))
        · by_cases hlt : u < W
          · rw [if_pos ⟨by rw [u2]; exact nI_m6 (by omega), Or.inr (by rw [u2, i2]; exact (nI_ltI (by omega) (by omega)).mpr hlt)⟩]
            refine Or.inr ⟨u, u1, u2, ⟨M + 1, by omega, by omega, hs, u2⟩, fun m h1 h2 h3 v v1 v2 => ?_⟩
            by_cases e : m = M + 1
            · rw [e, u2] at v2; exact Nat.le_of_eq (nI_ij (by omega) (by omega) v2)
            · have := i4 m h1 (by omega) h3 v v1 v2
              omega
          · rw [if_neg (fun q => by
              rcases q.2 with z | z
              · rw [i2] at z; exact nI_m6 (by omega) z
              · rw [u2, i2] at z; exact hlt ((nI_ltI (by omega) (by omega)).mp z))]
            refine Or.inr ⟨W, i1, i2, ⟨m, a1, by omega, a3, a4⟩, fun m h1 h2 h3 v v1 v2 => ?_⟩
            by_cases e : m = M + 1
            · rw [e, u2] at v2
              have := nI_ij (by omega) (by omega) v2
              omega
            · exact i4 m h1 (by omega) h3 v v1 v2
    · rw [if_neg (show ¬ jo &&& (nI (M + 1) ^^^ (-1)) = 0 from hs)]
      rcases ih with ⟨i1, i2⟩ | ⟨W, i1, i2, ⟨m, a1, a2, a3, a4⟩, i4⟩
      · refine Or.inl ⟨i1, fun m h1 h2 h3 => ?_⟩
        by_cases e : m = M + 1
        · rw [e] at h3; exact absurd h3 hs
        · exact i2 m h1 (by omega) h3
      · refine Or.inr ⟨W, i1, i2, ⟨m, a1, by omega, a3, a4⟩, fun m h1 h2 h3 v v1 v2 => ?_⟩
        by_cases e : m = M + 1
        · rw [e] at h3; exact absurd h3 hs
        · exact i4 m h1 (by omega) h3 v v1 v2
