/-! ===== a CALL: what the row leaves in both memories ===== -/
theorem bt_or_sh {x : Int32} {u z : Nat} (hu : u < 32) : bt (x ||| sh1 u) z = true ↔ bt x z = true ∨ z = u := by
  unfold sh1
  rw [b_or, Bool.or_eq_true, bt_sh hu, decide_eq_true_iff]
theorem bw_37 {σ : Mem} {u v x : Nat} (h : u ≠ v) : bwM σ u v 37 x = if x = v then σ 37 v ||| sh1 u else if x = u then σ 37 u ||| sh1 v else σ 37 x := by
  unfold bwM
  rw [mu_q (by decide), mu_q (by decide), mu_s, mu_s, upd_n (Ne.symm h)]
  by_cases h1 : x = v
  · rw [h1, upd_s, if_pos rfl]
  · rw [upd_n h1, if_neg h1]
    by_cases h2 : x = u
    · rw [h2, upd_s, if_pos rfl]
    · rw [upd_n h2, if_neg h2]
theorem bw_9 {σ : Mem} {u v : Nat} : bwM σ u v 4 9 = σ 4 9 ||| (sh1 u ||| sh1 v) := by
  unfold bwM
  rw [mu_ni (by decide), mu_at]
theorem bw_10 {σ : Mem} {u v : Nat} : bwM σ u v 4 10 = σ 4 10 + nI 1 := by
  unfold bwM
  rw [mu_at]
def rowI (pb : Nat → Nat) (C M : Mem) (on : Int32) (B k : Nat) : Prop :=
  (∀ x y, x < 10 → y < 10 → (bt (C 37 x) y = true ↔ ¬ M 66 (10 * x + y) = 0)) ∧
  (∀ x y, x < 10 → y < 10 → ¬ M 66 (10 * x + y) = 0 → (bt on x = true ∧ bt on y = true) ∨ ∃ j, j < k ∧ ((x = pb j ∧ y = pb (j + 1)) ∨ (x = pb (j + 1) ∧ y = pb j))) ∧
  (C 4 10 = nI (B + k) ∧ cntZ (M 66) 100 = 2 * (B + k)) ∧
  (∀ z, bt (C 4 9) z = true ↔ bt on z = true ∨ ∃ j, j < k ∧ (z = pb j ∨ z = pb (j + 1))) ∧
  (∀ z, bt (M 52 25) z = true ↔ bt on z = true ∨ ∃ j, j < k ∧ z = pb j)
theorem row_mem {pb : Nat → Nat} {C M : Nat → Mem} {on : Int32} {K B : Nat} (hC : ∀ k, k < K → C (k + 1) = bwM (C k) (pb k) (pb (k + 1))) (hM : ∀ k, k < K → M (k + 1) = mu (mu (mu (M k) 66 (10 * pb k + pb (k + 1)) (nI 1)) 66 (10 * pb (k + 1) + pb k) (nI 1)) 52 25 (M k 52 25 ||| sh1 (pb k))) (hpb : ∀ k, k ≤ K → pb k < 10) (hinj : ∀ i j, i ≤ K → j ≤ K → pb i = pb j → i = j) (hon : ∀ k, k < K → bt on (pb k) = false) (h0 : rowI pb (C 0) (M 0) on B 0) : ∀ k, k ≤ K → rowI pb (C k) (M k) on B k
  | 0, _ => h0
  | k + 1, hk => by
    obtain ⟨i1, i2, ⟨i3, i3'⟩, i4, i5⟩ := row_mem hC hM hpb hinj hon h0 k (by omega)
    have hu := hpb k (by omega)
    have hv := hpb (k + 1) hk
    have huv : pb k ≠ pb (k + 1) := fun e => by have := hinj k (k + 1) (by omega) hk e; omega
    have e66 : M (k + 1) 66 = upd (upd (M k 66) (10 * pb k + pb (k + 1)) (nI 1)) (10 * pb (k + 1) + pb k) (nI 1) := by
      rw [hM k (by omega), mu_q (by decide), mu_s, mu_s]
    have new : ∀ x y, x < 10 → y < 10 → (x = pb k ∧ y = pb (k + 1)) ∨ (x = pb (k + 1) ∧ y = pb k) → M k 66 (10 * x + y) = 0 := by
      intro x y hx hy hxy
      apply Classical.byContradiction
      intro hn
      have ho := hon k (by omega)
      rcases i2 x y hx hy hn with ⟨q1, q2⟩ | ⟨j, hj, q⟩
      · rcases hxy with ⟨rfl, rfl⟩ | ⟨rfl, rfl⟩
        · rw [ho] at q1; exact absurd q1 (by decide)
        · rw [ho] at q2; exact absurd q2 (by decide)
      · rcases hxy with ⟨rfl, rfl⟩ | ⟨rfl, rfl⟩
        · rcases q with ⟨q1, q2⟩ | ⟨q1, q2⟩
          · have := hinj k j (by omega) (by omega) q1
            omega
          · have a1 := hinj (k + 1) j hk (by omega) q2
            omega
        · rcases q with ⟨q1, q2⟩ | ⟨q1, q2⟩
          · have := hinj (k + 1) j hk (by omega) q1
            omega
          · have := hinj k j (by omega) (by omega) q2
            omega
    refine ⟨fun x y hx hy => ?_, fun x y hx hy hp => ?_, ⟨?_, ?_⟩, fun z => ?_, fun z => ?_⟩
    · rw [hC k (by omega), bw_37 huv, e66]
      by_cases c1 : x = pb (k + 1)
      · subst c1
        rw [if_pos rfl, bt_or_sh (by omega), i1 _ y hx hy]
        by_cases c2 : y = pb k
        · subst c2
          rw [upd_s]
          exact ⟨fun _ => nI1_ne0, fun _ => Or.inr rfl⟩
        · rw [upd_n (by omega), upd_n (by omega)]
          exact ⟨fun q => q.resolve_right c2, Or.inl⟩
      · rw [if_neg c1]
        by_cases c2 : x = pb k
        · subst c2
          rw [if_pos rfl, bt_or_sh (by omega), i1 _ y hx hy]
          by_cases c3 : y = pb (k + 1)
          · subst c3
            rw [upd_n (by omega), upd_s]
            exact ⟨fun _ => nI1_ne0, fun _ => Or.inr rfl⟩
          · rw [upd_n (by omega), upd_n (by omega)]
            exact ⟨fun q => q.resolve_right c3, Or.inl⟩
        · rw [if_neg c2, upd_n (by omega), upd_n (by omega)]
          exact i1 x y hx hy
    · rw [e66] at hp
      by_cases c1 : x = pb (k + 1) ∧ y = pb k
      · exact Or.inr ⟨k, Nat.lt_succ_self k, Or.inr c1⟩
      · rw [upd_n (by omega)] at hp
        by_cases c2 : x = pb k ∧ y = pb (k + 1)
        · exact Or.inr ⟨k, Nat.lt_succ_self k, Or.inl c2⟩
        · rw [upd_n (by omega)] at hp
          rcases i2 x y hx hy hp with q | ⟨j, hj, q⟩
          · exact Or.inl q
          · exact Or.inr ⟨j, by omega, q⟩
    · rw [hC k (by omega), bw_10, i3, nI_add]
      rfl
    · have n1 := new (pb k) (pb (k + 1)) hu hv (Or.inl ⟨rfl, rfl⟩)
      have n2 := new (pb (k + 1)) (pb k) hv hu (Or.inr ⟨rfl, rfl⟩)
      rw [e66, cntZ_upd (by rw [upd_n (by omega)]; exact n2), cntZ_upd n1, if_pos (by omega), if_pos (by omega), i3']
      omega
    · rw [hC k (by omega), bw_9, b_or, Bool.or_eq_true, i4 z, bt_or_sh (by omega)]
      unfold sh1
      rw [bt_sh (by omega), decide_eq_true_iff]
      constructor
      · rintro ((q | ⟨j, hj, q⟩) | (q | q))
        · exact Or.inl q
        · exact Or.inr ⟨j, by omega, q⟩
        · exact Or.inr ⟨k, by omega, Or.inl q⟩
        · exact Or.inr ⟨k, by omega, Or.inr q⟩
      · rintro (q | ⟨j, hj, q⟩)
        · exact Or.inl (Or.inl q)
        · by_cases e : j = k
          · subst e; exact Or.inr q
          · exact Or.inl (Or.inr ⟨j, by omega, q⟩)
    · rw [hM k (by omega), mu_at, bt_or_sh (by omega), i5 z]
      constructor
      · rintro ((q | ⟨j, hj, q⟩) | q)
        · exact Or.inl q
        · exact Or.inr ⟨j, by omega, q⟩
        · exact Or.inr ⟨k, by omega, q⟩
      · rintro (q | ⟨j, hj, q⟩)
        · exact Or.inl (Or.inl q)
        · by_cases e : j = k
          · subst e; exact Or.inr q
          · exact Or.inl (Or.inr ⟨j, by omega, q⟩)
theorem joinM_r {σ : Mem} {n a q : Nat} (h : q ≠ 4) (h2 : q ≠ 37) (h3 : q ≠ 38) : joinM σ n a q = σ q := by
  have h1 : j1M σ a q = σ q := by
    unfold j1M
    split
    · rw [mu_q h, mu_q h]
    · rfl
  have e2 : j2M σ n a q = σ q := by
    unfold j2M
    rw [mf_q h3, h1]
  unfold joinM
  split
  · rw [mu_q h, mu_q h]
    unfold j3M
    rw [brM_r h h2, e2]
  · exact e2
