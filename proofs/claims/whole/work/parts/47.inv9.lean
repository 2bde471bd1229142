/-! ===== LEASES, both: the relation, lease, day, covered ===== -/
def leOKs (c pr : Nat → Int32) (L : Nat → Nat) (n D : Nat) (as bf ib : Nat → Int32) (das sp : Int32) : Prop :=
  (∀ k, k + 1 < n → 2 * L k ≤ L (k + 1) ∧ L (k + 1) % L k = 0) ∧
  (∀ k, k < n → ∃ x : Nat, 1 ≤ x ∧ x ≤ 1000 ∧ c k = nI x ∧ ∀ f, f % L k = 0 → ∃ y : Nat, y ≤ x ∧ ps pr f (L k) = nI y) ∧
  (∀ d, D ≤ d → pr d = nI 0 ∧ as d = nI 0) ∧
  (0 < D → ¬ as (D - 1) = nI 0) ∧
  das = nI (cntZ as 128) ∧
  (∀ k f, k < 4 → f < 128 → (bt (bf f) k = true ↔ ¬ ib (128 * k + f) = 0)) ∧
  sp = nI (cntZ ib 512)
def GLn (σ : Mem) (n D : Nat) (L : Nat → Nat) : Prop := n ≤ 4 ∧ (D ≤ 128 ∧ (n = 0 → D = 0)) ∧ σ 3 6 = nI n ∧ σ 52 12 = nI n ∧ σ 59 = σ 20 ∧ σ 60 = σ 21 ∧ σ 62 = σ 22 ∧ σ 61 = σ 23 ∧ σ 3 7 = nI D - nI 1 ∧ σ 52 18 = nI D - nI 1 ∧ σ 52 19 = σ 3 10 ∧ lok σ 20 n L ∧ leOKs (σ 21) (σ 22) L n D (σ 23) (σ 24) (σ 63) (σ 3 8) (σ 3 9)
def GL (σ : Mem) : Prop := ∃ (n D : Nat) (L : Nat → Nat), GLn σ n D L
theorem GLn.fr {σ τ : Mem} {n D : Nat} {L : Nat → Nat} (h : frL σ τ) (g : GLn σ n D L) : GLn τ n D L := by
  unfold GLn lok
  rw [h.1 3 (by omega), h.1 20 (by omega), h.1 21 (by omega), h.1 22 (by omega), h.1 23 (by omega), h.1 24 (by omega), h.1 59 (by omega), h.1 60 (by omega), h.1 61 (by omega), h.1 62 (by omega), h.1 63 (by omega), h.2 12 (by omega), h.2 18 (by omega), h.2 19 (by omega)]
  exact g
theorem GL.fr {σ τ : Mem} (h : frL σ τ) (g : GL σ) : GL τ := g.elim fun n g => g.elim fun D g => g.elim fun L g => ⟨n, D, L, g.fr h⟩
theorem fo_lt {L d : Nat} (hL : 0 < L) : d < fo L d + L := by
  have h1 := Nat.mod_lt d hL
  have h2 := Nat.mod_le d L
  unfold fo
  omega
theorem fo_mod {L d : Nat} : fo L d % L = 0 := by
  unfold fo
  exact Nat.sub_mod_eq_zero_of_mod_eq (Nat.mod_mod d L).symm
theorem fo_eq {L d f : Nat} (hL : 0 < L) (hf : f % L = 0) (h1 : f ≤ d) (h2 : d < f + L) : fo L d = f := by
  have e : d % L = d - f := by
    have h3 : d = f + (d - f) := by omega
    have h4 : (f + (d - f)) % L = (d - f) % L := by rw [Nat.add_mod, hf, Nat.zero_add, Nat.mod_mod]
    rw [← h3, Nat.mod_eq_of_lt (a := d - f) (by omega)] at h4
    exact h4
  unfold fo
  omega
theorem ps_upd {pr : Nat → Int32} {d : Nat} {g : Int32} {a : Nat} (hd : d < 128) : ∀ m, ps (upd pr d (pr d + g)) a m = if a ≤ d ∧ d < a + m then ps pr a m + g else ps pr a m
  | 0 => by rw [if_neg (by omega)]; rfl
  | m + 1 => by
    rw [ps, ps, ps_upd hd m]
    by_cases h1 : a + m < 128
    · rw [if_pos h1, if_pos h1]
      by_cases h2 : a + m = d
      · rw [if_neg (by omega), if_pos (by omega), h2, upd_s, Int32.add_assoc]
      · rw [upd_n h2]
        by_cases h3 : a ≤ d ∧ d < a + m
        · rw [if_pos h3, if_pos (by omega), Int32.add_assoc, Int32.add_assoc, Int32.add_comm g]
        · rw [if_neg h3, if_neg (by omega)]
    · rw [if_neg h1, if_neg h1]
      by_cases h3 : a ≤ d ∧ d < a + m
      · rw [if_pos h3, if_pos (by omega)]
      · rw [if_neg h3, if_neg (by omega)]
theorem met_cov {bf ib : Nat → Int32} {L : Nat → Nat} {d : Nat} (hd : d < 128) (h : ∀ k f, k < 4 → f < 128 → (bt (bf f) k = true ↔ ¬ ib (128 * k + f) = 0)) : ∀ n, n ≤ 4 → metf bf L d n = covf ib L d n
  | 0, _ => rfl
  | n + 1, hn => by
    rw [metf, covf, met_cov hd h n (by omega)]
    have h1 := h n (fo (L n) d) (by omega) (Nat.lt_of_le_of_lt (fo_le _ _) hd)
    congr 1
    cases hb : bt (bf (fo (L n) d)) n with
    | true => exact (decide_eq_true (h1.mp hb)).symm
    | false => exact (decide_eq_false (fun q => by rw [h1.mpr q] at hb; exact absurd hb (by decide))).symm
theorem cov_iff {ib : Nat → Int32} {L : Nat → Nat} {d : Nat} : ∀ n, covf ib L d n = false → ∀ k, k < n → ib (128 * k + fo (L k) d) = 0
  | 0, _, k, hk => absurd hk (Nat.not_lt_zero k)
  | n + 1, h, k, hk => by
    rw [covf, Bool.or_eq_false_iff] at h
    by_cases e : k = n
    · subst e
      have := of_decide_eq_false h.2
      exact Classical.not_not.mp this
    · exact cov_iff n h.1 k (by omega)
theorem lgL_spec {c pr : Nat → Int32} {L : Nat → Nat} {d n : Nat} {X Y : Nat → Nat} (hc : ∀ k, k < n → c k = nI (X k) ∧ ps pr (fo (L k) d) (L k) = nI (Y k) ∧ Y k ≤ X k ∧ X k ≤ 1000) : ∀ k, k ≤ n → ∃ G : Nat, G ≤ 1000 ∧ lgL c pr L d k = nI G ∧ (∀ j, j < k → G ≤ X j - Y j) ∧ (lgLm c pr L d k = nI (if k = 0 then 1000000 else G)) ∧ (k = 0 → G = 1000)
  | 0, _ => ⟨1000, Nat.le_refl _, rfl, fun j h => absurd h (Nat.not_lt_zero j), rfl, fun _ => rfl⟩
  | k + 1, hk => by
    obtain ⟨G, h1, h2, h3, h4, h5⟩ := lgL_spec hc k (by omega)
    obtain ⟨e1, e2, e3, e4⟩ := hc k (by omega)
    rw [lgL, lgLm, e1, e2, pk_sub e3, h2, h4, imin_nI (by omega) (by omega), imin_nI (by split <;> omega) (by omega)]
    refine ⟨min G (X k - Y k), by omega, rfl, fun j q => ?_, ?_, fun q => by omega⟩
    · by_cases e : j = k
      · subst e; omega
      · have := h3 j (by omega); omega
    · rw [if_neg (show ¬ k + 1 = 0 by omega)]
      congr 1
      by_cases e : k = 0
      · have := h5 e
        rw [if_pos e]; omega
      · rw [if_neg e]
theorem bcL_nI {c pr : Nat → Int32} {L : Nat → Nat} {d n : Nat} (hc : ∀ k, k < n → ∃ x : Nat, x ≤ 1000 ∧ c k = nI x) : ∀ k, k ≤ n → ∃ s : Nat, s ≤ 1000 * k ∧ bcL c pr L d k = nI s
  | 0, _ => ⟨0, Nat.le_refl _, rfl⟩
  | k + 1, hk => by
    obtain ⟨s, h1, h2⟩ := bcL_nI (pr := pr) (L := L) (d := d) hc k (by omega)
    obtain ⟨x, h3, h4⟩ := hc k (by omega)
    rw [bcL, h2, h4]
    split
    · exact ⟨s + x, by omega, nI_add s x⟩
    · exact ⟨s, by omega, rfl⟩
theorem bfF_bt {c pr : Nat → Int32} {L : Nat → Nat} {d f j : Nat} {bf : Nat → Int32} : ∀ k, k ≤ 32 → (bt (bfF c pr L d bf k f) j = true ↔ bt (bf f) j = true ∨ (j < k ∧ tiL c pr L d j = true ∧ f = fo (L j) d))
  | 0, _ => by rw [bfF]; exact ⟨Or.inl, fun h => h.elim id (fun h => absurd h.1 (Nat.not_lt_zero j))⟩
  | k + 1, hk => by
    have ih := bfF_bt (c := c) (pr := pr) (L := L) (d := d) (f := f) (j := j) (bf := bf) k (by omega)
    rw [bfF]
    cases ht : tiL c pr L d k with
    | false =>
      rw [if_neg Bool.false_ne_true, ih]
      constructor
      · rintro (h | ⟨h, h2⟩)
        · exact Or.inl h
        · exact Or.inr ⟨by omega, h2⟩
      · rintro (h | ⟨h, h2, h3⟩)
        · exact Or.inl h
        · refine Or.inr ⟨?_, h2, h3⟩
          rcases Nat.lt_or_ge j k with q | q
          · exact q
          · obtain rfl : j = k := by omega
            rw [ht] at h2
            exact absurd h2 (by decide)
    | true =>
      rw [if_pos rfl]
      by_cases hf : f = fo (L k) d
      · subst hf
        rw [upd_s, b_or, Bool.or_eq_true, ih, bt_sh (by omega), decide_eq_true_iff]
        constructor
        · rintro ((h | ⟨h, h2⟩) | rfl)
          · exact Or.inl h
          · exact Or.inr ⟨by omega, h2⟩
          · exact Or.inr ⟨by omega, ht, rfl⟩
        · rintro (h | ⟨h, h2⟩)
          · exact Or.inl (Or.inl h)
          · by_cases q : j = k
            · exact Or.inr q
            · exact Or.inl (Or.inr ⟨by omega, h2⟩)
      · rw [upd_n hf, ih]
        constructor
        · rintro (h | ⟨h, h2⟩)
          · exact Or.inl h
          · exact Or.inr ⟨by omega, h2⟩
        · rintro (h | ⟨h, h2, h3⟩)
          · exact Or.inl h
          · refine Or.inr ⟨?_, h2, h3⟩
            rcases Nat.lt_or_ge j k with q | q
            · exact q
            · obtain rfl : j = k := by omega
              exact absurd h3 hf
theorem nI1_ne0 : ¬ nI 1 = (0 : Int32) := by decide +kernel
theorem ibF_ne {c pr : Nat → Int32} {L : Nat → Nat} {d i : Nat} {ib : Nat → Int32} : ∀ k, (¬ ibF c pr L d ib k i = 0 ↔ ¬ ib i = 0 ∨ ∃ j, j < k ∧ tiL c pr L d j = true ∧ i = 128 * j + fo (L j) d)
  | 0 => by rw [ibF]; exact ⟨Or.inl, fun h => h.elim id (fun ⟨j, h, _⟩ => absurd h (Nat.not_lt_zero j))⟩
  | k + 1 => by
    have ih := ibF_ne (c := c) (pr := pr) (L := L) (d := d) (i := i) (ib := ib) k
    rw [ibF]
    cases ht : tiL c pr L d k with
    | false =>
      rw [if_neg Bool.false_ne_true, ih]
      constructor
      · rintro (h | ⟨j, h, h2⟩)
        · exact Or.inl h
        · exact Or.inr ⟨j, by omega, h2⟩
      · rintro (h | ⟨j, h, h2, h3⟩)
        · exact Or.inl h
        · refine Or.inr ⟨j, ?_, h2, h3⟩
          rcases Nat.lt_or_ge j k with q | q
          · exact q
          · obtain rfl : j = k := by omega
            rw [ht] at h2
            exact absurd h2 (by decide)
    | true =>
      rw [if_pos rfl]
      by_cases hi : i = 128 * k + fo (L k) d
      · subst hi
        rw [upd_s]
        exact ⟨fun _ => Or.inr ⟨k, by omega, ht, rfl⟩, fun _ => nI1_ne0⟩
      · rw [upd_n hi, ih]
        constructor
        · rintro (h | ⟨j, h, h2⟩)
          · exact Or.inl h
          · exact Or.inr ⟨j, by omega, h2⟩
        · rintro (h | ⟨j, h, h2, h3⟩)
          · exact Or.inl h
          · refine Or.inr ⟨j, ?_, h2, h3⟩
            rcases Nat.lt_or_ge j k with q | q
            · exact q
            · obtain rfl : j = k := by omega
              exact absurd h3 hi
theorem cntZ_upd {g : Nat → Int32} {i : Nat} (hg : g i = 0) : ∀ N, cntZ (upd g i (nI 1)) N = if i < N then cntZ g N + 1 else cntZ g N
  | 0 => by rw [if_neg (Nat.not_lt_zero i)]; rfl
  | N + 1 => by
    rw [cntZ, cntZ, cntZ_upd hg N]
    by_cases h : N = i
    · subst h
      rw [upd_s, if_neg nI1_ne0, if_neg (Nat.lt_irrefl N), if_pos (Nat.lt_succ_self N), if_pos hg]
    · rw [upd_n h]
      by_cases h2 : i < N
      · rw [if_pos h2, if_pos (show i < N + 1 by omega)]
        by_cases hz : g N = 0
        · rw [if_pos hz, if_pos hz]
        · rw [if_neg hz, if_neg hz]
      · rw [if_neg h2, if_neg (show ¬ i < N + 1 by omega)]
theorem cnt_ib {c pr : Nat → Int32} {L : Nat → Nat} {d : Nat} {ib : Nat → Int32} {s : Int32} (hd : d < 128) (hs : s = nI (cntZ ib 512)) : ∀ k, k ≤ 4 → (∀ j, j < k → ib (128 * j + fo (L j) d) = 0) → spF c pr L d s k = nI (cntZ (ibF c pr L d ib k) 512)
  | 0, _, _ => hs
  | k + 1, hk, h0 => by
    have ih := cnt_ib (c := c) (pr := pr) (L := L) hd hs k (by omega) (fun j hj => h0 j (by omega))
    rw [spF, ibF]
    cases ht : tiL c pr L d k with
    | false => rw [if_neg Bool.false_ne_true, if_neg Bool.false_ne_true, ih]
    | true =>
      have hz : ibF c pr L d ib k (128 * k + fo (L k) d) = 0 := by
        apply Classical.not_not.mp
        intro q
        rcases (ibF_ne k).mp q with q | ⟨j, q1, q2, q3⟩
        · exact q (h0 k (by omega))
        · have := fo_le (L k) d
          have := fo_le (L j) d
          omega
      have hl := fo_le (L k) d
      rw [if_pos rfl, if_pos rfl, ih, cntZ_upd hz, if_pos (by omega), nI_add]
theorem tiL_congr {c pr pr' : Nat → Int32} {L : Nat → Nat} {d : Nat} (h : pr = pr') (k : Nat) : tiL c pr L d k = tiL c pr' L d k := by rw [h]

