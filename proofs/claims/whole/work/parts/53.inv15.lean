/-! ===== LEASES' least, the class's: all days ===== -/
theorem dv_t {L d : Nat} (hL : 1 ≤ L) (h : (d + 1) % L = 0) : (d + 1) / L = d / L + 1 := by
  obtain ⟨z, hz⟩ := Nat.dvd_of_mod_eq_zero h
  have e : (d + 1) / L = z := by rw [hz]; exact Nat.mul_div_cancel_left z (by omega)
  have h1 := div_lt_s (d := d) hL
  have h2 := Nat.div_mul_le_self d L
  rw [e]
  have a1 : d / L < z := by
    apply Nat.lt_of_mul_lt_mul_left (a := L)
    rw [← hz, Nat.mul_comm]
    omega
  have a2 : z ≤ d / L + 1 := by
    apply Nat.le_of_mul_le_mul_left (c := L) _ (by omega)
    rw [← hz, Nat.mul_comm]
    omega
  omega
theorem dv_f {L d : Nat} (hL : 1 ≤ L) (h : ¬ (d + 1) % L = 0) : (d + 1) / L = d / L := by
  have h1 := div_lt_s (d := d) hL
  have h2 := Nat.div_mul_le_self d L
  have h3 : d + 1 ≠ (d / L + 1) * L := fun q => h (by rw [q]; exact Nat.mul_mod_left _ _)
  have a1 : (d + 1) / L < d / L + 1 := (Nat.div_lt_iff_lt_mul (by omega)).mpr (by omega)
  have a2 : d / L ≤ (d + 1) / L := Nat.div_le_div_right (by omega)
  omega
def Bb (A : Nat → Bool) (C L : Nat → Nat) (n d : Nat) : Nat → Nat
  | 0 => 1000000 * cA A (d / L 0 * L 0) (d - d / L 0 * L 0)
  | k + 1 => B1 A C L n d (k + 1)
theorem lsf_inv {c as : Nat → Int32} {A : Nat → Bool} {C L : Nat → Nat} {n D : Nat} {o : Nat → Int32} (hL : chL L n) (hn : 0 < n) (hC : ∀ k, k < n → C k ≤ 1000) (hc : ∀ k, k < n → c k = nI (C k)) (hA : ∀ e, D ≤ e → A e = false) (hD : D ≤ 128) (has : ∀ d, d < D → (A d = true ↔ ¬ as d = 0)) (ho : ∀ j, j ≤ n → o j = nI 0) : ∀ d, d < D → ∀ j, j ≤ n → lsf c L as D n o d j = nI (Bb A C L n d j)
  | 0, _, j, hj => by
    rw [lsf, ho j hj]
    cases j with
    | zero =>
      show nI 0 = nI (1000000 * cA A (0 / L 0 * L 0) (0 - 0 / L 0 * L 0))
      rw [Nat.zero_sub]
      rfl
    | succ k =>
      show nI 0 = nI (rs (TT A C L k) (bs L n k 0) (0 / L k - bs L n k 0))
      rw [Nat.zero_div, Nat.zero_sub]
      rfl
  | d + 1, hd, j, hj => by
    have ih := lsf_inv (A := A) hL hn hC hc hA hD has ho d (by omega)
    have nf : ∀ k, clF L d D k = decide ((d + 1) % L k = 0) := fun k => decide_eq_decide.mpr ⟨fun q => q.resolve_left (by omega), Or.inr⟩
    have ha : ∀ j, j ≤ n → (if as d = 0 then lsf c L as D n o d else upd (lsf c L as D n o d) 0 (lsf c L as D n o d 0 + nI 1000000)) j = nI (B1 A C L n d j) := by
      intro j hj
      have h3 := Nat.div_mul_le_self d (L 0)
      have e0 : B0 A L d = 1000000 * (cA A (d / L 0 * L 0) (d - d / L 0 * L 0) + if A d then 1 else 0) := by
        unfold B0
        rw [show d + 1 - d / L 0 * L 0 = (d - d / L 0 * L 0) + 1 by omega]
        unfold cA
        rw [rs, show d / L 0 * L 0 + (d - d / L 0 * L 0) = d by omega]
      by_cases h0 : as d = 0
      · rw [if_pos h0, ih j hj]
        cases j with
        | zero =>
          have hf : A d = false := by
            cases h : A d with
            | false => rfl
            | true => exact absurd h0 ((has d (by omega)).mp h)
          show nI (1000000 * cA A (d / L 0 * L 0) (d - d / L 0 * L 0)) = nI (B0 A L d)
          rw [e0, hf, if_neg Bool.false_ne_true, Nat.add_zero]
        | succ k => rfl
      · rw [if_neg h0]
        cases j with
        | zero =>
          rw [upd_s, ih 0 (Nat.zero_le n)]
          show nI (1000000 * cA A (d / L 0 * L 0) (d - d / L 0 * L 0)) + nI 1000000 = nI (B0 A L d)
          rw [e0, (has d (by omega)).mpr h0, if_pos rfl, nI_add, Nat.mul_add, Nat.mul_one]
        | succ k =>
          rw [upd_n (Nat.succ_ne_zero k), ih (k + 1) hj]
          rfl
    rw [lsf, csf_inv hL hC hc hA (by omega) (by omega) ha n (Nat.le_refl n) j hj]
    congr 1
    cases j with
    | zero =>
      rw [if_pos hn]
      show (if clF L d D 0 then 0 else B0 A L d) = 1000000 * cA A ((d + 1) / L 0 * L 0) (d + 1 - (d + 1) / L 0 * L 0)
      rw [nf 0]
      by_cases h : (d + 1) % L 0 = 0
      · rw [decide_eq_true h, if_pos rfl, Nat.div_mul_cancel (Nat.dvd_of_mod_eq_zero h), Nat.sub_self]
        rfl
      · rw [decide_eq_false h, if_neg Bool.false_ne_true, dv_f (hL.1 0 hn) h]
        rfl
    | succ k =>
      have hk1 := hL.1 k (by omega)
      have eM : M1 A C L n d D (k + 1) = rs (TT A C L k) (bs L n k d) ((d + 1) / L k - bs L n k d) := by
        show (if clF L d D k then rs (TT A C L k) (bs L n k d) (d / L k + 1 - bs L n k d) else B1 A C L n d (k + 1)) = _
        rw [nf k]
        by_cases h : (d + 1) % L k = 0
        · rw [decide_eq_true h, if_pos rfl, dv_t hk1 h]
        · rw [decide_eq_false h, if_neg Bool.false_ne_true, dv_f hk1 h]
          rfl
      show _ = rs (TT A C L k) (bs L n k (d + 1)) ((d + 1) / L k - bs L n k (d + 1))
      by_cases hk : k + 1 < n
      · rw [if_pos hk]
        have hk2 := hL.1 (k + 1) hk
        unfold E1
        rw [nf (k + 1), eM]
        by_cases h : (d + 1) % L (k + 1) = 0
        · have e : bs L n k (d + 1) = (d + 1) / L k := by
            unfold bs
            rw [if_pos hk]
            apply Nat.eq_of_mul_eq_mul_right (show 0 < L k by omega)
            rw [Nat.mul_assoc, chL_r hL hk, Nat.div_mul_cancel (Nat.dvd_of_mod_eq_zero h), Nat.div_mul_cancel (Nat.dvd_trans (Nat.dvd_of_mod_eq_zero (hL.2 k hk)) (Nat.dvd_of_mod_eq_zero h))]
          rw [decide_eq_true h, if_pos rfl, e, Nat.sub_self]
          rfl
        · rw [decide_eq_false h, if_neg Bool.false_ne_true]
          have e : bs L n k (d + 1) = bs L n k d := by
            unfold bs
            rw [if_pos hk, if_pos hk, dv_f hk2 h]
          rw [e]
      · rw [if_neg hk, if_pos (show k + 1 = n by omega), eM]
        have e : bs L n k (d + 1) = bs L n k d := by
          unfold bs
          rw [if_neg hk, if_neg hk]
        rw [e]

