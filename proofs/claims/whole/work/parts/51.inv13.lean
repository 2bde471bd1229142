/-! ===== LEASES' least, the class's ===== -/
def bs (L : Nat → Nat) (n k d : Nat) : Nat := if k + 1 < n then d / L (k + 1) * (L (k + 1) / L k) else 0
def B0 (A : Nat → Bool) (L : Nat → Nat) (d : Nat) : Nat := 1000000 * cA A (d / L 0 * L 0) (d + 1 - d / L 0 * L 0)
def B1 (A : Nat → Bool) (C L : Nat → Nat) (n d : Nat) : Nat → Nat
  | 0 => B0 A L d
  | k + 1 => rs (TT A C L k) (bs L n k d) (d / L k - bs L n k d)
def M1 (A : Nat → Bool) (C L : Nat → Nat) (n d D : Nat) : Nat → Nat
  | 0 => B0 A L d
  | k + 1 => if clF L d D k then rs (TT A C L k) (bs L n k d) (d / L k + 1 - bs L n k d) else B1 A C L n d (k + 1)
def E1 (A : Nat → Bool) (C L : Nat → Nat) (n d D j : Nat) : Nat := if clF L d D j then 0 else M1 A C L n d D j
theorem bs_le {L : Nat → Nat} {n k d : Nat} (hL : chL L n) (hk : k < n) : bs L n k d ≤ d / L k := by
  unfold bs
  by_cases h : k + 1 < n
  · rw [if_pos h]
    apply (Nat.le_div_iff_mul_le (hL.1 k hk)).mpr
    rw [Nat.mul_assoc, chL_r hL h]
    exact Nat.div_mul_le_self d (L (k + 1))
  · rw [if_neg h]; exact Nat.zero_le _
theorem cA_le (A : Nat → Bool) (a m : Nat) : cA A a m ≤ m := by
  have := rs_le (g := fun d => if A d then 1 else 0) (B := 1) (fun i => by show (if A i then 1 else 0) ≤ 1; split <;> omega) a m
  rw [Nat.one_mul] at this
  exact this
theorem cl_dn {L : Nat → Nat} {n k d D : Nat} (hL : chL L n) (hk : k + 1 < n) (h : clF L d D (k + 1) = true) : clF L d D k = true := by
  rcases of_decide_eq_true h with h | h
  · exact decide_eq_true (Or.inl h)
  · refine decide_eq_true (Or.inr ?_)
    exact Nat.mod_eq_zero_of_dvd (Nat.dvd_trans (Nat.dvd_of_mod_eq_zero (hL.2 k hk)) (Nat.dvd_of_mod_eq_zero h))
theorem div_lt_s {L d : Nat} (h : 1 ≤ L) : d < (d / L + 1) * L := by
  have h1 := Nat.div_add_mod d L
  have h2 := Nat.mod_lt d h
  rw [Nat.mul_comm] at h1
  rw [Nat.succ_mul]
  omega
/-- a block that closes costs what the level holds, or its own lease -/
theorem cl_T {A : Nat → Bool} {C L : Nat → Nat} {n d D : Nat} (hL : chL L n) (hC : ∀ k, k < n → C k ≤ 1000) (hA : ∀ e, D ≤ e → A e = false) (hd : d < D) : ∀ k, k < n → clF L d D k = true → min (M1 A C L n d D k) (C k) = TT A C L k (d / L k)
  | 0, hk, h => by
    have h1 := hL.1 0 hk
    have h2 := div_lt_s (d := d) h1
    have h3 := Nat.div_mul_le_self d (L 0)
    rw [Nat.succ_mul] at h2
    have e : cA A (d / L 0 * L 0) (L 0) = cA A (d / L 0 * L 0) (d + 1 - d / L 0 * L 0) := by
      have e1 : L 0 = (d + 1 - d / L 0 * L 0) + (d / L 0 * L 0 + L 0 - (d + 1)) := by omega
      have e2 := rs_add (fun d => if A d then 1 else 0) (d / L 0 * L 0) (d + 1 - d / L 0 * L 0) (d / L 0 * L 0 + L 0 - (d + 1))
      rw [← e1] at e2
      show rs _ _ _ = rs _ _ _
      rw [e2, show d / L 0 * L 0 + (d + 1 - d / L 0 * L 0) = d + 1 by omega]
      rcases of_decide_eq_true h with q | q
      · have := cA_0 hA (a := d + 1) (by omega) (d / L 0 * L 0 + L 0 - (d + 1))
        unfold cA at this
        rw [this, Nat.add_zero]
      · have q2 : d / L 0 * L 0 + L 0 - (d + 1) = 0 := by
          obtain ⟨z, hz⟩ := Nat.dvd_of_mod_eq_zero q
          have h5 : d / L 0 < z := by
            apply Nat.lt_of_mul_lt_mul_left (a := L 0)
            rw [← hz, Nat.mul_comm]
            omega
          have h6 := Nat.mul_le_mul_left (L 0) (show d / L 0 + 1 ≤ z from h5)
          rw [← hz, Nat.mul_succ, Nat.mul_comm] at h6
          omega
        rw [q2]
        rfl
    show min (B0 A L d) (C 0) = if cA A (d / L 0 * L 0) (L 0) = 0 then 0 else C 0
    unfold B0
    rw [e]
    have := hC 0 hk
    by_cases hz : cA A (d / L 0 * L 0) (d + 1 - d / L 0 * L 0) = 0
    · rw [if_pos hz, hz]; omega
    · rw [if_neg hz]
      have : 1 ≤ cA A (d / L 0 * L 0) (d + 1 - d / L 0 * L 0) := by omega
      omega
  | k + 1, hk, h => by
    have hcl := cl_dn hL hk h
    have hk1 := hL.1 k (by omega)
    have hr := chL_r hL hk
    show min (if clF L d D k then rs (TT A C L k) (bs L n k d) (d / L k + 1 - bs L n k d) else B1 A C L n d (k + 1)) (C (k + 1)) = min (C (k + 1)) (rs (TT A C L k) (d / L (k + 1) * (L (k + 1) / L k)) (L (k + 1) / L k))
    rw [if_pos hcl, Nat.min_comm]
    congr 1
    have hb := bs_le (d := d) hL (show k < n by omega)
    have eb : bs L n k d = d / L (k + 1) * (L (k + 1) / L k) := if_pos hk
    rw [eb] at hb ⊢
    generalize hbb : d / L (k + 1) * (L (k + 1) / L k) = b at hb ⊢
    generalize hrr : L (k + 1) / L k = r at hr hbb ⊢
    have h2 := div_lt_s (d := d) (hL.1 (k + 1) hk)
    -- the block holds the sub-block of d
    have hin : d / L k < b + r := by
      apply Nat.lt_of_mul_lt_mul_right (a := L k)
      rw [Nat.add_mul, hr, ← hbb, Nat.mul_assoc, hr]
      have := Nat.div_mul_le_self d (L k)
      rw [Nat.succ_mul] at h2
      omega
    have e1 : r = (d / L k + 1 - b) + (b + r - (d / L k + 1)) := by omega
    have e2 := rs_add (TT A C L k) b (d / L k + 1 - b) (b + r - (d / L k + 1))
    rw [← e1] at e2
    rw [e2, show b + (d / L k + 1 - b) = d / L k + 1 by omega]
    rcases of_decide_eq_true h with q | q
    · have e3 := rs_0 (g := TT A C L k) (a := d / L k + 1) (b + r - (d / L k + 1)) (fun i h1 _ => TT_0 hL hA k (by omega) i (by
        have h3 := div_lt_s (d := d) hk1
        have h4 := Nat.mul_le_mul_right (L k) h1
        omega))
      omega
    · have q2 : b + r - (d / L k + 1) = 0 := by
        obtain ⟨z, hz⟩ := Nat.dvd_of_mod_eq_zero q
        have h5 : (b + r) * L k ≤ d + 1 := by
          rw [Nat.add_mul, hr, ← hbb, Nat.mul_assoc, hr, ← Nat.succ_mul, hz, Nat.mul_comm]
          apply Nat.mul_le_mul_left
          apply Nat.lt_of_mul_lt_mul_left (a := L (k + 1))
          have := Nat.div_mul_le_self d (L (k + 1))
          rw [← hz, Nat.mul_comm]
          omega
        have h6 : b + r ≤ (d + 1) / L k := (Nat.le_div_iff_mul_le hk1).mpr h5
        have h7 : (d + 1) / L k ≤ d / L k + 1 := by
          apply Nat.le_of_lt_succ
          apply (Nat.div_lt_iff_lt_mul hk1).mpr
          have := div_lt_s (d := d) hk1
          rw [Nat.succ_mul]
          omega
        omega
      rw [q2]
      rfl

