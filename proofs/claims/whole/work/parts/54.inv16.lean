/-! ===== LEASES' least, the class's: the last day ===== -/
theorem ask_B1 {as : Nat → Int32} {A : Nat → Bool} {C L : Nat → Nat} {n d : Nat} {x : Nat → Int32} (h : A d = true ↔ ¬ as d = 0) (ih : ∀ j, j ≤ n → x j = nI (Bb A C L n d j)) : ∀ j, j ≤ n → (if as d = 0 then x else upd x 0 (x 0 + nI 1000000)) j = nI (B1 A C L n d j) := by
  intro j hj
  have h3 := Nat.div_mul_le_self d (L 0)
  have e0 : B0 A L d = 1000000 * (cA A (d / L 0 * L 0) (d - d / L 0 * L 0) + if A d then 1 else 0) := by
    unfold B0
    rw [show d + 1 - d / L 0 * L 0 = (d - d / L 0 * L 0) + 1 by omega]
    unfold cA
    rw [rs, show d / L 0 * L 0 + (d - d / L 0 * L 0) = d by omega]
  by_cases h0 : as d = 0
  · rw [if_pos h0, ih j hj]
    cases j with
    | zero =>
      have hf : A d = false := by
        cases ha : A d with
        | false => rfl
        | true => exact absurd h0 (h.mp ha)
      show nI (1000000 * cA A (d / L 0 * L 0) (d - d / L 0 * L 0)) = nI (B0 A L d)
      rw [e0, hf, if_neg Bool.false_ne_true, Nat.add_zero]
    | succ k => rfl
  · rw [if_neg h0]
    cases j with
    | zero =>
      rw [upd_s, ih 0 (Nat.zero_le n)]
      show nI (1000000 * cA A (d / L 0 * L 0) (d - d / L 0 * L 0)) + nI 1000000 = nI (B0 A L d)
      rw [e0, h.mpr h0, if_pos rfl, nI_add, Nat.mul_add, Nat.mul_one]
    | succ k =>
      rw [upd_n (Nat.succ_ne_zero k), ih (k + 1) hj]
      rfl
theorem lsf_fin {c as : Nat → Int32} {A : Nat → Bool} {C L : Nat → Nat} {k D : Nat} {o : Nat → Int32} (hL : chL L (k + 1)) (hC : ∀ j, j < k + 1 → C j ≤ 1000) (hc : ∀ j, j < k + 1 → c j = nI (C j)) (hA : ∀ e, D ≤ e → A e = false) (hD : D ≤ 128) (has : ∀ d, d < D → (A d = true ↔ ¬ as d = 0)) (ho : ∀ j, j ≤ k + 1 → o j = nI 0) : lsf c L as D (k + 1) o D (k + 1) = nI (rs (TT A C L k) 0 (if D = 0 then 0 else (D - 1) / L k + 1)) := by
  cases D with
  | zero => rw [lsf, ho _ (Nat.le_refl _), if_pos rfl]; rfl
  | succ d =>
    have ih := lsf_inv (A := A) hL (Nat.succ_pos k) hC hc hA hD has ho d (Nat.lt_succ_self d)
    rw [lsf, csf_inv hL hC hc hA (Nat.lt_succ_self d) (by omega) (ask_B1 (has d (Nat.lt_succ_self d)) ih) (k + 1) (Nat.le_refl _) (k + 1) (Nat.le_refl _), if_neg (Nat.lt_irrefl _), if_pos rfl, if_neg (Nat.succ_ne_zero d), Nat.add_sub_cancel]
    congr 1
    have hcl : clF L d (d + 1) k = true := decide_eq_true (Or.inl rfl)
    have hb : bs L (k + 1) k d = 0 := if_neg (Nat.lt_irrefl _)
    show (if clF L d (d + 1) k then rs (TT A C L k) (bs L (k + 1) k d) (d / L k + 1 - bs L (k + 1) k d) else B1 A C L (k + 1) d (k + 1)) = _
    rw [hcl, if_pos rfl, hb, Nat.sub_zero]

