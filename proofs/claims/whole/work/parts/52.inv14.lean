/-! ===== LEASES' least, the class's: one day's closings ===== -/
theorem B0_le {A : Nat → Bool} {L : Nat → Nat} {d : Nat} (hd : d < 128) : B0 A L d ≤ 128000000 := by
  unfold B0
  have := cA_le A (d / L 0 * L 0) (d + 1 - d / L 0 * L 0)
  omega
theorem B1_le {A : Nat → Bool} {C L : Nat → Nat} {n d : Nat} (hC : ∀ k, k < n → C k ≤ 1000) (hd : d < 128) : ∀ j, j ≤ n → B1 A C L n d j ≤ 128000000
  | 0, _ => B0_le hd
  | k + 1, hj => by
    have h1 := rs_le (g := TT A C L k) (B := 1000) (fun i => Nat.le_trans (TT_le A C L k i) (hC k (by omega))) (bs L n k d) (d / L k - bs L n k d)
    have h2 := Nat.div_le_self d (L k)
    show rs (TT A C L k) (bs L n k d) (d / L k - bs L n k d) ≤ _
    omega
theorem M1_le {A : Nat → Bool} {C L : Nat → Nat} {n d D : Nat} (hC : ∀ k, k < n → C k ≤ 1000) (hd : d < 128) : ∀ j, j ≤ n → M1 A C L n d D j ≤ 128000000
  | 0, _ => B0_le hd
  | k + 1, hj => by
    have h1 := rs_le (g := TT A C L k) (B := 1000) (fun i => Nat.le_trans (TT_le A C L k i) (hC k (by omega))) (bs L n k d) (d / L k + 1 - bs L n k d)
    have h2 := Nat.div_le_self d (L k)
    have h3 := B1_le (A := A) (L := L) hC hd (k + 1) hj
    show (if clF L d D k then rs (TT A C L k) (bs L n k d) (d / L k + 1 - bs L n k d) else B1 A C L n d (k + 1)) ≤ _
    split <;> omega
theorem csf_inv {c : Nat → Int32} {A : Nat → Bool} {C L : Nat → Nat} {n d D : Nat} {o : Nat → Int32} (hL : chL L n) (hC : ∀ k, k < n → C k ≤ 1000) (hc : ∀ k, k < n → c k = nI (C k)) (hA : ∀ e, D ≤ e → A e = false) (hd : d < D) (hd2 : d < 128) (ho : ∀ j, j ≤ n → o j = nI (B1 A C L n d j)) : ∀ k, k ≤ n → ∀ j, j ≤ n → csf c L d D o k j = nI (if j < k then E1 A C L n d D j else if j = k then M1 A C L n d D j else B1 A C L n d j)
  | 0, _, j, hj => by
    rw [csf, if_neg (Nat.not_lt_zero j), ho j hj]
    by_cases h : j = 0
    · subst h; rw [if_pos rfl]; rfl
    · rw [if_neg h]
  | k + 1, hk, j, hj => by
    have ih := csf_inv hL hC hc hA hd hd2 ho k (by omega)
    have xk := ih k (by omega)
    have xk1 := ih (k + 1) hk
    rw [if_neg (Nat.lt_irrefl k), if_pos rfl] at xk
    rw [if_neg (show ¬ k + 1 < k by omega), if_neg (show ¬ k + 1 = k by omega)] at xk1
    have b1 := B1_le (A := A) (L := L) hC hd2 (k + 1) hk
    have m1 := M1_le (A := A) (L := L) (D := D) hC hd2 k (by omega)
    have ck := hC k (by omega)
    rw [csf]
    cases hcl : clF L d D k with
    | true =>
      rw [if_pos rfl, xk, xk1, hc k (by omega), imin_nI (by omega) (by omega), nI_add, cl_T hL hC hA hd k (by omega) hcl]
      by_cases h1 : j = k
      · subst h1
        rw [upd_s, if_pos (Nat.lt_succ_self j)]
        unfold E1
        rw [hcl, if_pos rfl]
      · rw [upd_n h1]
        by_cases h2 : j = k + 1
        · subst h2
          rw [upd_s, if_neg (Nat.lt_irrefl _), if_pos rfl]
          have hb := bs_le (d := d) hL (show k < n by omega)
          have e : M1 A C L n d D (k + 1) = B1 A C L n d (k + 1) + TT A C L k (d / L k) := by
            show (if clF L d D k then rs (TT A C L k) (bs L n k d) (d / L k + 1 - bs L n k d) else B1 A C L n d (k + 1)) = rs (TT A C L k) (bs L n k d) (d / L k - bs L n k d) + TT A C L k (d / L k)
            rw [hcl, if_pos rfl, show d / L k + 1 - bs L n k d = (d / L k - bs L n k d) + 1 by omega, rs, show bs L n k d + (d / L k - bs L n k d) = d / L k by omega]
          rw [e]
        · rw [upd_n h2, ih j hj]
          congr 1
          by_cases h3 : j < k
          · rw [if_pos h3, if_pos (by omega)]
          · rw [if_neg h3, if_neg h1, if_neg (by omega), if_neg h2]
    | false =>
      rw [if_neg Bool.false_ne_true, ih j hj]
      congr 1
      by_cases h3 : j < k
      · rw [if_pos h3, if_pos (show j < k + 1 by omega)]
      · rw [if_neg h3]
        by_cases h1 : j = k
        · subst h1
          rw [if_pos rfl, if_pos (Nat.lt_succ_self j)]
          unfold E1
          rw [hcl, if_neg Bool.false_ne_true]
        · rw [if_neg h1, if_neg (show ¬ j < k + 1 by omega)]
          by_cases h2 : j = k + 1
          · subst h2
            rw [if_pos rfl]
            show _ = if clF L d D k then _ else _
            rw [hcl, if_neg Bool.false_ne_true]
          · rw [if_neg h2]

