/-! ===== LEASES' least: the numbers ===== -/
def rs (g : Nat → Nat) (a : Nat) : Nat → Nat
  | 0 => 0
  | m + 1 => rs g a m + g (a + m)
theorem rs_add (g : Nat → Nat) (a m : Nat) : ∀ k, rs g a (m + k) = rs g a m + rs g (a + m) k
  | 0 => rfl
  | k + 1 => by
    rw [← Nat.add_assoc, rs, rs, rs_add g a m k, Nat.add_assoc a m k]
    omega
theorem rs_le {g : Nat → Nat} {B : Nat} (h : ∀ i, g i ≤ B) (a : Nat) : ∀ m, rs g a m ≤ B * m
  | 0 => Nat.le_refl _
  | m + 1 => by
    have h1 := rs_le h a m
    have h2 := h (a + m)
    rw [rs, Nat.mul_succ]
    omega
theorem rs_0 {g : Nat → Nat} {a : Nat} : ∀ m, (∀ i, a ≤ i → i < a + m → g i = 0) → rs g a m = 0
  | 0, _ => rfl
  | m + 1, h => by rw [rs, rs_0 m (fun i h1 h2 => h i h1 (by omega)), h (a + m) (by omega) (by omega)]
theorem rs_congr {g h : Nat → Nat} {a : Nat} : ∀ m, (∀ i, a ≤ i → i < a + m → g i = h i) → rs g a m = rs h a m
  | 0, _ => rfl
  | m + 1, e => by rw [rs, rs, rs_congr m (fun i h1 h2 => e i h1 (by omega)), e (a + m) (by omega) (by omega)]
/-- how many of the days a .. a + m - 1 are asked -/
def cA (A : Nat → Bool) (a : Nat) : Nat → Nat := rs (fun d => if A d then 1 else 0) a
/-- what the block f of level k costs at least -/
def TT (A : Nat → Bool) (C L : Nat → Nat) : Nat → Nat → Nat
  | 0 => fun f => if cA A (f * L 0) (L 0) = 0 then 0 else C 0
  | k + 1 => fun f => min (C (k + 1)) (rs (TT A C L k) (f * (L (k + 1) / L k)) (L (k + 1) / L k))
theorem TT_le (A : Nat → Bool) (C L : Nat → Nat) : ∀ k f, TT A C L k f ≤ C k
  | 0, f => by
    show (if cA A (f * L 0) (L 0) = 0 then 0 else C 0) ≤ C 0
    split <;> omega
  | k + 1, f => Nat.min_le_left _ _
theorem cA_0 {A : Nat → Bool} {D : Nat} (h : ∀ d, D ≤ d → A d = false) {a : Nat} (ha : D ≤ a) (m : Nat) : cA A a m = 0 :=
  rs_0 m (fun i h1 _ => by show (if A i then 1 else 0) = 0; rw [h i (by omega), if_neg Bool.false_ne_true])
/-- the lengths are each a multiple of the one before -/
def chL (L : Nat → Nat) (n : Nat) : Prop := (∀ k, k < n → 1 ≤ L k) ∧ ∀ k, k + 1 < n → L (k + 1) % L k = 0
theorem chL_r {L : Nat → Nat} {n k : Nat} (h : chL L n) (hk : k + 1 < n) : L (k + 1) / L k * L k = L (k + 1) := Nat.div_mul_cancel (Nat.dvd_of_mod_eq_zero (h.2 k hk))
theorem TT_0 {A : Nat → Bool} {C L : Nat → Nat} {n D : Nat} (hL : chL L n) (h : ∀ d, D ≤ d → A d = false) : ∀ k, k < n → ∀ f, D ≤ f * L k → TT A C L k f = 0
  | 0, _, f, hf => by
    show (if cA A (f * L 0) (L 0) = 0 then 0 else C 0) = 0
    rw [if_pos (cA_0 h hf _)]
  | k + 1, hk, f, hf => by
    have ih := TT_0 (C := C) hL h k (by omega)
    have e : rs (TT A C L k) (f * (L (k + 1) / L k)) (L (k + 1) / L k) = 0 := rs_0 _ (fun i h1 _ => ih i (by
      have h2 : f * (L (k + 1) / L k) * L k ≤ i * L k := Nat.mul_le_mul_right _ h1
      rw [Nat.mul_assoc, chL_r hL hk] at h2
      omega))
    show min (C (k + 1)) _ = 0
    rw [e]
    exact Nat.min_zero _

