/-! ===== LEASES' least, the reference's: a sweep over the spans below ===== -/
theorem zI_out {g : Nat → Int32} {b f i : Nat} : ∀ m, (∀ j, j < m → i ≠ f + j * b) → zI g b f m i = g i
  | 0, _ => rfl
  | m + 1, h => by rw [zI, upd_n (h m (Nat.lt_succ_self m)), zI_out m (fun j hj => h j (by omega))]
theorem zI_in {g : Nat → Int32} {b f : Nat} (hb : 1 ≤ b) : ∀ m j, j < m → zI g b f m (f + j * b) = nI 0
  | 0, j, h => absurd h (Nat.not_lt_zero j)
  | m + 1, j, h => by
    rw [zI]
    by_cases e : j = m
    · subst e; rw [upd_s]
    · rw [upd_n (fun q => e (Nat.eq_of_mul_eq_mul_right (show 0 < b by omega) (Nat.add_left_cancel q))), zI_in hb m j (by omega)]
theorem sI_rs {g : Nat → Int32} {b f s : Nat} {T : Nat → Nat} (hb : 1 ≤ b) : ∀ m, (∀ j, j < m → g (f + j * b) = nI (T (s + j))) → sI g b f m = nI (rs T s m)
  | 0, _ => rfl
  | m + 1, h => by
    rw [sI, rs, sI_rs hb m (fun j hj => h j (by omega)), zI_out m (fun j hj q => by
      have := Nat.eq_of_mul_eq_mul_right (show 0 < b by omega) (Nat.add_left_cancel q)
      omega), h m (Nat.lt_succ_self m), nI_add]

