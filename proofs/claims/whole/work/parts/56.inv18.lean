/-! ===== LEASES' least, the reference's: the lowest level ===== -/
theorem p2f_in {as : Nat → Int32} {c0 : Int32} {L0 i : Nat} {o : Nat → Int32} : ∀ d, (∃ e, e < d ∧ ¬ as e = 0 ∧ fo L0 e = i) → p2f as c0 L0 o d i = c0
  | 0, ⟨e, h, _⟩ => absurd h (Nat.not_lt_zero e)
  | d + 1, ⟨e, h1, h2, h3⟩ => by
    rw [p2f]
    by_cases h0 : as d = 0
    · rw [if_pos h0]
      refine p2f_in d ⟨e, ?_, h2, h3⟩
      have : e ≠ d := fun q => h2 (by rw [q]; exact h0)
      omega
    · rw [if_neg h0]
      by_cases hi : i = fo L0 d
      · rw [hi, upd_s]
      · rw [upd_n hi]
        refine p2f_in d ⟨e, ?_, h2, h3⟩
        have : e ≠ d := fun q => hi (by rw [← h3, q])
        omega
theorem p2f_out {as : Nat → Int32} {c0 : Int32} {L0 i : Nat} {o : Nat → Int32} : ∀ d, (∀ e, e < d → ¬ as e = 0 → fo L0 e ≠ i) → p2f as c0 L0 o d i = o i
  | 0, _ => rfl
  | d + 1, h => by
    rw [p2f]
    by_cases h0 : as d = 0
    · rw [if_pos h0]
      exact p2f_out d (fun e he => h e (by omega))
    · rw [if_neg h0, upd_n (fun q => h d (Nat.lt_succ_self d) h0 q.symm)]
      exact p2f_out d (fun e he => h e (by omega))

