/-! one bit by >>, ranges by toInt -/
theorem b_one (i : Nat) (hi : i < 32) : bt (nI 1) i = decide (i = 0) := (by decide +kernel : ∀ i, i < 32 → bt (nI 1) i = decide (i = 0)) i hi
theorem sbit {x : Int32} {k : Nat} (hk : k < 32) : (x >>> (nI k &&& 31)) &&& nI 1 = bI (bt x k) := by
  apply b_ext
  intro i hi
  rw [b_and, b_one i hi, b_sshr k hk x hi]
  by_cases h0 : i = 0
  · subst h0
    rw [Nat.add_zero, if_pos hk]
    cases bt x k <;> decide +kernel
  · rw [decide_eq_false h0, Bool.and_false]
    cases bt x k
    · exact (b_0 i).symm
    · show false = bt (nI 1) i
      rw [b_one i hi, decide_eq_false h0]
theorem bI_1 {b : Bool} : bI b = nI 1 ↔ b = true := by cases b <;> decide +kernel
theorem bI_inj {a b : Bool} : bI a = bI b ↔ a = b := by cases a <;> cases b <;> decide +kernel
theorem add0 (x : Int32) : x + nI 0 = x := by
  have : nI 0 = 0 := nI_0
  rw [this]; exact Int32.add_zero x
theorem bn {b : Bool} (h : ¬ b = true) : b = false := by cases b <;> simp_all
theorem bn' {b : Bool} (h : ¬ b = false) : b = true := by cases b <;> simp_all
def inr (x : Int32) (n : Nat) : Bool := decide (0 ≤ x.toInt ∧ x.toInt < (n : Int))
def inr2 (x : Int32) (a b : Nat) : Bool := decide ((a : Int) ≤ x.toInt ∧ x.toInt ≤ (b : Int))
theorem nI_of_toInt {x : Int32} {j : Nat} (h : x.toInt = (j : Int)) (hj : j < 2 ^ 31) : x = nI j := Int32.toInt_inj.mp (by rw [h, nI_toInt hj])
theorem inr_of {x : Int32} {n : Nat} (h : inr x n = true) (hn : n < 2 ^ 31) : ∃ j : Nat, j < n ∧ x = nI j := by
  have h1 := of_decide_eq_true h
  exact ⟨x.toInt.toNat, by omega, nI_of_toInt (by omega) (by omega)⟩
theorem inr_nI {j n : Nat} (h : j < n) (hn : n < 2 ^ 31) : inr (nI j) n = true := decide_eq_true (by rw [nI_toInt (by omega)]; omega)
theorem inr2_of {x : Int32} {a b : Nat} (h : inr2 x a b = true) (hb : b < 2 ^ 31) : ∃ j : Nat, a ≤ j ∧ j ≤ b ∧ x = nI j := by
  have h1 := of_decide_eq_true h
  exact ⟨x.toInt.toNat, by omega, by omega, nI_of_toInt (by omega) (by omega)⟩
theorem inr_lt {x b : Int32} {n : Nat} (hb : b = nI n) (hn : n < 2 ^ 31) : decide (0 ≤ x ∧ x < b) = inr x n := by
  subst hb
  unfold inr
  simp only [Int32.le_iff_toInt_le, Int32.lt_iff_toInt_lt, nI_toInt hn, Int32.toInt_zero]
theorem inr2_le {x : Int32} {a b : Nat} (ha : a < 2 ^ 31) (hb : b < 2 ^ 31) : decide (nI a ≤ x ∧ x ≤ nI b) = inr2 x a b := by
  unfold inr2
  simp only [Int32.le_iff_toInt_le, nI_toInt ha, nI_toInt hb]
theorem inr2_long {x : Int32} {a b : Nat} (ha : a < 2 ^ 31) (hb : b < 2 ^ 31) : decide (lN a ≤ x.toInt64 ∧ x.toInt64 ≤ lN b) = inr2 x a b := by
  unfold inr2
  simp only [Int64.le_iff_toInt_le, Int32.toInt_toInt64, lN_toInt ha, lN_toInt hb]
theorem nI_pred' {n : Nat} (hn : n < 2 ^ 31) : (nI n - nI 1).toInt = (n : Int) - 1 := by
  cases n with
  | zero => decide +kernel
  | succ n => rw [pk_sub (by omega), nI_toInt (by omega)]; omega
theorem inr_long {x : Int32} {n : Nat} (hn : n < 2 ^ 31) : decide (lN 0 ≤ x.toInt64 ∧ x.toInt64 ≤ (nI n - nI 1).toInt64) = inr x n := by
  unfold inr
  rw [decide_eq_decide]
  simp only [Int64.le_iff_toInt_le, Int32.toInt_toInt64, nI_pred' hn, lN_toInt (show 0 < 2 ^ 31 by decide)]
  omega
theorem inr2_0 {x : Int32} {b : Nat} : inr2 x 0 b = inr x (b + 1) := by
  unfold inr inr2
  rw [decide_eq_decide]
  omega
theorem c_isUnderN (x : Int32) (n : Nat) (hn : n < 2 ^ 31) (σ : Mem) : Cc yX5_isUnder cX5_isUnder 2 (some .boolean) 0 [.int x, .int (nI n)] σ (rI (bI (inr x n)) σ) := by
  have h := c_isUnder x (nI n) σ
  rwa [inr_lt rfl hn] at h
theorem c_isWithinN (x : Int32) (a b : Nat) (ha : a < 2 ^ 31) (hb : b < 2 ^ 31) (σ : Mem) : Cc yX5_isWithin cX5_isWithin 3 (some .boolean) 0 [.int x, .int (nI a), .int (nI b)] σ (rI (bI (inr2 x a b)) σ) := by
  have h := c_isWithin x (nI a) (nI b) σ
  rwa [inr2_le ha hb] at h
theorem V_icmp_neS {X : XC} {own : String} {cc : ByteArray} {nL pc : Nat} {ls : List (Option Value)} {st : List Value} {σ : Mem} {x : Int32} {k : Nat} {off : Int} {tgt : Nat} (hX : Cok X own cc nL) (hd : decode cc pc = .ok (.if_icmp .ne off, 3)) (ht : (pc : Int) + off = (tgt : Int)) (hk : k < 32) (kt : bt x k = false → Vw X tgt ls st σ) (kf : bt x k = true → Vw X (pc + 3) ls st σ) : Vw X pc ls (.int (nI 1) :: .int ((x >>> (nI k &&& 31)) &&& nI 1) :: st) σ :=
  V_icmp_ne hX hd ht (fun h => kt (bn (fun q => h (by rw [sbit hk]; exact bI_1.mpr q)))) (fun h => kf (by rw [sbit hk] at h; exact bI_1.mp h))
theorem V_icmp_eqS {X : XC} {own : String} {cc : ByteArray} {nL pc : Nat} {ls : List (Option Value)} {st : List Value} {σ : Mem} {x : Int32} {k : Nat} {off : Int} {tgt : Nat} (hX : Cok X own cc nL) (hd : decode cc pc = .ok (.if_icmp .eq off, 3)) (ht : (pc : Int) + off = (tgt : Int)) (hk : k < 32) (kt : bt x k = true → Vw X tgt ls st σ) (kf : bt x k = false → Vw X (pc + 3) ls st σ) : Vw X pc ls (.int (nI 1) :: .int ((x >>> (nI k &&& 31)) &&& nI 1) :: st) σ :=
  V_icmp_eq hX hd ht (fun h => kt (by rw [sbit hk] at h; exact bI_1.mp h)) (fun h => kf (bn (fun q => h (by rw [sbit hk]; exact bI_1.mpr q))))
theorem V_if_eqS {X : XC} {own : String} {cc : ByteArray} {nL pc : Nat} {ls : List (Option Value)} {st : List Value} {σ : Mem} {x : Int32} {k : Nat} {off : Int} {tgt : Nat} (hX : Cok X own cc nL) (hd : decode cc pc = .ok (.ifCond .eq off, 3)) (ht : (pc : Int) + off = (tgt : Int)) (hk : k < 32) (kt : bt x k = false → Vw X tgt ls st σ) (kf : bt x k = true → Vw X (pc + 3) ls st σ) : Vw X pc ls (.int ((x >>> (nI k &&& 31)) &&& nI 1) :: st) σ :=
  V_if_eq hX hd ht (fun h => kt (by rw [sbit hk] at h; exact bI_z.mp h)) (fun h => kf (bn' (fun q => h (by rw [sbit hk]; exact bI_z.mpr q))))
theorem V_if_neS {X : XC} {own : String} {cc : ByteArray} {nL pc : Nat} {ls : List (Option Value)} {st : List Value} {σ : Mem} {x : Int32} {k : Nat} {off : Int} {tgt : Nat} (hX : Cok X own cc nL) (hd : decode cc pc = .ok (.ifCond .ne off, 3)) (ht : (pc : Int) + off = (tgt : Int)) (hk : k < 32) (kt : bt x k = true → Vw X tgt ls st σ) (kf : bt x k = false → Vw X (pc + 3) ls st σ) : Vw X pc ls (.int ((x >>> (nI k &&& 31)) &&& nI 1) :: st) σ :=
  V_if_ne hX hd ht (fun h => kt (bn' (fun q => h (by rw [sbit hk]; exact bI_z.mpr q)))) (fun h => kf (by rw [sbit hk] at h; exact bI_z.mp h))
