/-! ===== Int32 by its bits: bt x i ===== -/
def bt (x : Int32) (i : Nat) : Bool := x.toBitVec.getLsbD i
theorem b_ext {x y : Int32} (h : ∀ i, i < 32 → bt x i = bt y i) : x = y := Int32.toBitVec_inj.mp (BitVec.eq_of_getLsbD_eq (fun i hi => h i hi))
theorem b_or (x y : Int32) (i : Nat) : bt (x ||| y) i = (bt x i || bt y i) := by unfold bt; rw [Int32.toBitVec_or, BitVec.getLsbD_or]
theorem b_and (x y : Int32) (i : Nat) : bt (x &&& y) i = (bt x i && bt y i) := by unfold bt; rw [Int32.toBitVec_and, BitVec.getLsbD_and]
theorem b_xor (x y : Int32) (i : Nat) : bt (x ^^^ y) i = (bt x i ^^ bt y i) := by unfold bt; rw [Int32.toBitVec_xor, BitVec.getLsbD_xor]
theorem b_big {x : Int32} {i : Nat} (h : 32 ≤ i) : bt x i = false := BitVec.getLsbD_of_ge _ _ h
theorem b_255 (i : Nat) : bt 255 i = decide (i < 8) := by
  rcases Nat.lt_or_ge i 32 with h | h
  · exact (by decide +kernel : ∀ i, i < 32 → bt 255 i = decide (i < 8)) i h
  · rw [b_big h, decide_eq_false (by omega)]
theorem b_65535 (i : Nat) : bt 65535 i = decide (i < 16) := by
  rcases Nat.lt_or_ge i 32 with h | h
  · exact (by decide +kernel : ∀ i, i < 32 → bt 65535 i = decide (i < 16)) i h
  · rw [b_big h, decide_eq_false (by omega)]
theorem b_m1 : ∀ i, i < 32 → bt (-1) i = true := by decide +kernel
theorem b_0 (i : Nat) : bt 0 i = false := BitVec.getLsbD_zero
theorem s_l : ∀ n, n < 32 → ((nI n &&& 31).toBitVec.smod 32).toNat = n := by decide +kernel
theorem s_u : ∀ n, n < 32 → (((nI n).toUInt32 &&& Int32.toUInt32 31).toBitVec % 32).toNat = n := by decide +kernel
theorem b_shl (n : Nat) (hn : n < 32) (x : Int32) {i : Nat} (hi : i < 32) : bt (x <<< (nI n &&& 31)) i = (decide (n ≤ i) && bt x (i - n)) := by
  unfold bt
  rw [Int32.toBitVec_shiftLeft]
  show (x.toBitVec <<< ((nI n &&& 31).toBitVec.smod 32).toNat).getLsbD i = _
  rw [s_l n hn, BitVec.getLsbD_shiftLeft]
  rcases Nat.lt_or_ge i n with h | h
  · simp [h, Nat.not_le.mpr h]
  · simp [hi, h, Nat.not_lt.mpr h]
theorem b_ushr (n : Nat) (hn : n < 32) (x : Int32) (i : Nat) : bt ((x.toUInt32 >>> ((nI n).toUInt32 &&& Int32.toUInt32 31)).toInt32) i = bt x (n + i) := by
  show (x.toUInt32 >>> ((nI n).toUInt32 &&& Int32.toUInt32 31)).toBitVec.getLsbD i = x.toUInt32.toBitVec.getLsbD (n + i)
  rw [UInt32.toBitVec_shiftRight]
  show (x.toUInt32.toBitVec >>> (((nI n).toUInt32 &&& Int32.toUInt32 31).toBitVec % 32).toNat).getLsbD i = _
  rw [s_u n hn, BitVec.getLsbD_ushiftRight]
theorem b_sshr (n : Nat) (hn : n < 32) (x : Int32) {i : Nat} (hi : i < 32) : bt (x >>> (nI n &&& 31)) i = if n + i < 32 then bt x (n + i) else bt x 31 := by
  unfold bt
  rw [Int32.toBitVec_shiftRight]
  show (x.toBitVec.sshiftRight ((nI n &&& 31).toBitVec.smod 32).toNat).getLsbD i = _
  rw [s_l n hn, BitVec.getLsbD_sshiftRight, BitVec.msb_eq_getLsbD_last]
  simp [hi]
theorem b_shl8 (x : Int32) {i : Nat} (hi : i < 32) : bt (x <<< ((8 : Int32) &&& 31)) i = (decide (8 ≤ i) && bt x (i - 8)) := b_shl 8 (by omega) x hi
theorem b_shl16 (x : Int32) {i : Nat} (hi : i < 32) : bt (x <<< ((16 : Int32) &&& 31)) i = (decide (16 ≤ i) && bt x (i - 16)) := b_shl 16 (by omega) x hi
theorem b_shl24 (x : Int32) {i : Nat} (hi : i < 32) : bt (x <<< ((24 : Int32) &&& 31)) i = (decide (24 ≤ i) && bt x (i - 24)) := b_shl 24 (by omega) x hi
theorem b_sshr8 (x : Int32) {i : Nat} (hi : i < 32) : bt (x >>> ((8 : Int32) &&& 31)) i = if 8 + i < 32 then bt x (8 + i) else bt x 31 := b_sshr 8 (by omega) x hi
/-! ===== forms of the calculus for plain answers, whether, and numbers ===== -/
theorem Rok.mono {X : XC} {a b : Nat} (h : Rok X b) (hab : a ≤ b) : Rok X a := by
  obtain ⟨p, l, e, R, s, m, args, below, meth, c, cells, slots, Q, A, D, ad, cs, H0⟩ := X
  exact ⟨Nat.le_trans hab h.1, Nat.le_trans (Nat.mul_le_mul_left 40 hab) h.2⟩
def rI (v : Int32) (σ0 : Mem) : Option Value → Mem → Prop := fun r σ => r = some (.int v) ∧ σ = σ0
def rV (σ0 : Mem) : Option Value → Mem → Prop := fun r σ => r = none ∧ σ = σ0
def rP (P : Int32 → Mem → Prop) : Option Value → Mem → Prop := fun r σ => ∃ v : Int32, r = some (.int v) ∧ P v σ
def rQ (P : Mem → Prop) : Option Value → Mem → Prop := fun r σ => r = none ∧ P σ
def bI (b : Bool) : Int32 := cond b (nI 1) (nI 0)
theorem bI_nar (b : Bool) : narrow .boolean (.int (bI b)) = .int (bI b) := by cases b <;> decide +kernel
theorem bI_z {b : Bool} : bI b = 0 ↔ b = false := by cases b <;> decide +kernel
theorem iinc1 (n : Nat) : nI n + Int32.ofInt 1 = nI (n + 1) := nI_1 n
theorem iincm1 (n : Nat) : nI (n + 1) + Int32.ofInt (-1) = nI n := pk_m1 n
theorem V_callVi {X : XC} {own : String} {cc : ByteArray} {nL pc : Nat} {ls : List (Option Value)} {st : List Value} {σ : Mem} {index n d mx : Nat} {y : MethodName} {bytes : ByteArray} {ret : Option FieldType} {As rest : List Value} {ci b : Nat} {fs : List (Option Nat)} {v : Int32} {σ2 : Mem} (hX : Cok X own cc nL) (hR : Rok X (d + 1)) (hm : MthV own index y ci bytes mx ret n) (hC : Cc y bytes mx ret d (.ref b :: As) σ (rI v σ2)) (hd : decode cc pc = .ok (.invokevirtual index, 3)) (hs : shp[b]? = some (.inl (ci, fs))) (hn : As.length = n) (hnl : ls.length = nL) (hst : st = As.reverse ++ .ref b :: rest) (hcat : csum rest ≤ 8) (kk : Vw X (pc + 3) ls (.int v :: rest) σ2) : Vw X pc ls st σ :=
  V_callV hX hR hm hC hd hs hn hnl hst hcat (fun r σ3 h => by obtain ⟨rfl, rfl⟩ := h; exact kk)
theorem V_callVv {X : XC} {own : String} {cc : ByteArray} {nL pc : Nat} {ls : List (Option Value)} {st : List Value} {σ : Mem} {index n d mx : Nat} {y : MethodName} {bytes : ByteArray} {ret : Option FieldType} {As rest : List Value} {ci b : Nat} {fs : List (Option Nat)} {σ2 : Mem} (hX : Cok X own cc nL) (hR : Rok X (d + 1)) (hm : MthV own index y ci bytes mx ret n) (hC : Cc y bytes mx ret d (.ref b :: As) σ (rV σ2)) (hd : decode cc pc = .ok (.invokevirtual index, 3)) (hs : shp[b]? = some (.inl (ci, fs))) (hn : As.length = n) (hnl : ls.length = nL) (hst : st = As.reverse ++ .ref b :: rest) (hcat : csum rest ≤ 8) (kk : Vw X (pc + 3) ls rest σ2) : Vw X pc ls st σ :=
  V_callV hX hR hm hC hd hs hn hnl hst hcat (fun r σ3 h => by obtain ⟨rfl, rfl⟩ := h; exact kk)
theorem V_callVp {X : XC} {own : String} {cc : ByteArray} {nL pc : Nat} {ls : List (Option Value)} {st : List Value} {σ : Mem} {index n d mx : Nat} {y : MethodName} {bytes : ByteArray} {ret : Option FieldType} {As rest : List Value} {ci b : Nat} {fs : List (Option Nat)} {P : Int32 → Mem → Prop} (hX : Cok X own cc nL) (hR : Rok X (d + 1)) (hm : MthV own index y ci bytes mx ret n) (hC : Cc y bytes mx ret d (.ref b :: As) σ (rP P)) (hd : decode cc pc = .ok (.invokevirtual index, 3)) (hs : shp[b]? = some (.inl (ci, fs))) (hn : As.length = n) (hnl : ls.length = nL) (hst : st = As.reverse ++ .ref b :: rest) (hcat : csum rest ≤ 8) (kk : ∀ (v : Int32) (σ2 : Mem), P v σ2 → Vw X (pc + 3) ls (.int v :: rest) σ2) : Vw X pc ls st σ :=
  V_callV hX hR hm hC hd hs hn hnl hst hcat (fun r σ3 h => by obtain ⟨v, rfl, h⟩ := h; exact kk v σ3 h)
theorem V_callVq {X : XC} {own : String} {cc : ByteArray} {nL pc : Nat} {ls : List (Option Value)} {st : List Value} {σ : Mem} {index n d mx : Nat} {y : MethodName} {bytes : ByteArray} {ret : Option FieldType} {As rest : List Value} {ci b : Nat} {fs : List (Option Nat)} {P : Mem → Prop} (hX : Cok X own cc nL) (hR : Rok X (d + 1)) (hm : MthV own index y ci bytes mx ret n) (hC : Cc y bytes mx ret d (.ref b :: As) σ (rQ P)) (hd : decode cc pc = .ok (.invokevirtual index, 3)) (hs : shp[b]? = some (.inl (ci, fs))) (hn : As.length = n) (hnl : ls.length = nL) (hst : st = As.reverse ++ .ref b :: rest) (hcat : csum rest ≤ 8) (kk : ∀ σ2 : Mem, P σ2 → Vw X (pc + 3) ls rest σ2) : Vw X pc ls st σ :=
  V_callV hX hR hm hC hd hs hn hnl hst hcat (fun r σ3 h => by obtain ⟨rfl, h⟩ := h; exact kk σ3 h)
theorem V_callSi {X : XC} {own : String} {cc : ByteArray} {nL pc : Nat} {ls : List (Option Value)} {st : List Value} {σ : Mem} {index n d mx : Nat} {y : MethodName} {bytes : ByteArray} {ret : Option FieldType} {As rest : List Value} {v : Int32} {σ2 : Mem} (hX : Cok X own cc nL) (hR : Rok X (d + 1)) (hm : MthS own index y bytes mx ret n) (hC : Cc y bytes mx ret d (As) σ (rI v σ2)) (hd : decode cc pc = .ok (.invokestatic index, 3)) (hn : As.length = n) (hnl : ls.length = nL) (hst : st = As.reverse ++ rest) (hcat : csum rest ≤ 8) (kk : Vw X (pc + 3) ls (.int v :: rest) σ2) : Vw X pc ls st σ :=
  V_callS hX hR hm hC hd hn hnl hst hcat (fun r σ3 h => by obtain ⟨rfl, rfl⟩ := h; exact kk)
theorem V_callSv {X : XC} {own : String} {cc : ByteArray} {nL pc : Nat} {ls : List (Option Value)} {st : List Value} {σ : Mem} {index n d mx : Nat} {y : MethodName} {bytes : ByteArray} {ret : Option FieldType} {As rest : List Value} {σ2 : Mem} (hX : Cok X own cc nL) (hR : Rok X (d + 1)) (hm : MthS own index y bytes mx ret n) (hC : Cc y bytes mx ret d (As) σ (rV σ2)) (hd : decode cc pc = .ok (.invokestatic index, 3)) (hn : As.length = n) (hnl : ls.length = nL) (hst : st = As.reverse ++ rest) (hcat : csum rest ≤ 8) (kk : Vw X (pc + 3) ls rest σ2) : Vw X pc ls st σ :=
  V_callS hX hR hm hC hd hn hnl hst hcat (fun r σ3 h => by obtain ⟨rfl, rfl⟩ := h; exact kk)
theorem V_callSp {X : XC} {own : String} {cc : ByteArray} {nL pc : Nat} {ls : List (Option Value)} {st : List Value} {σ : Mem} {index n d mx : Nat} {y : MethodName} {bytes : ByteArray} {ret : Option FieldType} {As rest : List Value} {P : Int32 → Mem → Prop} (hX : Cok X own cc nL) (hR : Rok X (d + 1)) (hm : MthS own index y bytes mx ret n) (hC : Cc y bytes mx ret d (As) σ (rP P)) (hd : decode cc pc = .ok (.invokestatic index, 3)) (hn : As.length = n) (hnl : ls.length = nL) (hst : st = As.reverse ++ rest) (hcat : csum rest ≤ 8) (kk : ∀ (v : Int32) (σ2 : Mem), P v σ2 → Vw X (pc + 3) ls (.int v :: rest) σ2) : Vw X pc ls st σ :=
  V_callS hX hR hm hC hd hn hnl hst hcat (fun r σ3 h => by obtain ⟨v, rfl, h⟩ := h; exact kk v σ3 h)
theorem V_callSq {X : XC} {own : String} {cc : ByteArray} {nL pc : Nat} {ls : List (Option Value)} {st : List Value} {σ : Mem} {index n d mx : Nat} {y : MethodName} {bytes : ByteArray} {ret : Option FieldType} {As rest : List Value} {P : Mem → Prop} (hX : Cok X own cc nL) (hR : Rok X (d + 1)) (hm : MthS own index y bytes mx ret n) (hC : Cc y bytes mx ret d (As) σ (rQ P)) (hd : decode cc pc = .ok (.invokestatic index, 3)) (hn : As.length = n) (hnl : ls.length = nL) (hst : st = As.reverse ++ rest) (hcat : csum rest ≤ 8) (kk : ∀ σ2 : Mem, P σ2 → Vw X (pc + 3) ls rest σ2) : Vw X pc ls st σ :=
  V_callS hX hR hm hC hd hn hnl hst hcat (fun r σ3 h => by obtain ⟨rfl, h⟩ := h; exact kk σ3 h)
theorem V_if_eqB {X : XC} {own : String} {cc : ByteArray} {nL pc : Nat} {ls : List (Option Value)} {st : List Value} {σ : Mem} {b : Bool} {off : Int} {tgt : Nat} (hX : Cok X own cc nL) (hd : decode cc pc = .ok (.ifCond .eq off, 3)) (ht : (pc : Int) + off = (tgt : Int)) (kt : b = false → Vw X tgt ls st σ) (kf : b = true → Vw X (pc + 3) ls st σ) : Vw X pc ls (.int (bI b) :: st) σ :=
  V_if_eq hX hd ht (fun h => kt (bI_z.mp h)) (fun h => kf (by cases b with
    | true => rfl
    | false => exact absurd (bI_z.mpr rfl) h))
theorem V_if_neB {X : XC} {own : String} {cc : ByteArray} {nL pc : Nat} {ls : List (Option Value)} {st : List Value} {σ : Mem} {b : Bool} {off : Int} {tgt : Nat} (hX : Cok X own cc nL) (hd : decode cc pc = .ok (.ifCond .ne off, 3)) (ht : (pc : Int) + off = (tgt : Int)) (kt : b = true → Vw X tgt ls st σ) (kf : b = false → Vw X (pc + 3) ls st σ) : Vw X pc ls (.int (bI b) :: st) σ :=
  V_if_ne hX hd ht (fun h => kt (by cases b with
    | true => rfl
    | false => exact absurd (bI_z.mpr rfl) h)) (fun h => kf (bI_z.mp h))
theorem V_icmp_eqN {X : XC} {own : String} {cc : ByteArray} {nL pc : Nat} {ls : List (Option Value)} {st : List Value} {σ : Mem} {a b : Nat} {off : Int} {tgt : Nat} (hX : Cok X own cc nL) (hd : decode cc pc = .ok (.if_icmp .eq off, 3)) (ht : (pc : Int) + off = (tgt : Int)) (ha : a < 2 ^ 31) (hb : b < 2 ^ 31) (kt : a = b → Vw X tgt ls st σ) (kf : a ≠ b → Vw X (pc + 3) ls st σ) : Vw X pc ls (.int (nI b) :: .int (nI a) :: st) σ :=
  V_icmp_eq hX hd ht (fun h => kt ((nI_eq ha hb).mp h)) (fun h => kf (fun q => h ((nI_eq ha hb).mpr q)))
theorem V_icmp_neN {X : XC} {own : String} {cc : ByteArray} {nL pc : Nat} {ls : List (Option Value)} {st : List Value} {σ : Mem} {a b : Nat} {off : Int} {tgt : Nat} (hX : Cok X own cc nL) (hd : decode cc pc = .ok (.if_icmp .ne off, 3)) (ht : (pc : Int) + off = (tgt : Int)) (ha : a < 2 ^ 31) (hb : b < 2 ^ 31) (kt : a ≠ b → Vw X tgt ls st σ) (kf : a = b → Vw X (pc + 3) ls st σ) : Vw X pc ls (.int (nI b) :: .int (nI a) :: st) σ :=
  V_icmp_ne hX hd ht (fun h => kt (fun q => h ((nI_eq ha hb).mpr q))) (fun h => kf ((nI_eq ha hb).mp h))
theorem V_icmp_ltN {X : XC} {own : String} {cc : ByteArray} {nL pc : Nat} {ls : List (Option Value)} {st : List Value} {σ : Mem} {a b : Nat} {off : Int} {tgt : Nat} (hX : Cok X own cc nL) (hd : decode cc pc = .ok (.if_icmp .lt off, 3)) (ht : (pc : Int) + off = (tgt : Int)) (ha : a < 2 ^ 31) (hb : b < 2 ^ 31) (kt : a < b → Vw X tgt ls st σ) (kf : b ≤ a → Vw X (pc + 3) ls st σ) : Vw X pc ls (.int (nI b) :: .int (nI a) :: st) σ :=
  V_icmp_lt hX hd ht (fun h => kt ((nI_ltI ha hb).mp h)) (fun h => kf (Nat.not_lt.mp (fun q => h ((nI_ltI ha hb).mpr q))))
theorem V_icmp_geN {X : XC} {own : String} {cc : ByteArray} {nL pc : Nat} {ls : List (Option Value)} {st : List Value} {σ : Mem} {a b : Nat} {off : Int} {tgt : Nat} (hX : Cok X own cc nL) (hd : decode cc pc = .ok (.if_icmp .ge off, 3)) (ht : (pc : Int) + off = (tgt : Int)) (ha : a < 2 ^ 31) (hb : b < 2 ^ 31) (kt : b ≤ a → Vw X tgt ls st σ) (kf : a < b → Vw X (pc + 3) ls st σ) : Vw X pc ls (.int (nI b) :: .int (nI a) :: st) σ :=
  V_icmp_ge hX hd ht (fun h => kt ((nI_leI hb ha).mp h)) (fun h => kf (Nat.not_le.mp (fun q => h ((nI_leI hb ha).mpr q))))
theorem V_icmp_gtN {X : XC} {own : String} {cc : ByteArray} {nL pc : Nat} {ls : List (Option Value)} {st : List Value} {σ : Mem} {a b : Nat} {off : Int} {tgt : Nat} (hX : Cok X own cc nL) (hd : decode cc pc = .ok (.if_icmp .gt off, 3)) (ht : (pc : Int) + off = (tgt : Int)) (ha : a < 2 ^ 31) (hb : b < 2 ^ 31) (kt : b < a → Vw X tgt ls st σ) (kf : a ≤ b → Vw X (pc + 3) ls st σ) : Vw X pc ls (.int (nI b) :: .int (nI a) :: st) σ :=
  V_icmp_gt hX hd ht (fun h => kt ((nI_ltI hb ha).mp h)) (fun h => kf (Nat.not_lt.mp (fun q => h ((nI_ltI hb ha).mpr q))))
theorem V_icmp_leN {X : XC} {own : String} {cc : ByteArray} {nL pc : Nat} {ls : List (Option Value)} {st : List Value} {σ : Mem} {a b : Nat} {off : Int} {tgt : Nat} (hX : Cok X own cc nL) (hd : decode cc pc = .ok (.if_icmp .le off, 3)) (ht : (pc : Int) + off = (tgt : Int)) (ha : a < 2 ^ 31) (hb : b < 2 ^ 31) (kt : a ≤ b → Vw X tgt ls st σ) (kf : b < a → Vw X (pc + 3) ls st σ) : Vw X pc ls (.int (nI b) :: .int (nI a) :: st) σ :=
  V_icmp_le hX hd ht (fun h => kt ((nI_leI ha hb).mp h)) (fun h => kf (Nat.not_le.mp (fun q => h ((nI_leI ha hb).mpr q))))
theorem mu_at {σ : Mem} {p i : Nat} {v : Int32} : mu σ p i v p i = v := by simp [mu]
theorem mu_np {σ : Mem} {p q i j : Nat} {v : Int32} (h : q ≠ p) : mu σ p i v q j = σ q j := by simp [mu, h]
theorem mu_ni {σ : Mem} {p i j : Nat} {v : Int32} (h : j ≠ i) : mu σ p i v p j = σ p j := by simp [mu, h]
