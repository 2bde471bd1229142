theorem long_sum {i n x : Int32} : (i.toInt64 + n.toInt64).toInt = i.toInt + n.toInt := by
  have a1 := Int32.toInt_lt i
  have a2 := Int32.le_toInt i
  have b1 := Int32.toInt_lt n
  have b2 := Int32.le_toInt n
  rw [Int64.toInt_add, Int32.toInt_toInt64, Int32.toInt_toInt64]
  exact Int.bmod_eq_of_le (by omega) (by omega)
theorem row_gt {i n x : Int32} (h : lg_cmp (i.toInt64 + n.toInt64) x.toInt64 > 0) : ¬ i.toInt + n.toInt ≤ x.toInt := by
  have h1 := (lg_cmp_gt _ _).mp h
  rw [Int64.lt_iff_toInt_lt, long_sum (x := x), Int32.toInt_toInt64] at h1
  omega
theorem row_le {i n x : Int32} (h : ¬ lg_cmp (i.toInt64 + n.toInt64) x.toInt64 > 0) : i.toInt + n.toInt ≤ x.toInt := by
  have h1 : ¬ x.toInt64 < i.toInt64 + n.toInt64 := fun q => h ((lg_cmp_gt _ _).mpr q)
  rw [Int64.lt_iff_toInt_lt, long_sum (x := x), Int32.toInt_toInt64] at h1
  omega
theorem cpy_up {f : Nat → Int32} {src dst n k : Nat} (hk : k < n) (h : dst ≤ src ∨ src + n ≤ dst) : upd (va_cpy f f src dst k) (dst + k) (va_cpy f f src dst k (src + k)) = va_cpy f f src dst (k + 1) := by
  have e : va_cpy f f src dst k (src + k) = f (src + k) := pk_cpy_out (by omega)
  rw [e]
  funext i
  simp only [upd, va_cpy]
  by_cases h1 : i = dst + k
  · rw [if_pos h1, if_pos (by omega), show src + (i - dst) = src + k by omega]
  · rw [if_neg h1]
    by_cases h2 : dst ≤ i ∧ i < dst + k
    · rw [if_pos h2, if_pos (by omega)]
    · rw [if_neg h2, if_neg (by omega)]
theorem cpy_dn {f : Nat → Int32} {src dst n k : Nat} (hk : k < n) (h : src ≤ dst ∨ dst + n ≤ src) : upd (va_cpy f f (src + (n - k)) (dst + (n - k)) k) (dst + (n - 1 - k)) (va_cpy f f (src + (n - k)) (dst + (n - k)) k (src + (n - 1 - k))) = va_cpy f f (src + (n - (k + 1))) (dst + (n - (k + 1))) (k + 1) := by
  have e : va_cpy f f (src + (n - k)) (dst + (n - k)) k (src + (n - 1 - k)) = f (src + (n - 1 - k)) := pk_cpy_out (by omega)
  rw [e]
  funext i
  simp only [upd, va_cpy]
  by_cases h1 : i = dst + (n - 1 - k)
  · rw [if_pos h1, if_pos (by omega), show src + (n - (k + 1)) + (i - (dst + (n - (k + 1)))) = src + (n - 1 - k) by omega]
  · rw [if_neg h1]
    by_cases h2 : dst + (n - k) ≤ i ∧ i < dst + (n - k) + k
    · rw [if_pos h2, if_pos (by omega), show src + (n - (k + 1)) + (i - (dst + (n - (k + 1)))) = src + (n - k) + (i - (dst + (n - k))) by omega]
    · rw [if_neg h2, if_neg (by omega)]
theorem cpy_0 (f g : Nat → Int32) (sp dp : Nat) : va_cpy f g sp dp 0 = g := by
  funext i
  simp only [va_cpy]
  rw [if_neg (by omega)]
set_option maxRecDepth 100000 in
set_option maxHeartbeats 4000000 in
theorem l_mcopyU {a b i j n : Nat} {z : Option Value} {X : XC} {P : Option Value → Mem → Prop} {σ : Mem} (hX : Cok X RX6 cX6_copy 9) (hR : Rok X 0) (hr : Ret X (some .int) P) (hz : nol [z] = true) (ha : a < 8) (hb : b < 8) (hi : i + n ≤ 60) (hj : j + n ≤ 60) (hd : 60 * b + j ≤ 60 * a + i ∨ 60 * a + i + n ≤ 60 * b + j) (hp : P (some (.int (nI n))) (mf σ 55 (va_cpy (σ 55) (σ 55) (60 * a + i) (60 * b + j) n))) (k : Nat) (hk : k ≤ n) :
    Vw X 143 [some (.ref 52), some (.int (nI a)), some (.int (nI i)), some (.int (nI b)), some (.int (nI j)), some (.int (nI n)), some (.int (bI true)), some (.int (nI k)), z] [] (mf σ 55 (va_cpy (σ 55) (σ 55) (60 * a + i) (60 * b + j) k)) := by
  have ih := fun (h : k < n) => l_mcopyU hX hR hr (z := some (.int (nI k))) rfl ha hb hi hj hd hp (k + 1) h
  refine V_iload (pc := 143) (i := 7) hX dX6_copy_143 rfl ?_
  refine V_iload (pc := 145) (i := 5) hX dX6_copy_145 rfl ?_
  refine V_icmp_geN (pc := 147) (tgt := 204) hX dX6_copy_147 (by decide) (by omega) (by omega) (fun h147 => ?_) (fun h147 => ?_)
  · obtain rfl : k = n := by omega
    refine V_iload (pc := 204) (i := 5) hX dX6_copy_204 rfl ?_
    exact V_iret (pc := 206) (st := []) hX hr (by first | rfl | exact bI_nar _ | decide +kernel) dX6_copy_206 (hp)
  · refine V_iload (pc := 150) (i := 6) hX dX6_copy_150 rfl ?_
    refine V_if_eqB (pc := 152) (tgt := 160) hX dX6_copy_152 (by decide) (fun h152 => absurd h152 (by decide)) (fun h152 => ?_)
    refine V_iload (pc := 155) (i := 7) hX dX6_copy_155 rfl ?_
    refine V_goto (pc := 157) (tgt := 167) hX dX6_copy_157 (by decide) ?_
    refine V_istore8 (pc := 167) hX dX6_copy_167 hz ?_
    refine V_aload_n (pc := 169) (i := 0) hX dX6_copy_169 rfl rfl ?_
    refine V_getr (pc := 170) hX fX6_16 dX6_copy_170 rfl rfl ?_
    refine V_bipush (pc := 173) (v := (nI 60)) hX dX6_copy_173 (by decide +kernel) ?_
    refine V_iload_n (pc := 175) (i := 3) hX dX6_copy_175 rfl rfl ?_
    refine V_imul (pc := 176) hX dX6_copy_176 ?_
    refine V_iload (pc := 177) (i := 4) hX dX6_copy_177 rfl ?_
    refine V_iadd (pc := 179) hX dX6_copy_179 ?_
    refine V_iload (pc := 180) (i := 8) hX dX6_copy_180 rfl ?_
    refine V_iadd (pc := 182) hX dX6_copy_182 ?_
    refine V_aload_n (pc := 183) (i := 0) hX dX6_copy_183 rfl rfl ?_
    refine V_getr (pc := 184) hX fX6_16 dX6_copy_184 rfl rfl ?_
    refine V_bipush (pc := 187) (v := (nI 60)) hX dX6_copy_187 (by decide +kernel) ?_
    refine V_iload_n (pc := 189) (i := 1) hX dX6_copy_189 rfl rfl ?_
    refine V_imul (pc := 190) hX dX6_copy_190 ?_
    refine V_iload_n (pc := 191) (i := 2) hX dX6_copy_191 rfl rfl ?_
    refine V_iadd (pc := 192) hX dX6_copy_192 ?_
    refine V_iload (pc := 193) (i := 8) hX dX6_copy_193 rfl ?_
    refine V_iadd (pc := 195) hX dX6_copy_195 ?_
    refine V_iald (pc := 196) hX dX6_copy_196 (rfl) (show _ = nI (60 * a + i + k) by rw [pk_mul, nI_add, nI_add]) (by omega) (by decide) ?_
    refine V_iast (pc := 197) hX dX6_copy_197 (rfl) (show _ = nI (60 * b + j + k) by rw [pk_mul, nI_add, nI_add]) (by omega) (by decide) ?_
    refine V_iinc7 (pc := 198) hX dX6_copy_198 rfl (iinc1 _) ?_
    refine V_goto (pc := 201) (tgt := 143) hX dX6_copy_201 (by decide) ?_
    have ihk := ih h147
    rw [mf_at, if_pos rfl, mf_mu, cpy_up h147 hd]
    exact ihk
termination_by n - k
set_option maxRecDepth 100000 in
set_option maxHeartbeats 4000000 in
theorem l_mcopyD {a b i j n : Nat} {z : Option Value} {X : XC} {P : Option Value → Mem → Prop} {σ : Mem} (hX : Cok X RX6 cX6_copy 9) (hR : Rok X 0) (hr : Ret X (some .int) P) (hz : nol [z] = true) (ha : a < 8) (hb : b < 8) (hi : i + n ≤ 60) (hj : j + n ≤ 60) (hd : 60 * a + i ≤ 60 * b + j ∨ 60 * b + j + n ≤ 60 * a + i) (hp : P (some (.int (nI n))) (mf σ 55 (va_cpy (σ 55) (σ 55) (60 * a + i) (60 * b + j) n))) (k : Nat) (hk : k ≤ n) :
    Vw X 143 [some (.ref 52), some (.int (nI a)), some (.int (nI i)), some (.int (nI b)), some (.int (nI j)), some (.int (nI n)), some (.int (bI false)), some (.int (nI k)), z] [] (mf σ 55 (va_cpy (σ 55) (σ 55) (60 * a + i + (n - k)) (60 * b + j + (n - k)) k)) := by
  have ih := fun (h : k < n) => l_mcopyD hX hR hr (z := some (.int (nI (n - 1 - k)))) rfl ha hb hi hj hd hp (k + 1) h
  refine V_iload (pc := 143) (i := 7) hX dX6_copy_143 rfl ?_
  refine V_iload (pc := 145) (i := 5) hX dX6_copy_145 rfl ?_
  refine V_icmp_geN (pc := 147) (tgt := 204) hX dX6_copy_147 (by decide) (by omega) (by omega) (fun h147 => ?_) (fun h147 => ?_)
  · obtain rfl : k = n := by omega
    rw [Nat.sub_self, Nat.add_zero, Nat.add_zero]
    refine V_iload (pc := 204) (i := 5) hX dX6_copy_204 rfl ?_
    exact V_iret (pc := 206) (st := []) hX hr (by first | rfl | exact bI_nar _ | decide +kernel) dX6_copy_206 (hp)
  · refine V_iload (pc := 150) (i := 6) hX dX6_copy_150 rfl ?_
    refine V_if_eqB (pc := 152) (tgt := 160) hX dX6_copy_152 (by decide) (fun h152 => ?_) (fun h152 => absurd h152 (by decide))
    refine V_iload (pc := 160) (i := 5) hX dX6_copy_160 rfl ?_
    refine V_iconst (pc := 162) (v := (nI 1)) hX dX6_copy_162 (by decide +kernel) ?_
    refine V_isub (pc := 163) hX dX6_copy_163 ?_
    refine V_iload (pc := 164) (i := 7) hX dX6_copy_164 rfl ?_
    refine V_isub (pc := 166) hX dX6_copy_166 ?_
    rw [pk_sub (by omega), pk_sub (by omega)]
    refine V_istore8 (pc := 167) hX dX6_copy_167 hz ?_
    refine V_aload_n (pc := 169) (i := 0) hX dX6_copy_169 rfl rfl ?_
    refine V_getr (pc := 170) hX fX6_16 dX6_copy_170 rfl rfl ?_
    refine V_bipush (pc := 173) (v := (nI 60)) hX dX6_copy_173 (by decide +kernel) ?_
    refine V_iload_n (pc := 175) (i := 3) hX dX6_copy_175 rfl rfl ?_
    refine V_imul (pc := 176) hX dX6_copy_176 ?_
    refine V_iload (pc := 177) (i := 4) hX dX6_copy_177 rfl ?_
    refine V_iadd (pc := 179) hX dX6_copy_179 ?_
    refine V_iload (pc := 180) (i := 8) hX dX6_copy_180 rfl ?_
    refine V_iadd (pc := 182) hX dX6_copy_182 ?_
    refine V_aload_n (pc := 183) (i := 0) hX dX6_copy_183 rfl rfl ?_
    refine V_getr (pc := 184) hX fX6_16 dX6_copy_184 rfl rfl ?_
    refine V_bipush (pc := 187) (v := (nI 60)) hX dX6_copy_187 (by decide +kernel) ?_
    refine V_iload_n (pc := 189) (i := 1) hX dX6_copy_189 rfl rfl ?_
    refine V_imul (pc := 190) hX dX6_copy_190 ?_
    refine V_iload_n (pc := 191) (i := 2) hX dX6_copy_191 rfl rfl ?_
    refine V_iadd (pc := 192) hX dX6_copy_192 ?_
    refine V_iload (pc := 193) (i := 8) hX dX6_copy_193 rfl ?_
    refine V_iadd (pc := 195) hX dX6_copy_195 ?_
    refine V_iald (pc := 196) hX dX6_copy_196 (rfl) (show _ = nI (60 * a + i + (n - 1 - k)) by rw [pk_mul, nI_add, nI_add]) (by omega) (by decide) ?_
    refine V_iast (pc := 197) hX dX6_copy_197 (rfl) (show _ = nI (60 * b + j + (n - 1 - k)) by rw [pk_mul, nI_add, nI_add]) (by omega) (by decide) ?_
    refine V_iinc7 (pc := 198) hX dX6_copy_198 rfl (iinc1 _) ?_
    refine V_goto (pc := 201) (tgt := 143) hX dX6_copy_201 (by decide) ?_
    have ihk := ih h147
    rw [mf_at, if_pos rfl, mf_mu, cpy_dn h147 hd]
    exact ihk
termination_by n - k
def mcpf (σ : Mem) (a b i j n : Int32) : Int32 := if σ 53 (tn a) = (-1) ∨ σ 53 (tn b) = (-1) then nI 1 else if σ 53 (tn a) = σ 53 (tn b) then (if rowM (σ 54 (tn a)) i n ∧ rowM (σ 54 (tn b)) j n then nI 0 else nI 2) else nI 5
def mcopyV (σ : Mem) (a i b j n : Int32) : Int32 := if cpOK a b then (if mcpf σ a b i j n = 0 then n else (-1000010) - mcpf σ a b i j n) else (-1000001)
def mcopyM (σ : Mem) (a i b j n : Int32) : Mem := if cpOK a b then (if mcpf σ a b i j n = 0 then mf (m1 σ) 55 (va_cpy (σ 55) (σ 55) (60 * tn a + tn i) (60 * tn b + tn j) (tn n)) else mu (m1 σ) 52 1 (mcpf σ a b i j n)) else m0 σ
set_option maxRecDepth 100000 in
set_option maxHeartbeats 4000000 in
theorem c_mcopy (a i b j n : Int32) (σ : Mem) (hz : mzok σ) : Cc yX6_copy cX6_copy 9 (some .int) 2 [.ref 52, .int a, .int i, .int b, .int j, .int n] σ (rI (mcopyV σ a i b j n) (mcopyM σ a i b j n)) := by
  refine Cc.intro (by decide +kernel) [some (.ref 52), some (.int a), some (.int i), some (.int b), some (.int j), some (.int n), none, none, none] (fun _ => rfl) rfl (fun _ => Nat.le_of_ble_eq_true rfl) ?_
  intro X hX hR hr
  have b53 : m1 σ 53 = σ 53 := m1_r (by decide)
  have b54 : m1 σ 54 = σ 54 := m1_r (by decide)
  have b55 : m1 σ 55 = σ 55 := m1_r (by decide)
  refine V_aload_n (pc := 0) (i := 0) hX dX6_copy_0 rfl rfl ?_
  refine V_iconst (pc := 1) (v := (nI 0)) hX dX6_copy_1 (by decide +kernel) ?_
  refine V_putf (pc := 2) hX fX6_66 gi6_0 dX6_copy_2 rfl rfl ?_
  refine Vw.mem (rfl : m0 σ = _) ?_
  refine V_iload_n (pc := 5) (i := 1) hX dX6_copy_5 rfl rfl ?_
  refine V_callSi (pc := 6) hX (hR.mono (by omega)) mX6_79 (c_misSheet _ _) dX6_copy_6 rfl rfl rfl (Nat.le_of_ble_eq_true rfl) ?_
  refine V_if_eqB (pc := 9) (tgt := 19) hX dX6_copy_9 (by decide) (fun h9 => ?_) (fun h9 => ?_)
  · refine V_ldc (pc := 19) hX kX6_85 dX6_copy_19 ?_
    exact V_iret (pc := 21) (st := []) hX hr (by first | rfl | exact bI_nar _ | decide +kernel) dX6_copy_21 (⟨by rw [mcopyV, cpOK, h9]; rfl, by rw [mcopyM, cpOK, h9]; rfl⟩)
  · refine V_iload_n (pc := 12) (i := 3) hX dX6_copy_12 rfl rfl ?_
    refine V_callSi (pc := 13) hX (hR.mono (by omega)) mX6_79 (c_misSheet _ _) dX6_copy_13 rfl rfl rfl (Nat.le_of_ble_eq_true rfl) ?_
    refine V_if_neB (pc := 16) (tgt := 22) hX dX6_copy_16 (by decide) (fun h16 => ?_) (fun h16 => ?_)
    · obtain ⟨a', ha, rfl⟩ := inr_of h9 (by decide)
      obtain ⟨b', hb, rfl⟩ := inr_of h16 (by decide)
      obtain ⟨hla, ma, hma, ema⟩ := hz a' ha
      obtain ⟨hlb, mb, hmb, emb⟩ := hz b' hb
      have eo : cpOK (nI a') (nI b') = true := by rw [cpOK, h9, h16]; rfl
      have ta : tn (nI a') = a' := tn_nI (by omega)
      have tb : tn (nI b') = b' := tn_nI (by omega)
      have f1 : (σ 53 a' = (-1) ∨ σ 53 b' = (-1)) → mcpf σ (nI a') (nI b') i j n = nI 1 := fun h => by rw [mcpf, ta, tb, if_pos h]
      have f5 : ¬ (σ 53 a' = (-1) ∨ σ 53 b' = (-1)) → ¬ σ 53 a' = σ 53 b' → mcpf σ (nI a') (nI b') i j n = nI 5 := fun h h2 => by rw [mcpf, ta, tb, if_neg h, if_neg h2]
      have f2 : ¬ (σ 53 a' = (-1) ∨ σ 53 b' = (-1)) → σ 53 a' = σ 53 b' → ¬ (rowM (σ 54 a') i n = true ∧ rowM (σ 54 b') j n = true) → mcpf σ (nI a') (nI b') i j n = nI 2 := fun h h2 h3 => by rw [mcpf, ta, tb, if_neg h, if_pos h2, if_neg h3]
      have f0 : ¬ (σ 53 a' = (-1) ∨ σ 53 b' = (-1)) → σ 53 a' = σ 53 b' → (rowM (σ 54 a') i n = true ∧ rowM (σ 54 b') j n = true) → mcpf σ (nI a') (nI b') i j n = nI 0 := fun h h2 h3 => by rw [mcpf, ta, tb, if_neg h, if_pos h2, if_pos h3]
      have bad : ∀ k : Nat, 0 < k → k < 6 → mcpf σ (nI a') (nI b') i j n = nI k → some (Value.int ((-1000010) - nI k)) = some (Value.int (mcopyV σ (nI a') i (nI b') j n)) ∧ mu (m1 σ) 52 1 (nI k) = mcopyM σ (nI a') i (nI b') j n := by
        intro k h0 h6 e
        have h7 : ¬ nI k = 0 := nI_ne0 h0 (by omega)
        exact ⟨by rw [mcopyV, eo, if_pos rfl, e, if_neg h7], by rw [mcopyM, eo, if_pos rfl, e, if_neg h7]⟩
      have neg : ∀ {x : Int32}, x < 0 → ¬ 0 ≤ x.toInt := fun {x} h q => by
        rw [Int32.lt_iff_toInt_lt, Int32.toInt_zero] at h
        omega
      have pos : ∀ {x : Int32}, ¬ x < 0 → 0 ≤ x.toInt := fun {x} h => by
        rw [Int32.lt_iff_toInt_lt, Int32.toInt_zero] at h
        omega
      refine V_aload_n (pc := 22) (i := 0) hX dX6_copy_22 rfl rfl ?_
      refine V_iconst (pc := 23) (v := (nI 0)) hX dX6_copy_23 (by decide +kernel) ?_
      refine V_putf (pc := 24) hX fX6_69 gi6_1 dX6_copy_24 rfl rfl ?_
      refine Vw.mem (rfl : m1 σ = _) ?_
      refine V_aload_n (pc := 27) (i := 0) hX dX6_copy_27 rfl rfl ?_
      refine V_getr (pc := 28) hX fX6_7 dX6_copy_28 rfl rfl ?_
      refine V_iload_n (pc := 31) (i := 1) hX dX6_copy_31 rfl rfl ?_
      refine V_iald (pc := 32) hX dX6_copy_32 (rfl) (rfl) (by omega) (by decide) ?_
      rw [b53]
      refine V_if_lt (pc := 33) (tgt := 45) hX dX6_copy_33 (by decide) (fun h33 => ?_) (fun h33 => ?_)
      · refine V_aload_n (pc := 45) (i := 0) hX dX6_copy_45 rfl rfl ?_
        refine V_iconst (pc := 46) (v := (nI 1)) hX dX6_copy_46 (by decide +kernel) ?_
        refine V_callVi (pc := 47) hX (hR.mono (by omega)) mX6_86 (c_found _ _) dX6_copy_47 rfl rfl rfl rfl (Nat.le_of_ble_eq_true rfl) ?_
        exact V_iret (pc := 50) (st := []) hX hr (by first | rfl | exact bI_nar _ | decide +kernel) dX6_copy_50 (bad 1 (by decide) (by decide) (f1 (Or.inl (lane_neg hz ha (Int32.not_le.mpr h33)))))
      · refine V_aload_n (pc := 36) (i := 0) hX dX6_copy_36 rfl rfl ?_
        refine V_getr (pc := 37) hX fX6_7 dX6_copy_37 rfl rfl ?_
        refine V_iload_n (pc := 40) (i := 3) hX dX6_copy_40 rfl rfl ?_
        refine V_iald (pc := 41) hX dX6_copy_41 (rfl) (rfl) (by omega) (by decide) ?_
        rw [b53]
        refine V_if_ge (pc := 42) (tgt := 51) hX dX6_copy_42 (by decide) (fun h42 => ?_) (fun h42 => ?_)
        · have hn1 : ¬ (σ 53 a' = (-1) ∨ σ 53 b' = (-1)) := fun q => q.elim (lane_pos (Int32.not_lt.mp h33)) (lane_pos h42)
          refine V_aload_n (pc := 51) (i := 0) hX dX6_copy_51 rfl rfl ?_
          refine V_getr (pc := 52) hX fX6_7 dX6_copy_52 rfl rfl ?_
          refine V_iload_n (pc := 55) (i := 1) hX dX6_copy_55 rfl rfl ?_
          refine V_iald (pc := 56) hX dX6_copy_56 (rfl) (rfl) (by omega) (by decide) ?_
          refine V_aload_n (pc := 57) (i := 0) hX dX6_copy_57 rfl rfl ?_
          refine V_getr (pc := 58) hX fX6_7 dX6_copy_58 rfl rfl ?_
          refine V_iload_n (pc := 61) (i := 3) hX dX6_copy_61 rfl rfl ?_
          refine V_iald (pc := 62) hX dX6_copy_62 (rfl) (rfl) (by omega) (by decide) ?_
          rw [b53]
          refine V_icmp_eq (pc := 63) (tgt := 72) hX dX6_copy_63 (by decide) (fun h63 => ?_) (fun h63 => ?_)
          · refine V_iload_n (pc := 72) (i := 2) hX dX6_copy_72 rfl rfl ?_
            refine V_if_lt (pc := 73) (tgt := 121) hX dX6_copy_73 (by decide) (fun h73 => ?_) (fun h73 => ?_)
            · refine V_aload_n (pc := 121) (i := 0) hX dX6_copy_121 rfl rfl ?_
              refine V_iconst (pc := 122) (v := (nI 2)) hX dX6_copy_122 (by decide +kernel) ?_
              refine V_callVi (pc := 123) hX (hR.mono (by omega)) mX6_86 (c_found _ _) dX6_copy_123 rfl rfl rfl rfl (Nat.le_of_ble_eq_true rfl) ?_
              exact V_iret (pc := 126) (st := []) hX hr (by first | rfl | exact bI_nar _ | decide +kernel) dX6_copy_126 (bad 2 (by decide) (by decide) (f2 hn1 h63 (fun q => neg h73 (of_decide_eq_true q.1).1)))
            · refine V_iload (pc := 76) (i := 4) hX dX6_copy_76 rfl ?_
              refine V_if_lt (pc := 78) (tgt := 121) hX dX6_copy_78 (by decide) (fun h78 => ?_) (fun h78 => ?_)
              · refine V_aload_n (pc := 121) (i := 0) hX dX6_copy_121 rfl rfl ?_
                refine V_iconst (pc := 122) (v := (nI 2)) hX dX6_copy_122 (by decide +kernel) ?_
                refine V_callVi (pc := 123) hX (hR.mono (by omega)) mX6_86 (c_found _ _) dX6_copy_123 rfl rfl rfl rfl (Nat.le_of_ble_eq_true rfl) ?_
                exact V_iret (pc := 126) (st := []) hX hr (by first | rfl | exact bI_nar _ | decide +kernel) dX6_copy_126 (bad 2 (by decide) (by decide) (f2 hn1 h63 (fun q => neg h78 (of_decide_eq_true q.2).1)))
              · refine V_iload (pc := 81) (i := 5) hX dX6_copy_81 rfl ?_
                refine V_if_lt (pc := 83) (tgt := 121) hX dX6_copy_83 (by decide) (fun h83 => ?_) (fun h83 => ?_)
                · refine V_aload_n (pc := 121) (i := 0) hX dX6_copy_121 rfl rfl ?_
                  refine V_iconst (pc := 122) (v := (nI 2)) hX dX6_copy_122 (by decide +kernel) ?_
                  refine V_callVi (pc := 123) hX (hR.mono (by omega)) mX6_86 (c_found _ _) dX6_copy_123 rfl rfl rfl rfl (Nat.le_of_ble_eq_true rfl) ?_
                  exact V_iret (pc := 126) (st := []) hX hr (by first | rfl | exact bI_nar _ | decide +kernel) dX6_copy_126 (bad 2 (by decide) (by decide) (f2 hn1 h63 (fun q => neg h83 (of_decide_eq_true q.1).2.1)))
                · refine V_iload_n (pc := 86) (i := 2) hX dX6_copy_86 rfl rfl ?_
                  refine V_i2l (pc := 87) hX dX6_copy_87 ?_
                  refine V_iload (pc := 88) (i := 5) hX dX6_copy_88 rfl ?_
                  refine V_i2l (pc := 90) hX dX6_copy_90 ?_
                  refine V_ladd (pc := 91) hX dX6_copy_91 ?_
                  refine V_aload_n (pc := 92) (i := 0) hX dX6_copy_92 rfl rfl ?_
                  refine V_getr (pc := 93) hX fX6_13 dX6_copy_93 rfl rfl ?_
                  refine V_iload_n (pc := 96) (i := 1) hX dX6_copy_96 rfl rfl ?_
                  refine V_iald (pc := 97) hX dX6_copy_97 (rfl) (rfl) (by omega) (by decide) ?_
                  rw [b54]
                  refine V_i2l (pc := 98) hX dX6_copy_98 ?_
                  refine V_lcmp (pc := 99) hX dX6_copy_99 ?_
                  refine V_if_gt (pc := 100) (tgt := 121) hX dX6_copy_100 (by decide) (fun h100 => ?_) (fun h100 => ?_)
                  · refine V_aload_n (pc := 121) (i := 0) hX dX6_copy_121 rfl rfl ?_
                    refine V_iconst (pc := 122) (v := (nI 2)) hX dX6_copy_122 (by decide +kernel) ?_
                    refine V_callVi (pc := 123) hX (hR.mono (by omega)) mX6_86 (c_found _ _) dX6_copy_123 rfl rfl rfl rfl (Nat.le_of_ble_eq_true rfl) ?_
                    exact V_iret (pc := 126) (st := []) hX hr (by first | rfl | exact bI_nar _ | decide +kernel) dX6_copy_126 (bad 2 (by decide) (by decide) (f2 hn1 h63 (fun q => row_gt h100 (of_decide_eq_true q.1).2.2)))
                  · refine V_iload (pc := 103) (i := 4) hX dX6_copy_103 rfl ?_
                    refine V_i2l (pc := 105) hX dX6_copy_105 ?_
                    refine V_iload (pc := 106) (i := 5) hX dX6_copy_106 rfl ?_
                    refine V_i2l (pc := 108) hX dX6_copy_108 ?_
                    refine V_ladd (pc := 109) hX dX6_copy_109 ?_
                    refine V_aload_n (pc := 110) (i := 0) hX dX6_copy_110 rfl rfl ?_
                    refine V_getr (pc := 111) hX fX6_13 dX6_copy_111 rfl rfl ?_
                    refine V_iload_n (pc := 114) (i := 3) hX dX6_copy_114 rfl rfl ?_
                    refine V_iald (pc := 115) hX dX6_copy_115 (rfl) (rfl) (by omega) (by decide) ?_
                    rw [b54]
                    refine V_i2l (pc := 116) hX dX6_copy_116 ?_
                    refine V_lcmp (pc := 117) hX dX6_copy_117 ?_
                    refine V_if_le (pc := 118) (tgt := 127) hX dX6_copy_118 (by decide) (fun h118 => ?_) (fun h118 => ?_)
                    · have ra : rowM (σ 54 a') i n = true := decide_eq_true ⟨pos h73, pos h83, row_le h100⟩
                      have rb : rowM (σ 54 b') j n = true := decide_eq_true ⟨pos h78, pos h83, row_le (Int32.not_lt.mpr h118)⟩
                      have e0 := f0 hn1 h63 ⟨ra, rb⟩
                      rw [ema] at ra
                      rw [emb] at rb
                      obtain ⟨i', n', rfl, rfl, hl1⟩ := rowM_of hma ra
                      obtain ⟨j', n2, rfl, e5, hl2⟩ := rowM_of hmb rb
                      obtain rfl : n' = n2 := by
                        have := congrArg Int32.toInt e5
                        rw [nI_toInt (by omega), nI_toInt (by omega)] at this
                        omega
                      have hgood : some (Value.int (nI n')) = some (Value.int (mcopyV σ (nI a') (nI i') (nI b') (nI j') (nI n'))) ∧ mf (m1 σ) 55 (va_cpy (m1 σ 55) (m1 σ 55) (60 * a' + i') (60 * b' + j') n') = mcopyM σ (nI a') (nI i') (nI b') (nI j') (nI n') :=
                        ⟨by rw [mcopyV, eo, if_pos rfl, e0, if_pos nI_0], by rw [mcopyM, eo, if_pos rfl, e0, if_pos nI_0, b55, ta, tb, tn_nI (by omega), tn_nI (by omega), tn_nI (by omega)]⟩
                      refine V_iload_n (pc := 127) (i := 2) hX dX6_copy_127 rfl rfl ?_
                      refine V_iload (pc := 128) (i := 4) hX dX6_copy_128 rfl ?_
                      refine V_icmp_lt (pc := 130) (tgt := 137) hX dX6_copy_130 (by decide) (fun h130 => ?_) (fun h130 => ?_)
                      · refine V_iconst (pc := 137) (v := (nI 0)) hX dX6_copy_137 (by decide +kernel) ?_
                        refine V_istore6 (pc := 138) hX dX6_copy_138 rfl ?_
                        refine V_iconst (pc := 140) (v := (nI 0)) hX dX6_copy_140 (by decide +kernel) ?_
                        refine V_istore7 (pc := 141) hX dX6_copy_141 rfl ?_
                        have h128 : i' < j' := (nI_ltI (by omega) (by omega)).mp h130
                        refine Vw.mem (show mf (m1 σ) 55 (va_cpy (m1 σ 55) (m1 σ 55) (60 * a' + i' + (n' - 0)) (60 * b' + j' + (n' - 0)) 0) = _ by rw [cpy_0, mf_id]) ?_
                        exact l_mcopyD (z := none) hX (hR.mono (by omega)) hr rfl ha hb (by omega) (by omega) (by rcases Nat.lt_trichotomy a' b' with q | q | q <;> omega) hgood 0 (by omega)
                      · refine V_iconst (pc := 133) (v := (nI 1)) hX dX6_copy_133 (by decide +kernel) ?_
                        refine V_goto (pc := 134) (tgt := 138) hX dX6_copy_134 (by decide) ?_
                        refine V_istore6 (pc := 138) hX dX6_copy_138 rfl ?_
                        refine V_iconst (pc := 140) (v := (nI 0)) hX dX6_copy_140 (by decide +kernel) ?_
                        refine V_istore7 (pc := 141) hX dX6_copy_141 rfl ?_
                        have h128 : ¬ i' < j' := fun q => h130 ((nI_ltI (by omega) (by omega)).mpr q)
                        refine Vw.mem (show mf (m1 σ) 55 (va_cpy (m1 σ 55) (m1 σ 55) (60 * a' + i') (60 * b' + j') 0) = _ by rw [cpy_0, mf_id]) ?_
                        exact l_mcopyU (z := none) hX (hR.mono (by omega)) hr rfl ha hb (by omega) (by omega) (by rcases Nat.lt_trichotomy a' b' with q | q | q <;> omega) hgood 0 (by omega)
                    · refine V_aload_n (pc := 121) (i := 0) hX dX6_copy_121 rfl rfl ?_
                      refine V_iconst (pc := 122) (v := (nI 2)) hX dX6_copy_122 (by decide +kernel) ?_
                      refine V_callVi (pc := 123) hX (hR.mono (by omega)) mX6_86 (c_found _ _) dX6_copy_123 rfl rfl rfl rfl (Nat.le_of_ble_eq_true rfl) ?_
                      exact V_iret (pc := 126) (st := []) hX hr (by first | rfl | exact bI_nar _ | decide +kernel) dX6_copy_126 (bad 2 (by decide) (by decide) (f2 hn1 h63 (fun q => row_gt (Int32.not_le.mp h118) (of_decide_eq_true q.2).2.2)))
          · refine V_aload_n (pc := 66) (i := 0) hX dX6_copy_66 rfl rfl ?_
            refine V_iconst (pc := 67) (v := (nI 5)) hX dX6_copy_67 (by decide +kernel) ?_
            refine V_callVi (pc := 68) hX (hR.mono (by omega)) mX6_86 (c_found _ _) dX6_copy_68 rfl rfl rfl rfl (Nat.le_of_ble_eq_true rfl) ?_
            exact V_iret (pc := 71) (st := []) hX hr (by first | rfl | exact bI_nar _ | decide +kernel) dX6_copy_71 (bad 5 (by decide) (by decide) (f5 hn1 h63))
        · refine V_aload_n (pc := 45) (i := 0) hX dX6_copy_45 rfl rfl ?_
          refine V_iconst (pc := 46) (v := (nI 1)) hX dX6_copy_46 (by decide +kernel) ?_
          refine V_callVi (pc := 47) hX (hR.mono (by omega)) mX6_86 (c_found _ _) dX6_copy_47 rfl rfl rfl rfl (Nat.le_of_ble_eq_true rfl) ?_
          exact V_iret (pc := 50) (st := []) hX hr (by first | rfl | exact bI_nar _ | decide +kernel) dX6_copy_50 (bad 1 (by decide) (by decide) (f1 (Or.inr (lane_neg hz hb h42))))
    · refine V_ldc (pc := 19) hX kX6_85 dX6_copy_19 ?_
      exact V_iret (pc := 21) (st := []) hX hr (by first | rfl | exact bI_nar _ | decide +kernel) dX6_copy_21 (⟨by rw [mcopyV, cpOK, h9, h16]; rfl, by rw [mcopyM, cpOK, h9, h16]; rfl⟩)

