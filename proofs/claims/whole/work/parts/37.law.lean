/-! ===== the law's loop, over any invariant ===== -/
def Scr (X : XC) (L : Nat) (xs : Nat → Int32) : Prop := match X with
  | (_, _, _, _, s, _, _, _, _, _, _, _, _, A, _, ad, _, H0) => va_X (ad 70) L xs s H0 ∧ ad 70 < H0.size ∧ ¬ A (ad 70)
theorem V_sld {X : XC} {own : String} {cc : ByteArray} {nL pc : Nat} {ls : List (Option Value)} {st : List Value} {σ : Mem} {L j : Nat} {xs : Nat → Int32} {i : Int32} (hX : Cok X own cc nL) (hs : Scr X L xs) (hL : L < 2 ^ 31) (hd : decode cc pc = .ok (.iaload, 1)) (hi : i = nI j) (hj : j < L) (kk : Vw X (pc + 1) ls (.int (xs j) :: st) σ) : Vw X pc ls (.int i :: .ref 70 :: st) σ := by
  obtain ⟨p, l, e, R, s, m, args, below, meth, c, cells, slots, Q, A, D, ad, cs, H0⟩ := X
  intro H locs lsA hP hS hl
  subst hi
  have h2 := kk H locs lsA hP hS hl
  refine va_sld hX.1 hX.2.1 hs.1 hs.2.1 hs.2.2 hS (vp_in_nI hj hL) hd ?_
  rw [nI_clamp (by omega)]
  exact h2
theorem V_slen {X : XC} {own : String} {cc : ByteArray} {nL pc : Nat} {ls : List (Option Value)} {st : List Value} {σ : Mem} {L : Nat} {xs : Nat → Int32} (hX : Cok X own cc nL) (hs : Scr X L xs) (hd : decode cc pc = .ok (.arraylength, 1)) (kk : Vw X (pc + 1) ls (.int (nI L) :: st) σ) : Vw X pc ls (.ref 70 :: st) σ := by
  obtain ⟨p, l, e, R, s, m, args, below, meth, c, cells, slots, Q, A, D, ad, cs, H0⟩ := X
  intro H locs lsA hP hS hl
  exact va_slen hX.1 hX.2.1 hs.1 hs.2.1 hs.2.2 hS hd (kk H locs lsA hP hS hl)
/-- a pair of calls that answer the same and keep I -/
def St2 (I : Mem → Prop) (yc : MethodName) (cc : ByteArray) (mxc dc : Nat) (ac : List Value) (ym : MethodName) (cm : ByteArray) (mxm dm : Nat) (am : List Value) : Prop := ∀ σ, I σ → ∃ P1, Cc yc cc mxc (some .int) dc ac σ P1 ∧ ∀ r σ1, P1 r σ1 → ∃ v : Int32, r = some (.int v) ∧ ∃ P2, Cc ym cm mxm (some .int) dm am σ1 P2 ∧ ∀ r2 σ2, P2 r2 σ2 → r2 = some (.int v) ∧ I σ2
/-- every pair of calls of the law keeps I -/
def All24 (I : Mem → Prop) : Prop :=
  (∀ a b c : Int32, St2 I yX5_sheet cX5_sheet 4 1 [.ref 0, .int a, .int b, .int c] yX6_sheet cX6_sheet 5 2 [.ref 52, .int a, .int b, .int c]) ∧
  (∀ a b c : Int32, St2 I yX5_set cX5_set 4 2 [.ref 0, .int a, .int b, .int c] yX6_set cX6_set 4 2 [.ref 52, .int a, .int b, .int c]) ∧
  (∀ a b c d e : Int32, St2 I yX5_copy cX5_copy 6 2 [.ref 0, .int a, .int b, .int c, .int d, .int e] yX6_copy cX6_copy 9 2 [.ref 52, .int a, .int b, .int c, .int d, .int e]) ∧
  (∀ a : Int32, St2 I yX5_drop cX5_drop 2 1 [.ref 0, .int a] yX6_drop cX6_drop 2 2 [.ref 52, .int a]) ∧
  (∀ a b : Int32, St2 I yX5_offer cX5_offer 3 1 [.ref 0, .int a, .int b] yX6_offer cX6_offer 3 1 [.ref 52, .int a, .int b]) ∧
  (∀ a : Int32, St2 I yX5_demand cX5_demand 2 6 [.ref 0, .int a] yX6_demand cX6_demand 2 2 [.ref 52, .int a]) ∧
  (∀ a b c : Int32, St2 I yX5_demands cX5_demands 4 7 [.ref 0, .int a, .int b, .int c] yX6_demands cX6_demands 7 3 [.ref 52, .int a, .int b, .int c]) ∧
  (∀ a : Int32, St2 I yX5_covers cX5_covers 2 13 [.ref 0, .int a] yX6_covers cX6_covers 6 1 [.ref 52, .int a]) ∧
  (∀ a b : Int32, St2 I yX5_told cX5_told 3 4 [.ref 0, .int a, .int b] yX6_told cX6_told 3 2 [.ref 52, .int a, .int b]) ∧
  (∀ a : Int32, St2 I yX5_price cX5_price 2 1 [.ref 0, .int a] yX6_price cX6_price 2 1 [.ref 52, .int a]) ∧
  (∀ a b : Int32, St2 I yX5_lease cX5_lease 3 2 [.ref 0, .int a, .int b] yX6_lease cX6_lease 3 1 [.ref 52, .int a, .int b]) ∧
  (∀ a : Int32, St2 I yX5_day cX5_day 2 4 [.ref 0, .int a] yX6_day cX6_day 5 2 [.ref 52, .int a]) ∧
  (∀ a : Int32, St2 I yX5_leases cX5_leases 2 3 [.ref 0, .int a] yX6_leases cX6_leases 4 2 [.ref 52, .int a]) ∧
  (∀ a : Int32, St2 I yX5_covered cX5_covered 2 2 [.ref 0, .int a] yX6_covered cX6_covered 2 2 [.ref 52, .int a]) ∧
  (St2 I yX5_site cX5_site 1 1 [.ref 0] yX6_site cX6_site 1 0 [.ref 52]) ∧
  (∀ a b c : Int32, St2 I yX5_way cX5_way 4 2 [.ref 0, .int a, .int b, .int c] yX6_way cX6_way 5 2 [.ref 52, .int a, .int b, .int c]) ∧
  (∀ a : Int32, St2 I yX5_call cX5_call 2 4 [.ref 0, .int a] yX6_call cX6_call 7 2 [.ref 52, .int a]) ∧
  (∀ a : Int32, St2 I yX5_joins cX5_joins 2 4 [.ref 0, .int a] yX6_joins cX6_joins 4 3 [.ref 52, .int a]) ∧
  (∀ a : Int32, St2 I yX5_kind cX5_kind 2 5 [.ref 0, .int a] yX6_kind cX6_kind 2 2 [.ref 52, .int a]) ∧
  (∀ a b : Int32, St2 I yX5_as cX5_as 3 5 [.ref 0, .int a, .int b] yX6_as cX6_as 4 2 [.ref 52, .int a, .int b]) ∧
  (∀ a b : Int32, St2 I yX5_ask cX5_ask 3 6 [.ref 0, .int a, .int b] yX6_ask cX6_ask 3 4 [.ref 52, .int a, .int b]) ∧
  (∀ a : Int32, St2 I yX5_trace cX5_trace 2 1 [.ref 0, .int a] yX6_trace cX6_trace 2 1 [.ref 52, .int a]) ∧
  (∀ a : Int32, St2 I yX5_count cX5_count 2 5 [.ref 0, .int a] yX6_count cX6_count 4 2 [.ref 52, .int a]) ∧
  (St2 I yX5_status cX5_status 1 0 [.ref 0] yX6_status cX6_status 1 0 [.ref 52])
set_option maxRecDepth 100000 in
set_option maxHeartbeats 8000000 in
theorem law_loop {I : Mem → Prop} {X : XC} {L : Nat} {xs : Nat → Int32} (hI : All24 I) (hX : Cok X RL cL_law 4) (hR : Rok X 20) (hs : Scr X L xs) (hL : L ≤ 3072) (kk : ∀ k σ, Vw X 853 [some (.ref 70), some (.ref 0), some (.ref 52), some (.int (nI k))] [.int (nI 1)] σ) (k : Nat) (hk : k ≤ L + 6) (σ : Mem) (hσ : I σ) : Vw X 18 [some (.ref 70), some (.ref 0), some (.ref 52), some (.int (nI k))] [] σ := by
  have hL31 : L < 2 ^ 31 := by omega
  have k846 : k + 6 ≤ L → ∀ σ2, I σ2 → Vw X 846 [some (.ref 70), some (.ref 0), some (.ref 52), some (.int (nI k))] [] σ2 := fun h σ2 h2 => by
    refine V_iinc3 (pc := 846) (v := nI (k + 6)) hX dL_law_846 rfl (nI_add k 6) ?_
    refine V_goto (pc := 849) (tgt := 18) hX dL_law_849 (by decide) ?_
    exact law_loop hI hX hR hs hL kk (k + 6) (by omega) σ2 h2
  obtain ⟨q0, q1, q2, q3, q4, q5, q6, q7, q8, q9, q10, q11, q12, q13, q14, q15, q16, q17, q18, q19, q20, q21, q22, q23⟩ := hI
  have e6 : (nI L - nI 6).toInt = (L : Int) - 6 := by
    rw [Int32.toInt_sub, nI_toInt (by omega), nI_toInt (by decide)]
    exact Int.bmod_eq_of_le (by omega) (by omega)
  refine V_iload_n (pc := 18) (i := 3) hX dL_law_18 rfl rfl ?_
  refine V_aload_n (pc := 19) (i := 0) hX dL_law_19 rfl rfl ?_
  refine V_slen (pc := 20) hX hs dL_law_20 ?_
  refine V_bipush (pc := 21) (v := (nI 6)) hX dL_law_21 (by decide +kernel) ?_
  refine V_isub (pc := 23) hX dL_law_23 ?_
  refine V_icmp_gt (pc := 24) (tgt := 852) hX dL_law_24 (by decide) (fun _ => ?_) (fun h24 => ?_)
  · refine V_iconst (pc := 852) (v := (nI 1)) hX dL_law_852 (by decide +kernel) ?_
    exact kk k σ
  have hkL : k + 6 ≤ L := by
    rw [Int32.lt_iff_toInt_lt, e6, nI_toInt (by omega)] at h24
    omega
  refine V_aload_n (pc := 27) (i := 0) hX dL_law_27 rfl rfl ?_
  refine V_iload_n (pc := 28) (i := 3) hX dL_law_28 rfl rfl ?_
  refine V_sld (pc := 29) (j := k) hX hs hL31 dL_law_29 rfl (by omega) ?_
  refine V_bipush (pc := 30) (v := (nI 31)) hX dL_law_30 (by decide +kernel) ?_
  refine V_iand (pc := 32) hX dL_law_32 ?_
  rcases Classical.em (xs k &&& nI 31 = nI 0) with e0 | e0
  · refine V_tableIn (pc := 33) (off := 111) (tgt := 144) hX dL_law_33 (by rw [e0]; decide +kernel) (by rw [e0]; decide +kernel) (by rw [e0]; decide +kernel) (by decide) ?_
    obtain ⟨P1, hC1, h1⟩ := q0 (xs (k + 1)) (xs (k + 2)) (xs (k + 3)) σ hσ
    refine V_aload_n (pc := 144) (i := 1) hX dL_law_144 rfl rfl ?_
    refine V_aload_n (pc := 145) (i := 0) hX dL_law_145 rfl rfl ?_
    refine V_iload_n (pc := 146) (i := 3) hX dL_law_146 rfl rfl ?_
    refine V_iconst (pc := 147) (v := (nI 1)) hX dL_law_147 (by decide +kernel) ?_
    refine V_iadd (pc := 148) hX dL_law_148 ?_
    refine V_sld (pc := 149) (j := k + 1) hX hs hL31 dL_law_149 (nI_add k 1) (by omega) ?_
    refine V_aload_n (pc := 150) (i := 0) hX dL_law_150 rfl rfl ?_
    refine V_iload_n (pc := 151) (i := 3) hX dL_law_151 rfl rfl ?_
    refine V_iconst (pc := 152) (v := (nI 2)) hX dL_law_152 (by decide +kernel) ?_
    refine V_iadd (pc := 153) hX dL_law_153 ?_
    refine V_sld (pc := 154) (j := k + 2) hX hs hL31 dL_law_154 (nI_add k 2) (by omega) ?_
    refine V_aload_n (pc := 155) (i := 0) hX dL_law_155 rfl rfl ?_
    refine V_iload_n (pc := 156) (i := 3) hX dL_law_156 rfl rfl ?_
    refine V_iconst (pc := 157) (v := (nI 3)) hX dL_law_157 (by decide +kernel) ?_
    refine V_iadd (pc := 158) hX dL_law_158 ?_
    refine V_sld (pc := 159) (j := k + 3) hX hs hL31 dL_law_159 (nI_add k 3) (by omega) ?_
    refine V_callV (pc := 160) hX (hR.mono (by omega)) mL_13 hC1 dL_law_160 rfl rfl rfl rfl (Nat.le_of_ble_eq_true rfl) (fun r σ1 hr1 => ?_)
    obtain ⟨v, rfl, P2, hC2, h2⟩ := h1 r σ1 hr1
    show Vw X 163 _ [.int v] σ1
    refine V_aload_n (pc := 163) (i := 2) hX dL_law_163 rfl rfl ?_
    refine V_aload_n (pc := 164) (i := 0) hX dL_law_164 rfl rfl ?_
    refine V_iload_n (pc := 165) (i := 3) hX dL_law_165 rfl rfl ?_
    refine V_iconst (pc := 166) (v := (nI 1)) hX dL_law_166 (by decide +kernel) ?_
    refine V_iadd (pc := 167) hX dL_law_167 ?_
    refine V_sld (pc := 168) (j := k + 1) hX hs hL31 dL_law_168 (nI_add k 1) (by omega) ?_
    refine V_aload_n (pc := 169) (i := 0) hX dL_law_169 rfl rfl ?_
    refine V_iload_n (pc := 170) (i := 3) hX dL_law_170 rfl rfl ?_
    refine V_iconst (pc := 171) (v := (nI 2)) hX dL_law_171 (by decide +kernel) ?_
    refine V_iadd (pc := 172) hX dL_law_172 ?_
    refine V_sld (pc := 173) (j := k + 2) hX hs hL31 dL_law_173 (nI_add k 2) (by omega) ?_
    refine V_aload_n (pc := 174) (i := 0) hX dL_law_174 rfl rfl ?_
    refine V_iload_n (pc := 175) (i := 3) hX dL_law_175 rfl rfl ?_
    refine V_iconst (pc := 176) (v := (nI 3)) hX dL_law_176 (by decide +kernel) ?_
    refine V_iadd (pc := 177) hX dL_law_177 ?_
    refine V_sld (pc := 178) (j := k + 3) hX hs hL31 dL_law_178 (nI_add k 3) (by omega) ?_
    refine V_callV (pc := 179) hX (hR.mono (by omega)) mL_17 hC2 dL_law_179 rfl rfl rfl rfl (Nat.le_of_ble_eq_true rfl) (fun r2 σ2 hr2 => ?_)
    obtain ⟨rfl, hI2⟩ := h2 r2 σ2 hr2
    show Vw X 182 _ [.int v, .int v] σ2
    refine V_icmp_eq (pc := 182) (tgt := 846) hX dL_law_182 (by decide) (fun _ => ?_) (fun h => absurd rfl h)
    exact k846 hkL σ2 hI2
  rcases Classical.em (xs k &&& nI 31 = nI 1) with e1 | e1
  · refine V_tableIn (pc := 33) (off := 154) (tgt := 187) hX dL_law_33 (by rw [e1]; decide +kernel) (by rw [e1]; decide +kernel) (by rw [e1]; decide +kernel) (by decide) ?_
    obtain ⟨P1, hC1, h1⟩ := q1 (xs (k + 1)) (xs (k + 2)) (xs (k + 3)) σ hσ
    refine V_aload_n (pc := 187) (i := 1) hX dL_law_187 rfl rfl ?_
    refine V_aload_n (pc := 188) (i := 0) hX dL_law_188 rfl rfl ?_
    refine V_iload_n (pc := 189) (i := 3) hX dL_law_189 rfl rfl ?_
    refine V_iconst (pc := 190) (v := (nI 1)) hX dL_law_190 (by decide +kernel) ?_
    refine V_iadd (pc := 191) hX dL_law_191 ?_
    refine V_sld (pc := 192) (j := k + 1) hX hs hL31 dL_law_192 (nI_add k 1) (by omega) ?_
    refine V_aload_n (pc := 193) (i := 0) hX dL_law_193 rfl rfl ?_
    refine V_iload_n (pc := 194) (i := 3) hX dL_law_194 rfl rfl ?_
    refine V_iconst (pc := 195) (v := (nI 2)) hX dL_law_195 (by decide +kernel) ?_
    refine V_iadd (pc := 196) hX dL_law_196 ?_
    refine V_sld (pc := 197) (j := k + 2) hX hs hL31 dL_law_197 (nI_add k 2) (by omega) ?_
    refine V_aload_n (pc := 198) (i := 0) hX dL_law_198 rfl rfl ?_
    refine V_iload_n (pc := 199) (i := 3) hX dL_law_199 rfl rfl ?_
    refine V_iconst (pc := 200) (v := (nI 3)) hX dL_law_200 (by decide +kernel) ?_
    refine V_iadd (pc := 201) hX dL_law_201 ?_
    refine V_sld (pc := 202) (j := k + 3) hX hs hL31 dL_law_202 (nI_add k 3) (by omega) ?_
    refine V_callV (pc := 203) hX (hR.mono (by omega)) mL_18 hC1 dL_law_203 rfl rfl rfl rfl (Nat.le_of_ble_eq_true rfl) (fun r σ1 hr1 => ?_)
    obtain ⟨v, rfl, P2, hC2, h2⟩ := h1 r σ1 hr1
    show Vw X 206 _ [.int v] σ1
    refine V_aload_n (pc := 206) (i := 2) hX dL_law_206 rfl rfl ?_
    refine V_aload_n (pc := 207) (i := 0) hX dL_law_207 rfl rfl ?_
    refine V_iload_n (pc := 208) (i := 3) hX dL_law_208 rfl rfl ?_
    refine V_iconst (pc := 209) (v := (nI 1)) hX dL_law_209 (by decide +kernel) ?_
    refine V_iadd (pc := 210) hX dL_law_210 ?_
    refine V_sld (pc := 211) (j := k + 1) hX hs hL31 dL_law_211 (nI_add k 1) (by omega) ?_
    refine V_aload_n (pc := 212) (i := 0) hX dL_law_212 rfl rfl ?_
    refine V_iload_n (pc := 213) (i := 3) hX dL_law_213 rfl rfl ?_
    refine V_iconst (pc := 214) (v := (nI 2)) hX dL_law_214 (by decide +kernel) ?_
    refine V_iadd (pc := 215) hX dL_law_215 ?_
    refine V_sld (pc := 216) (j := k + 2) hX hs hL31 dL_law_216 (nI_add k 2) (by omega) ?_
    refine V_aload_n (pc := 217) (i := 0) hX dL_law_217 rfl rfl ?_
    refine V_iload_n (pc := 218) (i := 3) hX dL_law_218 rfl rfl ?_
    refine V_iconst (pc := 219) (v := (nI 3)) hX dL_law_219 (by decide +kernel) ?_
    refine V_iadd (pc := 220) hX dL_law_220 ?_
    refine V_sld (pc := 221) (j := k + 3) hX hs hL31 dL_law_221 (nI_add k 3) (by omega) ?_
    refine V_callV (pc := 222) hX (hR.mono (by omega)) mL_21 hC2 dL_law_222 rfl rfl rfl rfl (Nat.le_of_ble_eq_true rfl) (fun r2 σ2 hr2 => ?_)
    obtain ⟨rfl, hI2⟩ := h2 r2 σ2 hr2
    show Vw X 225 _ [.int v, .int v] σ2
    refine V_icmp_eq (pc := 225) (tgt := 846) hX dL_law_225 (by decide) (fun _ => ?_) (fun h => absurd rfl h)
    exact k846 hkL σ2 hI2
  rcases Classical.em (xs k &&& nI 31 = nI 2) with e2 | e2
  · refine V_tableIn (pc := 33) (off := 197) (tgt := 230) hX dL_law_33 (by rw [e2]; decide +kernel) (by rw [e2]; decide +kernel) (by rw [e2]; decide +kernel) (by decide) ?_
    obtain ⟨P1, hC1, h1⟩ := q2 (xs (k + 1)) (xs (k + 2)) (xs (k + 3)) (xs (k + 4)) (xs (k + 5)) σ hσ
    refine V_aload_n (pc := 230) (i := 1) hX dL_law_230 rfl rfl ?_
    refine V_aload_n (pc := 231) (i := 0) hX dL_law_231 rfl rfl ?_
    refine V_iload_n (pc := 232) (i := 3) hX dL_law_232 rfl rfl ?_
    refine V_iconst (pc := 233) (v := (nI 1)) hX dL_law_233 (by decide +kernel) ?_
    refine V_iadd (pc := 234) hX dL_law_234 ?_
    refine V_sld (pc := 235) (j := k + 1) hX hs hL31 dL_law_235 (nI_add k 1) (by omega) ?_
    refine V_aload_n (pc := 236) (i := 0) hX dL_law_236 rfl rfl ?_
    refine V_iload_n (pc := 237) (i := 3) hX dL_law_237 rfl rfl ?_
    refine V_iconst (pc := 238) (v := (nI 2)) hX dL_law_238 (by decide +kernel) ?_
    refine V_iadd (pc := 239) hX dL_law_239 ?_
    refine V_sld (pc := 240) (j := k + 2) hX hs hL31 dL_law_240 (nI_add k 2) (by omega) ?_
    refine V_aload_n (pc := 241) (i := 0) hX dL_law_241 rfl rfl ?_
    refine V_iload_n (pc := 242) (i := 3) hX dL_law_242 rfl rfl ?_
    refine V_iconst (pc := 243) (v := (nI 3)) hX dL_law_243 (by decide +kernel) ?_
    refine V_iadd (pc := 244) hX dL_law_244 ?_
    refine V_sld (pc := 245) (j := k + 3) hX hs hL31 dL_law_245 (nI_add k 3) (by omega) ?_
    refine V_aload_n (pc := 246) (i := 0) hX dL_law_246 rfl rfl ?_
    refine V_iload_n (pc := 247) (i := 3) hX dL_law_247 rfl rfl ?_
    refine V_iconst (pc := 248) (v := (nI 4)) hX dL_law_248 (by decide +kernel) ?_
    refine V_iadd (pc := 249) hX dL_law_249 ?_
    refine V_sld (pc := 250) (j := k + 4) hX hs hL31 dL_law_250 (nI_add k 4) (by omega) ?_
    refine V_aload_n (pc := 251) (i := 0) hX dL_law_251 rfl rfl ?_
    refine V_iload_n (pc := 252) (i := 3) hX dL_law_252 rfl rfl ?_
    refine V_iconst (pc := 253) (v := (nI 5)) hX dL_law_253 (by decide +kernel) ?_
    refine V_iadd (pc := 254) hX dL_law_254 ?_
    refine V_sld (pc := 255) (j := k + 5) hX hs hL31 dL_law_255 (nI_add k 5) (by omega) ?_
    refine V_callV (pc := 256) hX (hR.mono (by omega)) mL_22 hC1 dL_law_256 rfl rfl rfl rfl (Nat.le_of_ble_eq_true rfl) (fun r σ1 hr1 => ?_)
    obtain ⟨v, rfl, P2, hC2, h2⟩ := h1 r σ1 hr1
    show Vw X 259 _ [.int v] σ1
    refine V_aload_n (pc := 259) (i := 2) hX dL_law_259 rfl rfl ?_
    refine V_aload_n (pc := 260) (i := 0) hX dL_law_260 rfl rfl ?_
    refine V_iload_n (pc := 261) (i := 3) hX dL_law_261 rfl rfl ?_
    refine V_iconst (pc := 262) (v := (nI 1)) hX dL_law_262 (by decide +kernel) ?_
    refine V_iadd (pc := 263) hX dL_law_263 ?_
    refine V_sld (pc := 264) (j := k + 1) hX hs hL31 dL_law_264 (nI_add k 1) (by omega) ?_
    refine V_aload_n (pc := 265) (i := 0) hX dL_law_265 rfl rfl ?_
    refine V_iload_n (pc := 266) (i := 3) hX dL_law_266 rfl rfl ?_
    refine V_iconst (pc := 267) (v := (nI 2)) hX dL_law_267 (by decide +kernel) ?_
    refine V_iadd (pc := 268) hX dL_law_268 ?_
    refine V_sld (pc := 269) (j := k + 2) hX hs hL31 dL_law_269 (nI_add k 2) (by omega) ?_
    refine V_aload_n (pc := 270) (i := 0) hX dL_law_270 rfl rfl ?_
    refine V_iload_n (pc := 271) (i := 3) hX dL_law_271 rfl rfl ?_
    refine V_iconst (pc := 272) (v := (nI 3)) hX dL_law_272 (by decide +kernel) ?_
    refine V_iadd (pc := 273) hX dL_law_273 ?_
    refine V_sld (pc := 274) (j := k + 3) hX hs hL31 dL_law_274 (nI_add k 3) (by omega) ?_
    refine V_aload_n (pc := 275) (i := 0) hX dL_law_275 rfl rfl ?_
    refine V_iload_n (pc := 276) (i := 3) hX dL_law_276 rfl rfl ?_
    refine V_iconst (pc := 277) (v := (nI 4)) hX dL_law_277 (by decide +kernel) ?_
    refine V_iadd (pc := 278) hX dL_law_278 ?_
    refine V_sld (pc := 279) (j := k + 4) hX hs hL31 dL_law_279 (nI_add k 4) (by omega) ?_
    refine V_aload_n (pc := 280) (i := 0) hX dL_law_280 rfl rfl ?_
    refine V_iload_n (pc := 281) (i := 3) hX dL_law_281 rfl rfl ?_
    refine V_iconst (pc := 282) (v := (nI 5)) hX dL_law_282 (by decide +kernel) ?_
    refine V_iadd (pc := 283) hX dL_law_283 ?_
    refine V_sld (pc := 284) (j := k + 5) hX hs hL31 dL_law_284 (nI_add k 5) (by omega) ?_
    refine V_callV (pc := 285) hX (hR.mono (by omega)) mL_26 hC2 dL_law_285 rfl rfl rfl rfl (Nat.le_of_ble_eq_true rfl) (fun r2 σ2 hr2 => ?_)
    obtain ⟨rfl, hI2⟩ := h2 r2 σ2 hr2
    show Vw X 288 _ [.int v, .int v] σ2
    refine V_icmp_eq (pc := 288) (tgt := 846) hX dL_law_288 (by decide) (fun _ => ?_) (fun h => absurd rfl h)
    exact k846 hkL σ2 hI2
  rcases Classical.em (xs k &&& nI 31 = nI 3) with e3 | e3
  · refine V_tableIn (pc := 33) (off := 260) (tgt := 293) hX dL_law_33 (by rw [e3]; decide +kernel) (by rw [e3]; decide +kernel) (by rw [e3]; decide +kernel) (by decide) ?_
    obtain ⟨P1, hC1, h1⟩ := q3 (xs (k + 1)) σ hσ
    refine V_aload_n (pc := 293) (i := 1) hX dL_law_293 rfl rfl ?_
    refine V_aload_n (pc := 294) (i := 0) hX dL_law_294 rfl rfl ?_
    refine V_iload_n (pc := 295) (i := 3) hX dL_law_295 rfl rfl ?_
    refine V_iconst (pc := 296) (v := (nI 1)) hX dL_law_296 (by decide +kernel) ?_
    refine V_iadd (pc := 297) hX dL_law_297 ?_
    refine V_sld (pc := 298) (j := k + 1) hX hs hL31 dL_law_298 (nI_add k 1) (by omega) ?_
    refine V_callV (pc := 299) hX (hR.mono (by omega)) mL_27 hC1 dL_law_299 rfl rfl rfl rfl (Nat.le_of_ble_eq_true rfl) (fun r σ1 hr1 => ?_)
    obtain ⟨v, rfl, P2, hC2, h2⟩ := h1 r σ1 hr1
    show Vw X 302 _ [.int v] σ1
    refine V_aload_n (pc := 302) (i := 2) hX dL_law_302 rfl rfl ?_
    refine V_aload_n (pc := 303) (i := 0) hX dL_law_303 rfl rfl ?_
    refine V_iload_n (pc := 304) (i := 3) hX dL_law_304 rfl rfl ?_
    refine V_iconst (pc := 305) (v := (nI 1)) hX dL_law_305 (by decide +kernel) ?_
    refine V_iadd (pc := 306) hX dL_law_306 ?_
    refine V_sld (pc := 307) (j := k + 1) hX hs hL31 dL_law_307 (nI_add k 1) (by omega) ?_
    refine V_callV (pc := 308) hX (hR.mono (by omega)) mL_31 hC2 dL_law_308 rfl rfl rfl rfl (Nat.le_of_ble_eq_true rfl) (fun r2 σ2 hr2 => ?_)
    obtain ⟨rfl, hI2⟩ := h2 r2 σ2 hr2
    show Vw X 311 _ [.int v, .int v] σ2
    refine V_icmp_eq (pc := 311) (tgt := 846) hX dL_law_311 (by decide) (fun _ => ?_) (fun h => absurd rfl h)
    exact k846 hkL σ2 hI2
  rcases Classical.em (xs k &&& nI 31 = nI 4) with e4 | e4
  · refine V_tableIn (pc := 33) (off := 283) (tgt := 316) hX dL_law_33 (by rw [e4]; decide +kernel) (by rw [e4]; decide +kernel) (by rw [e4]; decide +kernel) (by decide) ?_
    obtain ⟨P1, hC1, h1⟩ := q4 (xs (k + 1)) (xs (k + 2)) σ hσ
    refine V_aload_n (pc := 316) (i := 1) hX dL_law_316 rfl rfl ?_
    refine V_aload_n (pc := 317) (i := 0) hX dL_law_317 rfl rfl ?_
    refine V_iload_n (pc := 318) (i := 3) hX dL_law_318 rfl rfl ?_
    refine V_iconst (pc := 319) (v := (nI 1)) hX dL_law_319 (by decide +kernel) ?_
    refine V_iadd (pc := 320) hX dL_law_320 ?_
    refine V_sld (pc := 321) (j := k + 1) hX hs hL31 dL_law_321 (nI_add k 1) (by omega) ?_
    refine V_aload_n (pc := 322) (i := 0) hX dL_law_322 rfl rfl ?_
    refine V_iload_n (pc := 323) (i := 3) hX dL_law_323 rfl rfl ?_
    refine V_iconst (pc := 324) (v := (nI 2)) hX dL_law_324 (by decide +kernel) ?_
    refine V_iadd (pc := 325) hX dL_law_325 ?_
    refine V_sld (pc := 326) (j := k + 2) hX hs hL31 dL_law_326 (nI_add k 2) (by omega) ?_
    refine V_callV (pc := 327) hX (hR.mono (by omega)) mL_32 hC1 dL_law_327 rfl rfl rfl rfl (Nat.le_of_ble_eq_true rfl) (fun r σ1 hr1 => ?_)
    obtain ⟨v, rfl, P2, hC2, h2⟩ := h1 r σ1 hr1
    show Vw X 330 _ [.int v] σ1
    refine V_aload_n (pc := 330) (i := 2) hX dL_law_330 rfl rfl ?_
    refine V_aload_n (pc := 331) (i := 0) hX dL_law_331 rfl rfl ?_
    refine V_iload_n (pc := 332) (i := 3) hX dL_law_332 rfl rfl ?_
    refine V_iconst (pc := 333) (v := (nI 1)) hX dL_law_333 (by decide +kernel) ?_
    refine V_iadd (pc := 334) hX dL_law_334 ?_
    refine V_sld (pc := 335) (j := k + 1) hX hs hL31 dL_law_335 (nI_add k 1) (by omega) ?_
    refine V_aload_n (pc := 336) (i := 0) hX dL_law_336 rfl rfl ?_
    refine V_iload_n (pc := 337) (i := 3) hX dL_law_337 rfl rfl ?_
    refine V_iconst (pc := 338) (v := (nI 2)) hX dL_law_338 (by decide +kernel) ?_
    refine V_iadd (pc := 339) hX dL_law_339 ?_
    refine V_sld (pc := 340) (j := k + 2) hX hs hL31 dL_law_340 (nI_add k 2) (by omega) ?_
    refine V_callV (pc := 341) hX (hR.mono (by omega)) mL_36 hC2 dL_law_341 rfl rfl rfl rfl (Nat.le_of_ble_eq_true rfl) (fun r2 σ2 hr2 => ?_)
    obtain ⟨rfl, hI2⟩ := h2 r2 σ2 hr2
    show Vw X 344 _ [.int v, .int v] σ2
    refine V_icmp_eq (pc := 344) (tgt := 846) hX dL_law_344 (by decide) (fun _ => ?_) (fun h => absurd rfl h)
    exact k846 hkL σ2 hI2
  rcases Classical.em (xs k &&& nI 31 = nI 5) with e5 | e5
  · refine V_tableIn (pc := 33) (off := 316) (tgt := 349) hX dL_law_33 (by rw [e5]; decide +kernel) (by rw [e5]; decide +kernel) (by rw [e5]; decide +kernel) (by decide) ?_
    obtain ⟨P1, hC1, h1⟩ := q5 (xs (k + 1)) σ hσ
    refine V_aload_n (pc := 349) (i := 1) hX dL_law_349 rfl rfl ?_
    refine V_aload_n (pc := 350) (i := 0) hX dL_law_350 rfl rfl ?_
    refine V_iload_n (pc := 351) (i := 3) hX dL_law_351 rfl rfl ?_
    refine V_iconst (pc := 352) (v := (nI 1)) hX dL_law_352 (by decide +kernel) ?_
    refine V_iadd (pc := 353) hX dL_law_353 ?_
    refine V_sld (pc := 354) (j := k + 1) hX hs hL31 dL_law_354 (nI_add k 1) (by omega) ?_
    refine V_callV (pc := 355) hX (hR.mono (by omega)) mL_37 hC1 dL_law_355 rfl rfl rfl rfl (Nat.le_of_ble_eq_true rfl) (fun r σ1 hr1 => ?_)
    obtain ⟨v, rfl, P2, hC2, h2⟩ := h1 r σ1 hr1
    show Vw X 358 _ [.int v] σ1
    refine V_aload_n (pc := 358) (i := 2) hX dL_law_358 rfl rfl ?_
    refine V_aload_n (pc := 359) (i := 0) hX dL_law_359 rfl rfl ?_
    refine V_iload_n (pc := 360) (i := 3) hX dL_law_360 rfl rfl ?_
    refine V_iconst (pc := 361) (v := (nI 1)) hX dL_law_361 (by decide +kernel) ?_
    refine V_iadd (pc := 362) hX dL_law_362 ?_
    refine V_sld (pc := 363) (j := k + 1) hX hs hL31 dL_law_363 (nI_add k 1) (by omega) ?_
    refine V_callV (pc := 364) hX (hR.mono (by omega)) mL_40 hC2 dL_law_364 rfl rfl rfl rfl (Nat.le_of_ble_eq_true rfl) (fun r2 σ2 hr2 => ?_)
    obtain ⟨rfl, hI2⟩ := h2 r2 σ2 hr2
    show Vw X 367 _ [.int v, .int v] σ2
    refine V_icmp_eq (pc := 367) (tgt := 846) hX dL_law_367 (by decide) (fun _ => ?_) (fun h => absurd rfl h)
    exact k846 hkL σ2 hI2
  rcases Classical.em (xs k &&& nI 31 = nI 6) with e6 | e6
  · refine V_tableIn (pc := 33) (off := 339) (tgt := 372) hX dL_law_33 (by rw [e6]; decide +kernel) (by rw [e6]; decide +kernel) (by rw [e6]; decide +kernel) (by decide) ?_
    obtain ⟨P1, hC1, h1⟩ := q6 (xs (k + 1)) (xs (k + 2)) (xs (k + 3)) σ hσ
    refine V_aload_n (pc := 372) (i := 1) hX dL_law_372 rfl rfl ?_
    refine V_aload_n (pc := 373) (i := 0) hX dL_law_373 rfl rfl ?_
    refine V_iload_n (pc := 374) (i := 3) hX dL_law_374 rfl rfl ?_
    refine V_iconst (pc := 375) (v := (nI 1)) hX dL_law_375 (by decide +kernel) ?_
    refine V_iadd (pc := 376) hX dL_law_376 ?_
    refine V_sld (pc := 377) (j := k + 1) hX hs hL31 dL_law_377 (nI_add k 1) (by omega) ?_
    refine V_aload_n (pc := 378) (i := 0) hX dL_law_378 rfl rfl ?_
    refine V_iload_n (pc := 379) (i := 3) hX dL_law_379 rfl rfl ?_
    refine V_iconst (pc := 380) (v := (nI 2)) hX dL_law_380 (by decide +kernel) ?_
    refine V_iadd (pc := 381) hX dL_law_381 ?_
    refine V_sld (pc := 382) (j := k + 2) hX hs hL31 dL_law_382 (nI_add k 2) (by omega) ?_
    refine V_aload_n (pc := 383) (i := 0) hX dL_law_383 rfl rfl ?_
    refine V_iload_n (pc := 384) (i := 3) hX dL_law_384 rfl rfl ?_
    refine V_iconst (pc := 385) (v := (nI 3)) hX dL_law_385 (by decide +kernel) ?_
    refine V_iadd (pc := 386) hX dL_law_386 ?_
    refine V_sld (pc := 387) (j := k + 3) hX hs hL31 dL_law_387 (nI_add k 3) (by omega) ?_
    refine V_callV (pc := 388) hX (hR.mono (by omega)) mL_41 hC1 dL_law_388 rfl rfl rfl rfl (Nat.le_of_ble_eq_true rfl) (fun r σ1 hr1 => ?_)
    obtain ⟨v, rfl, P2, hC2, h2⟩ := h1 r σ1 hr1
    show Vw X 391 _ [.int v] σ1
    refine V_aload_n (pc := 391) (i := 2) hX dL_law_391 rfl rfl ?_
    refine V_aload_n (pc := 392) (i := 0) hX dL_law_392 rfl rfl ?_
    refine V_iload_n (pc := 393) (i := 3) hX dL_law_393 rfl rfl ?_
    refine V_iconst (pc := 394) (v := (nI 1)) hX dL_law_394 (by decide +kernel) ?_
    refine V_iadd (pc := 395) hX dL_law_395 ?_
    refine V_sld (pc := 396) (j := k + 1) hX hs hL31 dL_law_396 (nI_add k 1) (by omega) ?_
    refine V_aload_n (pc := 397) (i := 0) hX dL_law_397 rfl rfl ?_
    refine V_iload_n (pc := 398) (i := 3) hX dL_law_398 rfl rfl ?_
    refine V_iconst (pc := 399) (v := (nI 2)) hX dL_law_399 (by decide +kernel) ?_
    refine V_iadd (pc := 400) hX dL_law_400 ?_
    refine V_sld (pc := 401) (j := k + 2) hX hs hL31 dL_law_401 (nI_add k 2) (by omega) ?_
    refine V_aload_n (pc := 402) (i := 0) hX dL_law_402 rfl rfl ?_
    refine V_iload_n (pc := 403) (i := 3) hX dL_law_403 rfl rfl ?_
    refine V_iconst (pc := 404) (v := (nI 3)) hX dL_law_404 (by decide +kernel) ?_
    refine V_iadd (pc := 405) hX dL_law_405 ?_
    refine V_sld (pc := 406) (j := k + 3) hX hs hL31 dL_law_406 (nI_add k 3) (by omega) ?_
    refine V_callV (pc := 407) hX (hR.mono (by omega)) mL_44 hC2 dL_law_407 rfl rfl rfl rfl (Nat.le_of_ble_eq_true rfl) (fun r2 σ2 hr2 => ?_)
    obtain ⟨rfl, hI2⟩ := h2 r2 σ2 hr2
    show Vw X 410 _ [.int v, .int v] σ2
    refine V_icmp_eq (pc := 410) (tgt := 846) hX dL_law_410 (by decide) (fun _ => ?_) (fun h => absurd rfl h)
    exact k846 hkL σ2 hI2
  rcases Classical.em (xs k &&& nI 31 = nI 7) with e7 | e7
  · refine V_tableIn (pc := 33) (off := 382) (tgt := 415) hX dL_law_33 (by rw [e7]; decide +kernel) (by rw [e7]; decide +kernel) (by rw [e7]; decide +kernel) (by decide) ?_
    obtain ⟨P1, hC1, h1⟩ := q7 (xs (k + 1)) σ hσ
    refine V_aload_n (pc := 415) (i := 1) hX dL_law_415 rfl rfl ?_
    refine V_aload_n (pc := 416) (i := 0) hX dL_law_416 rfl rfl ?_
    refine V_iload_n (pc := 417) (i := 3) hX dL_law_417 rfl rfl ?_
    refine V_iconst (pc := 418) (v := (nI 1)) hX dL_law_418 (by decide +kernel) ?_
    refine V_iadd (pc := 419) hX dL_law_419 ?_
    refine V_sld (pc := 420) (j := k + 1) hX hs hL31 dL_law_420 (nI_add k 1) (by omega) ?_
    refine V_callV (pc := 421) hX (hR.mono (by omega)) mL_45 hC1 dL_law_421 rfl rfl rfl rfl (Nat.le_of_ble_eq_true rfl) (fun r σ1 hr1 => ?_)
    obtain ⟨v, rfl, P2, hC2, h2⟩ := h1 r σ1 hr1
    show Vw X 424 _ [.int v] σ1
    refine V_aload_n (pc := 424) (i := 2) hX dL_law_424 rfl rfl ?_
    refine V_aload_n (pc := 425) (i := 0) hX dL_law_425 rfl rfl ?_
    refine V_iload_n (pc := 426) (i := 3) hX dL_law_426 rfl rfl ?_
    refine V_iconst (pc := 427) (v := (nI 1)) hX dL_law_427 (by decide +kernel) ?_
    refine V_iadd (pc := 428) hX dL_law_428 ?_
    refine V_sld (pc := 429) (j := k + 1) hX hs hL31 dL_law_429 (nI_add k 1) (by omega) ?_
    refine V_callV (pc := 430) hX (hR.mono (by omega)) mL_48 hC2 dL_law_430 rfl rfl rfl rfl (Nat.le_of_ble_eq_true rfl) (fun r2 σ2 hr2 => ?_)
    obtain ⟨rfl, hI2⟩ := h2 r2 σ2 hr2
    show Vw X 433 _ [.int v, .int v] σ2
    refine V_icmp_eq (pc := 433) (tgt := 846) hX dL_law_433 (by decide) (fun _ => ?_) (fun h => absurd rfl h)
    exact k846 hkL σ2 hI2
  rcases Classical.em (xs k &&& nI 31 = nI 8) with e8 | e8
  · refine V_tableIn (pc := 33) (off := 405) (tgt := 438) hX dL_law_33 (by rw [e8]; decide +kernel) (by rw [e8]; decide +kernel) (by rw [e8]; decide +kernel) (by decide) ?_
    obtain ⟨P1, hC1, h1⟩ := q8 (xs (k + 1)) (xs (k + 2)) σ hσ
    refine V_aload_n (pc := 438) (i := 1) hX dL_law_438 rfl rfl ?_
    refine V_aload_n (pc := 439) (i := 0) hX dL_law_439 rfl rfl ?_
    refine V_iload_n (pc := 440) (i := 3) hX dL_law_440 rfl rfl ?_
    refine V_iconst (pc := 441) (v := (nI 1)) hX dL_law_441 (by decide +kernel) ?_
    refine V_iadd (pc := 442) hX dL_law_442 ?_
    refine V_sld (pc := 443) (j := k + 1) hX hs hL31 dL_law_443 (nI_add k 1) (by omega) ?_
    refine V_aload_n (pc := 444) (i := 0) hX dL_law_444 rfl rfl ?_
    refine V_iload_n (pc := 445) (i := 3) hX dL_law_445 rfl rfl ?_
    refine V_iconst (pc := 446) (v := (nI 2)) hX dL_law_446 (by decide +kernel) ?_
    refine V_iadd (pc := 447) hX dL_law_447 ?_
    refine V_sld (pc := 448) (j := k + 2) hX hs hL31 dL_law_448 (nI_add k 2) (by omega) ?_
    refine V_callV (pc := 449) hX (hR.mono (by omega)) mL_49 hC1 dL_law_449 rfl rfl rfl rfl (Nat.le_of_ble_eq_true rfl) (fun r σ1 hr1 => ?_)
    obtain ⟨v, rfl, P2, hC2, h2⟩ := h1 r σ1 hr1
    show Vw X 452 _ [.int v] σ1
    refine V_aload_n (pc := 452) (i := 2) hX dL_law_452 rfl rfl ?_
    refine V_aload_n (pc := 453) (i := 0) hX dL_law_453 rfl rfl ?_
    refine V_iload_n (pc := 454) (i := 3) hX dL_law_454 rfl rfl ?_
    refine V_iconst (pc := 455) (v := (nI 1)) hX dL_law_455 (by decide +kernel) ?_
    refine V_iadd (pc := 456) hX dL_law_456 ?_
    refine V_sld (pc := 457) (j := k + 1) hX hs hL31 dL_law_457 (nI_add k 1) (by omega) ?_
    refine V_aload_n (pc := 458) (i := 0) hX dL_law_458 rfl rfl ?_
    refine V_iload_n (pc := 459) (i := 3) hX dL_law_459 rfl rfl ?_
    refine V_iconst (pc := 460) (v := (nI 2)) hX dL_law_460 (by decide +kernel) ?_
    refine V_iadd (pc := 461) hX dL_law_461 ?_
    refine V_sld (pc := 462) (j := k + 2) hX hs hL31 dL_law_462 (nI_add k 2) (by omega) ?_
    refine V_callV (pc := 463) hX (hR.mono (by omega)) mL_52 hC2 dL_law_463 rfl rfl rfl rfl (Nat.le_of_ble_eq_true rfl) (fun r2 σ2 hr2 => ?_)
    obtain ⟨rfl, hI2⟩ := h2 r2 σ2 hr2
    show Vw X 466 _ [.int v, .int v] σ2
    refine V_icmp_eq (pc := 466) (tgt := 846) hX dL_law_466 (by decide) (fun _ => ?_) (fun h => absurd rfl h)
    exact k846 hkL σ2 hI2
  rcases Classical.em (xs k &&& nI 31 = nI 9) with e9 | e9
  · refine V_tableIn (pc := 33) (off := 438) (tgt := 471) hX dL_law_33 (by rw [e9]; decide +kernel) (by rw [e9]; decide +kernel) (by rw [e9]; decide +kernel) (by decide) ?_
    obtain ⟨P1, hC1, h1⟩ := q9 (xs (k + 1)) σ hσ
    refine V_aload_n (pc := 471) (i := 1) hX dL_law_471 rfl rfl ?_
    refine V_aload_n (pc := 472) (i := 0) hX dL_law_472 rfl rfl ?_
    refine V_iload_n (pc := 473) (i := 3) hX dL_law_473 rfl rfl ?_
    refine V_iconst (pc := 474) (v := (nI 1)) hX dL_law_474 (by decide +kernel) ?_
    refine V_iadd (pc := 475) hX dL_law_475 ?_
    refine V_sld (pc := 476) (j := k + 1) hX hs hL31 dL_law_476 (nI_add k 1) (by omega) ?_
    refine V_callV (pc := 477) hX (hR.mono (by omega)) mL_53 hC1 dL_law_477 rfl rfl rfl rfl (Nat.le_of_ble_eq_true rfl) (fun r σ1 hr1 => ?_)
    obtain ⟨v, rfl, P2, hC2, h2⟩ := h1 r σ1 hr1
    show Vw X 480 _ [.int v] σ1
    refine V_aload_n (pc := 480) (i := 2) hX dL_law_480 rfl rfl ?_
    refine V_aload_n (pc := 481) (i := 0) hX dL_law_481 rfl rfl ?_
    refine V_iload_n (pc := 482) (i := 3) hX dL_law_482 rfl rfl ?_
    refine V_iconst (pc := 483) (v := (nI 1)) hX dL_law_483 (by decide +kernel) ?_
    refine V_iadd (pc := 484) hX dL_law_484 ?_
    refine V_sld (pc := 485) (j := k + 1) hX hs hL31 dL_law_485 (nI_add k 1) (by omega) ?_
    refine V_callV (pc := 486) hX (hR.mono (by omega)) mL_56 hC2 dL_law_486 rfl rfl rfl rfl (Nat.le_of_ble_eq_true rfl) (fun r2 σ2 hr2 => ?_)
    obtain ⟨rfl, hI2⟩ := h2 r2 σ2 hr2
    show Vw X 489 _ [.int v, .int v] σ2
    refine V_icmp_eq (pc := 489) (tgt := 846) hX dL_law_489 (by decide) (fun _ => ?_) (fun h => absurd rfl h)
    exact k846 hkL σ2 hI2
  rcases Classical.em (xs k &&& nI 31 = nI 10) with e10 | e10
  · refine V_tableIn (pc := 33) (off := 461) (tgt := 494) hX dL_law_33 (by rw [e10]; decide +kernel) (by rw [e10]; decide +kernel) (by rw [e10]; decide +kernel) (by decide) ?_
    obtain ⟨P1, hC1, h1⟩ := q10 (xs (k + 1)) (xs (k + 2)) σ hσ
    refine V_aload_n (pc := 494) (i := 1) hX dL_law_494 rfl rfl ?_
    refine V_aload_n (pc := 495) (i := 0) hX dL_law_495 rfl rfl ?_
    refine V_iload_n (pc := 496) (i := 3) hX dL_law_496 rfl rfl ?_
    refine V_iconst (pc := 497) (v := (nI 1)) hX dL_law_497 (by decide +kernel) ?_
    refine V_iadd (pc := 498) hX dL_law_498 ?_
    refine V_sld (pc := 499) (j := k + 1) hX hs hL31 dL_law_499 (nI_add k 1) (by omega) ?_
    refine V_aload_n (pc := 500) (i := 0) hX dL_law_500 rfl rfl ?_
    refine V_iload_n (pc := 501) (i := 3) hX dL_law_501 rfl rfl ?_
    refine V_iconst (pc := 502) (v := (nI 2)) hX dL_law_502 (by decide +kernel) ?_
    refine V_iadd (pc := 503) hX dL_law_503 ?_
    refine V_sld (pc := 504) (j := k + 2) hX hs hL31 dL_law_504 (nI_add k 2) (by omega) ?_
    refine V_callV (pc := 505) hX (hR.mono (by omega)) mL_57 hC1 dL_law_505 rfl rfl rfl rfl (Nat.le_of_ble_eq_true rfl) (fun r σ1 hr1 => ?_)
    obtain ⟨v, rfl, P2, hC2, h2⟩ := h1 r σ1 hr1
    show Vw X 508 _ [.int v] σ1
    refine V_aload_n (pc := 508) (i := 2) hX dL_law_508 rfl rfl ?_
    refine V_aload_n (pc := 509) (i := 0) hX dL_law_509 rfl rfl ?_
    refine V_iload_n (pc := 510) (i := 3) hX dL_law_510 rfl rfl ?_
    refine V_iconst (pc := 511) (v := (nI 1)) hX dL_law_511 (by decide +kernel) ?_
    refine V_iadd (pc := 512) hX dL_law_512 ?_
    refine V_sld (pc := 513) (j := k + 1) hX hs hL31 dL_law_513 (nI_add k 1) (by omega) ?_
    refine V_aload_n (pc := 514) (i := 0) hX dL_law_514 rfl rfl ?_
    refine V_iload_n (pc := 515) (i := 3) hX dL_law_515 rfl rfl ?_
    refine V_iconst (pc := 516) (v := (nI 2)) hX dL_law_516 (by decide +kernel) ?_
    refine V_iadd (pc := 517) hX dL_law_517 ?_
    refine V_sld (pc := 518) (j := k + 2) hX hs hL31 dL_law_518 (nI_add k 2) (by omega) ?_
    refine V_callV (pc := 519) hX (hR.mono (by omega)) mL_60 hC2 dL_law_519 rfl rfl rfl rfl (Nat.le_of_ble_eq_true rfl) (fun r2 σ2 hr2 => ?_)
    obtain ⟨rfl, hI2⟩ := h2 r2 σ2 hr2
    show Vw X 522 _ [.int v, .int v] σ2
    refine V_icmp_eq (pc := 522) (tgt := 846) hX dL_law_522 (by decide) (fun _ => ?_) (fun h => absurd rfl h)
    exact k846 hkL σ2 hI2
  rcases Classical.em (xs k &&& nI 31 = nI 11) with e11 | e11
  · refine V_tableIn (pc := 33) (off := 494) (tgt := 527) hX dL_law_33 (by rw [e11]; decide +kernel) (by rw [e11]; decide +kernel) (by rw [e11]; decide +kernel) (by decide) ?_
    obtain ⟨P1, hC1, h1⟩ := q11 (xs (k + 1)) σ hσ
    refine V_aload_n (pc := 527) (i := 1) hX dL_law_527 rfl rfl ?_
    refine V_aload_n (pc := 528) (i := 0) hX dL_law_528 rfl rfl ?_
    refine V_iload_n (pc := 529) (i := 3) hX dL_law_529 rfl rfl ?_
    refine V_iconst (pc := 530) (v := (nI 1)) hX dL_law_530 (by decide +kernel) ?_
    refine V_iadd (pc := 531) hX dL_law_531 ?_
    refine V_sld (pc := 532) (j := k + 1) hX hs hL31 dL_law_532 (nI_add k 1) (by omega) ?_
    refine V_callV (pc := 533) hX (hR.mono (by omega)) mL_61 hC1 dL_law_533 rfl rfl rfl rfl (Nat.le_of_ble_eq_true rfl) (fun r σ1 hr1 => ?_)
    obtain ⟨v, rfl, P2, hC2, h2⟩ := h1 r σ1 hr1
    show Vw X 536 _ [.int v] σ1
    refine V_aload_n (pc := 536) (i := 2) hX dL_law_536 rfl rfl ?_
    refine V_aload_n (pc := 537) (i := 0) hX dL_law_537 rfl rfl ?_
    refine V_iload_n (pc := 538) (i := 3) hX dL_law_538 rfl rfl ?_
    refine V_iconst (pc := 539) (v := (nI 1)) hX dL_law_539 (by decide +kernel) ?_
    refine V_iadd (pc := 540) hX dL_law_540 ?_
    refine V_sld (pc := 541) (j := k + 1) hX hs hL31 dL_law_541 (nI_add k 1) (by omega) ?_
    refine V_callV (pc := 542) hX (hR.mono (by omega)) mL_64 hC2 dL_law_542 rfl rfl rfl rfl (Nat.le_of_ble_eq_true rfl) (fun r2 σ2 hr2 => ?_)
    obtain ⟨rfl, hI2⟩ := h2 r2 σ2 hr2
    show Vw X 545 _ [.int v, .int v] σ2
    refine V_icmp_eq (pc := 545) (tgt := 846) hX dL_law_545 (by decide) (fun _ => ?_) (fun h => absurd rfl h)
    exact k846 hkL σ2 hI2
  rcases Classical.em (xs k &&& nI 31 = nI 12) with e12 | e12
  · refine V_tableIn (pc := 33) (off := 517) (tgt := 550) hX dL_law_33 (by rw [e12]; decide +kernel) (by rw [e12]; decide +kernel) (by rw [e12]; decide +kernel) (by decide) ?_
    obtain ⟨P1, hC1, h1⟩ := q12 (xs (k + 1)) σ hσ
    refine V_aload_n (pc := 550) (i := 1) hX dL_law_550 rfl rfl ?_
    refine V_aload_n (pc := 551) (i := 0) hX dL_law_551 rfl rfl ?_
    refine V_iload_n (pc := 552) (i := 3) hX dL_law_552 rfl rfl ?_
    refine V_iconst (pc := 553) (v := (nI 1)) hX dL_law_553 (by decide +kernel) ?_
    refine V_iadd (pc := 554) hX dL_law_554 ?_
    refine V_sld (pc := 555) (j := k + 1) hX hs hL31 dL_law_555 (nI_add k 1) (by omega) ?_
    refine V_callV (pc := 556) hX (hR.mono (by omega)) mL_65 hC1 dL_law_556 rfl rfl rfl rfl (Nat.le_of_ble_eq_true rfl) (fun r σ1 hr1 => ?_)
    obtain ⟨v, rfl, P2, hC2, h2⟩ := h1 r σ1 hr1
    show Vw X 559 _ [.int v] σ1
    refine V_aload_n (pc := 559) (i := 2) hX dL_law_559 rfl rfl ?_
    refine V_aload_n (pc := 560) (i := 0) hX dL_law_560 rfl rfl ?_
    refine V_iload_n (pc := 561) (i := 3) hX dL_law_561 rfl rfl ?_
    refine V_iconst (pc := 562) (v := (nI 1)) hX dL_law_562 (by decide +kernel) ?_
    refine V_iadd (pc := 563) hX dL_law_563 ?_
    refine V_sld (pc := 564) (j := k + 1) hX hs hL31 dL_law_564 (nI_add k 1) (by omega) ?_
    refine V_callV (pc := 565) hX (hR.mono (by omega)) mL_68 hC2 dL_law_565 rfl rfl rfl rfl (Nat.le_of_ble_eq_true rfl) (fun r2 σ2 hr2 => ?_)
    obtain ⟨rfl, hI2⟩ := h2 r2 σ2 hr2
    show Vw X 568 _ [.int v, .int v] σ2
    refine V_icmp_eq (pc := 568) (tgt := 846) hX dL_law_568 (by decide) (fun _ => ?_) (fun h => absurd rfl h)
    exact k846 hkL σ2 hI2
  rcases Classical.em (xs k &&& nI 31 = nI 13) with e13 | e13
  · refine V_tableIn (pc := 33) (off := 540) (tgt := 573) hX dL_law_33 (by rw [e13]; decide +kernel) (by rw [e13]; decide +kernel) (by rw [e13]; decide +kernel) (by decide) ?_
    obtain ⟨P1, hC1, h1⟩ := q13 (xs (k + 1)) σ hσ
    refine V_aload_n (pc := 573) (i := 1) hX dL_law_573 rfl rfl ?_
    refine V_aload_n (pc := 574) (i := 0) hX dL_law_574 rfl rfl ?_
    refine V_iload_n (pc := 575) (i := 3) hX dL_law_575 rfl rfl ?_
    refine V_iconst (pc := 576) (v := (nI 1)) hX dL_law_576 (by decide +kernel) ?_
    refine V_iadd (pc := 577) hX dL_law_577 ?_
    refine V_sld (pc := 578) (j := k + 1) hX hs hL31 dL_law_578 (nI_add k 1) (by omega) ?_
    refine V_callV (pc := 579) hX (hR.mono (by omega)) mL_69 hC1 dL_law_579 rfl rfl rfl rfl (Nat.le_of_ble_eq_true rfl) (fun r σ1 hr1 => ?_)
    obtain ⟨v, rfl, P2, hC2, h2⟩ := h1 r σ1 hr1
    show Vw X 582 _ [.int v] σ1
    refine V_aload_n (pc := 582) (i := 2) hX dL_law_582 rfl rfl ?_
    refine V_aload_n (pc := 583) (i := 0) hX dL_law_583 rfl rfl ?_
    refine V_iload_n (pc := 584) (i := 3) hX dL_law_584 rfl rfl ?_
    refine V_iconst (pc := 585) (v := (nI 1)) hX dL_law_585 (by decide +kernel) ?_
    refine V_iadd (pc := 586) hX dL_law_586 ?_
    refine V_sld (pc := 587) (j := k + 1) hX hs hL31 dL_law_587 (nI_add k 1) (by omega) ?_
    refine V_callV (pc := 588) hX (hR.mono (by omega)) mL_72 hC2 dL_law_588 rfl rfl rfl rfl (Nat.le_of_ble_eq_true rfl) (fun r2 σ2 hr2 => ?_)
    obtain ⟨rfl, hI2⟩ := h2 r2 σ2 hr2
    show Vw X 591 _ [.int v, .int v] σ2
    refine V_icmp_eq (pc := 591) (tgt := 846) hX dL_law_591 (by decide) (fun _ => ?_) (fun h => absurd rfl h)
    exact k846 hkL σ2 hI2
  rcases Classical.em (xs k &&& nI 31 = nI 14) with e14 | e14
  · refine V_tableIn (pc := 33) (off := 563) (tgt := 596) hX dL_law_33 (by rw [e14]; decide +kernel) (by rw [e14]; decide +kernel) (by rw [e14]; decide +kernel) (by decide) ?_
    obtain ⟨P1, hC1, h1⟩ := q14 σ hσ
    refine V_aload_n (pc := 596) (i := 1) hX dL_law_596 rfl rfl ?_
    refine V_callV (pc := 597) hX (hR.mono (by omega)) mL_73 hC1 dL_law_597 rfl rfl rfl rfl (Nat.le_of_ble_eq_true rfl) (fun r σ1 hr1 => ?_)
    obtain ⟨v, rfl, P2, hC2, h2⟩ := h1 r σ1 hr1
    show Vw X 600 _ [.int v] σ1
    refine V_aload_n (pc := 600) (i := 2) hX dL_law_600 rfl rfl ?_
    refine V_callV (pc := 601) hX (hR.mono (by omega)) mL_77 hC2 dL_law_601 rfl rfl rfl rfl (Nat.le_of_ble_eq_true rfl) (fun r2 σ2 hr2 => ?_)
    obtain ⟨rfl, hI2⟩ := h2 r2 σ2 hr2
    show Vw X 604 _ [.int v, .int v] σ2
    refine V_icmp_eq (pc := 604) (tgt := 846) hX dL_law_604 (by decide) (fun _ => ?_) (fun h => absurd rfl h)
    exact k846 hkL σ2 hI2
  rcases Classical.em (xs k &&& nI 31 = nI 15) with e15 | e15
  · refine V_tableIn (pc := 33) (off := 576) (tgt := 609) hX dL_law_33 (by rw [e15]; decide +kernel) (by rw [e15]; decide +kernel) (by rw [e15]; decide +kernel) (by decide) ?_
    obtain ⟨P1, hC1, h1⟩ := q15 (xs (k + 1)) (xs (k + 2)) (xs (k + 3)) σ hσ
    refine V_aload_n (pc := 609) (i := 1) hX dL_law_609 rfl rfl ?_
    refine V_aload_n (pc := 610) (i := 0) hX dL_law_610 rfl rfl ?_
    refine V_iload_n (pc := 611) (i := 3) hX dL_law_611 rfl rfl ?_
    refine V_iconst (pc := 612) (v := (nI 1)) hX dL_law_612 (by decide +kernel) ?_
    refine V_iadd (pc := 613) hX dL_law_613 ?_
    refine V_sld (pc := 614) (j := k + 1) hX hs hL31 dL_law_614 (nI_add k 1) (by omega) ?_
    refine V_aload_n (pc := 615) (i := 0) hX dL_law_615 rfl rfl ?_
    refine V_iload_n (pc := 616) (i := 3) hX dL_law_616 rfl rfl ?_
    refine V_iconst (pc := 617) (v := (nI 2)) hX dL_law_617 (by decide +kernel) ?_
    refine V_iadd (pc := 618) hX dL_law_618 ?_
    refine V_sld (pc := 619) (j := k + 2) hX hs hL31 dL_law_619 (nI_add k 2) (by omega) ?_
    refine V_aload_n (pc := 620) (i := 0) hX dL_law_620 rfl rfl ?_
    refine V_iload_n (pc := 621) (i := 3) hX dL_law_621 rfl rfl ?_
    refine V_iconst (pc := 622) (v := (nI 3)) hX dL_law_622 (by decide +kernel) ?_
    refine V_iadd (pc := 623) hX dL_law_623 ?_
    refine V_sld (pc := 624) (j := k + 3) hX hs hL31 dL_law_624 (nI_add k 3) (by omega) ?_
    refine V_callV (pc := 625) hX (hR.mono (by omega)) mL_78 hC1 dL_law_625 rfl rfl rfl rfl (Nat.le_of_ble_eq_true rfl) (fun r σ1 hr1 => ?_)
    obtain ⟨v, rfl, P2, hC2, h2⟩ := h1 r σ1 hr1
    show Vw X 628 _ [.int v] σ1
    refine V_aload_n (pc := 628) (i := 2) hX dL_law_628 rfl rfl ?_
    refine V_aload_n (pc := 629) (i := 0) hX dL_law_629 rfl rfl ?_
    refine V_iload_n (pc := 630) (i := 3) hX dL_law_630 rfl rfl ?_
    refine V_iconst (pc := 631) (v := (nI 1)) hX dL_law_631 (by decide +kernel) ?_
    refine V_iadd (pc := 632) hX dL_law_632 ?_
    refine V_sld (pc := 633) (j := k + 1) hX hs hL31 dL_law_633 (nI_add k 1) (by omega) ?_
    refine V_aload_n (pc := 634) (i := 0) hX dL_law_634 rfl rfl ?_
    refine V_iload_n (pc := 635) (i := 3) hX dL_law_635 rfl rfl ?_
    refine V_iconst (pc := 636) (v := (nI 2)) hX dL_law_636 (by decide +kernel) ?_
    refine V_iadd (pc := 637) hX dL_law_637 ?_
    refine V_sld (pc := 638) (j := k + 2) hX hs hL31 dL_law_638 (nI_add k 2) (by omega) ?_
    refine V_aload_n (pc := 639) (i := 0) hX dL_law_639 rfl rfl ?_
    refine V_iload_n (pc := 640) (i := 3) hX dL_law_640 rfl rfl ?_
    refine V_iconst (pc := 641) (v := (nI 3)) hX dL_law_641 (by decide +kernel) ?_
    refine V_iadd (pc := 642) hX dL_law_642 ?_
    refine V_sld (pc := 643) (j := k + 3) hX hs hL31 dL_law_643 (nI_add k 3) (by omega) ?_
    refine V_callV (pc := 644) hX (hR.mono (by omega)) mL_81 hC2 dL_law_644 rfl rfl rfl rfl (Nat.le_of_ble_eq_true rfl) (fun r2 σ2 hr2 => ?_)
    obtain ⟨rfl, hI2⟩ := h2 r2 σ2 hr2
    show Vw X 647 _ [.int v, .int v] σ2
    refine V_icmp_eq (pc := 647) (tgt := 846) hX dL_law_647 (by decide) (fun _ => ?_) (fun h => absurd rfl h)
    exact k846 hkL σ2 hI2
  rcases Classical.em (xs k &&& nI 31 = nI 16) with e16 | e16
  · refine V_tableIn (pc := 33) (off := 619) (tgt := 652) hX dL_law_33 (by rw [e16]; decide +kernel) (by rw [e16]; decide +kernel) (by rw [e16]; decide +kernel) (by decide) ?_
    obtain ⟨P1, hC1, h1⟩ := q16 (xs (k + 1)) σ hσ
    refine V_aload_n (pc := 652) (i := 1) hX dL_law_652 rfl rfl ?_
    refine V_aload_n (pc := 653) (i := 0) hX dL_law_653 rfl rfl ?_
    refine V_iload_n (pc := 654) (i := 3) hX dL_law_654 rfl rfl ?_
    refine V_iconst (pc := 655) (v := (nI 1)) hX dL_law_655 (by decide +kernel) ?_
    refine V_iadd (pc := 656) hX dL_law_656 ?_
    refine V_sld (pc := 657) (j := k + 1) hX hs hL31 dL_law_657 (nI_add k 1) (by omega) ?_
    refine V_callV (pc := 658) hX (hR.mono (by omega)) mL_82 hC1 dL_law_658 rfl rfl rfl rfl (Nat.le_of_ble_eq_true rfl) (fun r σ1 hr1 => ?_)
    obtain ⟨v, rfl, P2, hC2, h2⟩ := h1 r σ1 hr1
    show Vw X 661 _ [.int v] σ1
    refine V_aload_n (pc := 661) (i := 2) hX dL_law_661 rfl rfl ?_
    refine V_aload_n (pc := 662) (i := 0) hX dL_law_662 rfl rfl ?_
    refine V_iload_n (pc := 663) (i := 3) hX dL_law_663 rfl rfl ?_
    refine V_iconst (pc := 664) (v := (nI 1)) hX dL_law_664 (by decide +kernel) ?_
    refine V_iadd (pc := 665) hX dL_law_665 ?_
    refine V_sld (pc := 666) (j := k + 1) hX hs hL31 dL_law_666 (nI_add k 1) (by omega) ?_
    refine V_callV (pc := 667) hX (hR.mono (by omega)) mL_85 hC2 dL_law_667 rfl rfl rfl rfl (Nat.le_of_ble_eq_true rfl) (fun r2 σ2 hr2 => ?_)
    obtain ⟨rfl, hI2⟩ := h2 r2 σ2 hr2
    show Vw X 670 _ [.int v, .int v] σ2
    refine V_icmp_eq (pc := 670) (tgt := 846) hX dL_law_670 (by decide) (fun _ => ?_) (fun h => absurd rfl h)
    exact k846 hkL σ2 hI2
  rcases Classical.em (xs k &&& nI 31 = nI 17) with e17 | e17
  · refine V_tableIn (pc := 33) (off := 642) (tgt := 675) hX dL_law_33 (by rw [e17]; decide +kernel) (by rw [e17]; decide +kernel) (by rw [e17]; decide +kernel) (by decide) ?_
    obtain ⟨P1, hC1, h1⟩ := q17 (xs (k + 1)) σ hσ
    refine V_aload_n (pc := 675) (i := 1) hX dL_law_675 rfl rfl ?_
    refine V_aload_n (pc := 676) (i := 0) hX dL_law_676 rfl rfl ?_
    refine V_iload_n (pc := 677) (i := 3) hX dL_law_677 rfl rfl ?_
    refine V_iconst (pc := 678) (v := (nI 1)) hX dL_law_678 (by decide +kernel) ?_
    refine V_iadd (pc := 679) hX dL_law_679 ?_
    refine V_sld (pc := 680) (j := k + 1) hX hs hL31 dL_law_680 (nI_add k 1) (by omega) ?_
    refine V_callV (pc := 681) hX (hR.mono (by omega)) mL_86 hC1 dL_law_681 rfl rfl rfl rfl (Nat.le_of_ble_eq_true rfl) (fun r σ1 hr1 => ?_)
    obtain ⟨v, rfl, P2, hC2, h2⟩ := h1 r σ1 hr1
    show Vw X 684 _ [.int v] σ1
    refine V_aload_n (pc := 684) (i := 2) hX dL_law_684 rfl rfl ?_
    refine V_aload_n (pc := 685) (i := 0) hX dL_law_685 rfl rfl ?_
    refine V_iload_n (pc := 686) (i := 3) hX dL_law_686 rfl rfl ?_
    refine V_iconst (pc := 687) (v := (nI 1)) hX dL_law_687 (by decide +kernel) ?_
    refine V_iadd (pc := 688) hX dL_law_688 ?_
    refine V_sld (pc := 689) (j := k + 1) hX hs hL31 dL_law_689 (nI_add k 1) (by omega) ?_
    refine V_callV (pc := 690) hX (hR.mono (by omega)) mL_89 hC2 dL_law_690 rfl rfl rfl rfl (Nat.le_of_ble_eq_true rfl) (fun r2 σ2 hr2 => ?_)
    obtain ⟨rfl, hI2⟩ := h2 r2 σ2 hr2
    show Vw X 693 _ [.int v, .int v] σ2
    refine V_icmp_eq (pc := 693) (tgt := 846) hX dL_law_693 (by decide) (fun _ => ?_) (fun h => absurd rfl h)
    exact k846 hkL σ2 hI2
  rcases Classical.em (xs k &&& nI 31 = nI 18) with e18 | e18
  · refine V_tableIn (pc := 33) (off := 665) (tgt := 698) hX dL_law_33 (by rw [e18]; decide +kernel) (by rw [e18]; decide +kernel) (by rw [e18]; decide +kernel) (by decide) ?_
    obtain ⟨P1, hC1, h1⟩ := q18 (xs (k + 1)) σ hσ
    refine V_aload_n (pc := 698) (i := 1) hX dL_law_698 rfl rfl ?_
    refine V_aload_n (pc := 699) (i := 0) hX dL_law_699 rfl rfl ?_
    refine V_iload_n (pc := 700) (i := 3) hX dL_law_700 rfl rfl ?_
    refine V_iconst (pc := 701) (v := (nI 1)) hX dL_law_701 (by decide +kernel) ?_
    refine V_iadd (pc := 702) hX dL_law_702 ?_
    refine V_sld (pc := 703) (j := k + 1) hX hs hL31 dL_law_703 (nI_add k 1) (by omega) ?_
    refine V_callV (pc := 704) hX (hR.mono (by omega)) mL_90 hC1 dL_law_704 rfl rfl rfl rfl (Nat.le_of_ble_eq_true rfl) (fun r σ1 hr1 => ?_)
    obtain ⟨v, rfl, P2, hC2, h2⟩ := h1 r σ1 hr1
    show Vw X 707 _ [.int v] σ1
    refine V_aload_n (pc := 707) (i := 2) hX dL_law_707 rfl rfl ?_
    refine V_aload_n (pc := 708) (i := 0) hX dL_law_708 rfl rfl ?_
    refine V_iload_n (pc := 709) (i := 3) hX dL_law_709 rfl rfl ?_
    refine V_iconst (pc := 710) (v := (nI 1)) hX dL_law_710 (by decide +kernel) ?_
    refine V_iadd (pc := 711) hX dL_law_711 ?_
    refine V_sld (pc := 712) (j := k + 1) hX hs hL31 dL_law_712 (nI_add k 1) (by omega) ?_
    refine V_callV (pc := 713) hX (hR.mono (by omega)) mL_93 hC2 dL_law_713 rfl rfl rfl rfl (Nat.le_of_ble_eq_true rfl) (fun r2 σ2 hr2 => ?_)
    obtain ⟨rfl, hI2⟩ := h2 r2 σ2 hr2
    show Vw X 716 _ [.int v, .int v] σ2
    refine V_icmp_eq (pc := 716) (tgt := 846) hX dL_law_716 (by decide) (fun _ => ?_) (fun h => absurd rfl h)
    exact k846 hkL σ2 hI2
  rcases Classical.em (xs k &&& nI 31 = nI 19) with e19 | e19
  · refine V_tableIn (pc := 33) (off := 688) (tgt := 721) hX dL_law_33 (by rw [e19]; decide +kernel) (by rw [e19]; decide +kernel) (by rw [e19]; decide +kernel) (by decide) ?_
    obtain ⟨P1, hC1, h1⟩ := q19 (xs (k + 1)) (xs (k + 2)) σ hσ
    refine V_aload_n (pc := 721) (i := 1) hX dL_law_721 rfl rfl ?_
    refine V_aload_n (pc := 722) (i := 0) hX dL_law_722 rfl rfl ?_
    refine V_iload_n (pc := 723) (i := 3) hX dL_law_723 rfl rfl ?_
    refine V_iconst (pc := 724) (v := (nI 1)) hX dL_law_724 (by decide +kernel) ?_
    refine V_iadd (pc := 725) hX dL_law_725 ?_
    refine V_sld (pc := 726) (j := k + 1) hX hs hL31 dL_law_726 (nI_add k 1) (by omega) ?_
    refine V_aload_n (pc := 727) (i := 0) hX dL_law_727 rfl rfl ?_
    refine V_iload_n (pc := 728) (i := 3) hX dL_law_728 rfl rfl ?_
    refine V_iconst (pc := 729) (v := (nI 2)) hX dL_law_729 (by decide +kernel) ?_
    refine V_iadd (pc := 730) hX dL_law_730 ?_
    refine V_sld (pc := 731) (j := k + 2) hX hs hL31 dL_law_731 (nI_add k 2) (by omega) ?_
    refine V_callV (pc := 732) hX (hR.mono (by omega)) mL_94 hC1 dL_law_732 rfl rfl rfl rfl (Nat.le_of_ble_eq_true rfl) (fun r σ1 hr1 => ?_)
    obtain ⟨v, rfl, P2, hC2, h2⟩ := h1 r σ1 hr1
    show Vw X 735 _ [.int v] σ1
    refine V_aload_n (pc := 735) (i := 2) hX dL_law_735 rfl rfl ?_
    refine V_aload_n (pc := 736) (i := 0) hX dL_law_736 rfl rfl ?_
    refine V_iload_n (pc := 737) (i := 3) hX dL_law_737 rfl rfl ?_
    refine V_iconst (pc := 738) (v := (nI 1)) hX dL_law_738 (by decide +kernel) ?_
    refine V_iadd (pc := 739) hX dL_law_739 ?_
    refine V_sld (pc := 740) (j := k + 1) hX hs hL31 dL_law_740 (nI_add k 1) (by omega) ?_
    refine V_aload_n (pc := 741) (i := 0) hX dL_law_741 rfl rfl ?_
    refine V_iload_n (pc := 742) (i := 3) hX dL_law_742 rfl rfl ?_
    refine V_iconst (pc := 743) (v := (nI 2)) hX dL_law_743 (by decide +kernel) ?_
    refine V_iadd (pc := 744) hX dL_law_744 ?_
    refine V_sld (pc := 745) (j := k + 2) hX hs hL31 dL_law_745 (nI_add k 2) (by omega) ?_
    refine V_callV (pc := 746) hX (hR.mono (by omega)) mL_97 hC2 dL_law_746 rfl rfl rfl rfl (Nat.le_of_ble_eq_true rfl) (fun r2 σ2 hr2 => ?_)
    obtain ⟨rfl, hI2⟩ := h2 r2 σ2 hr2
    show Vw X 749 _ [.int v, .int v] σ2
    refine V_icmp_eq (pc := 749) (tgt := 846) hX dL_law_749 (by decide) (fun _ => ?_) (fun h => absurd rfl h)
    exact k846 hkL σ2 hI2
  rcases Classical.em (xs k &&& nI 31 = nI 20) with e20 | e20
  · refine V_tableIn (pc := 33) (off := 721) (tgt := 754) hX dL_law_33 (by rw [e20]; decide +kernel) (by rw [e20]; decide +kernel) (by rw [e20]; decide +kernel) (by decide) ?_
    obtain ⟨P1, hC1, h1⟩ := q20 (xs (k + 1)) (xs (k + 2)) σ hσ
    refine V_aload_n (pc := 754) (i := 1) hX dL_law_754 rfl rfl ?_
    refine V_aload_n (pc := 755) (i := 0) hX dL_law_755 rfl rfl ?_
    refine V_iload_n (pc := 756) (i := 3) hX dL_law_756 rfl rfl ?_
    refine V_iconst (pc := 757) (v := (nI 1)) hX dL_law_757 (by decide +kernel) ?_
    refine V_iadd (pc := 758) hX dL_law_758 ?_
    refine V_sld (pc := 759) (j := k + 1) hX hs hL31 dL_law_759 (nI_add k 1) (by omega) ?_
    refine V_aload_n (pc := 760) (i := 0) hX dL_law_760 rfl rfl ?_
    refine V_iload_n (pc := 761) (i := 3) hX dL_law_761 rfl rfl ?_
    refine V_iconst (pc := 762) (v := (nI 2)) hX dL_law_762 (by decide +kernel) ?_
    refine V_iadd (pc := 763) hX dL_law_763 ?_
    refine V_sld (pc := 764) (j := k + 2) hX hs hL31 dL_law_764 (nI_add k 2) (by omega) ?_
    refine V_callV (pc := 765) hX (hR.mono (by omega)) mL_98 hC1 dL_law_765 rfl rfl rfl rfl (Nat.le_of_ble_eq_true rfl) (fun r σ1 hr1 => ?_)
    obtain ⟨v, rfl, P2, hC2, h2⟩ := h1 r σ1 hr1
    show Vw X 768 _ [.int v] σ1
    refine V_aload_n (pc := 768) (i := 2) hX dL_law_768 rfl rfl ?_
    refine V_aload_n (pc := 769) (i := 0) hX dL_law_769 rfl rfl ?_
    refine V_iload_n (pc := 770) (i := 3) hX dL_law_770 rfl rfl ?_
    refine V_iconst (pc := 771) (v := (nI 1)) hX dL_law_771 (by decide +kernel) ?_
    refine V_iadd (pc := 772) hX dL_law_772 ?_
    refine V_sld (pc := 773) (j := k + 1) hX hs hL31 dL_law_773 (nI_add k 1) (by omega) ?_
    refine V_aload_n (pc := 774) (i := 0) hX dL_law_774 rfl rfl ?_
    refine V_iload_n (pc := 775) (i := 3) hX dL_law_775 rfl rfl ?_
    refine V_iconst (pc := 776) (v := (nI 2)) hX dL_law_776 (by decide +kernel) ?_
    refine V_iadd (pc := 777) hX dL_law_777 ?_
    refine V_sld (pc := 778) (j := k + 2) hX hs hL31 dL_law_778 (nI_add k 2) (by omega) ?_
    refine V_callV (pc := 779) hX (hR.mono (by omega)) mL_101 hC2 dL_law_779 rfl rfl rfl rfl (Nat.le_of_ble_eq_true rfl) (fun r2 σ2 hr2 => ?_)
    obtain ⟨rfl, hI2⟩ := h2 r2 σ2 hr2
    show Vw X 782 _ [.int v, .int v] σ2
    refine V_icmp_eq (pc := 782) (tgt := 846) hX dL_law_782 (by decide) (fun _ => ?_) (fun h => absurd rfl h)
    exact k846 hkL σ2 hI2
  rcases Classical.em (xs k &&& nI 31 = nI 21) with e21 | e21
  · refine V_tableIn (pc := 33) (off := 754) (tgt := 787) hX dL_law_33 (by rw [e21]; decide +kernel) (by rw [e21]; decide +kernel) (by rw [e21]; decide +kernel) (by decide) ?_
    obtain ⟨P1, hC1, h1⟩ := q21 (xs (k + 1)) σ hσ
    refine V_aload_n (pc := 787) (i := 1) hX dL_law_787 rfl rfl ?_
    refine V_aload_n (pc := 788) (i := 0) hX dL_law_788 rfl rfl ?_
    refine V_iload_n (pc := 789) (i := 3) hX dL_law_789 rfl rfl ?_
    refine V_iconst (pc := 790) (v := (nI 1)) hX dL_law_790 (by decide +kernel) ?_
    refine V_iadd (pc := 791) hX dL_law_791 ?_
    refine V_sld (pc := 792) (j := k + 1) hX hs hL31 dL_law_792 (nI_add k 1) (by omega) ?_
    refine V_callV (pc := 793) hX (hR.mono (by omega)) mL_102 hC1 dL_law_793 rfl rfl rfl rfl (Nat.le_of_ble_eq_true rfl) (fun r σ1 hr1 => ?_)
    obtain ⟨v, rfl, P2, hC2, h2⟩ := h1 r σ1 hr1
    show Vw X 796 _ [.int v] σ1
    refine V_aload_n (pc := 796) (i := 2) hX dL_law_796 rfl rfl ?_
    refine V_aload_n (pc := 797) (i := 0) hX dL_law_797 rfl rfl ?_
    refine V_iload_n (pc := 798) (i := 3) hX dL_law_798 rfl rfl ?_
    refine V_iconst (pc := 799) (v := (nI 1)) hX dL_law_799 (by decide +kernel) ?_
    refine V_iadd (pc := 800) hX dL_law_800 ?_
    refine V_sld (pc := 801) (j := k + 1) hX hs hL31 dL_law_801 (nI_add k 1) (by omega) ?_
    refine V_callV (pc := 802) hX (hR.mono (by omega)) mL_105 hC2 dL_law_802 rfl rfl rfl rfl (Nat.le_of_ble_eq_true rfl) (fun r2 σ2 hr2 => ?_)
    obtain ⟨rfl, hI2⟩ := h2 r2 σ2 hr2
    show Vw X 805 _ [.int v, .int v] σ2
    refine V_icmp_eq (pc := 805) (tgt := 846) hX dL_law_805 (by decide) (fun _ => ?_) (fun h => absurd rfl h)
    exact k846 hkL σ2 hI2
  rcases Classical.em (xs k &&& nI 31 = nI 22) with e22 | e22
  · refine V_tableIn (pc := 33) (off := 777) (tgt := 810) hX dL_law_33 (by rw [e22]; decide +kernel) (by rw [e22]; decide +kernel) (by rw [e22]; decide +kernel) (by decide) ?_
    obtain ⟨P1, hC1, h1⟩ := q22 (xs (k + 1)) σ hσ
    refine V_aload_n (pc := 810) (i := 1) hX dL_law_810 rfl rfl ?_
    refine V_aload_n (pc := 811) (i := 0) hX dL_law_811 rfl rfl ?_
    refine V_iload_n (pc := 812) (i := 3) hX dL_law_812 rfl rfl ?_
    refine V_iconst (pc := 813) (v := (nI 1)) hX dL_law_813 (by decide +kernel) ?_
    refine V_iadd (pc := 814) hX dL_law_814 ?_
    refine V_sld (pc := 815) (j := k + 1) hX hs hL31 dL_law_815 (nI_add k 1) (by omega) ?_
    refine V_callV (pc := 816) hX (hR.mono (by omega)) mL_106 hC1 dL_law_816 rfl rfl rfl rfl (Nat.le_of_ble_eq_true rfl) (fun r σ1 hr1 => ?_)
    obtain ⟨v, rfl, P2, hC2, h2⟩ := h1 r σ1 hr1
    show Vw X 819 _ [.int v] σ1
    refine V_aload_n (pc := 819) (i := 2) hX dL_law_819 rfl rfl ?_
    refine V_aload_n (pc := 820) (i := 0) hX dL_law_820 rfl rfl ?_
    refine V_iload_n (pc := 821) (i := 3) hX dL_law_821 rfl rfl ?_
    refine V_iconst (pc := 822) (v := (nI 1)) hX dL_law_822 (by decide +kernel) ?_
    refine V_iadd (pc := 823) hX dL_law_823 ?_
    refine V_sld (pc := 824) (j := k + 1) hX hs hL31 dL_law_824 (nI_add k 1) (by omega) ?_
    refine V_callV (pc := 825) hX (hR.mono (by omega)) mL_109 hC2 dL_law_825 rfl rfl rfl rfl (Nat.le_of_ble_eq_true rfl) (fun r2 σ2 hr2 => ?_)
    obtain ⟨rfl, hI2⟩ := h2 r2 σ2 hr2
    show Vw X 828 _ [.int v, .int v] σ2
    refine V_icmp_eq (pc := 828) (tgt := 846) hX dL_law_828 (by decide) (fun _ => ?_) (fun h => absurd rfl h)
    exact k846 hkL σ2 hI2
  rcases Classical.em (xs k &&& nI 31 = nI 23) with e23 | e23
  · refine V_tableIn (pc := 33) (off := 800) (tgt := 833) hX dL_law_33 (by rw [e23]; decide +kernel) (by rw [e23]; decide +kernel) (by rw [e23]; decide +kernel) (by decide) ?_
    obtain ⟨P1, hC1, h1⟩ := q23 σ hσ
    refine V_aload_n (pc := 833) (i := 1) hX dL_law_833 rfl rfl ?_
    refine V_callV (pc := 834) hX (hR.mono (by omega)) mL_110 hC1 dL_law_834 rfl rfl rfl rfl (Nat.le_of_ble_eq_true rfl) (fun r σ1 hr1 => ?_)
    obtain ⟨v, rfl, P2, hC2, h2⟩ := h1 r σ1 hr1
    show Vw X 837 _ [.int v] σ1
    refine V_aload_n (pc := 837) (i := 2) hX dL_law_837 rfl rfl ?_
    refine V_callV (pc := 838) hX (hR.mono (by omega)) mL_113 hC2 dL_law_838 rfl rfl rfl rfl (Nat.le_of_ble_eq_true rfl) (fun r2 σ2 hr2 => ?_)
    obtain ⟨rfl, hI2⟩ := h2 r2 σ2 hr2
    show Vw X 841 _ [.int v, .int v] σ2
    refine V_icmp_eq (pc := 841) (tgt := 846) hX dL_law_841 (by decide) (fun _ => ?_) (fun h => absurd rfl h)
    exact k846 hkL σ2 hI2
  refine V_tableOut (pc := 33) (tgt := 846) hX dL_law_33 (tsw_out 23 (by
    intro j hj
    rcases (show j = 0 ∨ j = 1 ∨ j = 2 ∨ j = 3 ∨ j = 4 ∨ j = 5 ∨ j = 6 ∨ j = 7 ∨ j = 8 ∨ j = 9 ∨ j = 10 ∨ j = 11 ∨ j = 12 ∨ j = 13 ∨ j = 14 ∨ j = 15 ∨ j = 16 ∨ j = 17 ∨ j = 18 ∨ j = 19 ∨ j = 20 ∨ j = 21 ∨ j = 22 ∨ j = 23 by omega) with rfl | rfl | rfl | rfl | rfl | rfl | rfl | rfl | rfl | rfl | rfl | rfl | rfl | rfl | rfl | rfl | rfl | rfl | rfl | rfl | rfl | rfl | rfl | rfl
    · exact e0
    · exact e1
    · exact e2
    · exact e3
    · exact e4
    · exact e5
    · exact e6
    · exact e7
    · exact e8
    · exact e9
    · exact e10
    · exact e11
    · exact e12
    · exact e13
    · exact e14
    · exact e15
    · exact e16
    · exact e17
    · exact e18
    · exact e19
    · exact e20
    · exact e21
    · exact e22
    · exact e23)) (by decide) ?_
  exact k846 hkL σ hσ
termination_by L + 6 - k
