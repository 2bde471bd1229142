/-! ===== the law's body: the loops of a demand ===== -/
def cF (L : Nat) (xs : Nat → Int32) : Nat → Int32 := fun k => nI (coN L xs k)
theorem sub2 (a p q : Int32) : (a - p) - q = a - (p + q) := by
  rw [Int32.sub_eq_add_neg, Int32.sub_eq_add_neg, Int32.sub_eq_add_neg, Int32.neg_add, Int32.sub_eq_add_neg, Int32.add_assoc]
theorem mul0 (a : Int32) : nI 0 * a = nI 0 := by rw [nI_0, Int32.zero_mul]
theorem mul1 (a : Int32) : nI 1 * a = a := by rw [show nI 1 = (1 : Int32) by decide +kernel, Int32.one_mul]
theorem sub0 (a : Int32) : a - nI 0 = a := by rw [nI_0, Int32.sub_zero]
theorem left_s {a b : Int32} {pr : Nat → Int32} {i : Nat} (h : i < 32) : (a - pf b pr i) - ((b >>> (nI i &&& 31)) &&& nI 1) * pr i = a - pf b pr (i + 1) := by
  rw [sbit h, pf]
  cases bt b i with
  | false => rw [if_neg Bool.false_ne_true, show bI false = nI 0 from rfl, mul0, sub0]
  | true => rw [if_pos rfl, show bI true = nI 1 from rfl, mul1, sub2]
theorem fill_s {b : Int32} {pr : Nat → Int32} {i : Nat} (h : i < 32) : pf b pr i + ((b >>> (nI i &&& 31)) &&& nI 1) * pr i = pf b pr (i + 1) := by
  rw [sbit h, pf]
  cases bt b i with
  | false => rw [if_neg Bool.false_ne_true, show bI false = nI 0 from rfl, mul0, add0]
  | true => rw [if_pos rfl, show bI true = nI 1 from rfl, mul1]
theorem left_0 (a b : Int32) (pr : Nat → Int32) : a - pf b pr 0 = a := sub0 a
/-- which of the first k sets have t -/
def hadF (th : Nat → Int32) (t : Nat) : Nat → Int32
  | 0 => nI 0
  | k + 1 => if bt (th k) t then hadF th t k ||| (nI 1 <<< (nI k &&& 31)) else hadF th t k
theorem hadF_bt {th : Nat → Int32} {t i : Nat} : ∀ k, k ≤ 32 → (bt (hadF th t k) i = true ↔ i < k ∧ bt (th i) t = true)
  | 0, _ => by
    rw [hadF, nI_0, b_0]
    exact ⟨fun h => (by cases h), fun h => absurd h.1 (Nat.not_lt_zero i)⟩
  | k + 1, hk => by
    have ih := hadF_bt (th := th) (t := t) (i := i) k (by omega)
    rw [hadF]
    cases hb : bt (th k) t with
    | false =>
      rw [if_neg Bool.false_ne_true, ih]
      constructor
      · rintro ⟨h1, h2⟩; exact ⟨by omega, h2⟩
      · rintro ⟨h1, h2⟩
        refine ⟨?_, h2⟩
        rcases Nat.lt_or_ge i k with q | q
        · exact q
        · obtain rfl : i = k := by omega
          rw [hb] at h2; exact absurd h2 (by decide)
    | true =>
      rw [if_pos rfl, b_or, Bool.or_eq_true, ih, bt_sh (by omega), decide_eq_true_iff]
      constructor
      · rintro (⟨h1, h2⟩ | rfl)
        · exact ⟨by omega, h2⟩
        · exact ⟨by omega, hb⟩
      · rintro ⟨h1, h2⟩
        by_cases q : i = k
        · exact Or.inr q
        · exact Or.inl ⟨by omega, h2⟩
set_option maxRecDepth 100000 in
set_option maxHeartbeats 4000000 in
theorem l_left1 {L : Nat} {xs : Nat → Int32} {X : XC} (hX : Cok X RL cL_law 15) (hp : Pok X) (hR : Rok X 20) (hs : Scr X L xs) (hL : L < 2 ^ 31) {σ : Mem} {N k : Nat} {dem bo pd t x had least : Int32} (hk : k < 100) (kk : Lw X 154 [some (.ref 52), some (.ref 0), some (.int (nI N)), some (.int (dem)), some (.int (bo)), some (.int (pd)), some (.ref 53), some (.int (t)), some (.int (x)), some (.int (had)), some (.int (least)), some (.int (nI k)), some (.int (nI (coN L xs k) - pf (thF L xs k) (σ 53) 12)), some (.int (nI 12)), none] [] σ) (i : Nat) (hi : i ≤ 12) : Lw X 119 [some (.ref 52), some (.ref 0), some (.int (nI N)), some (.int (dem)), some (.int (bo)), some (.int (pd)), some (.ref 53), some (.int (t)), some (.int (x)), some (.int (had)), some (.int (least)), some (.int (nI k)), some (.int (nI (coN L xs k) - pf (thF L xs k) (σ 53) i)), some (.int (nI i)), none] [] σ := by
  refine L_iload (pc := 119) (i := 13) hX dL_law_119 rfl ?_
  refine L_bipush (pc := 121) (v := (nI 12)) hX dL_law_121 (by decide +kernel) ?_
  refine L_icmp_geN (pc := 123) (tgt := 154) hX dL_law_123 (by decide) (by omega) (by omega) (fun h123 => ?_) (fun h123 => ?_)
  · obtain rfl : i = 12 := by omega
    exact kk
  · refine L_iload (pc := 126) (i := 12) hX dL_law_126 rfl ?_
    refine L_aload_n (pc := 128) (i := 0) hX dL_law_128 rfl rfl ?_
    refine L_iload (pc := 129) (i := 11) hX dL_law_129 rfl ?_
    refine L_callSsi (pc := 131) hX hp (hR.mono (by omega)) mL_19 hs (c_things hL _ hk _) dL_law_131 rfl rfl rfl (Nat.le_of_ble_eq_true rfl) (rfl) ?_
    refine L_iload (pc := 134) (i := 13) hX dL_law_134 rfl ?_
    refine L_ishr (pc := 136) hX dL_law_136 ?_
    refine L_iconst (pc := 137) (v := (nI 1)) hX dL_law_137 (by decide +kernel) ?_
    refine L_iand (pc := 138) hX dL_law_138 ?_
    refine L_aload (pc := 139) (i := 6) hX dL_law_139 rfl ?_
    refine L_iload (pc := 141) (i := 13) hX dL_law_141 rfl ?_
    refine L_pld (pc := 143) hX dL_law_143 (rfl) (by omega) ?_
    refine L_imul (pc := 144) hX dL_law_144 ?_
    refine L_isub (pc := 145) hX dL_law_145 ?_
    refine L_istore12 (pc := 146) hX dL_law_146 rfl ?_
    refine L_iinc13 (pc := 148) hX dL_law_148 rfl (iinc1 _) ?_
    refine L_goto (pc := 151) (tgt := 119) hX dL_law_151 (by decide) ?_
    rw [left_s (by omega)]
    exact l_left1 hX hp hR hs hL hk kk (i + 1) (by omega)
termination_by 12 - i
set_option maxRecDepth 100000 in
set_option maxHeartbeats 4000000 in
theorem l_154 {L : Nat} {xs : Nat → Int32} {X : XC} (hX : Cok X RL cL_law 15) (hp : Pok X) (hR : Rok X 20) (hs : Scr X L xs) (hL : L < 2 ^ 31) {σ : Mem} {N k : Nat} {dem bo pd t x had least left v : Int32} (ih : Lw X 71 [some (.ref 52), some (.ref 0), some (.int (nI N)), some (.int (dem)), some (.int (bo)), some (.int (pd)), some (.ref 53), some (.int (t)), some (.int (x)), some (.int (had)), some (.int (imin least left)), some (.int (nI (k + 1))), none, none, none] [] σ) : Lw X 154 [some (.ref 52), some (.ref 0), some (.int (nI N)), some (.int (dem)), some (.int (bo)), some (.int (pd)), some (.ref 53), some (.int (t)), some (.int (x)), some (.int (had)), some (.int (least)), some (.int (nI k)), some (.int (left)), some (.int (v)), none] [] σ := by
  refine L_iload (pc := 154) (i := 12) hX dL_law_154 rfl ?_
  refine L_iload (pc := 156) (i := 10) hX dL_law_156 rfl ?_
  refine L_icmp_ge (pc := 158) (tgt := 166) hX dL_law_158 (by decide) (fun h158 => ?_) (fun h158 => ?_)
  · refine L_iload (pc := 166) (i := 10) hX dL_law_166 rfl ?_
    refine L_istore10 (pc := 168) hX dL_law_168 rfl ?_
    refine L_iinc11 (pc := 170) hX dL_law_170 rfl (iinc1 _) ?_
    refine L_goto (pc := 173) (tgt := 71) hX dL_law_173 (by decide) ?_
    rw [imin, if_neg (Int32.not_lt.mpr h158)] at ih
    exact Lw.fg (by repeat (first | exact fgt_n | refine fgt_c (Or.inr rfl) ?_ | refine fgt_c (Or.inl rfl) ?_)) ih
  · refine L_iload (pc := 161) (i := 12) hX dL_law_161 rfl ?_
    refine L_goto (pc := 163) (tgt := 168) hX dL_law_163 (by decide) ?_
    refine L_istore10 (pc := 168) hX dL_law_168 rfl ?_
    refine L_iinc11 (pc := 170) hX dL_law_170 rfl (iinc1 _) ?_
    refine L_goto (pc := 173) (tgt := 71) hX dL_law_173 (by decide) ?_
    rw [imin, if_pos (Int32.not_le.mp h158)] at ih
    exact Lw.fg (by repeat (first | exact fgt_n | refine fgt_c (Or.inr rfl) ?_ | refine fgt_c (Or.inl rfl) ?_)) ih
set_option maxRecDepth 100000 in
set_option maxHeartbeats 4000000 in
theorem l_had {L : Nat} {xs : Nat → Int32} {X : XC} (hX : Cok X RL cL_law 15) (hp : Pok X) (hR : Rok X 20) (hs : Scr X L xs) (hL : L < 2 ^ 31) {σ : Mem} {N x : Nat} {dem bo pd t : Int32} (hN : N ≤ 9) (hx : x < 12) (kk : Lw X 176 [some (.ref 52), some (.ref 0), some (.int (nI N)), some (.int (dem)), some (.int (bo)), some (.int (pd)), some (.ref 53), some (.int (t)), some (.int (nI x)), some (.int (hadF (thF L xs) x N)), some (.int (lgm (cF L xs) (thF L xs) (σ 53) x N)), some (.int (nI N)), none, none, none] [] σ) (k : Nat) (hk : k ≤ N) : Lw X 71 [some (.ref 52), some (.ref 0), some (.int (nI N)), some (.int (dem)), some (.int (bo)), some (.int (pd)), some (.ref 53), some (.int (t)), some (.int (nI x)), some (.int (hadF (thF L xs) x k)), some (.int (lgm (cF L xs) (thF L xs) (σ 53) x k)), some (.int (nI k)), none, none, none] [] σ := by
  refine L_iload (pc := 71) (i := 11) hX dL_law_71 rfl ?_
  refine L_iload_n (pc := 73) (i := 2) hX dL_law_73 rfl rfl ?_
  refine L_icmp_geN (pc := 74) (tgt := 176) hX dL_law_74 (by decide) (by omega) (by omega) (fun h74 => ?_) (fun h74 => ?_)
  · obtain rfl : k = N := by omega
    exact kk
  · refine L_iload (pc := 77) (i := 8) hX dL_law_77 rfl ?_
    refine L_bipush (pc := 79) (v := (nI 12)) hX dL_law_79 (by decide +kernel) ?_
    refine L_icmp_geN (pc := 81) (tgt := 170) hX dL_law_81 (by decide) (by omega) (by omega) (fun h81 => absurd h81 ((by omega))) (fun h81 => ?_)
    refine L_aload_n (pc := 84) (i := 0) hX dL_law_84 rfl rfl ?_
    refine L_iload (pc := 85) (i := 11) hX dL_law_85 rfl ?_
    refine L_callSsi (pc := 87) hX hp (hR.mono (by omega)) mL_19 hs (c_things hL _ (by omega) _) dL_law_87 rfl rfl rfl (Nat.le_of_ble_eq_true rfl) (rfl) ?_
    refine L_iload (pc := 90) (i := 8) hX dL_law_90 rfl ?_
    refine L_ishr (pc := 92) hX dL_law_92 ?_
    refine L_iconst (pc := 93) (v := (nI 1)) hX dL_law_93 (by decide +kernel) ?_
    refine L_iand (pc := 94) hX dL_law_94 ?_
    refine L_iconst (pc := 95) (v := (nI 1)) hX dL_law_95 (by decide +kernel) ?_
    refine L_icmp_neS (pc := 96) (tgt := 170) hX dL_law_96 (by decide) (by omega) (fun h96 => ?_) (fun h96 => ?_)
    · refine L_iinc11 (pc := 170) hX dL_law_170 rfl (iinc1 _) ?_
      refine L_goto (pc := 173) (tgt := 71) hX dL_law_173 (by decide) ?_
      have ih := l_had hX hp hR hs hL hN hx kk (k + 1) (by omega)
      rw [hadF, lgm, h96, if_neg Bool.false_ne_true, if_neg Bool.false_ne_true] at ih
      exact ih
    · refine L_iload (pc := 99) (i := 9) hX dL_law_99 rfl ?_
      refine L_iconst (pc := 101) (v := (nI 1)) hX dL_law_101 (by decide +kernel) ?_
      refine L_iload (pc := 102) (i := 11) hX dL_law_102 rfl ?_
      refine L_ishl (pc := 104) hX dL_law_104 ?_
      refine L_ior (pc := 105) hX dL_law_105 ?_
      refine L_istore9 (pc := 106) hX dL_law_106 rfl ?_
      refine L_aload_n (pc := 108) (i := 0) hX dL_law_108 rfl rfl ?_
      refine L_iload (pc := 109) (i := 11) hX dL_law_109 rfl ?_
      refine L_callSsi (pc := 111) hX hp (hR.mono (by omega)) mL_33 hs (c_cost hL _ (by omega) _) dL_law_111 rfl rfl rfl (Nat.le_of_ble_eq_true rfl) (rfl) ?_
      refine L_istore12 (pc := 114) hX dL_law_114 rfl ?_
      refine L_iconst (pc := 116) (v := (nI 0)) hX dL_law_116 (by decide +kernel) ?_
      refine L_istore13 (pc := 117) hX dL_law_117 rfl ?_
      have ih := l_had hX hp hR hs hL hN hx kk (k + 1) (by omega)
      rw [hadF, lgm, h96, if_pos rfl, if_pos rfl] at ih
      have h9 := l_left1 hX hp hR hs hL (σ := σ) (by omega) (l_154 hX hp hR hs hL ih) 0 (Nat.zero_le _)
      rw [left_0] at h9
      exact h9
termination_by N - k
set_option maxRecDepth 100000 in
set_option maxHeartbeats 4000000 in
theorem l_had12 {L : Nat} {xs : Nat → Int32} {X : XC} (hX : Cok X RL cL_law 15) (hp : Pok X) (hR : Rok X 20) (hs : Scr X L xs) (hL : L < 2 ^ 31) {σ : Mem} {N : Nat} {dem bo pd t : Int32} (hN : N ≤ 9) (kk : Lw X 176 [some (.ref 52), some (.ref 0), some (.int (nI N)), some (.int (dem)), some (.int (bo)), some (.int (pd)), some (.ref 53), some (.int (t)), some (.int (nI 12)), some (.int (nI 0)), some (.int (nI 1000000)), some (.int (nI N)), none, none, none] [] σ) (k : Nat) (hk : k ≤ N) : Lw X 71 [some (.ref 52), some (.ref 0), some (.int (nI N)), some (.int (dem)), some (.int (bo)), some (.int (pd)), some (.ref 53), some (.int (t)), some (.int (nI 12)), some (.int (nI 0)), some (.int (nI 1000000)), some (.int (nI k)), none, none, none] [] σ := by
  refine L_iload (pc := 71) (i := 11) hX dL_law_71 rfl ?_
  refine L_iload_n (pc := 73) (i := 2) hX dL_law_73 rfl rfl ?_
  refine L_icmp_geN (pc := 74) (tgt := 176) hX dL_law_74 (by decide) (by omega) (by omega) (fun h74 => ?_) (fun h74 => ?_)
  · obtain rfl : k = N := by omega
    exact kk
  · refine L_iload (pc := 77) (i := 8) hX dL_law_77 rfl ?_
    refine L_bipush (pc := 79) (v := (nI 12)) hX dL_law_79 (by decide +kernel) ?_
    refine L_icmp_geN (pc := 81) (tgt := 170) hX dL_law_81 (by decide) (by omega) (by omega) (fun h81 => ?_) (fun h81 => absurd h81 ((by omega)))
    refine L_iinc11 (pc := 170) hX dL_law_170 rfl (iinc1 _) ?_
    refine L_goto (pc := 173) (tgt := 71) hX dL_law_173 (by decide) ?_
    exact l_had12 hX hp hR hs hL hN kk (k + 1) (by omega)
termination_by N - k
set_option maxRecDepth 100000 in
set_option maxHeartbeats 4000000 in
theorem l_left2 {L : Nat} {xs : Nat → Int32} {X : XC} (hX : Cok X RL cL_law 15) (hp : Pok X) (hR : Rok X 20) (hs : Scr X L xs) (hL : L < 2 ^ 31) {σ : Mem} {N k : Nat} {dem bo pd t x had least pays : Int32} (hk : k < 100) (kk : Lw X 264 [some (.ref 52), some (.ref 0), some (.int (nI N)), some (.int (dem)), some (.int (bo)), some (.int (pd)), some (.ref 53), some (.int (t)), some (.int (x)), some (.int (had)), some (.int (least)), some (.int (pays)), some (.int (nI k)), some (.int (nI (coN L xs k) - pf (thF L xs k) (σ 53) 12)), some (.int (nI 12))] [] σ) (i : Nat) (hi : i ≤ 12) : Lw X 229 [some (.ref 52), some (.ref 0), some (.int (nI N)), some (.int (dem)), some (.int (bo)), some (.int (pd)), some (.ref 53), some (.int (t)), some (.int (x)), some (.int (had)), some (.int (least)), some (.int (pays)), some (.int (nI k)), some (.int (nI (coN L xs k) - pf (thF L xs k) (σ 53) i)), some (.int (nI i))] [] σ := by
  refine L_iload (pc := 229) (i := 14) hX dL_law_229 rfl ?_
  refine L_bipush (pc := 231) (v := (nI 12)) hX dL_law_231 (by decide +kernel) ?_
  refine L_icmp_geN (pc := 233) (tgt := 264) hX dL_law_233 (by decide) (by omega) (by omega) (fun h233 => ?_) (fun h233 => ?_)
  · obtain rfl : i = 12 := by omega
    exact kk
  · refine L_iload (pc := 236) (i := 13) hX dL_law_236 rfl ?_
    refine L_aload_n (pc := 238) (i := 0) hX dL_law_238 rfl rfl ?_
    refine L_iload (pc := 239) (i := 12) hX dL_law_239 rfl ?_
    refine L_callSsi (pc := 241) hX hp (hR.mono (by omega)) mL_19 hs (c_things hL _ hk _) dL_law_241 rfl rfl rfl (Nat.le_of_ble_eq_true rfl) (rfl) ?_
    refine L_iload (pc := 244) (i := 14) hX dL_law_244 rfl ?_
    refine L_ishr (pc := 246) hX dL_law_246 ?_
    refine L_iconst (pc := 247) (v := (nI 1)) hX dL_law_247 (by decide +kernel) ?_
    refine L_iand (pc := 248) hX dL_law_248 ?_
    refine L_aload (pc := 249) (i := 6) hX dL_law_249 rfl ?_
    refine L_iload (pc := 251) (i := 14) hX dL_law_251 rfl ?_
    refine L_pld (pc := 253) hX dL_law_253 (rfl) (by omega) ?_
    refine L_imul (pc := 254) hX dL_law_254 ?_
    refine L_isub (pc := 255) hX dL_law_255 ?_
    refine L_istore13 (pc := 256) hX dL_law_256 rfl ?_
    refine L_iinc14 (pc := 258) hX dL_law_258 rfl (iinc1 _) ?_
    refine L_goto (pc := 261) (tgt := 229) hX dL_law_261 (by decide) ?_
    rw [left_s (by omega)]
    exact l_left2 hX hp hR hs hL hk kk (i + 1) (by omega)
termination_by 12 - i
theorem left_z {a p : Int32} : a - p = 0 ↔ p = a := by
  constructor
  · intro h
    have h2 := congrArg (fun z => z + p) h
    simp only [Int32.sub_add_cancel, Int32.zero_add] at h2
    exact h2.symm
  · rintro rfl; exact Int32.sub_self _
set_option maxRecDepth 100000 in
set_option maxHeartbeats 4000000 in
theorem l_264 {L : Nat} {xs : Nat → Int32} {X : XC} (hX : Cok X RL cL_law 15) (hp : Pok X) (hR : Rok X 20) (hs : Scr X L xs) (hL : L < 2 ^ 31) {σ : Mem} {N k x : Nat} {dem bo pd t had least pays v : Int32} (hk : k < 31) (hh : bt had k = bt (thF L xs k) x) (ih : Lw X 212 [some (.ref 52), some (.ref 0), some (.int (nI N)), some (.int (dem)), some (.int ((if tight (cF L xs) (thF L xs) (σ 53) x k then bo ||| (nI 1 <<< (nI k &&& 31)) else bo))), some (.int (pd)), some (.ref 53), some (.int (t)), some (.int (nI x)), some (.int (had)), some (.int (least)), some (.int ((if tight (cF L xs) (thF L xs) (σ 53) x k then pays + nI (coN L xs k) else pays))), some (.int (nI (k + 1))), none, none] [] σ) : Lw X 264 [some (.ref 52), some (.ref 0), some (.int (nI N)), some (.int (dem)), some (.int (bo)), some (.int (pd)), some (.ref 53), some (.int (t)), some (.int (nI x)), some (.int (had)), some (.int (least)), some (.int (pays)), some (.int (nI k)), some (.int (nI (coN L xs k) - pf (thF L xs k) (σ 53) 12)), some (.int (v))] [] σ := by
  refine L_iload (pc := 264) (i := 9) hX dL_law_264 rfl ?_
  refine L_iload (pc := 266) (i := 12) hX dL_law_266 rfl ?_
  refine L_ishr (pc := 268) hX dL_law_268 ?_
  refine L_iconst (pc := 269) (v := (nI 1)) hX dL_law_269 (by decide +kernel) ?_
  refine L_iand (pc := 270) hX dL_law_270 ?_
  refine L_iconst (pc := 271) (v := (nI 1)) hX dL_law_271 (by decide +kernel) ?_
  refine L_icmp_neS (pc := 272) (tgt := 300) hX dL_law_272 (by decide) (by omega) (fun h272 => ?_) (fun h272 => ?_)
  · refine L_iinc12 (pc := 300) hX dL_law_300 rfl (iinc1 _) ?_
    refine L_goto (pc := 303) (tgt := 212) hX dL_law_303 (by decide) ?_
    have e : tight (cF L xs) (thF L xs) (σ 53) x k = false := by rw [tight, ← hh, h272, Bool.false_and]
    rw [e, if_neg Bool.false_ne_true, if_neg Bool.false_ne_true] at ih
    exact Lw.fg (by repeat (first | exact fgt_n | refine fgt_c (Or.inr rfl) ?_ | refine fgt_c (Or.inl rfl) ?_)) ih
  · refine L_iload (pc := 275) (i := 13) hX dL_law_275 rfl ?_
    refine L_if_ne (pc := 277) (tgt := 300) hX dL_law_277 (by decide) (fun h277 => ?_) (fun h277 => ?_)
    · refine L_iinc12 (pc := 300) hX dL_law_300 rfl (iinc1 _) ?_
      refine L_goto (pc := 303) (tgt := 212) hX dL_law_303 (by decide) ?_
      have e : tight (cF L xs) (thF L xs) (σ 53) x k = false := by
        have e2 : decide (pf (thF L xs k) (σ 53) 12 = cF L xs k) = false := decide_eq_false (fun q => h277 (left_z.mpr q))
        rw [tight, e2, Bool.and_false]
      rw [e, if_neg Bool.false_ne_true, if_neg Bool.false_ne_true] at ih
      exact Lw.fg (by repeat (first | exact fgt_n | refine fgt_c (Or.inr rfl) ?_ | refine fgt_c (Or.inl rfl) ?_)) ih
    · refine L_iload (pc := 280) (i := 4) hX dL_law_280 rfl ?_
      refine L_iconst (pc := 282) (v := (nI 1)) hX dL_law_282 (by decide +kernel) ?_
      refine L_iload (pc := 283) (i := 12) hX dL_law_283 rfl ?_
      refine L_ishl (pc := 285) hX dL_law_285 ?_
      refine L_ior (pc := 286) hX dL_law_286 ?_
      refine L_istore4 (pc := 287) hX dL_law_287 rfl ?_
      refine L_iload (pc := 289) (i := 11) hX dL_law_289 rfl ?_
      refine L_aload_n (pc := 291) (i := 0) hX dL_law_291 rfl rfl ?_
      refine L_iload (pc := 292) (i := 12) hX dL_law_292 rfl ?_
      refine L_callSsi (pc := 294) hX hp (hR.mono (by omega)) mL_33 hs (c_cost hL _ (by omega) _) dL_law_294 rfl rfl rfl (Nat.le_of_ble_eq_true rfl) (rfl) ?_
      refine L_iadd (pc := 297) hX dL_law_297 ?_
      refine L_istore11 (pc := 298) hX dL_law_298 rfl ?_
      refine L_iinc12 (pc := 300) hX dL_law_300 rfl (iinc1 _) ?_
      refine L_goto (pc := 303) (tgt := 212) hX dL_law_303 (by decide) ?_
      have e : tight (cF L xs) (thF L xs) (σ 53) x k = true := by
        rw [tight, ← hh, h272, Bool.true_and]
        exact decide_eq_true (left_z.mp h277)
      rw [e, if_pos rfl, if_pos rfl] at ih
      exact Lw.fg (by repeat (first | exact fgt_n | refine fgt_c (Or.inr rfl) ?_ | refine fgt_c (Or.inl rfl) ?_)) ih
set_option maxRecDepth 100000 in
set_option maxHeartbeats 4000000 in
theorem l_buy {L : Nat} {xs : Nat → Int32} {X : XC} (hX : Cok X RL cL_law 15) (hp : Pok X) (hR : Rok X 20) (hs : Scr X L xs) (hL : L < 2 ^ 31) {σ : Mem} {N x : Nat} {dem bo pd t had least : Int32} (hN : N ≤ 9) (hh : ∀ k, k < N → bt had k = bt (thF L xs k) x) (kk : Lw X 306 [some (.ref 52), some (.ref 0), some (.int (nI N)), some (.int (dem)), some (.int (buyB (cF L xs) (thF L xs) (σ 53) x bo N)), some (.int (pd)), some (.ref 53), some (.int (t)), some (.int (nI x)), some (.int (had)), some (.int (least)), some (.int (buyC (cF L xs) (thF L xs) (σ 53) x N)), some (.int (nI N)), none, none] [] σ) (k : Nat) (hk : k ≤ N) : Lw X 212 [some (.ref 52), some (.ref 0), some (.int (nI N)), some (.int (dem)), some (.int (buyB (cF L xs) (thF L xs) (σ 53) x bo k)), some (.int (pd)), some (.ref 53), some (.int (t)), some (.int (nI x)), some (.int (had)), some (.int (least)), some (.int (buyC (cF L xs) (thF L xs) (σ 53) x k)), some (.int (nI k)), none, none] [] σ := by
  refine L_iload (pc := 212) (i := 12) hX dL_law_212 rfl ?_
  refine L_iload_n (pc := 214) (i := 2) hX dL_law_214 rfl rfl ?_
  refine L_icmp_geN (pc := 215) (tgt := 306) hX dL_law_215 (by decide) (by omega) (by omega) (fun h215 => ?_) (fun h215 => ?_)
  · obtain rfl : k = N := by omega
    exact kk
  · refine L_aload_n (pc := 218) (i := 0) hX dL_law_218 rfl rfl ?_
    refine L_iload (pc := 219) (i := 12) hX dL_law_219 rfl ?_
    refine L_callSsi (pc := 221) hX hp (hR.mono (by omega)) mL_33 hs (c_cost hL _ (by omega) _) dL_law_221 rfl rfl rfl (Nat.le_of_ble_eq_true rfl) (rfl) ?_
    refine L_istore13 (pc := 224) hX dL_law_224 rfl ?_
    refine L_iconst (pc := 226) (v := (nI 0)) hX dL_law_226 (by decide +kernel) ?_
    refine L_istore14 (pc := 227) hX dL_law_227 rfl ?_
    have ih := l_buy hX hp hR hs hL hN hh kk (k + 1) (by omega)
    rw [buyB, buyC] at ih
    have h9 := l_left2 hX hp hR hs hL (σ := σ) (by omega) (l_264 hX hp hR hs hL (by omega) (hh k (by omega)) ih) 0 (Nat.zero_le _)
    rw [left_0] at h9
    exact h9
termination_by N - k

