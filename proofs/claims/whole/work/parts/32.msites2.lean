/-! ===== the least of SITES, the reference's ===== -/
/-- a world that is another but for what was reached -/
def rchM (σ τ : Mem) : Prop := (∀ q, q ≠ 52 → τ q = σ q) ∧ ∀ j, j ≠ 29 → τ 52 j = σ 52 j
theorem rchM.rf {σ : Mem} : rchM σ σ := ⟨fun _ _ => rfl, fun _ _ => rfl⟩
theorem rchM.mu {σ τ : Mem} {v : Int32} (h : rchM σ τ) : rchM σ (mu τ 52 29 v) := ⟨fun q hq => by rw [← mu_ne hq]; exact h.1 q hq, fun j hj => by rw [mu_ni hj]; exact h.2 j hj⟩
theorem rchM.wy {σ τ : Mem} (h : rchM σ τ) : wy τ = wy σ := by
  funext a b
  show τ 65 _ = σ 65 _
  rw [h.1 65 (by decide)]
/-- the nearest way out of what is reached: (its length, where it leads) -/
def sc1 (w : Nat → Nat → Int32) (set re : Int32) (a b : Nat) (x : Int32 × Int32) : Int32 × Int32 :=
  if bt set b = true ∧ bt re b = false ∧ 0 < w a b ∧ (x.1 = (-1000000) ∨ w a b < x.1) then (w a b, nI b) else x
def sc2 (w : Nat → Nat → Int32) (set re : Int32) (a : Nat) (x : Int32 × Int32) : Nat → Int32 × Int32
  | 0 => x
  | b + 1 => sc1 w set re a b (sc2 w set re a x b)
def sc3 (w : Nat → Nat → Int32) (set re : Int32) (n : Nat) : Nat → Int32 × Int32
  | 0 => ((-1000000), (-1000000))
  | a + 1 => if bt re a then sc2 w set re a (sc3 w set re n a) n else sc3 w set re n a
set_option maxRecDepth 100000 in
set_option maxHeartbeats 4000000 in
theorem l_mtB {n a fi : Nat} {set sum re : Int32} {x : Int32 × Int32} {X : XC} {P : Option Value → Mem → Prop} {σ : Mem} (hX : Cok X RX6 cX6_treeOf 9) (hR : Rok X 1) (hr : Ret X (some .int) P) (hn : σ 52 21 = nI n) (hn10 : n ≤ 10) (hre : σ 52 29 = re) (ha : a < n) (hra : bt re a = true) (kk : ∀ z8, nol [z8] = true → Vw X 148 [some (.ref 52), some (.int set), some (.int (nI fi)), some (.int sum), some (.int (sc2 (wy σ) set re a x n).1), some (.int (sc2 (wy σ) set re a x n).2), some (.int (nI a)), some (.int (nI n)), z8] [] σ) (b : Nat) (hb : b ≤ n) (z8 : Option Value) (hz : nol [z8] = true) : Vw X 56 [some (.ref 52), some (.int set), some (.int (nI fi)), some (.int sum), some (.int (sc2 (wy σ) set re a x b).1), some (.int (sc2 (wy σ) set re a x b).2), some (.int (nI a)), some (.int (nI b)), z8] [] σ := by
  have ih := fun (h : b < n) (z8 : Option Value) (hz : nol [z8] = true) => l_mtB hX hR hr hn hn10 hre ha hra kk (b + 1) h z8 hz
  refine V_iload (pc := 56) (i := 7) hX dX6_treeOf_56 rfl ?_
  refine V_aload_n (pc := 58) (i := 0) hX dX6_treeOf_58 rfl rfl ?_
  refine V_getf (pc := 59) hX fX6_166 dX6_treeOf_59 rfl rfl ?_
  rw [hn]
  refine V_icmp_geN (pc := 62) (tgt := 148) hX dX6_treeOf_62 (by decide) (by omega) (by omega) (fun h62 => ?_) (fun h62 => ?_)
  · obtain rfl : b = n := by omega
    exact kk z8 hz
  · refine V_aload_n (pc := 65) (i := 0) hX dX6_treeOf_65 rfl rfl ?_
    refine V_getf (pc := 66) hX fX6_181 dX6_treeOf_66 rfl rfl ?_
    refine V_iload (pc := 69) (i := 6) hX dX6_treeOf_69 rfl ?_
    refine V_ishr (pc := 71) hX dX6_treeOf_71 ?_
    refine V_iconst (pc := 72) (v := (nI 1)) hX dX6_treeOf_72 (by decide +kernel) ?_
    refine V_iand (pc := 73) hX dX6_treeOf_73 ?_
    refine V_iconst (pc := 74) (v := (nI 1)) hX dX6_treeOf_74 (by decide +kernel) ?_
    rw [hre]
    refine V_icmp_neS (pc := 75) (tgt := 148) hX dX6_treeOf_75 (by decide) (by omega) (fun h75 => absurd h75 (fun q => absurd (q.symm.trans hra) (by decide))) (fun h75 => ?_)
    refine V_aload_n (pc := 78) (i := 0) hX dX6_treeOf_78 rfl rfl ?_
    refine V_getr (pc := 79) hX fX6_51 dX6_treeOf_79 rfl rfl ?_
    refine V_bipush (pc := 82) (v := (nI 10)) hX dX6_treeOf_82 (by decide +kernel) ?_
    refine V_iload (pc := 84) (i := 6) hX dX6_treeOf_84 rfl ?_
    refine V_imul (pc := 86) hX dX6_treeOf_86 ?_
    refine V_iload (pc := 87) (i := 7) hX dX6_treeOf_87 rfl ?_
    refine V_iadd (pc := 89) hX dX6_treeOf_89 ?_
    refine V_iald (pc := 90) hX dX6_treeOf_90 (rfl) (show _ = nI (10 * a + b) by rw [pk_mul, nI_add]) (by omega) (by decide) ?_
    rw [show σ 65 (10 * a + b) = wy σ a b from rfl]
    refine V_istore8 (pc := 91) hX dX6_treeOf_91 hz ?_
    have ihk := ih h62 (some (.int (wy σ a b))) rfl
    rw [sc2, sc1] at ihk
    refine V_iload_n (pc := 93) (i := 1) hX dX6_treeOf_93 rfl rfl ?_
    refine V_iload (pc := 94) (i := 7) hX dX6_treeOf_94 rfl ?_
    refine V_ishr (pc := 96) hX dX6_treeOf_96 ?_
    refine V_iconst (pc := 97) (v := (nI 1)) hX dX6_treeOf_97 (by decide +kernel) ?_
    refine V_iand (pc := 98) hX dX6_treeOf_98 ?_
    refine V_iconst (pc := 99) (v := (nI 1)) hX dX6_treeOf_99 (by decide +kernel) ?_
    refine V_icmp_neS (pc := 100) (tgt := 142) hX dX6_treeOf_100 (by decide) (by omega) (fun h100 => ?_) (fun h100 => ?_)
    · rw [if_neg (fun q => absurd (h100.symm.trans q.1) (by decide))] at ihk
      refine V_iinc7 (pc := 142) hX dX6_treeOf_142 rfl (iinc1 _) ?_
      refine V_goto (pc := 145) (tgt := 56) hX dX6_treeOf_145 (by decide) ?_
      exact ihk
    · refine V_aload_n (pc := 103) (i := 0) hX dX6_treeOf_103 rfl rfl ?_
      refine V_getf (pc := 104) hX fX6_181 dX6_treeOf_104 rfl rfl ?_
      refine V_iload (pc := 107) (i := 7) hX dX6_treeOf_107 rfl ?_
      refine V_ishr (pc := 109) hX dX6_treeOf_109 ?_
      refine V_iconst (pc := 110) (v := (nI 1)) hX dX6_treeOf_110 (by decide +kernel) ?_
      refine V_iand (pc := 111) hX dX6_treeOf_111 ?_
      rw [hre]
      refine V_if_neS (pc := 112) (tgt := 142) hX dX6_treeOf_112 (by decide) (by omega) (fun h112 => ?_) (fun h112 => ?_)
      · rw [if_neg (fun q => absurd (h112.symm.trans q.2.1) (by decide))] at ihk
        refine V_iinc7 (pc := 142) hX dX6_treeOf_142 rfl (iinc1 _) ?_
        refine V_goto (pc := 145) (tgt := 56) hX dX6_treeOf_145 (by decide) ?_
        exact ihk
      · refine V_iload (pc := 115) (i := 8) hX dX6_treeOf_115 rfl ?_
        refine V_if_le (pc := 117) (tgt := 142) hX dX6_treeOf_117 (by decide) (fun h117 => ?_) (fun h117 => ?_)
        · rw [if_neg (fun q => Int32.not_le.mpr q.2.2.1 h117)] at ihk
          refine V_iinc7 (pc := 142) hX dX6_treeOf_142 rfl (iinc1 _) ?_
          refine V_goto (pc := 145) (tgt := 56) hX dX6_treeOf_145 (by decide) ?_
          exact ihk
        · refine V_iload (pc := 120) (i := 4) hX dX6_treeOf_120 rfl ?_
          refine V_ldc (pc := 122) hX kX6_126 dX6_treeOf_122 ?_
          refine V_icmp_eq (pc := 124) (tgt := 134) hX dX6_treeOf_124 (by decide) (fun h124 => ?_) (fun h124 => ?_)
          · refine V_iload (pc := 134) (i := 8) hX dX6_treeOf_134 rfl ?_
            refine V_istore4 (pc := 136) hX dX6_treeOf_136 rfl ?_
            refine V_iload (pc := 138) (i := 7) hX dX6_treeOf_138 rfl ?_
            refine V_istore5 (pc := 140) hX dX6_treeOf_140 rfl ?_
            rw [if_pos ⟨h100, h112, Int32.not_le.mp h117, Or.inl h124⟩] at ihk
            refine V_iinc7 (pc := 142) hX dX6_treeOf_142 rfl (iinc1 _) ?_
            refine V_goto (pc := 145) (tgt := 56) hX dX6_treeOf_145 (by decide) ?_
            exact ihk
          · refine V_iload (pc := 127) (i := 8) hX dX6_treeOf_127 rfl ?_
            refine V_iload (pc := 129) (i := 4) hX dX6_treeOf_129 rfl ?_
            refine V_icmp_ge (pc := 131) (tgt := 142) hX dX6_treeOf_131 (by decide) (fun h131 => ?_) (fun h131 => ?_)
            · rw [if_neg (fun q => q.2.2.2.elim h124 (fun q => Int32.not_le.mpr q h131))] at ihk
              refine V_iinc7 (pc := 142) hX dX6_treeOf_142 rfl (iinc1 _) ?_
              refine V_goto (pc := 145) (tgt := 56) hX dX6_treeOf_145 (by decide) ?_
              exact ihk
            · refine V_iload (pc := 134) (i := 8) hX dX6_treeOf_134 rfl ?_
              refine V_istore4 (pc := 136) hX dX6_treeOf_136 rfl ?_
              refine V_iload (pc := 138) (i := 7) hX dX6_treeOf_138 rfl ?_
              refine V_istore5 (pc := 140) hX dX6_treeOf_140 rfl ?_
              rw [if_pos ⟨h100, h112, Int32.not_le.mp h117, Or.inr (Int32.not_le.mp h131)⟩] at ihk
              refine V_iinc7 (pc := 142) hX dX6_treeOf_142 rfl (iinc1 _) ?_
              refine V_goto (pc := 145) (tgt := 56) hX dX6_treeOf_145 (by decide) ?_
              exact ihk
termination_by n - b
set_option maxRecDepth 100000 in
set_option maxHeartbeats 4000000 in
theorem l_mtA {n fi : Nat} {set sum re : Int32} {X : XC} {P : Option Value → Mem → Prop} {σ : Mem} (hX : Cok X RX6 cX6_treeOf 9) (hR : Rok X 1) (hr : Ret X (some .int) P) (hn : σ 52 21 = nI n) (hn10 : n ≤ 10) (hre : σ 52 29 = re) (kk : ∀ z7 z8, nol [z7, z8] = true → Vw X 154 [some (.ref 52), some (.int set), some (.int (nI fi)), some (.int sum), some (.int (sc3 (wy σ) set re n n).1), some (.int (sc3 (wy σ) set re n n).2), some (.int (nI n)), z7, z8] [] σ) (a : Nat) (ha : a ≤ n) (z7 z8 : Option Value) (hz : nol [z7, z8] = true) : Vw X 44 [some (.ref 52), some (.int set), some (.int (nI fi)), some (.int sum), some (.int (sc3 (wy σ) set re n a).1), some (.int (sc3 (wy σ) set re n a).2), some (.int (nI a)), z7, z8] [] σ := by
  have hz8 : nol [z8] = true := by
    cases z7 with
    | none => exact hz
    | some v => cases v <;> first | exact hz | (simp [nol] at hz)
  have ih := fun (h : a < n) (z7 z8 : Option Value) (hz : nol [z7, z8] = true) => l_mtA hX hR hr hn hn10 hre kk (a + 1) h z7 z8 hz
  refine V_iload (pc := 44) (i := 6) hX dX6_treeOf_44 rfl ?_
  refine V_aload_n (pc := 46) (i := 0) hX dX6_treeOf_46 rfl rfl ?_
  refine V_getf (pc := 47) hX fX6_166 dX6_treeOf_47 rfl rfl ?_
  rw [hn]
  refine V_icmp_geN (pc := 50) (tgt := 154) hX dX6_treeOf_50 (by decide) (by omega) (by omega) (fun h50 => ?_) (fun h50 => ?_)
  · obtain rfl : a = n := by omega
    exact kk z7 z8 hz
  · refine V_iconst (pc := 53) (v := (nI 0)) hX dX6_treeOf_53 (by decide +kernel) ?_
    refine V_istore7 (pc := 54) hX dX6_treeOf_54 hz ?_
    cases hra : bt re a with
    | true =>
      refine l_mtB (x := sc3 (wy σ) set re n a) hX hR hr hn hn10 hre h50 hra (fun z8 hz8 => ?_) 0 (Nat.zero_le _) z8 hz8
      have ihk := ih h50 (some (.int (nI n))) z8 hz8
      rw [sc3, if_pos hra] at ihk
      refine V_iinc6 (pc := 148) hX dX6_treeOf_148 hz8 (iinc1 _) ?_
      refine V_goto (pc := 151) (tgt := 44) hX dX6_treeOf_151 (by decide) ?_
      exact ihk
    | false =>
      have ihk := ih h50 (some (.int (nI 0))) z8 hz8
      rw [sc3, hra, if_neg (by decide)] at ihk
      refine V_iload (pc := 56) (i := 7) hX dX6_treeOf_56 rfl ?_
      refine V_aload_n (pc := 58) (i := 0) hX dX6_treeOf_58 rfl rfl ?_
      refine V_getf (pc := 59) hX fX6_166 dX6_treeOf_59 rfl rfl ?_
      rw [hn]
      refine V_icmp_geN (pc := 62) (tgt := 148) hX dX6_treeOf_62 (by decide) (by omega) (by omega) (fun h => absurd h (by omega)) (fun _ => ?_)
      refine V_aload_n (pc := 65) (i := 0) hX dX6_treeOf_65 rfl rfl ?_
      refine V_getf (pc := 66) hX fX6_181 dX6_treeOf_66 rfl rfl ?_
      rw [hre]
      refine V_iload (pc := 69) (i := 6) hX dX6_treeOf_69 rfl ?_
      refine V_ishr (pc := 71) hX dX6_treeOf_71 ?_
      refine V_iconst (pc := 72) (v := (nI 1)) hX dX6_treeOf_72 (by decide +kernel) ?_
      refine V_iand (pc := 73) hX dX6_treeOf_73 ?_
      refine V_iconst (pc := 74) (v := (nI 1)) hX dX6_treeOf_74 (by decide +kernel) ?_
      refine V_icmp_neS (pc := 75) (tgt := 148) hX dX6_treeOf_75 (by decide) (by omega) (fun _ => ?_) (fun h => absurd (h.symm.trans hra) (by decide))
      refine V_iinc6 (pc := 148) hX dX6_treeOf_148 hz8 (iinc1 _) ?_
      refine V_goto (pc := 151) (tgt := 44) hX dX6_treeOf_151 (by decide) ?_
      exact ihk
termination_by n - a
/-- the tree as it grows: what is reached, how long it is -/
def mtF (w : Nat → Nat → Int32) (set : Int32) (n fi : Nat) : Nat → Int32 × Int32
  | 0 => (sh1 fi, nI 0)
  | k + 1 => ((mtF w set n fi k).1 ||| (nI 1 <<< ((sc3 w set (mtF w set n fi k).1 n n).2 &&& 31)), (mtF w set n fi k).2 + (sc3 w set (mtF w set n fi k).1 n n).1)
/-- it comes to its end behind K steps -/
def mtOK (w : Nat → Nat → Int32) (set : Int32) (n fi K : Nat) : Prop :=
  (∀ k, k < K → ¬ (mtF w set n fi k).1 = set ∧ ¬ (sc3 w set (mtF w set n fi k).1 n n).2 = (-1000000)) ∧ ((mtF w set n fi K).1 = set ∨ (sc3 w set (mtF w set n fi K).1 n n).2 = (-1000000))
def mtV (w : Nat → Nat → Int32) (set : Int32) (n fi K : Nat) : Int32 := if (mtF w set n fi K).1 = set then (mtF w set n fi K).2 else (-1000000)
set_option maxRecDepth 100000 in
set_option maxHeartbeats 4000000 in
theorem l_mtW {n fi K : Nat} {set : Int32} {X : XC} {P : Option Value → Mem → Prop} {σ : Mem} (hX : Cok X RX6 cX6_treeOf 9) (hR : Rok X 1) (hr : Ret X (some .int) P) (hn : σ 52 21 = nI n) (hn10 : n ≤ 10) (hK : mtOK (wy σ) set n fi K) (hp : ∀ τ, rchM σ τ → P (some (.int (mtV (wy σ) set n fi K))) τ) (k : Nat) (hk : k ≤ K) (τ : Mem) (hτ : rchM σ τ) (h29 : τ 52 29 = (mtF (wy σ) set n fi k).1) (z4 z5 z6 z7 z8 : Option Value) (hz : nol [z4, z5, z6, z7, z8] = true) : Vw X 25 [some (.ref 52), some (.int set), some (.int (nI fi)), some (.int (mtF (wy σ) set n fi k).2), z4, z5, z6, z7, z8] [] τ := by
  have hz5 : nol [z5, z6, z7, z8] = true := by
    cases z4 with
    | none => exact hz
    | some v => cases v <;> first | exact hz | (simp [nol] at hz)
  have hz6 : nol [z6, z7, z8] = true := by
    cases z5 with
    | none => exact hz5
    | some v => cases v <;> first | exact hz5 | (simp [nol] at hz5)
  have hz7 : nol [z7, z8] = true := by
    cases z6 with
    | none => exact hz6
    | some v => cases v <;> first | exact hz6 | (simp [nol] at hz6)
  have r21 : τ 52 21 = nI n := by rw [hτ.2 21 (by decide)]; exact hn
  have ih := fun (h : k < K) τ hτ h29 z4 z5 z6 z7 z8 hz => l_mtW hX hR hr hn hn10 hK hp (k + 1) h τ hτ h29 z4 z5 z6 z7 z8 hz
  refine V_aload_n (pc := 25) (i := 0) hX dX6_treeOf_25 rfl rfl ?_
  refine V_getf (pc := 26) hX fX6_181 dX6_treeOf_26 rfl rfl ?_
  rw [h29]
  refine V_iload_n (pc := 29) (i := 1) hX dX6_treeOf_29 rfl rfl ?_
  refine V_icmp_eq (pc := 30) (tgt := 185) hX dX6_treeOf_30 (by decide) (fun h30 => ?_) (fun h30 => ?_)
  · have e : k = K := by
      rcases Nat.lt_or_ge k K with q | q
      · exact absurd h30 (hK.1 k q).1
      · omega
    subst e
    have hpp := hp τ hτ
    rw [mtV, if_pos h30] at hpp
    refine V_iload_n (pc := 185) (i := 3) hX dX6_treeOf_185 rfl rfl ?_
    exact V_iret (pc := 186) (st := []) hX hr (by first | rfl | exact bI_nar _ | decide +kernel) dX6_treeOf_186 (hpp)
  · refine V_ldc (pc := 33) hX kX6_126 dX6_treeOf_33 ?_
    refine V_istore4 (pc := 35) hX dX6_treeOf_35 hz ?_
    refine V_ldc (pc := 37) hX kX6_126 dX6_treeOf_37 ?_
    refine V_istore5 (pc := 39) hX dX6_treeOf_39 hz5 ?_
    refine V_iconst (pc := 41) (v := (nI 0)) hX dX6_treeOf_41 (by decide +kernel) ?_
    refine V_istore6 (pc := 42) hX dX6_treeOf_42 hz6 ?_
    refine l_mtA (set := set) (sum := (mtF (wy σ) set n fi k).2) (re := (mtF (wy σ) set n fi k).1) hX hR hr r21 hn10 h29 (fun z7 z8 hz => ?_) 0 (Nat.zero_le _) z7 z8 hz7
    rw [hτ.wy]
    refine V_iload (pc := 154) (i := 5) hX dX6_treeOf_154 rfl ?_
    refine V_ldc (pc := 156) hX kX6_126 dX6_treeOf_156 ?_
    refine V_icmp_ne (pc := 158) (tgt := 164) hX dX6_treeOf_158 (by decide) (fun h158 => ?_) (fun h158 => ?_)
    · have hlt : k < K := by
        rcases Nat.lt_or_ge k K with q | q
        · exact q
        · obtain rfl : k = K := by omega
          exact absurd hK.2 (fun q => q.elim h30 h158)
      have ihk := ih hlt (mu τ 52 29 (mtF (wy σ) set n fi (k + 1)).1) hτ.mu mu_at
      refine V_aload_n (pc := 164) (i := 0) hX dX6_treeOf_164 rfl rfl ?_
      refine V_dup (pc := 165) hX dX6_treeOf_165 rfl ?_
      refine V_getf (pc := 166) hX fX6_181 dX6_treeOf_166 rfl rfl ?_
      rw [h29]
      refine V_iconst (pc := 169) (v := (nI 1)) hX dX6_treeOf_169 (by decide +kernel) ?_
      refine V_iload (pc := 170) (i := 5) hX dX6_treeOf_170 rfl ?_
      refine V_ishl (pc := 172) hX dX6_treeOf_172 ?_
      refine V_ior (pc := 173) hX dX6_treeOf_173 ?_
      refine V_putf (pc := 174) hX fX6_181 gi6_29 dX6_treeOf_174 rfl rfl ?_
      refine V_iload_n (pc := 177) (i := 3) hX dX6_treeOf_177 rfl rfl ?_
      refine V_iload (pc := 178) (i := 4) hX dX6_treeOf_178 rfl ?_
      refine V_iadd (pc := 180) hX dX6_treeOf_180 ?_
      refine V_istore3 (pc := 181) hX dX6_treeOf_181 hz ?_
      refine V_goto (pc := 182) (tgt := 25) hX dX6_treeOf_182 (by decide) ?_
      exact ihk _ _ _ _ _ hz
    · have e : k = K := by
        rcases Nat.lt_or_ge k K with q | q
        · exact absurd h158 (hK.1 k q).2
        · omega
      subst e
      have hpp := hp τ hτ
      rw [mtV, if_neg h30] at hpp
      refine V_ldc (pc := 161) hX kX6_126 dX6_treeOf_161 ?_
      exact V_iret (pc := 163) (st := []) hX hr (by first | rfl | exact bI_nar _ | decide +kernel) dX6_treeOf_163 (hpp)
termination_by K - k
set_option maxRecDepth 100000 in
set_option maxHeartbeats 4000000 in
theorem l_mtF {n fi K : Nat} {m : Nat} {X : XC} {P : Option Value → Mem → Prop} {σ : Mem} (hX : Cok X RX6 cX6_treeOf 9) (hR : Rok X 1) (hr : Ret X (some .int) P) (hn : σ 52 21 = nI n) (hn10 : n ≤ 10) (hm : m < 1024) (hf1 : ∀ j, j < fi → bt (nI m) j = false) (hf2 : bt (nI m) fi = true) (hfn : fi < n) (hK : mtOK (wy σ) (nI m) n fi K) (hp : ∀ τ, rchM σ τ → P (some (.int (mtV (wy σ) (nI m) n fi K))) τ) (j : Nat) (hj : j ≤ fi) : Vw X 2 [some (.ref 52), some (.int (nI m)), some (.int (nI j)), none, none, none, none, none, none] [] σ := by
  refine V_iload_n (pc := 2) (i := 1) hX dX6_treeOf_2 rfl rfl ?_
  refine V_iload_n (pc := 3) (i := 2) hX dX6_treeOf_3 rfl rfl ?_
  refine V_ishr (pc := 4) hX dX6_treeOf_4 ?_
  refine V_iconst (pc := 5) (v := (nI 1)) hX dX6_treeOf_5 (by decide +kernel) ?_
  refine V_iand (pc := 6) hX dX6_treeOf_6 ?_
  refine V_if_neS (pc := 7) (tgt := 16) hX dX6_treeOf_7 (by decide) (by omega) (fun h7 => ?_) (fun h7 => ?_)
  · have e : j = fi := by
      rcases Nat.lt_or_ge j fi with q | q
      · exact absurd ((hf1 j q).symm.trans h7) (by decide)
      · omega
    subst e
    refine V_aload_n (pc := 16) (i := 0) hX dX6_treeOf_16 rfl rfl ?_
    refine V_iconst (pc := 17) (v := (nI 1)) hX dX6_treeOf_17 (by decide +kernel) ?_
    refine V_iload_n (pc := 18) (i := 2) hX dX6_treeOf_18 rfl rfl ?_
    refine V_ishl (pc := 19) hX dX6_treeOf_19 ?_
    refine V_putf (pc := 20) hX fX6_181 gi6_29 dX6_treeOf_20 rfl rfl ?_
    refine V_iconst (pc := 23) (v := (nI 0)) hX dX6_treeOf_23 (by decide +kernel) ?_
    refine V_istore3 (pc := 24) hX dX6_treeOf_24 rfl ?_
    exact l_mtW (set := nI m) hX hR hr hn hn10 hK hp 0 (Nat.zero_le _) _ rchM.rf.mu mu_at none none none none none rfl
  · have hlt : j < fi := by
      rcases Nat.lt_or_ge j fi with q | q
      · exact q
      · obtain rfl : j = fi := by omega
        exact absurd (h7.symm.trans hf2) (by decide)
    refine V_iinc2 (pc := 10) hX dX6_treeOf_10 rfl (iinc1 _) ?_
    refine V_goto (pc := 13) (tgt := 2) hX dX6_treeOf_13 (by decide) ?_
    exact l_mtF hX hR hr hn hn10 hm hf1 hf2 hfn hK hp (j + 1) hlt
termination_by fi - j
set_option maxRecDepth 100000 in
set_option maxHeartbeats 4000000 in
theorem c_mtree (n fi K m : Nat) (σ : Mem) (hn : σ 52 21 = nI n) (hn10 : n ≤ 10) (hm : m < 1024) (hf1 : ∀ j, j < fi → bt (nI m) j = false) (hf2 : bt (nI m) fi = true) (hfn : fi < n) (hK : mtOK (wy σ) (nI m) n fi K) : Cc yX6_treeOf cX6_treeOf 9 (some .int) 1 [.ref 52, .int (nI m)] σ (rP (fun v τ => v = mtV (wy σ) (nI m) n fi K ∧ rchM σ τ)) := by
  refine Cc.intro (by decide +kernel) [some (.ref 52), some (.int (nI m)), none, none, none, none, none, none, none] (fun _ => rfl) rfl (fun _ => Nat.le_of_ble_eq_true rfl) ?_
  intro X hX hR hr
  refine V_iconst (pc := 0) (v := (nI 0)) hX dX6_treeOf_0 (by decide +kernel) ?_
  refine V_istore2 (pc := 1) hX dX6_treeOf_1 rfl ?_
  exact l_mtF hX hR hr hn hn10 hm hf1 hf2 hfn hK (fun τ hτ => ⟨_, rfl, rfl, hτ⟩) 0 (Nat.zero_le _)
/-- the least tree among the first m sets, F, K telling each set's first site and how many steps its tree takes -/
def mbF (w : Nat → Nat → Int32) (jo : Int32) (n : Nat) (F K : Nat → Nat) : Nat → Int32
  | 0 => (-1000000)
  | m + 1 => if m + 1 = 1 then (-1000000) else if jo &&& (nI m ^^^ (-1)) = 0 then (if ¬ mtV w (nI m) n (F m) (K m) = (-1000000) ∧ (mbF w jo n F K m = (-1000000) ∨ mtV w (nI m) n (F m) (K m) < mbF w jo n F K m) then mtV w (nI m) n (F m) (K m) else mbF w jo n F K m) else mbF w jo n F K m
def mbOK (w : Nat → Nat → Int32) (jo : Int32) (n : Nat) (F K : Nat → Nat) : Prop := ∀ m, 1 ≤ m → m < 2 ^ n → (∀ j, j < F m → bt (nI m) j = false) ∧ bt (nI m) (F m) = true ∧ F m < n ∧ mtOK w (nI m) n (F m) (K m)
set_option maxRecDepth 100000 in
set_option maxHeartbeats 4000000 in
theorem l_mbest {n : Nat} {F K : Nat → Nat} {X : XC} {P : Option Value → Mem → Prop} {σ : Mem} (hX : Cok X RX6 cX6_bestOfSites 4) (hR : Rok X 2) (hr : Ret X (some .int) P) (hn : σ 52 21 = nI n) (hn10 : n ≤ 10) (hO : mbOK (wy σ) (σ 52 24) n F K) (hp : ∀ τ, rchM σ τ → P (some (.int (mbF (wy σ) (σ 52 24) n F K (2 ^ n)))) τ) (m : Nat) (hm1 : 1 ≤ m) (hm : m ≤ 2 ^ n) (τ : Mem) (hτ : rchM σ τ) (z : Option Value) (hz : nol [z] = true) : Vw X 14 [some (.ref 52), some (.int (mbF (wy σ) (σ 52 24) n F K m)), some (.int (nI m)), z] [] τ := by
  have h1024 : 2 ^ n ≤ 1024 := Nat.pow_le_pow_right (n := 2) (by decide) hn10
  have r21 : τ 52 21 = nI n := by rw [hτ.2 21 (by decide)]; exact hn
  have r24 : τ 52 24 = σ 52 24 := hτ.2 24 (by decide)
  have ih := fun (h : m < 2 ^ n) τ hτ z hz => l_mbest hX hR hr hn hn10 hO hp (m + 1) (by omega) h τ hτ z hz
  have k40 : m < 2 ^ n → σ 52 24 &&& (nI m ^^^ (-1)) = 0 → ∀ τ, rchM σ τ → Vw X 40 [some (.ref 52), some (.int (mbF (wy σ) (σ 52 24) n F K m)), some (.int (nI m)), z] [.int (mtV (wy σ) (nI m) n (F m) (K m))] τ := by
    intro h21 h32 τ hτ
    have ihk := ih h21 τ hτ
    rw [mbF, if_neg (by omega), if_pos h32] at ihk
    refine V_istore3 (pc := 40) hX dX6_bestOfSites_40 hz ?_
    refine V_iload_n (pc := 41) (i := 3) hX dX6_bestOfSites_41 rfl rfl ?_
    refine V_ldc (pc := 42) hX kX6_126 dX6_bestOfSites_42 ?_
    refine V_icmp_eq (pc := 44) (tgt := 62) hX dX6_bestOfSites_44 (by decide) (fun h44 => ?_) (fun h44 => ?_)
    · refine V_iload_n (pc := 62) (i := 1) hX dX6_bestOfSites_62 rfl rfl ?_
      refine V_istore1 (pc := 63) hX dX6_bestOfSites_63 rfl ?_
      refine V_iinc2 (pc := 64) hX dX6_bestOfSites_64 rfl (iinc1 _) ?_
      refine V_goto (pc := 67) (tgt := 14) hX dX6_bestOfSites_67 (by decide) ?_
      rw [if_neg (fun q => q.1 h44)] at ihk
      exact ihk _ rfl
    · refine V_iload_n (pc := 47) (i := 1) hX dX6_bestOfSites_47 rfl rfl ?_
      refine V_ldc (pc := 48) hX kX6_126 dX6_bestOfSites_48 ?_
      refine V_icmp_eq (pc := 50) (tgt := 58) hX dX6_bestOfSites_50 (by decide) (fun h50 => ?_) (fun h50 => ?_)
      · refine V_iload_n (pc := 58) (i := 3) hX dX6_bestOfSites_58 rfl rfl ?_
        refine V_goto (pc := 59) (tgt := 63) hX dX6_bestOfSites_59 (by decide) ?_
        refine V_istore1 (pc := 63) hX dX6_bestOfSites_63 rfl ?_
        refine V_iinc2 (pc := 64) hX dX6_bestOfSites_64 rfl (iinc1 _) ?_
        refine V_goto (pc := 67) (tgt := 14) hX dX6_bestOfSites_67 (by decide) ?_
        rw [if_pos ⟨h44, Or.inl h50⟩] at ihk
        exact ihk _ rfl
      · refine V_iload_n (pc := 53) (i := 3) hX dX6_bestOfSites_53 rfl rfl ?_
        refine V_iload_n (pc := 54) (i := 1) hX dX6_bestOfSites_54 rfl rfl ?_
        refine V_icmp_ge (pc := 55) (tgt := 62) hX dX6_bestOfSites_55 (by decide) (fun h55 => ?_) (fun h55 => ?_)
        · refine V_iload_n (pc := 62) (i := 1) hX dX6_bestOfSites_62 rfl rfl ?_
          refine V_istore1 (pc := 63) hX dX6_bestOfSites_63 rfl ?_
          refine V_iinc2 (pc := 64) hX dX6_bestOfSites_64 rfl (iinc1 _) ?_
          refine V_goto (pc := 67) (tgt := 14) hX dX6_bestOfSites_67 (by decide) ?_
          rw [if_neg (fun q => q.2.elim h50 (fun q => Int32.not_le.mpr q h55))] at ihk
          exact ihk _ rfl
        · refine V_iload_n (pc := 58) (i := 3) hX dX6_bestOfSites_58 rfl rfl ?_
          refine V_goto (pc := 59) (tgt := 63) hX dX6_bestOfSites_59 (by decide) ?_
          refine V_istore1 (pc := 63) hX dX6_bestOfSites_63 rfl ?_
          refine V_iinc2 (pc := 64) hX dX6_bestOfSites_64 rfl (iinc1 _) ?_
          refine V_goto (pc := 67) (tgt := 14) hX dX6_bestOfSites_67 (by decide) ?_
          rw [if_pos ⟨h44, Or.inr (Int32.not_le.mp h55)⟩] at ihk
          exact ihk _ rfl
  refine V_iload_n (pc := 14) (i := 2) hX dX6_bestOfSites_14 rfl rfl ?_
  refine V_iconst (pc := 15) (v := (nI 1)) hX dX6_bestOfSites_15 (by decide +kernel) ?_
  refine V_aload_n (pc := 16) (i := 0) hX dX6_bestOfSites_16 rfl rfl ?_
  refine V_getf (pc := 17) hX fX6_166 dX6_bestOfSites_17 rfl rfl ?_
  rw [r21]
  refine V_ishl (pc := 20) hX dX6_bestOfSites_20 ?_
  rw [shl1 (by omega)]
  refine V_icmp_geN (pc := 21) (tgt := 70) hX dX6_bestOfSites_21 (by decide) (by omega) (by omega) (fun h21 => ?_) (fun h21 => ?_)
  · obtain rfl : m = 2 ^ n := by omega
    refine V_iload_n (pc := 70) (i := 1) hX dX6_bestOfSites_70 rfl rfl ?_
    exact V_iret (pc := 71) (st := []) hX hr (by first | rfl | exact bI_nar _ | decide +kernel) dX6_bestOfSites_71 (hp τ hτ)
  · refine V_aload_n (pc := 24) (i := 0) hX dX6_bestOfSites_24 rfl rfl ?_
    refine V_getf (pc := 25) hX fX6_172 dX6_bestOfSites_25 rfl rfl ?_
    rw [r24]
    refine V_iload_n (pc := 28) (i := 2) hX dX6_bestOfSites_28 rfl rfl ?_
    refine V_iconst (pc := 29) (v := (-1)) hX dX6_bestOfSites_29 (by decide +kernel) ?_
    refine V_ixor (pc := 30) hX dX6_bestOfSites_30 ?_
    refine V_iand (pc := 31) hX dX6_bestOfSites_31 ?_
    refine V_if_ne (pc := 32) (tgt := 64) hX dX6_bestOfSites_32 (by decide) (fun h32 => ?_) (fun h32 => ?_)
    · refine V_iinc2 (pc := 64) hX dX6_bestOfSites_64 hz (iinc1 _) ?_
      refine V_goto (pc := 67) (tgt := 14) hX dX6_bestOfSites_67 (by decide) ?_
      have ihk := ih h21 τ hτ z hz
      rw [mbF, if_neg (by omega), if_neg h32] at ihk
      exact ihk
    · obtain ⟨o1, o2, o3, o4⟩ := hO m hm1 h21
      have o5 : mtOK (wy τ) (nI m) n (F m) (K m) := by rw [hτ.wy]; exact o4
      refine V_aload_n (pc := 35) (i := 0) hX dX6_bestOfSites_35 rfl rfl ?_
      refine V_iload_n (pc := 36) (i := 2) hX dX6_bestOfSites_36 rfl rfl ?_
      refine V_callV (pc := 37) hX (hR.mono (by omega)) mX6_184 (c_mtree n (F m) (K m) m _ r21 hn10 (by omega) o1 o2 o3 o5) dX6_bestOfSites_37 rfl rfl rfl rfl (Nat.le_of_ble_eq_true rfl) (fun r σ2 h => by obtain ⟨v, rfl, rfl, hg⟩ := h; rw [hτ.wy]; exact k40 h21 h32 σ2 ⟨fun q hq => by rw [hg.1 q hq]; exact hτ.1 q hq, fun j hj => by rw [hg.2 j hj]; exact hτ.2 j hj⟩)
termination_by 2 ^ n - m
def mbestV (σ : Mem) (n : Nat) (F K : Nat → Nat) : Int32 := if σ 52 24 = 0 then nI 0 else mbF (wy σ) (σ 52 24) n F K (2 ^ n)
set_option maxRecDepth 100000 in
set_option maxHeartbeats 4000000 in
theorem c_mbestS (n : Nat) (F K : Nat → Nat) (σ : Mem) (hn : σ 52 21 = nI n) (hn10 : n ≤ 10) (hO : ¬ σ 52 24 = 0 → mbOK (wy σ) (σ 52 24) n F K) : Cc yX6_bestOfSites cX6_bestOfSites 4 (some .int) 2 [.ref 52] σ (rP (fun v τ => v = mbestV σ n F K ∧ rchM σ τ)) := by
  refine Cc.intro (by decide +kernel) [some (.ref 52), none, none, none] (fun _ => rfl) rfl (fun _ => Nat.le_of_ble_eq_true rfl) ?_
  intro X hX hR hr
  refine V_aload_n (pc := 0) (i := 0) hX dX6_bestOfSites_0 rfl rfl ?_
  refine V_getf (pc := 1) hX fX6_172 dX6_bestOfSites_1 rfl rfl ?_
  refine V_if_ne (pc := 4) (tgt := 9) hX dX6_bestOfSites_4 (by decide) (fun h4 => ?_) (fun h4 => ?_)
  · refine V_ldc (pc := 9) hX kX6_126 dX6_bestOfSites_9 ?_
    refine V_istore1 (pc := 11) hX dX6_bestOfSites_11 rfl ?_
    refine V_iconst (pc := 12) (v := (nI 1)) hX dX6_bestOfSites_12 (by decide +kernel) ?_
    refine V_istore2 (pc := 13) hX dX6_bestOfSites_13 rfl ?_
    refine l_mbest (F := F) (K := K) hX hR hr hn hn10 (hO h4) (fun τ hτ => ⟨_, rfl, by rw [mbestV, if_neg h4], hτ⟩) 1 (Nat.le_refl _) (Nat.one_le_two_pow) σ rchM.rf none rfl
  · refine V_iconst (pc := 7) (v := (nI 0)) hX dX6_bestOfSites_7 (by decide +kernel) ?_
    exact V_iret (pc := 8) (st := []) hX hr (by first | rfl | exact bI_nar _ | decide +kernel) dX6_bestOfSites_8 (⟨_, rfl, by rw [mbestV, if_pos h4], rchM.rf⟩)
def cntZ (g : Nat → Int32) : Nat → Nat
  | 0 => 0
  | k + 1 => if g k = 0 then cntZ g k else cntZ g k + 1
theorem cntZ_le (g : Nat → Int32) : ∀ k, cntZ g k ≤ k
  | 0 => Nat.le_refl _
  | k + 1 => by
    have := cntZ_le g k
    unfold cntZ
    split <;> omega
set_option maxRecDepth 100000 in
set_option maxHeartbeats 4000000 in
theorem l_mjoins {w : Int32} {X : XC} {P : Option Value → Mem → Prop} {σ : Mem} (hX : Cok X RX6 cX6_joins 4) (hR : Rok X 3) (hr : Ret X (some .int) P) (kk : Vw X 53 [some (.ref 52), some (.int w), some (.int (nI (cntZ (σ 66) 100))), some (.int (nI 100))] [] σ) (k : Nat) (hk : k ≤ 100) : Vw X 24 [some (.ref 52), some (.int w), some (.int (nI (cntZ (σ 66) k))), some (.int (nI k))] [] σ := by
  refine V_iload_n (pc := 24) (i := 3) hX dX6_joins_24 rfl rfl ?_
  refine V_bipush (pc := 25) (v := (nI 100)) hX dX6_joins_25 (by decide +kernel) ?_
  refine V_icmp_geN (pc := 27) (tgt := 53) hX dX6_joins_27 (by decide) (by omega) (by omega) (fun h27 => ?_) (fun h27 => ?_)
  · obtain rfl : k = 100 := by omega
    exact kk
  · refine V_iload_n (pc := 30) (i := 2) hX dX6_joins_30 rfl rfl ?_
    refine V_aload_n (pc := 31) (i := 0) hX dX6_joins_31 rfl rfl ?_
    refine V_getr (pc := 32) hX fX6_54 dX6_joins_32 rfl rfl ?_
    refine V_iload_n (pc := 35) (i := 3) hX dX6_joins_35 rfl rfl ?_
    refine V_zald (pc := 36) hX dX6_joins_36 (rfl) (rfl) (by omega) (by decide) ?_
    refine V_if_eq (pc := 37) (tgt := 44) hX dX6_joins_37 (by decide) (fun h37 => ?_) (fun h37 => ?_)
    · refine V_iconst (pc := 44) (v := (nI 0)) hX dX6_joins_44 (by decide +kernel) ?_
      refine V_iadd (pc := 45) hX dX6_joins_45 ?_
      refine V_istore2 (pc := 46) hX dX6_joins_46 rfl ?_
      refine V_iinc3 (pc := 47) hX dX6_joins_47 rfl (iinc1 _) ?_
      refine V_goto (pc := 50) (tgt := 24) hX dX6_joins_50 (by decide) ?_
      have ih := l_mjoins hX hR hr kk (k + 1) (by omega)
      rw [cntZ, if_pos h37] at ih
      rw [add0]
      exact ih
    · refine V_iconst (pc := 40) (v := (nI 1)) hX dX6_joins_40 (by decide +kernel) ?_
      refine V_goto (pc := 41) (tgt := 45) hX dX6_joins_41 (by decide) ?_
      refine V_iadd (pc := 45) hX dX6_joins_45 ?_
      refine V_istore2 (pc := 46) hX dX6_joins_46 rfl ?_
      refine V_iinc3 (pc := 47) hX dX6_joins_47 rfl (iinc1 _) ?_
      refine V_goto (pc := 50) (tgt := 24) hX dX6_joins_50 (by decide) ?_
      have ih := l_mjoins hX hR hr kk (k + 1) (by omega)
      rw [cntZ, if_neg h37] at ih
      rw [nI_add]
      exact ih
termination_by 100 - k
def joinsF (paid b jo re wb w : Int32) : Int32 := if w = nI 0 then paid else if w = nI 1 then b else if w = nI 2 then jo else if w = nI 3 then re else if w = nI 4 then wb else (-1000001)
set_option maxRecDepth 100000 in
set_option maxHeartbeats 4000000 in
theorem c_mjoins (n : Nat) (F K : Nat → Nat) (w : Int32) (σ : Mem) (hn : σ 52 21 = nI n) (hn10 : n ≤ 10) (hO : ¬ σ 52 24 = 0 → mbOK (wy σ) (σ 52 24) n F K) : Cc yX6_joins cX6_joins 4 (some .int) 3 [.ref 52, .int w] σ (rP (fun v τ => v = joinsF (σ 52 26) (mbestV σ n F K) (σ 52 24) (σ 52 25) (nI (cntZ (σ 66) 100 / 2)) w ∧ rchM (m0 σ) τ)) := by
  refine Cc.intro (by decide +kernel) [some (.ref 52), some (.int w), none, none] (fun _ => rfl) rfl (fun _ => Nat.le_of_ble_eq_true rfl) ?_
  intro X hX hR hr
  have a21 : m0 σ 52 21 = nI n := by rw [m0_c (by decide)]; exact hn
  have aj : ∀ j, j ≠ 0 → m0 σ 52 j = σ 52 j := fun j hj => m0_c hj
  have aw : wy (m0 σ) = wy σ := by
    funext i j
    show m0 σ 65 _ = σ 65 _
    rw [m0_r (by decide)]
  have a66 : m0 σ 66 = σ 66 := m0_r (by decide)
  have aO : ¬ m0 σ 52 24 = 0 → mbOK (wy (m0 σ)) (m0 σ 52 24) n F K := by rw [aw, aj 24 (by decide)]; exact hO
  have eb : mbestV (m0 σ) n F K = mbestV σ n F K := by unfold mbestV; rw [aw, aj 24 (by decide)]
  have z0 : ∀ {z : Int32}, z = 0 ↔ z = nI 0 := fun {z} => by rw [nI_0]
  have w4 : inr2 w 0 4 = true → ¬ w = nI 0 → ¬ w = nI 1 → ¬ w = nI 2 → ¬ w = nI 3 → w = nI 4 := fun h h0 h1 h2 h3 => by
    obtain ⟨j, -, hj, rfl⟩ := inr2_of h (by decide)
    rcases (show j = 0 ∨ j = 1 ∨ j = 2 ∨ j = 3 ∨ j = 4 by omega) with rfl | rfl | rfl | rfl | rfl
    · exact absurd rfl h0
    · exact absurd rfl h1
    · exact absurd rfl h2
    · exact absurd rfl h3
    · rfl
  have wn : inr2 w 0 4 = false → ∀ j, j ≤ 4 → ¬ w = nI j := fun h j hj q => by
    rw [q, inr2_0, inr_nI (by omega) (by decide)] at h
    exact absurd h (by decide)
  have hc := cntZ_le (σ 66) 100
  have k53 : inr2 w 0 4 = true → Vw X 53 [some (.ref 52), some (.int w), some (.int (nI (cntZ (m0 σ 66) 100))), some (.int (nI 100))] [] (m0 σ) := by
    intro hw
    rw [a66]
    refine V_iload_n (pc := 53) (i := 1) hX dX6_joins_53 rfl rfl ?_
    refine V_if_ne (pc := 54) (tgt := 64) hX dX6_joins_54 (by decide) (fun h54 => ?_) (fun h54 => ?_)
    · refine V_iload_n (pc := 64) (i := 1) hX dX6_joins_64 rfl rfl ?_
      refine V_iconst (pc := 65) (v := (nI 1)) hX dX6_joins_65 (by decide +kernel) ?_
      refine V_icmp_ne (pc := 66) (tgt := 76) hX dX6_joins_66 (by decide) (fun h66 => ?_) (fun h66 => ?_)
      · refine V_iload_n (pc := 76) (i := 1) hX dX6_joins_76 rfl rfl ?_
        refine V_iconst (pc := 77) (v := (nI 2)) hX dX6_joins_77 (by decide +kernel) ?_
        refine V_icmp_ne (pc := 78) (tgt := 88) hX dX6_joins_78 (by decide) (fun h78 => ?_) (fun h78 => ?_)
        · refine V_iload_n (pc := 88) (i := 1) hX dX6_joins_88 rfl rfl ?_
          refine V_iconst (pc := 89) (v := (nI 3)) hX dX6_joins_89 (by decide +kernel) ?_
          refine V_icmp_ne (pc := 90) (tgt := 100) hX dX6_joins_90 (by decide) (fun h90 => ?_) (fun h90 => ?_)
          · refine V_iload_n (pc := 100) (i := 2) hX dX6_joins_100 rfl rfl ?_
            refine V_iconst (pc := 101) (v := (nI 2)) hX dX6_joins_101 (by decide +kernel) ?_
            refine V_idiv (pc := 102) hX dX6_joins_102 (by decide +kernel) ?_
            try rw [pk_div (a := cntZ (σ 66) 100) (by omega) (by decide) (by decide)]
            exact V_iret (pc := 103) (st := []) hX hr (by first | rfl | exact bI_nar _ | decide +kernel) dX6_joins_103 (⟨_, rfl, by rw [joinsF, if_neg (fun q => h54 (z0.mpr q)), if_neg h66, if_neg h78, if_neg h90, if_pos (w4 hw (fun q => h54 (z0.mpr q)) h66 h78 h90)], rchM.rf⟩)
          · refine V_aload_n (pc := 93) (i := 0) hX dX6_joins_93 rfl rfl ?_
            refine V_getf (pc := 94) hX fX6_175 dX6_joins_94 rfl rfl ?_
            refine V_goto (pc := 97) (tgt := 103) hX dX6_joins_97 (by decide) ?_
            try rw [pk_div (a := cntZ (σ 66) 100) (by omega) (by decide) (by decide)]
            exact V_iret (pc := 103) (st := []) hX hr (by first | rfl | exact bI_nar _ | decide +kernel) dX6_joins_103 (⟨_, rfl, by rw [joinsF, if_neg (fun q => h54 (z0.mpr q)), if_neg h66, if_neg h78, if_pos h90, aj 25 (by decide)], rchM.rf⟩)
        · refine V_aload_n (pc := 81) (i := 0) hX dX6_joins_81 rfl rfl ?_
          refine V_getf (pc := 82) hX fX6_172 dX6_joins_82 rfl rfl ?_
          refine V_goto (pc := 85) (tgt := 103) hX dX6_joins_85 (by decide) ?_
          try rw [pk_div (a := cntZ (σ 66) 100) (by omega) (by decide) (by decide)]
          exact V_iret (pc := 103) (st := []) hX hr (by first | rfl | exact bI_nar _ | decide +kernel) dX6_joins_103 (⟨_, rfl, by rw [joinsF, if_neg (fun q => h54 (z0.mpr q)), if_neg h66, if_pos h78, aj 24 (by decide)], rchM.rf⟩)
      · refine V_aload_n (pc := 69) (i := 0) hX dX6_joins_69 rfl rfl ?_
        refine V_callV (pc := 70) hX (hR.mono (by omega)) mX6_187 (c_mbestS n F K _ a21 hn10 aO) dX6_joins_70 rfl rfl rfl rfl (Nat.le_of_ble_eq_true rfl) (fun r σ2 h => by obtain ⟨v, rfl, rfl, hg⟩ := h; rw [eb]; refine V_goto (pc := 73) (tgt := 103) hX dX6_joins_73 (by decide) ?_; exact V_iret (pc := 103) (st := []) hX hr rfl dX6_joins_103 ⟨_, rfl, by rw [joinsF, if_neg (fun q => h54 (z0.mpr q)), if_pos h66], hg⟩)
    · refine V_aload_n (pc := 57) (i := 0) hX dX6_joins_57 rfl rfl ?_
      refine V_getf (pc := 58) hX fX6_178 dX6_joins_58 rfl rfl ?_
      refine V_goto (pc := 61) (tgt := 103) hX dX6_joins_61 (by decide) ?_
      try rw [pk_div (a := cntZ (σ 66) 100) (by omega) (by decide) (by decide)]
      exact V_iret (pc := 103) (st := []) hX hr (by first | rfl | exact bI_nar _ | decide +kernel) dX6_joins_103 (⟨_, rfl, by rw [joinsF, if_pos (z0.mp h54), aj 26 (by decide)], rchM.rf⟩)
  refine V_aload_n (pc := 0) (i := 0) hX dX6_joins_0 rfl rfl ?_
  refine V_iconst (pc := 1) (v := (nI 0)) hX dX6_joins_1 (by decide +kernel) ?_
  refine V_putf (pc := 2) hX fX6_66 gi6_0 dX6_joins_2 rfl rfl ?_
  refine Vw.mem (rfl : m0 σ = _) ?_
  refine V_iload_n (pc := 5) (i := 1) hX dX6_joins_5 rfl rfl ?_
  refine V_i2l (pc := 6) hX dX6_joins_6 ?_
  refine V_lconst (pc := 7) (v := lN 0) hX dX6_joins_7 (by decide +kernel) ?_
  refine V_ldc2 (pc := 8) hX kX6_161 dX6_joins_8 ?_
  refine V_callSi (pc := 11) hX (hR.mono (by omega)) mX6_75 (c_inN w 0 4 (by decide) (by decide) _) dX6_joins_11 rfl rfl rfl (Nat.le_of_ble_eq_true rfl) ?_
  refine V_if_neB (pc := 14) (tgt := 20) hX dX6_joins_14 (by decide) (fun h14 => ?_) (fun h14 => ?_)
  · refine V_iconst (pc := 20) (v := (nI 0)) hX dX6_joins_20 (by decide +kernel) ?_
    refine V_istore2 (pc := 21) hX dX6_joins_21 rfl ?_
    refine V_iconst (pc := 22) (v := (nI 0)) hX dX6_joins_22 (by decide +kernel) ?_
    refine V_istore3 (pc := 23) hX dX6_joins_23 rfl ?_
    exact l_mjoins hX hR hr (k53 h14) 0 (Nat.zero_le _)
  · refine V_ldc (pc := 17) hX kX6_85 dX6_joins_17 ?_
    exact V_iret (pc := 19) (st := []) hX hr (by first | rfl | exact bI_nar _ | decide +kernel) dX6_joins_19 (⟨_, rfl, by rw [joinsF, if_neg (wn h14 0 (by decide)), if_neg (wn h14 1 (by decide)), if_neg (wn h14 2 (by decide)), if_neg (wn h14 3 (by decide)), if_neg (wn h14 4 (by decide))], rchM.rf⟩)

