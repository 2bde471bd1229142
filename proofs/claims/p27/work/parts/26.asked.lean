/-! ===== asked: ask, trace, as of one set, as its kind tells ===== -/
def okA (σ τ : Mem) : Prop := (∀ q, q ≠ 0 → q ≠ 5 → q ≠ 51 → τ q = σ q) ∧ ∃ tr : Nat, tr ≤ 16 ∧ τ 5 1 = nI tr
theorem okA.tr {σ τ ρ : Mem} (h : okA σ τ) (h2 : okA τ ρ) : okA σ ρ := ⟨fun q a b c => (h2.1 q a b c).trans (h.1 q a b c), h2.2⟩
/-- of the set k: its cost, how many things, filled, kind -/
def HS (N k co p : Nat) (F kd : Int32) (σ : Mem) : Prop := σ 2 3 = nI N ∧ N ≤ 10 ∧ k < N ∧ σ 17 k = nI co ∧ bcF (σ 18 k) = nI p ∧ pf (σ 18 k) (σ 19) 12 = F ∧ kindf (σ 2 6) k F (nI co) = kd ∧ ∃ tr : Nat, tr ≤ 16 ∧ σ 5 1 = nI tr
theorem HS.ok {N k co p : Nat} {F kd : Int32} {σ τ : Mem} (h : okA σ τ) (g : HS N k co p F kd σ) : HS N k co p F kd τ := by
  unfold HS
  rw [h.1 2 (by decide) (by decide) (by decide), h.1 17 (by decide) (by decide) (by decide), h.1 18 (by decide) (by decide) (by decide), h.1 19 (by decide) (by decide) (by decide)]
  exact ⟨g.1, g.2.1, g.2.2.1, g.2.2.2.1, g.2.2.2.2.1, g.2.2.2.2.2.1, g.2.2.2.2.2.2.1, h.2⟩
theorem tcM_51 {σ : Mem} {x : (Nat → Int32) × Nat} : tcM σ x 51 = x.1 := by unfold tcM; rw [mu_q (by decide), mf_s]
theorem tcM_5 {σ : Mem} {x : (Nat → Int32) × Nat} : tcM σ x 5 1 = nI x.2 := by unfold tcM; rw [mu_at]
theorem okA.tc {σ : Mem} {x : (Nat → Int32) × Nat} (h : x.2 ≤ 16) : okA σ (tcM σ x) := ⟨fun q _ b c => tcM_r b c, x.2, h, tcM_5⟩
theorem a_ask0 {N k co p : Nat} {F kd : Int32} {σ : Mem} (g : HS N k co p F kd σ) (hw : (wTr kd (σ 51)).2 ≤ 16) : ∃ τ, Cc yX5_ask cX5_ask 3 (some .int) 6 [.ref 0, .int (nI k), .int (nI 0)] σ (rI (wVal kd (nI co) F (nI p)) τ) ∧ okA σ τ ∧ τ 51 = (wTr kd (σ 51)).1 ∧ τ 5 1 = nI (wTr kd (σ 51)).2 := by
  obtain ⟨h1, h2, h3, h4, h5, h6, h7, tr, h8, h9⟩ := g
  have c := c_ask N tr (nI k) (nI 0) σ h1 h2 h9
  have ei : inr (nI k) N = true := inr_nI h3 (by omega)
  have et : tn (nI k) = k := tn_nI (by omega)
  have e1 : askF N (σ 17) (σ 18) (σ 19) (σ 2 6) (fun s => bcF (σ 18 s)) (nI k) (nI 0) = wVal kd (nI co) F (nI p) := by
    rw [askF, ei, if_pos rfl, if_pos rfl, et, h6, h4, h7, h5]
  have e2 : askT N (σ 17) (σ 18) (σ 19) (σ 2 6) (σ 51, tr) (nI k) (nI 0) = wTr kd (σ 51) := by
    rw [askT, ei, if_pos rfl, if_pos rfl, et, h6, h4, h7]
  rw [e1, e2] at c
  exact ⟨_, c, okA.tc hw, tcM_51, tcM_5⟩
theorem a_ask1 {N k co p : Nat} {F kd : Int32} {σ : Mem} (g : HS N k co p F kd σ) (hw : (mTr kd (σ 51)).2 ≤ 16) : ∃ τ, Cc yX5_ask cX5_ask 3 (some .int) 6 [.ref 0, .int (nI k), .int (nI 1)] σ (rI (mVal kd (nI co) (nI p)) τ) ∧ okA σ τ ∧ τ 51 = (mTr kd (σ 51)).1 ∧ τ 5 1 = nI (mTr kd (σ 51)).2 := by
  obtain ⟨h1, h2, h3, h4, h5, h6, h7, tr, h8, h9⟩ := g
  have c := c_ask N tr (nI k) (nI 1) σ h1 h2 h9
  have ei : inr (nI k) N = true := inr_nI h3 (by omega)
  have et : tn (nI k) = k := tn_nI (by omega)
  have n10 : ¬ nI 1 = nI 0 := by decide +kernel
  have e1 : askF N (σ 17) (σ 18) (σ 19) (σ 2 6) (fun s => bcF (σ 18 s)) (nI k) (nI 1) = mVal kd (nI co) (nI p) := by
    rw [askF, ei, if_pos rfl, if_neg n10, if_pos rfl, et, h6, h4, h7, h5]
  have e2 : askT N (σ 17) (σ 18) (σ 19) (σ 2 6) (σ 51, tr) (nI k) (nI 1) = mTr kd (σ 51) := by
    rw [askT, ei, if_pos rfl, if_neg n10, if_pos rfl, et, h6, h4, h7]
  rw [e1, e2] at c
  exact ⟨_, c, okA.tc hw, tcM_51, tcM_5⟩
theorem a_trace {σ : Mem} {v : Int32} {tr : Nat} (h : σ 51 0 = v) (ht : σ 5 1 = nI tr) (h1 : 1 ≤ tr) (h2 : tr ≤ 16) : Cc yX5_trace cX5_trace 2 (some .int) 1 [.ref 0, .int (nI 0)] σ (rI v σ) := by
  have c := c_trace tr (nI 0) σ ht h2
  have e : traceF (σ 51, tr) (nI 0) = v := by rw [traceF, if_pos (inr_nI (show 0 < tr by omega) (by omega)), tn_nI (by decide)]; exact h
  rw [e] at c
  exact c
theorem a_as {N k co p x : Nat} {F kd v : Int32} {σ : Mem} (g : HS N k co p F kd σ) (hx : x < 4) (hv : (if kisf (nI x) kd then nI co else (-1000013)) = v) : ∃ τ, Cc yX5_as cX5_as 3 (some .int) 5 [.ref 0, .int (nI k), .int (nI x)] σ (rI v τ) ∧ okA σ τ := by
  obtain ⟨h1, h2, h3, h4, h5, h6, h7, tr, h8, h9⟩ := g
  have c := c_as N (nI k) (nI x) σ h1 h2
  have ei : inr (nI k) N = true := inr_nI h3 (by omega)
  have ex : inr (nI x) 4 = true := inr_nI hx (by omega)
  have et : tn (nI k) = k := tn_nI (by omega)
  have e1 : asF N (σ 17) (σ 18) (σ 19) (σ 2 6) (nI k) (nI x) = v := by
    rw [asF, ei, ex, Bool.and_self, if_pos rfl, et, h6, h4, h7]
    exact hv
  rw [e1] at c
  exact ⟨_, c, fun q a b c => mu_q a, tr, h8, by rw [mu_q (by decide)]; exact h9⟩
theorem wTr1 (g : Nat → Int32) : (wTr (nI 1) g).1 0 = nI 11 ∧ (wTr (nI 1) g).2 = 2 := by
  rw [wTr, if_neg (by decide +kernel), if_neg (by decide +kernel)]
  exact ⟨rfl, rfl⟩
theorem wTr2 (g : Nat → Int32) : (wTr (nI 2) g).1 0 = nI 12 ∧ (wTr (nI 2) g).2 = 5 := by
  rw [wTr, if_pos rfl]
  exact ⟨rfl, rfl⟩
theorem wTr3 (g : Nat → Int32) : (wTr (nI 3) g).1 0 = nI 13 ∧ (wTr (nI 3) g).2 = 2 := by
  rw [wTr, if_neg (by decide +kernel), if_pos rfl]
  exact ⟨rfl, rfl⟩
theorem mTr1 (g : Nat → Int32) : (mTr (nI 1) g).1 0 = nI 20 ∧ (mTr (nI 1) g).2 = 1 := by
  rw [mTr, if_neg (by decide +kernel), if_neg (by decide +kernel)]
  exact ⟨rfl, rfl⟩
theorem mTr2 (g : Nat → Int32) : (mTr (nI 2) g).1 0 = nI 21 ∧ (mTr (nI 2) g).2 = 2 := by
  rw [mTr, if_pos rfl]
  exact ⟨rfl, rfl⟩
theorem mTr3 (g : Nat → Int32) : (mTr (nI 3) g).1 0 = nI 22 ∧ (mTr (nI 3) g).2 = 4 := by
  rw [mTr, if_neg (by decide +kernel), if_pos rfl]
  exact ⟨rfl, rfl⟩
set_option maxRecDepth 100000 in
set_option maxHeartbeats 4000000 in
theorem l_many {L : Nat} {xs : Nat → Int32} {X : XC} {σ : Mem} (hX : Cok X RL cL_asked 8) (hR : Rok X 7) (hs : Scr X L xs) (hL : L < 2 ^ 31) (k : Nat) (hk : k < 100) (kd F : Int32) (kk : Vw X 34 [some (.ref 0), some (.ref 52), some (.int (nI k)), some (.int (kd)), some (.int (F)), some (.int (nI (popn (thF L xs k) 12))), some (.int (nI 12)), none] [] σ) (i : Nat) (hi : i ≤ 12) : Vw X 6 [some (.ref 0), some (.ref 52), some (.int (nI k)), some (.int (kd)), some (.int (F)), some (.int (nI (popn (thF L xs k) i))), some (.int (nI i)), none] [] σ := by
  refine V_iload (pc := 6) (i := 6) hX dL_asked_6 rfl ?_
  refine V_bipush (pc := 8) (v := (nI 12)) hX dL_asked_8 (by decide +kernel) ?_
  refine V_icmp_geN (pc := 10) (tgt := 34) hX dL_asked_10 (by decide) (by omega) (by omega) (fun h10 => ?_) (fun h10 => ?_)
  · obtain rfl : i = 12 := by omega
    exact kk
  · refine V_iload (pc := 13) (i := 5) hX dL_asked_13 rfl ?_
    refine V_aload_n (pc := 15) (i := 1) hX dL_asked_15 rfl rfl ?_
    refine V_iload_n (pc := 16) (i := 2) hX dL_asked_16 rfl rfl ?_
    refine V_callSsi (pc := 17) hX (hR.mono (by omega)) mL_19 hs (c_things hL _ hk _) dL_asked_17 rfl rfl rfl (Nat.le_of_ble_eq_true rfl) ?_
    refine V_iload (pc := 20) (i := 6) hX dL_asked_20 rfl ?_
    refine V_ishr (pc := 22) hX dL_asked_22 ?_
    refine V_iconst (pc := 23) (v := (nI 1)) hX dL_asked_23 (by decide +kernel) ?_
    refine V_iand (pc := 24) hX dL_asked_24 ?_
    refine V_iadd (pc := 25) hX dL_asked_25 ?_
    refine V_istore5 (pc := 26) hX dL_asked_26 rfl ?_
    refine V_iinc6 (pc := 28) hX dL_asked_28 rfl (iinc1 _) ?_
    refine V_goto (pc := 31) (tgt := 6) hX dL_asked_31 (by decide) ?_
    rw [sbit (by omega), popn_s]
    exact l_many hX hR hs hL k hk kd F kk (i + 1) (by omega)
termination_by 12 - i
set_option maxRecDepth 100000 in
set_option maxHeartbeats 4000000 in
theorem l_ask1 {L : Nat} {xs : Nat → Int32} {X : XC} {P : Option Value → Mem → Prop} {σ : Mem} (hX : Cok X RL cL_asked 8) (hR : Rok X 7) (hr : Ret X (some .boolean) P) (hs : Scr X L xs) (hL : L < 2 ^ 31) {N k co p : Nat} {F : Int32} (g : HS N k co p F (nI 1) σ) (hco : coN L xs k = co) (hp : ∀ τ, okA σ τ → P (some (.int (nI 1))) τ) : Vw X 34 [some (.ref 0), some (.ref 52), some (.int (nI k)), some (.int (nI 1)), some (.int (F)), some (.int (nI p)), some (.int (nI 12)), none] [] σ := by
  have hk : k < 100 := by have := g.2.1; have := g.2.2.1; omega
  obtain ⟨τ1, c1, o1, a1, b1⟩ := a_ask0 g (by rw [(wTr1 _).2]; decide)
  have t1 : Cc yX5_trace cX5_trace 2 (some .int) 1 [.ref 0, .int (nI 0)] τ1 (rI (nI 11) τ1) := a_trace (by rw [a1, (wTr1 _).1]) b1 (by rw [(wTr1 _).2]; decide) (by rw [(wTr1 _).2]; decide)
  have g1 := g.ok o1
  obtain ⟨τ2, c2, o2, a2, b2⟩ := a_ask1 g1 (by rw [(mTr1 _).2]; decide)
  have t2 : Cc yX5_trace cX5_trace 2 (some .int) 1 [.ref 0, .int (nI 0)] τ2 (rI (nI 20) τ2) := a_trace (by rw [a2, (mTr1 _).1]) b2 (by rw [(mTr1 _).2]; decide) (by rw [(mTr1 _).2]; decide)
  have g2 := g1.ok o2
  obtain ⟨τ3, c3, o3⟩ := a_as (x := 1) (v := nI co) g2 (by decide) (by rw [if_pos (by decide +kernel)])
  have g3 := g2.ok o3
  obtain ⟨τ4, c4, o4⟩ := a_as (x := 1) (v := nI co) g3 (by decide) (by rw [if_pos (by decide +kernel)])
  have ew : wVal (nI 1) (nI co) F (nI p) = (nI co - F) + nI 0 := by rw [wVal, if_neg (by decide +kernel), if_neg (by decide +kernel), add0]
  have em : mVal (nI 1) (nI co) (nI p) = nI p + nI 0 := by rw [mVal, if_neg (by decide +kernel), if_neg (by decide +kernel), add0]
  rw [ew] at c1
  rw [em] at c2
  refine V_iload (pc := 34) (i := 5) hX dL_asked_34 rfl ?_
  refine V_iload_n (pc := 36) (i := 3) hX dL_asked_36 rfl rfl ?_
  refine V_iconst (pc := 37) (v := (nI 2)) hX dL_asked_37 (by decide +kernel) ?_
  refine V_icmp_ne (pc := 38) (tgt := 46) hX dL_asked_38 (by decide) (fun h38 => ?_) (fun h38 => absurd h38 ((by decide +kernel : ¬ nI 1 = nI 2)))
  refine V_iload_n (pc := 46) (i := 3) hX dL_asked_46 rfl rfl ?_
  refine V_iconst (pc := 47) (v := (nI 3)) hX dL_asked_47 (by decide +kernel) ?_
  refine V_icmp_ne (pc := 48) (tgt := 61) hX dL_asked_48 (by decide) (fun h48 => ?_) (fun h48 => absurd h48 ((by decide +kernel : ¬ nI 1 = nI 3)))
  refine V_iconst (pc := 61) (v := (nI 0)) hX dL_asked_61 (by decide +kernel) ?_
  refine V_iadd (pc := 62) hX dL_asked_62 ?_
  refine V_istore6 (pc := 63) hX dL_asked_63 rfl ?_
  refine V_iload_n (pc := 65) (i := 3) hX dL_asked_65 rfl rfl ?_
  refine V_iconst (pc := 66) (v := (nI 3)) hX dL_asked_66 (by decide +kernel) ?_
  refine V_icmp_ne (pc := 67) (tgt := 80) hX dL_asked_67 (by decide) (fun h67 => ?_) (fun h67 => absurd h67 ((by decide +kernel : ¬ nI 1 = nI 3)))
  refine V_aload_n (pc := 80) (i := 1) hX dL_asked_80 rfl rfl ?_
  refine V_iload_n (pc := 81) (i := 2) hX dL_asked_81 rfl rfl ?_
  refine V_callSsi (pc := 82) hX (hR.mono (by omega)) mL_33 hs (c_cost hL _ hk _) dL_asked_82 rfl rfl rfl (Nat.le_of_ble_eq_true rfl) ?_
  rw [hco]
  refine V_iload (pc := 85) (i := 4) hX dL_asked_85 rfl ?_
  refine V_isub (pc := 87) hX dL_asked_87 ?_
  refine V_iload_n (pc := 88) (i := 3) hX dL_asked_88 rfl rfl ?_
  refine V_iconst (pc := 89) (v := (nI 2)) hX dL_asked_89 (by decide +kernel) ?_
  refine V_icmp_ne (pc := 90) (tgt := 98) hX dL_asked_90 (by decide) (fun h90 => ?_) (fun h90 => absurd h90 ((by decide +kernel : ¬ nI 1 = nI 2)))
  refine V_iconst (pc := 98) (v := (nI 0)) hX dL_asked_98 (by decide +kernel) ?_
  refine V_iadd (pc := 99) hX dL_asked_99 ?_
  refine V_istore7 (pc := 100) hX dL_asked_100 rfl ?_
  refine V_aload_n (pc := 102) (i := 0) hX dL_asked_102 rfl rfl ?_
  refine V_iload_n (pc := 103) (i := 2) hX dL_asked_103 rfl rfl ?_
  refine V_iconst (pc := 104) (v := (nI 0)) hX dL_asked_104 (by decide +kernel) ?_
  refine V_callVi (pc := 105) hX (hR.mono (by omega)) mL_61 (c1) dL_asked_105 rfl rfl rfl rfl (Nat.le_of_ble_eq_true rfl) ?_
  refine V_iload (pc := 108) (i := 7) hX dL_asked_108 rfl ?_
  refine V_icmp_ne (pc := 110) (tgt := 226) hX dL_asked_110 (by decide) (fun h110 => absurd h110 (fun q => q rfl)) (fun h110 => ?_)
  refine V_aload_n (pc := 113) (i := 0) hX dL_asked_113 rfl rfl ?_
  refine V_iconst (pc := 114) (v := (nI 0)) hX dL_asked_114 (by decide +kernel) ?_
  refine V_callVi (pc := 115) hX (hR.mono (by omega)) mL_64 (t1) dL_asked_115 rfl rfl rfl rfl (Nat.le_of_ble_eq_true rfl) ?_
  refine V_iload_n (pc := 118) (i := 3) hX dL_asked_118 rfl rfl ?_
  refine V_iconst (pc := 119) (v := (nI 3)) hX dL_asked_119 (by decide +kernel) ?_
  refine V_icmp_ne (pc := 120) (tgt := 128) hX dL_asked_120 (by decide) (fun h120 => ?_) (fun h120 => absurd h120 ((by decide +kernel : ¬ nI 1 = nI 3)))
  refine V_iload_n (pc := 128) (i := 3) hX dL_asked_128 rfl rfl ?_
  refine V_iconst (pc := 129) (v := (nI 2)) hX dL_asked_129 (by decide +kernel) ?_
  refine V_icmp_ne (pc := 130) (tgt := 138) hX dL_asked_130 (by decide) (fun h130 => ?_) (fun h130 => absurd h130 ((by decide +kernel : ¬ nI 1 = nI 2)))
  refine V_bipush (pc := 138) (v := (nI 11)) hX dL_asked_138 (by decide +kernel) ?_
  refine V_icmp_ne (pc := 140) (tgt := 226) hX dL_asked_140 (by decide) (fun h140 => absurd h140 (fun q => q rfl)) (fun h140 => ?_)
  refine V_aload_n (pc := 143) (i := 0) hX dL_asked_143 rfl rfl ?_
  refine V_iload_n (pc := 144) (i := 2) hX dL_asked_144 rfl rfl ?_
  refine V_iconst (pc := 145) (v := (nI 1)) hX dL_asked_145 (by decide +kernel) ?_
  refine V_callVi (pc := 146) hX (hR.mono (by omega)) mL_61 (c2) dL_asked_146 rfl rfl rfl rfl (Nat.le_of_ble_eq_true rfl) ?_
  refine V_iload (pc := 149) (i := 6) hX dL_asked_149 rfl ?_
  refine V_icmp_ne (pc := 151) (tgt := 226) hX dL_asked_151 (by decide) (fun h151 => absurd h151 (fun q => q rfl)) (fun h151 => ?_)
  refine V_aload_n (pc := 154) (i := 0) hX dL_asked_154 rfl rfl ?_
  refine V_iconst (pc := 155) (v := (nI 0)) hX dL_asked_155 (by decide +kernel) ?_
  refine V_callVi (pc := 156) hX (hR.mono (by omega)) mL_64 (t2) dL_asked_156 rfl rfl rfl rfl (Nat.le_of_ble_eq_true rfl) ?_
  refine V_iload_n (pc := 159) (i := 3) hX dL_asked_159 rfl rfl ?_
  refine V_iconst (pc := 160) (v := (nI 3)) hX dL_asked_160 (by decide +kernel) ?_
  refine V_icmp_ne (pc := 161) (tgt := 169) hX dL_asked_161 (by decide) (fun h161 => ?_) (fun h161 => absurd h161 ((by decide +kernel : ¬ nI 1 = nI 3)))
  refine V_iload_n (pc := 169) (i := 3) hX dL_asked_169 rfl rfl ?_
  refine V_iconst (pc := 170) (v := (nI 2)) hX dL_asked_170 (by decide +kernel) ?_
  refine V_icmp_ne (pc := 171) (tgt := 179) hX dL_asked_171 (by decide) (fun h171 => ?_) (fun h171 => absurd h171 ((by decide +kernel : ¬ nI 1 = nI 2)))
  refine V_bipush (pc := 179) (v := (nI 20)) hX dL_asked_179 (by decide +kernel) ?_
  refine V_icmp_ne (pc := 181) (tgt := 226) hX dL_asked_181 (by decide) (fun h181 => absurd h181 (fun q => q rfl)) (fun h181 => ?_)
  refine V_aload_n (pc := 184) (i := 0) hX dL_asked_184 rfl rfl ?_
  refine V_iload_n (pc := 185) (i := 2) hX dL_asked_185 rfl rfl ?_
  refine V_iload_n (pc := 186) (i := 3) hX dL_asked_186 rfl rfl ?_
  refine V_callVi (pc := 187) hX (hR.mono (by omega)) mL_67 (c3) dL_asked_187 rfl rfl rfl rfl (Nat.le_of_ble_eq_true rfl) ?_
  refine V_aload_n (pc := 190) (i := 1) hX dL_asked_190 rfl rfl ?_
  refine V_iload_n (pc := 191) (i := 2) hX dL_asked_191 rfl rfl ?_
  refine V_callSsi (pc := 192) hX (hR.mono (by omega)) mL_33 hs (c_cost hL _ hk _) dL_asked_192 rfl rfl rfl (Nat.le_of_ble_eq_true rfl) ?_
  rw [hco]
  refine V_icmp_ne (pc := 195) (tgt := 226) hX dL_asked_195 (by decide) (fun h195 => absurd h195 (fun q => q rfl)) (fun h195 => ?_)
  refine V_aload_n (pc := 198) (i := 0) hX dL_asked_198 rfl rfl ?_
  refine V_iload_n (pc := 199) (i := 2) hX dL_asked_199 rfl rfl ?_
  refine V_iconst (pc := 200) (v := (nI 1)) hX dL_asked_200 (by decide +kernel) ?_
  refine V_callVi (pc := 201) hX (hR.mono (by omega)) mL_67 (c4) dL_asked_201 rfl rfl rfl rfl (Nat.le_of_ble_eq_true rfl) ?_
  refine V_iload_n (pc := 204) (i := 3) hX dL_asked_204 rfl rfl ?_
  refine V_iconst (pc := 205) (v := (nI 3)) hX dL_asked_205 (by decide +kernel) ?_
  refine V_icmp_ne (pc := 206) (tgt := 214) hX dL_asked_206 (by decide) (fun h206 => ?_) (fun h206 => absurd h206 ((by decide +kernel : ¬ nI 1 = nI 3)))
  refine V_aload_n (pc := 214) (i := 1) hX dL_asked_214 rfl rfl ?_
  refine V_iload_n (pc := 215) (i := 2) hX dL_asked_215 rfl rfl ?_
  refine V_callSsi (pc := 216) hX (hR.mono (by omega)) mL_33 hs (c_cost hL _ hk _) dL_asked_216 rfl rfl rfl (Nat.le_of_ble_eq_true rfl) ?_
  rw [hco]
  refine V_icmp_ne (pc := 219) (tgt := 226) hX dL_asked_219 (by decide) (fun h219 => absurd h219 (fun q => q rfl)) (fun h219 => ?_)
  refine V_iconst (pc := 222) (v := (nI 1)) hX dL_asked_222 (by decide +kernel) ?_
  refine V_goto (pc := 223) (tgt := 227) hX dL_asked_223 (by decide) ?_
  exact V_iret (pc := 227) (st := []) hX hr (by first | rfl | exact bI_nar _ | decide +kernel) dL_asked_227 (hp _ ((((o1.tr o2).tr o3).tr o4)))
set_option maxRecDepth 100000 in
set_option maxHeartbeats 4000000 in
theorem l_ask2 {L : Nat} {xs : Nat → Int32} {X : XC} {P : Option Value → Mem → Prop} {σ : Mem} (hX : Cok X RL cL_asked 8) (hR : Rok X 7) (hr : Ret X (some .boolean) P) (hs : Scr X L xs) (hL : L < 2 ^ 31) {N k co p : Nat} {F : Int32} (g : HS N k co p F (nI 2) σ) (hco : coN L xs k = co) (hp : ∀ τ, okA σ τ → P (some (.int (nI 1))) τ) : Vw X 34 [some (.ref 0), some (.ref 52), some (.int (nI k)), some (.int (nI 2)), some (.int (F)), some (.int (nI p)), some (.int (nI 12)), none] [] σ := by
  have hk : k < 100 := by have := g.2.1; have := g.2.2.1; omega
  obtain ⟨τ1, c1, o1, a1, b1⟩ := a_ask0 g (by rw [(wTr2 _).2]; decide)
  have t1 : Cc yX5_trace cX5_trace 2 (some .int) 1 [.ref 0, .int (nI 0)] τ1 (rI (nI 12) τ1) := a_trace (by rw [a1, (wTr2 _).1]) b1 (by rw [(wTr2 _).2]; decide) (by rw [(wTr2 _).2]; decide)
  have g1 := g.ok o1
  obtain ⟨τ2, c2, o2, a2, b2⟩ := a_ask1 g1 (by rw [(mTr2 _).2]; decide)
  have t2 : Cc yX5_trace cX5_trace 2 (some .int) 1 [.ref 0, .int (nI 0)] τ2 (rI (nI 21) τ2) := a_trace (by rw [a2, (mTr2 _).1]) b2 (by rw [(mTr2 _).2]; decide) (by rw [(mTr2 _).2]; decide)
  have g2 := g1.ok o2
  obtain ⟨τ3, c3, o3⟩ := a_as (x := 2) (v := nI co) g2 (by decide) (by rw [if_pos (by decide +kernel)])
  have g3 := g2.ok o3
  obtain ⟨τ4, c4, o4⟩ := a_as (x := 1) (v := nI co) g3 (by decide) (by rw [if_pos (by decide +kernel)])
  have ew : wVal (nI 2) (nI co) F (nI p) = (nI co - F) + (nI p + nI 100) := by rw [wVal, if_pos rfl]
  have em : mVal (nI 2) (nI co) (nI p) = nI p + nI 100 := by rw [mVal, if_pos rfl]
  rw [ew] at c1
  rw [em] at c2
  refine V_iload (pc := 34) (i := 5) hX dL_asked_34 rfl ?_
  refine V_iload_n (pc := 36) (i := 3) hX dL_asked_36 rfl rfl ?_
  refine V_iconst (pc := 37) (v := (nI 2)) hX dL_asked_37 (by decide +kernel) ?_
  refine V_icmp_ne (pc := 38) (tgt := 46) hX dL_asked_38 (by decide) (fun h38 => absurd h38 (fun q => q rfl)) (fun h38 => ?_)
  refine V_bipush (pc := 41) (v := (nI 100)) hX dL_asked_41 (by decide +kernel) ?_
  refine V_goto (pc := 43) (tgt := 62) hX dL_asked_43 (by decide) ?_
  refine V_iadd (pc := 62) hX dL_asked_62 ?_
  refine V_istore6 (pc := 63) hX dL_asked_63 rfl ?_
  refine V_iload_n (pc := 65) (i := 3) hX dL_asked_65 rfl rfl ?_
  refine V_iconst (pc := 66) (v := (nI 3)) hX dL_asked_66 (by decide +kernel) ?_
  refine V_icmp_ne (pc := 67) (tgt := 80) hX dL_asked_67 (by decide) (fun h67 => ?_) (fun h67 => absurd h67 ((by decide +kernel : ¬ nI 2 = nI 3)))
  refine V_aload_n (pc := 80) (i := 1) hX dL_asked_80 rfl rfl ?_
  refine V_iload_n (pc := 81) (i := 2) hX dL_asked_81 rfl rfl ?_
  refine V_callSsi (pc := 82) hX (hR.mono (by omega)) mL_33 hs (c_cost hL _ hk _) dL_asked_82 rfl rfl rfl (Nat.le_of_ble_eq_true rfl) ?_
  rw [hco]
  refine V_iload (pc := 85) (i := 4) hX dL_asked_85 rfl ?_
  refine V_isub (pc := 87) hX dL_asked_87 ?_
  refine V_iload_n (pc := 88) (i := 3) hX dL_asked_88 rfl rfl ?_
  refine V_iconst (pc := 89) (v := (nI 2)) hX dL_asked_89 (by decide +kernel) ?_
  refine V_icmp_ne (pc := 90) (tgt := 98) hX dL_asked_90 (by decide) (fun h90 => absurd h90 (fun q => q rfl)) (fun h90 => ?_)
  refine V_iload (pc := 93) (i := 6) hX dL_asked_93 rfl ?_
  refine V_goto (pc := 95) (tgt := 99) hX dL_asked_95 (by decide) ?_
  refine V_iadd (pc := 99) hX dL_asked_99 ?_
  refine V_istore7 (pc := 100) hX dL_asked_100 rfl ?_
  refine V_aload_n (pc := 102) (i := 0) hX dL_asked_102 rfl rfl ?_
  refine V_iload_n (pc := 103) (i := 2) hX dL_asked_103 rfl rfl ?_
  refine V_iconst (pc := 104) (v := (nI 0)) hX dL_asked_104 (by decide +kernel) ?_
  refine V_callVi (pc := 105) hX (hR.mono (by omega)) mL_61 (c1) dL_asked_105 rfl rfl rfl rfl (Nat.le_of_ble_eq_true rfl) ?_
  refine V_iload (pc := 108) (i := 7) hX dL_asked_108 rfl ?_
  refine V_icmp_ne (pc := 110) (tgt := 226) hX dL_asked_110 (by decide) (fun h110 => absurd h110 (fun q => q rfl)) (fun h110 => ?_)
  refine V_aload_n (pc := 113) (i := 0) hX dL_asked_113 rfl rfl ?_
  refine V_iconst (pc := 114) (v := (nI 0)) hX dL_asked_114 (by decide +kernel) ?_
  refine V_callVi (pc := 115) hX (hR.mono (by omega)) mL_64 (t1) dL_asked_115 rfl rfl rfl rfl (Nat.le_of_ble_eq_true rfl) ?_
  refine V_iload_n (pc := 118) (i := 3) hX dL_asked_118 rfl rfl ?_
  refine V_iconst (pc := 119) (v := (nI 3)) hX dL_asked_119 (by decide +kernel) ?_
  refine V_icmp_ne (pc := 120) (tgt := 128) hX dL_asked_120 (by decide) (fun h120 => ?_) (fun h120 => absurd h120 ((by decide +kernel : ¬ nI 2 = nI 3)))
  refine V_iload_n (pc := 128) (i := 3) hX dL_asked_128 rfl rfl ?_
  refine V_iconst (pc := 129) (v := (nI 2)) hX dL_asked_129 (by decide +kernel) ?_
  refine V_icmp_ne (pc := 130) (tgt := 138) hX dL_asked_130 (by decide) (fun h130 => absurd h130 (fun q => q rfl)) (fun h130 => ?_)
  refine V_bipush (pc := 133) (v := (nI 12)) hX dL_asked_133 (by decide +kernel) ?_
  refine V_goto (pc := 135) (tgt := 140) hX dL_asked_135 (by decide) ?_
  refine V_icmp_ne (pc := 140) (tgt := 226) hX dL_asked_140 (by decide) (fun h140 => absurd h140 (fun q => q rfl)) (fun h140 => ?_)
  refine V_aload_n (pc := 143) (i := 0) hX dL_asked_143 rfl rfl ?_
  refine V_iload_n (pc := 144) (i := 2) hX dL_asked_144 rfl rfl ?_
  refine V_iconst (pc := 145) (v := (nI 1)) hX dL_asked_145 (by decide +kernel) ?_
  refine V_callVi (pc := 146) hX (hR.mono (by omega)) mL_61 (c2) dL_asked_146 rfl rfl rfl rfl (Nat.le_of_ble_eq_true rfl) ?_
  refine V_iload (pc := 149) (i := 6) hX dL_asked_149 rfl ?_
  refine V_icmp_ne (pc := 151) (tgt := 226) hX dL_asked_151 (by decide) (fun h151 => absurd h151 (fun q => q rfl)) (fun h151 => ?_)
  refine V_aload_n (pc := 154) (i := 0) hX dL_asked_154 rfl rfl ?_
  refine V_iconst (pc := 155) (v := (nI 0)) hX dL_asked_155 (by decide +kernel) ?_
  refine V_callVi (pc := 156) hX (hR.mono (by omega)) mL_64 (t2) dL_asked_156 rfl rfl rfl rfl (Nat.le_of_ble_eq_true rfl) ?_
  refine V_iload_n (pc := 159) (i := 3) hX dL_asked_159 rfl rfl ?_
  refine V_iconst (pc := 160) (v := (nI 3)) hX dL_asked_160 (by decide +kernel) ?_
  refine V_icmp_ne (pc := 161) (tgt := 169) hX dL_asked_161 (by decide) (fun h161 => ?_) (fun h161 => absurd h161 ((by decide +kernel : ¬ nI 2 = nI 3)))
  refine V_iload_n (pc := 169) (i := 3) hX dL_asked_169 rfl rfl ?_
  refine V_iconst (pc := 170) (v := (nI 2)) hX dL_asked_170 (by decide +kernel) ?_
  refine V_icmp_ne (pc := 171) (tgt := 179) hX dL_asked_171 (by decide) (fun h171 => absurd h171 (fun q => q rfl)) (fun h171 => ?_)
  refine V_bipush (pc := 174) (v := (nI 21)) hX dL_asked_174 (by decide +kernel) ?_
  refine V_goto (pc := 176) (tgt := 181) hX dL_asked_176 (by decide) ?_
  refine V_icmp_ne (pc := 181) (tgt := 226) hX dL_asked_181 (by decide) (fun h181 => absurd h181 (fun q => q rfl)) (fun h181 => ?_)
  refine V_aload_n (pc := 184) (i := 0) hX dL_asked_184 rfl rfl ?_
  refine V_iload_n (pc := 185) (i := 2) hX dL_asked_185 rfl rfl ?_
  refine V_iload_n (pc := 186) (i := 3) hX dL_asked_186 rfl rfl ?_
  refine V_callVi (pc := 187) hX (hR.mono (by omega)) mL_67 (c3) dL_asked_187 rfl rfl rfl rfl (Nat.le_of_ble_eq_true rfl) ?_
  refine V_aload_n (pc := 190) (i := 1) hX dL_asked_190 rfl rfl ?_
  refine V_iload_n (pc := 191) (i := 2) hX dL_asked_191 rfl rfl ?_
  refine V_callSsi (pc := 192) hX (hR.mono (by omega)) mL_33 hs (c_cost hL _ hk _) dL_asked_192 rfl rfl rfl (Nat.le_of_ble_eq_true rfl) ?_
  rw [hco]
  refine V_icmp_ne (pc := 195) (tgt := 226) hX dL_asked_195 (by decide) (fun h195 => absurd h195 (fun q => q rfl)) (fun h195 => ?_)
  refine V_aload_n (pc := 198) (i := 0) hX dL_asked_198 rfl rfl ?_
  refine V_iload_n (pc := 199) (i := 2) hX dL_asked_199 rfl rfl ?_
  refine V_iconst (pc := 200) (v := (nI 1)) hX dL_asked_200 (by decide +kernel) ?_
  refine V_callVi (pc := 201) hX (hR.mono (by omega)) mL_67 (c4) dL_asked_201 rfl rfl rfl rfl (Nat.le_of_ble_eq_true rfl) ?_
  refine V_iload_n (pc := 204) (i := 3) hX dL_asked_204 rfl rfl ?_
  refine V_iconst (pc := 205) (v := (nI 3)) hX dL_asked_205 (by decide +kernel) ?_
  refine V_icmp_ne (pc := 206) (tgt := 214) hX dL_asked_206 (by decide) (fun h206 => ?_) (fun h206 => absurd h206 ((by decide +kernel : ¬ nI 2 = nI 3)))
  refine V_aload_n (pc := 214) (i := 1) hX dL_asked_214 rfl rfl ?_
  refine V_iload_n (pc := 215) (i := 2) hX dL_asked_215 rfl rfl ?_
  refine V_callSsi (pc := 216) hX (hR.mono (by omega)) mL_33 hs (c_cost hL _ hk _) dL_asked_216 rfl rfl rfl (Nat.le_of_ble_eq_true rfl) ?_
  rw [hco]
  refine V_icmp_ne (pc := 219) (tgt := 226) hX dL_asked_219 (by decide) (fun h219 => absurd h219 (fun q => q rfl)) (fun h219 => ?_)
  refine V_iconst (pc := 222) (v := (nI 1)) hX dL_asked_222 (by decide +kernel) ?_
  refine V_goto (pc := 223) (tgt := 227) hX dL_asked_223 (by decide) ?_
  exact V_iret (pc := 227) (st := []) hX hr (by first | rfl | exact bI_nar _ | decide +kernel) dL_asked_227 (hp _ ((((o1.tr o2).tr o3).tr o4)))
set_option maxRecDepth 100000 in
set_option maxHeartbeats 4000000 in
theorem l_ask3 {L : Nat} {xs : Nat → Int32} {X : XC} {P : Option Value → Mem → Prop} {σ : Mem} (hX : Cok X RL cL_asked 8) (hR : Rok X 7) (hr : Ret X (some .boolean) P) (hs : Scr X L xs) (hL : L < 2 ^ 31) {N k co p : Nat} {F : Int32} (g : HS N k co p F (nI 3) σ) (hco : coN L xs k = co) (hp : ∀ τ, okA σ τ → P (some (.int (nI 1))) τ) : Vw X 34 [some (.ref 0), some (.ref 52), some (.int (nI k)), some (.int (nI 3)), some (.int (F)), some (.int (nI p)), some (.int (nI 12)), none] [] σ := by
  have hk : k < 100 := by have := g.2.1; have := g.2.2.1; omega
  obtain ⟨τ1, c1, o1, a1, b1⟩ := a_ask0 g (by rw [(wTr3 _).2]; decide)
  have t1 : Cc yX5_trace cX5_trace 2 (some .int) 1 [.ref 0, .int (nI 0)] τ1 (rI (nI 13) τ1) := a_trace (by rw [a1, (wTr3 _).1]) b1 (by rw [(wTr3 _).2]; decide) (by rw [(wTr3 _).2]; decide)
  have g1 := g.ok o1
  obtain ⟨τ2, c2, o2, a2, b2⟩ := a_ask1 g1 (by rw [(mTr3 _).2]; decide)
  have t2 : Cc yX5_trace cX5_trace 2 (some .int) 1 [.ref 0, .int (nI 0)] τ2 (rI (nI 22) τ2) := a_trace (by rw [a2, (mTr3 _).1]) b2 (by rw [(mTr3 _).2]; decide) (by rw [(mTr3 _).2]; decide)
  have g2 := g1.ok o2
  obtain ⟨τ3, c3, o3⟩ := a_as (x := 3) (v := nI co) g2 (by decide) (by rw [if_pos (by decide +kernel)])
  have g3 := g2.ok o3
  obtain ⟨τ4, c4, o4⟩ := a_as (x := 1) (v := (-1000013)) g3 (by decide) (by rw [if_neg (by decide +kernel)])
  have ew : wVal (nI 3) (nI co) F (nI p) = nI 2 * nI co := by rw [wVal, if_neg (by decide +kernel), if_pos rfl]
  have em : mVal (nI 3) (nI co) (nI p) = nI p + nI 2 * nI co := by rw [mVal, if_neg (by decide +kernel), if_pos rfl]
  rw [ew] at c1
  rw [em] at c2
  refine V_iload (pc := 34) (i := 5) hX dL_asked_34 rfl ?_
  refine V_iload_n (pc := 36) (i := 3) hX dL_asked_36 rfl rfl ?_
  refine V_iconst (pc := 37) (v := (nI 2)) hX dL_asked_37 (by decide +kernel) ?_
  refine V_icmp_ne (pc := 38) (tgt := 46) hX dL_asked_38 (by decide) (fun h38 => ?_) (fun h38 => absurd h38 ((by decide +kernel : ¬ nI 3 = nI 2)))
  refine V_iload_n (pc := 46) (i := 3) hX dL_asked_46 rfl rfl ?_
  refine V_iconst (pc := 47) (v := (nI 3)) hX dL_asked_47 (by decide +kernel) ?_
  refine V_icmp_ne (pc := 48) (tgt := 61) hX dL_asked_48 (by decide) (fun h48 => absurd h48 (fun q => q rfl)) (fun h48 => ?_)
  refine V_iconst (pc := 51) (v := (nI 2)) hX dL_asked_51 (by decide +kernel) ?_
  refine V_aload_n (pc := 52) (i := 1) hX dL_asked_52 rfl rfl ?_
  refine V_iload_n (pc := 53) (i := 2) hX dL_asked_53 rfl rfl ?_
  refine V_callSsi (pc := 54) hX (hR.mono (by omega)) mL_33 hs (c_cost hL _ hk _) dL_asked_54 rfl rfl rfl (Nat.le_of_ble_eq_true rfl) ?_
  rw [hco]
  refine V_imul (pc := 57) hX dL_asked_57 ?_
  refine V_goto (pc := 58) (tgt := 62) hX dL_asked_58 (by decide) ?_
  refine V_iadd (pc := 62) hX dL_asked_62 ?_
  refine V_istore6 (pc := 63) hX dL_asked_63 rfl ?_
  refine V_iload_n (pc := 65) (i := 3) hX dL_asked_65 rfl rfl ?_
  refine V_iconst (pc := 66) (v := (nI 3)) hX dL_asked_66 (by decide +kernel) ?_
  refine V_icmp_ne (pc := 67) (tgt := 80) hX dL_asked_67 (by decide) (fun h67 => absurd h67 (fun q => q rfl)) (fun h67 => ?_)
  refine V_iconst (pc := 70) (v := (nI 2)) hX dL_asked_70 (by decide +kernel) ?_
  refine V_aload_n (pc := 71) (i := 1) hX dL_asked_71 rfl rfl ?_
  refine V_iload_n (pc := 72) (i := 2) hX dL_asked_72 rfl rfl ?_
  refine V_callSsi (pc := 73) hX (hR.mono (by omega)) mL_33 hs (c_cost hL _ hk _) dL_asked_73 rfl rfl rfl (Nat.le_of_ble_eq_true rfl) ?_
  rw [hco]
  refine V_imul (pc := 76) hX dL_asked_76 ?_
  refine V_goto (pc := 77) (tgt := 100) hX dL_asked_77 (by decide) ?_
  refine V_istore7 (pc := 100) hX dL_asked_100 rfl ?_
  refine V_aload_n (pc := 102) (i := 0) hX dL_asked_102 rfl rfl ?_
  refine V_iload_n (pc := 103) (i := 2) hX dL_asked_103 rfl rfl ?_
  refine V_iconst (pc := 104) (v := (nI 0)) hX dL_asked_104 (by decide +kernel) ?_
  refine V_callVi (pc := 105) hX (hR.mono (by omega)) mL_61 (c1) dL_asked_105 rfl rfl rfl rfl (Nat.le_of_ble_eq_true rfl) ?_
  refine V_iload (pc := 108) (i := 7) hX dL_asked_108 rfl ?_
  refine V_icmp_ne (pc := 110) (tgt := 226) hX dL_asked_110 (by decide) (fun h110 => absurd h110 (fun q => q rfl)) (fun h110 => ?_)
  refine V_aload_n (pc := 113) (i := 0) hX dL_asked_113 rfl rfl ?_
  refine V_iconst (pc := 114) (v := (nI 0)) hX dL_asked_114 (by decide +kernel) ?_
  refine V_callVi (pc := 115) hX (hR.mono (by omega)) mL_64 (t1) dL_asked_115 rfl rfl rfl rfl (Nat.le_of_ble_eq_true rfl) ?_
  refine V_iload_n (pc := 118) (i := 3) hX dL_asked_118 rfl rfl ?_
  refine V_iconst (pc := 119) (v := (nI 3)) hX dL_asked_119 (by decide +kernel) ?_
  refine V_icmp_ne (pc := 120) (tgt := 128) hX dL_asked_120 (by decide) (fun h120 => absurd h120 (fun q => q rfl)) (fun h120 => ?_)
  refine V_bipush (pc := 123) (v := (nI 13)) hX dL_asked_123 (by decide +kernel) ?_
  refine V_goto (pc := 125) (tgt := 140) hX dL_asked_125 (by decide) ?_
  refine V_icmp_ne (pc := 140) (tgt := 226) hX dL_asked_140 (by decide) (fun h140 => absurd h140 (fun q => q rfl)) (fun h140 => ?_)
  refine V_aload_n (pc := 143) (i := 0) hX dL_asked_143 rfl rfl ?_
  refine V_iload_n (pc := 144) (i := 2) hX dL_asked_144 rfl rfl ?_
  refine V_iconst (pc := 145) (v := (nI 1)) hX dL_asked_145 (by decide +kernel) ?_
  refine V_callVi (pc := 146) hX (hR.mono (by omega)) mL_61 (c2) dL_asked_146 rfl rfl rfl rfl (Nat.le_of_ble_eq_true rfl) ?_
  refine V_iload (pc := 149) (i := 6) hX dL_asked_149 rfl ?_
  refine V_icmp_ne (pc := 151) (tgt := 226) hX dL_asked_151 (by decide) (fun h151 => absurd h151 (fun q => q rfl)) (fun h151 => ?_)
  refine V_aload_n (pc := 154) (i := 0) hX dL_asked_154 rfl rfl ?_
  refine V_iconst (pc := 155) (v := (nI 0)) hX dL_asked_155 (by decide +kernel) ?_
  refine V_callVi (pc := 156) hX (hR.mono (by omega)) mL_64 (t2) dL_asked_156 rfl rfl rfl rfl (Nat.le_of_ble_eq_true rfl) ?_
  refine V_iload_n (pc := 159) (i := 3) hX dL_asked_159 rfl rfl ?_
  refine V_iconst (pc := 160) (v := (nI 3)) hX dL_asked_160 (by decide +kernel) ?_
  refine V_icmp_ne (pc := 161) (tgt := 169) hX dL_asked_161 (by decide) (fun h161 => absurd h161 (fun q => q rfl)) (fun h161 => ?_)
  refine V_bipush (pc := 164) (v := (nI 22)) hX dL_asked_164 (by decide +kernel) ?_
  refine V_goto (pc := 166) (tgt := 181) hX dL_asked_166 (by decide) ?_
  refine V_icmp_ne (pc := 181) (tgt := 226) hX dL_asked_181 (by decide) (fun h181 => absurd h181 (fun q => q rfl)) (fun h181 => ?_)
  refine V_aload_n (pc := 184) (i := 0) hX dL_asked_184 rfl rfl ?_
  refine V_iload_n (pc := 185) (i := 2) hX dL_asked_185 rfl rfl ?_
  refine V_iload_n (pc := 186) (i := 3) hX dL_asked_186 rfl rfl ?_
  refine V_callVi (pc := 187) hX (hR.mono (by omega)) mL_67 (c3) dL_asked_187 rfl rfl rfl rfl (Nat.le_of_ble_eq_true rfl) ?_
  refine V_aload_n (pc := 190) (i := 1) hX dL_asked_190 rfl rfl ?_
  refine V_iload_n (pc := 191) (i := 2) hX dL_asked_191 rfl rfl ?_
  refine V_callSsi (pc := 192) hX (hR.mono (by omega)) mL_33 hs (c_cost hL _ hk _) dL_asked_192 rfl rfl rfl (Nat.le_of_ble_eq_true rfl) ?_
  rw [hco]
  refine V_icmp_ne (pc := 195) (tgt := 226) hX dL_asked_195 (by decide) (fun h195 => absurd h195 (fun q => q rfl)) (fun h195 => ?_)
  refine V_aload_n (pc := 198) (i := 0) hX dL_asked_198 rfl rfl ?_
  refine V_iload_n (pc := 199) (i := 2) hX dL_asked_199 rfl rfl ?_
  refine V_iconst (pc := 200) (v := (nI 1)) hX dL_asked_200 (by decide +kernel) ?_
  refine V_callVi (pc := 201) hX (hR.mono (by omega)) mL_67 (c4) dL_asked_201 rfl rfl rfl rfl (Nat.le_of_ble_eq_true rfl) ?_
  refine V_iload_n (pc := 204) (i := 3) hX dL_asked_204 rfl rfl ?_
  refine V_iconst (pc := 205) (v := (nI 3)) hX dL_asked_205 (by decide +kernel) ?_
  refine V_icmp_ne (pc := 206) (tgt := 214) hX dL_asked_206 (by decide) (fun h206 => absurd h206 (fun q => q rfl)) (fun h206 => ?_)
  refine V_ldc (pc := 209) hX kL_70 dL_asked_209 ?_
  refine V_goto (pc := 211) (tgt := 219) hX dL_asked_211 (by decide) ?_
  skip
  refine V_icmp_ne (pc := 219) (tgt := 226) hX dL_asked_219 (by decide) (fun h219 => absurd h219 (fun q => q rfl)) (fun h219 => ?_)
  refine V_iconst (pc := 222) (v := (nI 1)) hX dL_asked_222 (by decide +kernel) ?_
  refine V_goto (pc := 223) (tgt := 227) hX dL_asked_223 (by decide) ?_
  exact V_iret (pc := 227) (st := []) hX hr (by first | rfl | exact bI_nar _ | decide +kernel) dL_asked_227 (hp _ ((((o1.tr o2).tr o3).tr o4)))
theorem kd_cases {bo : Int32} {k : Nat} {F c : Int32} : kindf bo k F c = nI 1 ∨ kindf bo k F c = nI 2 ∨ kindf bo k F c = nI 3 := by
  unfold kindf
  split
  · exact Or.inr (Or.inr rfl)
  · split
    · exact Or.inl rfl
    · exact Or.inr (Or.inl rfl)
set_option maxRecDepth 100000 in
set_option maxHeartbeats 4000000 in
theorem c_asked {L : Nat} {xs : Nat → Int32} (hL : L < 2 ^ 31) {N k : Nat} {F kd : Int32} (σ : Mem) (g : HS N k (coN L xs k) (popn (thF L xs k) 12) F kd σ) : Cs L xs yL_asked cL_asked 8 (some .boolean) 7 [.ref 0, .ref 52, .int (nI k), .int kd, .int F] σ (fun r τ => r = some (.int (nI 1)) ∧ okA σ τ) := by
  refine Cs.intro (by decide +kernel) [some (.ref 0), some (.ref 52), some (.int (nI k)), some (.int kd), some (.int F), none, none, none] (fun _ => rfl) rfl (fun _ => Nat.le_of_ble_eq_true rfl) ?_
  intro X hX hR hr hs
  have hk : k < 100 := by have := g.2.1; have := g.2.2.1; omega
  refine V_iconst (pc := 0) (v := (nI 0)) hX dL_asked_0 (by decide +kernel) ?_
  refine V_istore5 (pc := 1) hX dL_asked_1 rfl ?_
  refine V_iconst (pc := 3) (v := (nI 0)) hX dL_asked_3 (by decide +kernel) ?_
  refine V_istore6 (pc := 4) hX dL_asked_4 rfl ?_
  refine l_many hX hR hs hL k hk kd F ?_ 0 (Nat.zero_le _)
  have hkd := kd_cases (bo := σ 2 6) (k := k) (F := F) (c := nI (coN L xs k))
  rw [g.2.2.2.2.2.2.1] at hkd
  rcases hkd with rfl | rfl | rfl
  · exact l_ask1 hX hR hr hs hL g rfl (fun τ h => ⟨rfl, h⟩)
  · exact l_ask2 hX hR hr hs hL g rfl (fun τ h => ⟨rfl, h⟩)
  · exact l_ask3 hX hR hr hs hL g rfl (fun τ h => ⟨rfl, h⟩)

