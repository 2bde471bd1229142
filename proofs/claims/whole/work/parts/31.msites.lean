/-! ===== SITES, the reference's: 65 way, 66 isPaid, 67 far, 68 steps; 52: 21 sites, 24 joined, 25 on, 26 built, 29 reached ===== -/
def wy (σ : Mem) : Nat → Nat → Int32 := fun a b => σ 65 (10 * a + b)
set_option maxRecDepth 100000 in
set_option maxHeartbeats 4000000 in
theorem c_misSite (n : Nat) (x : Int32) (σ : Mem) (hn : σ 52 21 = nI n) (hn10 : n ≤ 10) : Cc yX6_isSite cX6_isSite 2 (some .boolean) 1 [.ref 52, .int x] σ (rI (bI (inr x n)) σ) := by
  refine Cc.intro (by decide +kernel) [some (.ref 52), some (.int x)] (fun _ => rfl) rfl (fun _ => Nat.le_of_ble_eq_true rfl) ?_
  intro X hX hR hr
  refine V_iload_n (pc := 0) (i := 1) hX dX6_isSite_0 rfl rfl ?_
  refine V_i2l (pc := 1) hX dX6_isSite_1 ?_
  refine V_lconst (pc := 2) (v := lN 0) hX dX6_isSite_2 (by decide +kernel) ?_
  refine V_aload_n (pc := 3) (i := 0) hX dX6_isSite_3 rfl rfl ?_
  refine V_getf (pc := 4) hX fX6_166 dX6_isSite_4 rfl rfl ?_
  rw [hn]
  refine V_iconst (pc := 7) (v := (nI 1)) hX dX6_isSite_7 (by decide +kernel) ?_
  refine V_isub (pc := 8) hX dX6_isSite_8 ?_
  refine V_i2l (pc := 9) hX dX6_isSite_9 ?_
  refine V_callSi (pc := 10) hX (hR.mono (by omega)) mX6_75 (c_inS x n (by omega) σ) dX6_isSite_10 rfl rfl rfl (Nat.le_of_ble_eq_true rfl) ?_
  exact V_iret (pc := 13) (st := []) hX hr (by first | rfl | exact bI_nar _ | decide +kernel) dX6_isSite_13 (⟨rfl, rfl⟩)
def siteF (n : Nat) : Int32 := if n < 10 then nI n else (-1000003)
def msiteM (σ : Mem) (n : Nat) : Mem := if n < 10 then mu σ 52 21 (nI (n + 1)) else σ
set_option maxRecDepth 100000 in
set_option maxHeartbeats 4000000 in
theorem c_msite (n : Nat) (σ : Mem) (hn : σ 52 21 = nI n) (hn10 : n ≤ 10) : Cc yX6_site cX6_site 1 (some .int) 0 [.ref 52] σ (rI (siteF n) (msiteM (m0 σ) n)) := by
  refine Cc.intro (by decide +kernel) [some (.ref 52)] (fun _ => rfl) rfl (fun _ => Nat.le_of_ble_eq_true rfl) ?_
  intro X hX hR hr
  have a21 : m0 σ 52 21 = nI n := by rw [m0_c (by decide)]; exact hn
  refine V_aload_n (pc := 0) (i := 0) hX dX6_site_0 rfl rfl ?_
  refine V_iconst (pc := 1) (v := (nI 0)) hX dX6_site_1 (by decide +kernel) ?_
  refine V_putf (pc := 2) hX fX6_66 gi6_0 dX6_site_2 rfl rfl ?_
  refine Vw.mem (rfl : m0 σ = _) ?_
  refine V_aload_n (pc := 5) (i := 0) hX dX6_site_5 rfl rfl ?_
  refine V_getf (pc := 6) hX fX6_166 dX6_site_6 rfl rfl ?_
  refine V_bipush (pc := 9) (v := (nI 10)) hX dX6_site_9 (by decide +kernel) ?_
  rw [a21]
  refine V_icmp_neN (pc := 11) (tgt := 17) hX dX6_site_11 (by decide) (by omega) (by omega) (fun h11 => ?_) (fun h11 => ?_)
  · refine V_aload_n (pc := 17) (i := 0) hX dX6_site_17 rfl rfl ?_
    refine V_dup (pc := 18) hX dX6_site_18 rfl ?_
    refine V_getf (pc := 19) hX fX6_166 dX6_site_19 rfl rfl ?_
    rw [a21]
    refine V_iconst (pc := 22) (v := (nI 1)) hX dX6_site_22 (by decide +kernel) ?_
    refine V_iadd (pc := 23) hX dX6_site_23 ?_
    rw [nI_add]
    refine V_putf (pc := 24) hX fX6_166 gi6_21 dX6_site_24 rfl rfl ?_
    refine V_aload_n (pc := 27) (i := 0) hX dX6_site_27 rfl rfl ?_
    refine V_getf (pc := 28) hX fX6_166 dX6_site_28 rfl rfl ?_
    refine V_iconst (pc := 31) (v := (nI 1)) hX dX6_site_31 (by decide +kernel) ?_
    refine V_isub (pc := 32) hX dX6_site_32 ?_
    rw [mu_at, pk_sub (by omega)]
    exact V_iret (pc := 33) (st := []) hX hr (by first | rfl | exact bI_nar _ | decide +kernel) dX6_site_33 (⟨by rw [siteF, if_pos (by omega)]; rfl, by rw [msiteM, if_pos (by omega)]⟩)
  · refine V_ldc (pc := 14) hX kX6_104 dX6_site_14 ?_
    exact V_iret (pc := 16) (st := []) hX hr (by first | rfl | exact bI_nar _ | decide +kernel) dX6_site_16 (⟨by rw [siteF, if_neg (by omega)], by rw [msiteM, if_neg (by omega)]⟩)
def wayOK (n : Nat) (x y l : Int32) : Bool := inr x n && inr y n && decide (¬ x = y) && inr2 l 1 1000
def mwayV (σ : Mem) (n : Nat) (x y l : Int32) : Int32 := if wayOK n x y l then (if σ 66 (10 * tn x + tn y) = 0 then wy σ (tn x) (tn y) else (-1000002)) else (-1000001)
def mwayM (σ : Mem) (n : Nat) (x y l : Int32) : Mem := if wayOK n x y l then (if σ 66 (10 * tn x + tn y) = 0 then mu (mu σ 65 (10 * tn x + tn y) l) 65 (10 * tn y + tn x) l else σ) else σ
set_option maxRecDepth 100000 in
set_option maxHeartbeats 4000000 in
theorem c_mway (n : Nat) (x y l : Int32) (σ : Mem) (hn : σ 52 21 = nI n) (hn10 : n ≤ 10) : Cc yX6_way cX6_way 5 (some .int) 2 [.ref 52, .int x, .int y, .int l] σ (rI (mwayV σ n x y l) (mwayM (m0 σ) n x y l)) := by
  refine Cc.intro (by decide +kernel) [some (.ref 52), some (.int x), some (.int y), some (.int l), none] (fun _ => rfl) rfl (fun _ => Nat.le_of_ble_eq_true rfl) ?_
  intro X hX hR hr
  have a21 : m0 σ 52 21 = nI n := by rw [m0_c (by decide)]; exact hn
  have a66 : m0 σ 66 = σ 66 := m0_r (by decide)
  have a65 : m0 σ 65 = σ 65 := m0_r (by decide)
  refine V_aload_n (pc := 0) (i := 0) hX dX6_way_0 rfl rfl ?_
  refine V_iconst (pc := 1) (v := (nI 0)) hX dX6_way_1 (by decide +kernel) ?_
  refine V_putf (pc := 2) hX fX6_66 gi6_0 dX6_way_2 rfl rfl ?_
  refine Vw.mem (rfl : m0 σ = _) ?_
  refine V_aload_n (pc := 5) (i := 0) hX dX6_way_5 rfl rfl ?_
  refine V_iload_n (pc := 6) (i := 1) hX dX6_way_6 rfl rfl ?_
  refine V_callVi (pc := 7) hX (hR.mono (by omega)) mX6_169 (c_misSite n x _ a21 hn10) dX6_way_7 rfl rfl rfl rfl (Nat.le_of_ble_eq_true rfl) ?_
  refine V_if_eqB (pc := 10) (tgt := 38) hX dX6_way_10 (by decide) (fun h10 => ?_) (fun h10 => ?_)
  · refine V_ldc (pc := 38) hX kX6_85 dX6_way_38 ?_
    exact V_iret (pc := 40) (st := []) hX hr (by first | rfl | exact bI_nar _ | decide +kernel) dX6_way_40 (⟨by rw [mwayV, wayOK, h10]; rfl, by rw [mwayM, wayOK, h10]; rfl⟩)
  · refine V_aload_n (pc := 13) (i := 0) hX dX6_way_13 rfl rfl ?_
    refine V_iload_n (pc := 14) (i := 2) hX dX6_way_14 rfl rfl ?_
    refine V_callVi (pc := 15) hX (hR.mono (by omega)) mX6_169 (c_misSite n y _ a21 hn10) dX6_way_15 rfl rfl rfl rfl (Nat.le_of_ble_eq_true rfl) ?_
    refine V_if_eqB (pc := 18) (tgt := 38) hX dX6_way_18 (by decide) (fun h18 => ?_) (fun h18 => ?_)
    · refine V_ldc (pc := 38) hX kX6_85 dX6_way_38 ?_
      exact V_iret (pc := 40) (st := []) hX hr (by first | rfl | exact bI_nar _ | decide +kernel) dX6_way_40 (⟨by rw [mwayV, wayOK, h10, h18]; rfl, by rw [mwayM, wayOK, h10, h18]; rfl⟩)
    · refine V_iload_n (pc := 21) (i := 1) hX dX6_way_21 rfl rfl ?_
      refine V_iload_n (pc := 22) (i := 2) hX dX6_way_22 rfl rfl ?_
      refine V_icmp_eq (pc := 23) (tgt := 38) hX dX6_way_23 (by decide) (fun h23 => ?_) (fun h23 => ?_)
      · refine V_ldc (pc := 38) hX kX6_85 dX6_way_38 ?_
        exact V_iret (pc := 40) (st := []) hX hr (by first | rfl | exact bI_nar _ | decide +kernel) dX6_way_40 (⟨by rw [mwayV, wayOK, h10, h18, decide_eq_false (fun q => q h23)]; rfl, by rw [mwayM, wayOK, h10, h18, decide_eq_false (fun q => q h23)]; rfl⟩)
      · refine V_iload_n (pc := 26) (i := 3) hX dX6_way_26 rfl rfl ?_
        refine V_i2l (pc := 27) hX dX6_way_27 ?_
        refine V_lconst (pc := 28) (v := lN 1) hX dX6_way_28 (by decide +kernel) ?_
        refine V_ldc2 (pc := 29) hX kX6_96 dX6_way_29 ?_
        refine V_callSi (pc := 32) hX (hR.mono (by omega)) mX6_75 (c_inN l 1 1000 (by decide) (by decide) _) dX6_way_32 rfl rfl rfl (Nat.le_of_ble_eq_true rfl) ?_
        refine V_if_neB (pc := 35) (tgt := 41) hX dX6_way_35 (by decide) (fun h35 => ?_) (fun h35 => ?_)
        · obtain ⟨a, ha, rfl⟩ := inr_of h10 (by omega)
          obtain ⟨b, hb, rfl⟩ := inr_of h18 (by omega)
          have eo : wayOK n (nI a) (nI b) l = true := by rw [wayOK, h10, h18, decide_eq_true h23, h35]; rfl
          have ta : tn (nI a) = a := tn_nI (by omega)
          have tb : tn (nI b) = b := tn_nI (by omega)
          refine V_aload_n (pc := 41) (i := 0) hX dX6_way_41 rfl rfl ?_
          refine V_getr (pc := 42) hX fX6_54 dX6_way_42 rfl rfl ?_
          refine V_bipush (pc := 45) (v := (nI 10)) hX dX6_way_45 (by decide +kernel) ?_
          refine V_iload_n (pc := 47) (i := 1) hX dX6_way_47 rfl rfl ?_
          refine V_imul (pc := 48) hX dX6_way_48 ?_
          refine V_iload_n (pc := 49) (i := 2) hX dX6_way_49 rfl rfl ?_
          refine V_iadd (pc := 50) hX dX6_way_50 ?_
          refine V_zald (pc := 51) hX dX6_way_51 (rfl) (show _ = nI (10 * a + b) by rw [pk_mul, nI_add]) (by omega) (by decide) ?_
          rw [a66]
          refine V_if_eq (pc := 52) (tgt := 58) hX dX6_way_52 (by decide) (fun h52 => ?_) (fun h52 => ?_)
          · refine V_aload_n (pc := 58) (i := 0) hX dX6_way_58 rfl rfl ?_
            refine V_getr (pc := 59) hX fX6_51 dX6_way_59 rfl rfl ?_
            refine V_bipush (pc := 62) (v := (nI 10)) hX dX6_way_62 (by decide +kernel) ?_
            refine V_iload_n (pc := 64) (i := 1) hX dX6_way_64 rfl rfl ?_
            refine V_imul (pc := 65) hX dX6_way_65 ?_
            refine V_iload_n (pc := 66) (i := 2) hX dX6_way_66 rfl rfl ?_
            refine V_iadd (pc := 67) hX dX6_way_67 ?_
            refine V_iald (pc := 68) hX dX6_way_68 (rfl) (show _ = nI (10 * a + b) by rw [pk_mul, nI_add]) (by omega) (by decide) ?_
            refine V_istore4 (pc := 69) hX dX6_way_69 rfl ?_
            refine V_aload_n (pc := 71) (i := 0) hX dX6_way_71 rfl rfl ?_
            refine V_getr (pc := 72) hX fX6_51 dX6_way_72 rfl rfl ?_
            refine V_bipush (pc := 75) (v := (nI 10)) hX dX6_way_75 (by decide +kernel) ?_
            refine V_iload_n (pc := 77) (i := 1) hX dX6_way_77 rfl rfl ?_
            refine V_imul (pc := 78) hX dX6_way_78 ?_
            refine V_iload_n (pc := 79) (i := 2) hX dX6_way_79 rfl rfl ?_
            refine V_iadd (pc := 80) hX dX6_way_80 ?_
            refine V_iload_n (pc := 81) (i := 3) hX dX6_way_81 rfl rfl ?_
            refine V_iast (pc := 82) hX dX6_way_82 (rfl) (show _ = nI (10 * a + b) by rw [pk_mul, nI_add]) (by omega) (by decide) ?_
            refine V_aload_n (pc := 83) (i := 0) hX dX6_way_83 rfl rfl ?_
            refine V_getr (pc := 84) hX fX6_51 dX6_way_84 rfl rfl ?_
            refine V_bipush (pc := 87) (v := (nI 10)) hX dX6_way_87 (by decide +kernel) ?_
            refine V_iload_n (pc := 89) (i := 2) hX dX6_way_89 rfl rfl ?_
            refine V_imul (pc := 90) hX dX6_way_90 ?_
            refine V_iload_n (pc := 91) (i := 1) hX dX6_way_91 rfl rfl ?_
            refine V_iadd (pc := 92) hX dX6_way_92 ?_
            refine V_iload_n (pc := 93) (i := 3) hX dX6_way_93 rfl rfl ?_
            refine V_iast (pc := 94) hX dX6_way_94 (rfl) (show _ = nI (10 * b + a) by rw [pk_mul, nI_add]) (by omega) (by decide) ?_
            refine V_iload (pc := 95) (i := 4) hX dX6_way_95 rfl ?_
            exact V_iret (pc := 97) (st := []) hX hr (by first | rfl | exact bI_nar _ | decide +kernel) dX6_way_97 (⟨by rw [mwayV, eo, if_pos rfl, ta, tb, if_pos h52, a65]; rfl, by rw [mwayM, eo, if_pos rfl, ta, tb, a66, if_pos h52]⟩)
          · refine V_ldc (pc := 55) hX kX6_103 dX6_way_55 ?_
            exact V_iret (pc := 57) (st := []) hX hr (by first | rfl | exact bI_nar _ | decide +kernel) dX6_way_57 (⟨by rw [mwayV, eo, if_pos rfl, ta, tb, if_neg h52], by rw [mwayM, eo, if_pos rfl, ta, tb, a66, if_neg h52]⟩)
        · refine V_ldc (pc := 38) hX kX6_85 dX6_way_38 ?_
          exact V_iret (pc := 40) (st := []) hX hr (by first | rfl | exact bI_nar _ | decide +kernel) dX6_way_40 (⟨by rw [mwayV, wayOK, h10, h18, h35, Bool.and_false]; rfl, by rw [mwayM, wayOK, h10, h18, h35, Bool.and_false]; rfl⟩)
abbrev Sw : Type := (Nat → Int32) × (Nat → Int32) × Bool
/-- one look from b by c: nearer by c? -/
def stF (w : Nat → Nat → Int32) (b c : Nat) (x : Sw) : Sw :=
  if 0 < w b c ∧ ¬ x.1 c = (-1000000) then (if x.1 b = (-1000000) ∨ x.1 c + w b c < x.1 b ∨ (x.1 c + w b c = x.1 b ∧ x.2.1 c + nI 1 < x.2.1 b) then (upd x.1 b (x.1 c + w b c), upd x.2.1 b (x.2.1 c + nI 1), true) else x) else x
def icF (w : Nat → Nat → Int32) (b : Nat) (x : Sw) : Nat → Sw
  | 0 => x
  | c + 1 => stF w b c (icF w b x c)
def swF (w : Nat → Nat → Int32) (on : Int32) (n : Nat) (x : Sw) : Nat → Sw
  | 0 => x
  | b + 1 => if bt on b then swF w on n x b else icF w b (swF w on n x b) n
def rdF (w : Nat → Nat → Int32) (on : Int32) (n : Nat) (x : Sw) : Nat → Sw
  | 0 => x
  | r + 1 => swF w on n ((rdF w on n x r).1, (rdF w on n x r).2.1, false) n
def m2 (σ : Mem) (x : Sw) : Mem := mf (mf σ 67 x.1) 68 x.2.1
theorem m2_r {σ : Mem} {x : Sw} {q : Nat} (h : q ≠ 67) (h2 : q ≠ 68) : m2 σ x q = σ q := by unfold m2; rw [← mf_ne h2, ← mf_ne h]
theorem m2_67 {σ : Mem} {x : Sw} : m2 σ x 67 = x.1 := by unfold m2; rw [← mf_ne (by decide), mf_row]
theorem m2_68 {σ : Mem} {x : Sw} : m2 σ x 68 = x.2.1 := mf_row _ _ _
theorem m2_mu {σ : Mem} {f s : Nat → Int32} {m m' : Bool} {i j : Nat} {v u : Int32} : mu (mu (m2 σ (f, s, m)) 67 i v) 68 j u = m2 σ (upd f i v, upd s j u, m') := by
  funext q k
  simp only [m2, mu, mf, upd]
  by_cases h1 : q = 67 <;> by_cases h2 : q = 68 <;> simp_all [upd]
set_option maxRecDepth 100000 in
set_option maxHeartbeats 4000000 in
theorem l_mcallC {n a b : Nat} {x : Sw} {X : XC} {P : Option Value → Mem → Prop} {σ : Mem} (hX : Cok X RX6 cX6_call 7) (hR : Rok X 2) (hr : Ret X (some .int) P) (hn : σ 52 21 = nI n) (hn10 : n ≤ 10) (hb : b < n) (hon : bt (σ 52 25) b = false) (kk : ∀ z5 z6, nol [z5, z6] = true → Vw X 278 [some (.ref 52), some (.int (nI a)), some (.int (bI (icF (wy σ) b x n).2.2)), some (.int (nI b)), some (.int (nI n)), z5, z6] [] (m2 σ (icF (wy σ) b x n))) (c : Nat) (hc : c ≤ n) (z5 z6 : Option Value) (hz : nol [z5, z6] = true) : Vw X 127 [some (.ref 52), some (.int (nI a)), some (.int (bI (icF (wy σ) b x c).2.2)), some (.int (nI b)), some (.int (nI c)), z5, z6] [] (m2 σ (icF (wy σ) b x c)) := by
  have r52 : m2 σ (icF (wy σ) b x c) 52 = σ 52 := m2_r (by decide) (by decide)
  have r65 : m2 σ (icF (wy σ) b x c) 65 = σ 65 := m2_r (by decide) (by decide)
  have r67 : m2 σ (icF (wy σ) b x c) 67 = (icF (wy σ) b x c).1 := m2_67
  have r68 : m2 σ (icF (wy σ) b x c) 68 = (icF (wy σ) b x c).2.1 := m2_68
  have hz6 : nol [z6] = true := by
    cases z5 with
    | none => exact hz
    | some v => cases v <;> first | exact hz | (simp [nol] at hz)
  have ih := fun (h : c < n) (z5 : Option Value) (hz : nol [z5, z6] = true) => l_mcallC hX hR hr hn hn10 hb hon kk (c + 1) h z5 z6 hz
  have k272 : c < n → ∀ (z5 : Option Value) (hz : nol [z5, z6] = true), stF (wy σ) b c (icF (wy σ) b x c) = icF (wy σ) b x c → Vw X 272 [some (.ref 52), some (.int (nI a)), some (.int (bI (icF (wy σ) b x c).2.2)), some (.int (nI b)), some (.int (nI c)), z5, z6] [] (m2 σ (icF (wy σ) b x c)) := by
    intro h z5 hz e
    have ihk := ih h z5 hz
    rw [icF, e] at ihk
    refine V_iinc4 (pc := 272) hX dX6_call_272 hz (iinc1 _) ?_
    refine V_goto (pc := 275) (tgt := 127) hX dX6_call_275 (by decide) ?_
    exact ihk
  have k247 : c < n → (0 < wy σ b c ∧ ¬ (icF (wy σ) b x c).1 c = (-1000000)) → ((icF (wy σ) b x c).1 b = (-1000000) ∨ (icF (wy σ) b x c).1 c + wy σ b c < (icF (wy σ) b x c).1 b ∨ ((icF (wy σ) b x c).1 c + wy σ b c = (icF (wy σ) b x c).1 b ∧ (icF (wy σ) b x c).2.1 c + nI 1 < (icF (wy σ) b x c).2.1 b)) → Vw X 247 [some (.ref 52), some (.int (nI a)), some (.int (bI (icF (wy σ) b x c).2.2)), some (.int (nI b)), some (.int (nI c)), some (.int ((icF (wy σ) b x c).1 c + wy σ b c)), z6] [] (m2 σ (icF (wy σ) b x c)) := by
    intro h h1 h2
    have ihk := ih h (some (.int ((icF (wy σ) b x c).1 c + wy σ b c))) hz6
    rw [icF, stF, if_pos h1, if_pos h2] at ihk
    refine V_aload_n (pc := 247) (i := 0) hX dX6_call_247 rfl rfl ?_
    refine V_getr (pc := 248) hX fX6_57 dX6_call_248 rfl rfl ?_
    refine V_iload_n (pc := 251) (i := 3) hX dX6_call_251 rfl rfl ?_
    refine V_iload (pc := 252) (i := 5) hX dX6_call_252 rfl ?_
    refine V_iast (pc := 254) hX dX6_call_254 (rfl) (rfl) (by omega) (by decide) ?_
    refine V_aload_n (pc := 255) (i := 0) hX dX6_call_255 rfl rfl ?_
    refine V_getr (pc := 256) hX fX6_60 dX6_call_256 rfl rfl ?_
    refine V_iload_n (pc := 259) (i := 3) hX dX6_call_259 rfl rfl ?_
    refine V_aload_n (pc := 260) (i := 0) hX dX6_call_260 rfl rfl ?_
    refine V_getr (pc := 261) hX fX6_60 dX6_call_261 rfl rfl ?_
    refine V_iload (pc := 264) (i := 4) hX dX6_call_264 rfl ?_
    refine V_iald (pc := 266) hX dX6_call_266 (rfl) (rfl) (by omega) (by decide) ?_
    rw [show mu (m2 σ (icF (wy σ) b x c)) 67 b ((icF (wy σ) b x c).1 c + wy σ b c) 68 c = (icF (wy σ) b x c).2.1 c by rw [mu_np (by decide), r68]]
    refine V_iconst (pc := 267) (v := (nI 1)) hX dX6_call_267 (by decide +kernel) ?_
    refine V_iadd (pc := 268) hX dX6_call_268 ?_
    refine V_iast (pc := 269) hX dX6_call_269 (rfl) (rfl) (by omega) (by decide) ?_
    refine V_iconst (pc := 270) (v := (nI 1)) hX dX6_call_270 (by decide +kernel) ?_
    refine V_istore2 (pc := 271) hX dX6_call_271 hz6 ?_
    refine V_iinc4 (pc := 272) hX dX6_call_272 hz6 (iinc1 _) ?_
    refine V_goto (pc := 275) (tgt := 127) hX dX6_call_275 (by decide) ?_
    rw [show m2 σ (icF (wy σ) b x c) = m2 σ ((icF (wy σ) b x c).1, (icF (wy σ) b x c).2.1, true) from rfl, m2_mu (m' := true)]
    exact ihk
  refine V_iload (pc := 127) (i := 4) hX dX6_call_127 rfl ?_
  refine V_aload_n (pc := 129) (i := 0) hX dX6_call_129 rfl rfl ?_
  refine V_getf (pc := 130) hX fX6_166 dX6_call_130 rfl rfl ?_
  rw [r52, hn]
  refine V_icmp_geN (pc := 133) (tgt := 278) hX dX6_call_133 (by decide) (by omega) (by omega) (fun h133 => ?_) (fun h133 => ?_)
  · obtain rfl : c = n := by omega
    exact kk z5 z6 hz
  · refine V_aload_n (pc := 136) (i := 0) hX dX6_call_136 rfl rfl ?_
    refine V_getf (pc := 137) hX fX6_175 dX6_call_137 rfl rfl ?_
    refine V_iload_n (pc := 140) (i := 3) hX dX6_call_140 rfl rfl ?_
    refine V_ishr (pc := 141) hX dX6_call_141 ?_
    refine V_iconst (pc := 142) (v := (nI 1)) hX dX6_call_142 (by decide +kernel) ?_
    refine V_iand (pc := 143) hX dX6_call_143 ?_
    rw [r52]
    refine V_if_neS (pc := 144) (tgt := 278) hX dX6_call_144 (by decide) (by omega) (fun h144 => absurd h144 (fun q => absurd (q.symm.trans hon) (by decide))) (fun h144 => ?_)
    refine V_aload_n (pc := 147) (i := 0) hX dX6_call_147 rfl rfl ?_
    refine V_getr (pc := 148) hX fX6_51 dX6_call_148 rfl rfl ?_
    refine V_bipush (pc := 151) (v := (nI 10)) hX dX6_call_151 (by decide +kernel) ?_
    refine V_iload_n (pc := 153) (i := 3) hX dX6_call_153 rfl rfl ?_
    refine V_imul (pc := 154) hX dX6_call_154 ?_
    refine V_iload (pc := 155) (i := 4) hX dX6_call_155 rfl ?_
    refine V_iadd (pc := 157) hX dX6_call_157 ?_
    refine V_iald (pc := 158) hX dX6_call_158 (rfl) (show _ = nI (10 * b + c) by rw [pk_mul, nI_add]) (by omega) (by decide) ?_
    rw [r65, show σ 65 (10 * b + c) = wy σ b c from rfl]
    refine V_if_le (pc := 159) (tgt := 272) hX dX6_call_159 (by decide) (fun h159 => ?_) (fun h159 => ?_)
    · exact k272 h133 z5 hz (by rw [stF, if_neg (fun q => Int32.not_le.mpr q.1 h159)])
    · refine V_aload_n (pc := 162) (i := 0) hX dX6_call_162 rfl rfl ?_
      refine V_getr (pc := 163) hX fX6_57 dX6_call_163 rfl rfl ?_
      refine V_iload (pc := 166) (i := 4) hX dX6_call_166 rfl ?_
      refine V_iald (pc := 168) hX dX6_call_168 (rfl) (rfl) (by omega) (by decide) ?_
      refine V_ldc (pc := 169) hX kX6_126 dX6_call_169 ?_
      rw [r67]
      refine V_icmp_eq (pc := 171) (tgt := 272) hX dX6_call_171 (by decide) (fun h171 => ?_) (fun h171 => ?_)
      · exact k272 h133 z5 hz (by rw [stF, if_neg (fun q => q.2 h171)])
      · refine V_aload_n (pc := 174) (i := 0) hX dX6_call_174 rfl rfl ?_
        refine V_getr (pc := 175) hX fX6_57 dX6_call_175 rfl rfl ?_
        refine V_iload (pc := 178) (i := 4) hX dX6_call_178 rfl ?_
        refine V_iald (pc := 180) hX dX6_call_180 (rfl) (rfl) (by omega) (by decide) ?_
        refine V_aload_n (pc := 181) (i := 0) hX dX6_call_181 rfl rfl ?_
        refine V_getr (pc := 182) hX fX6_51 dX6_call_182 rfl rfl ?_
        refine V_bipush (pc := 185) (v := (nI 10)) hX dX6_call_185 (by decide +kernel) ?_
        refine V_iload_n (pc := 187) (i := 3) hX dX6_call_187 rfl rfl ?_
        refine V_imul (pc := 188) hX dX6_call_188 ?_
        refine V_iload (pc := 189) (i := 4) hX dX6_call_189 rfl ?_
        refine V_iadd (pc := 191) hX dX6_call_191 ?_
        refine V_iald (pc := 192) hX dX6_call_192 (rfl) (show _ = nI (10 * b + c) by rw [pk_mul, nI_add]) (by omega) (by decide) ?_
        rw [r65, r67, show σ 65 (10 * b + c) = wy σ b c from rfl]
        refine V_iadd (pc := 193) hX dX6_call_193 ?_
        refine V_istore5 (pc := 194) hX dX6_call_194 hz ?_
        have h1 : 0 < wy σ b c ∧ ¬ (icF (wy σ) b x c).1 c = (-1000000) := ⟨Int32.not_le.mp h159, h171⟩
        refine V_aload_n (pc := 196) (i := 0) hX dX6_call_196 rfl rfl ?_
        refine V_getr (pc := 197) hX fX6_57 dX6_call_197 rfl rfl ?_
        refine V_iload_n (pc := 200) (i := 3) hX dX6_call_200 rfl rfl ?_
        refine V_iald (pc := 201) hX dX6_call_201 (rfl) (rfl) (by omega) (by decide) ?_
        rw [r67]
        refine V_ldc (pc := 202) hX kX6_126 dX6_call_202 ?_
        refine V_icmp_eq (pc := 204) (tgt := 247) hX dX6_call_204 (by decide) (fun h204 => k247 h133 h1 (Or.inl h204)) (fun h204 => ?_)
        refine V_iload (pc := 207) (i := 5) hX dX6_call_207 rfl ?_
        refine V_aload_n (pc := 209) (i := 0) hX dX6_call_209 rfl rfl ?_
        refine V_getr (pc := 210) hX fX6_57 dX6_call_210 rfl rfl ?_
        refine V_iload_n (pc := 213) (i := 3) hX dX6_call_213 rfl rfl ?_
        refine V_iald (pc := 214) hX dX6_call_214 (rfl) (rfl) (by omega) (by decide) ?_
        rw [r67]
        refine V_icmp_lt (pc := 215) (tgt := 247) hX dX6_call_215 (by decide) (fun h215 => k247 h133 h1 (Or.inr (Or.inl h215))) (fun h215 => ?_)
        refine V_iload (pc := 218) (i := 5) hX dX6_call_218 rfl ?_
        refine V_aload_n (pc := 220) (i := 0) hX dX6_call_220 rfl rfl ?_
        refine V_getr (pc := 221) hX fX6_57 dX6_call_221 rfl rfl ?_
        refine V_iload_n (pc := 224) (i := 3) hX dX6_call_224 rfl rfl ?_
        refine V_iald (pc := 225) hX dX6_call_225 (rfl) (rfl) (by omega) (by decide) ?_
        rw [r67]
        refine V_icmp_ne (pc := 226) (tgt := 272) hX dX6_call_226 (by decide) (fun h226 => k272 h133 _ hz6 (by rw [stF, if_pos h1, if_neg (fun q => q.elim h204 (fun q => q.elim h215 (fun q => h226 q.1)))])) (fun h226 => ?_)
        refine V_aload_n (pc := 229) (i := 0) hX dX6_call_229 rfl rfl ?_
        refine V_getr (pc := 230) hX fX6_60 dX6_call_230 rfl rfl ?_
        refine V_iload (pc := 233) (i := 4) hX dX6_call_233 rfl ?_
        refine V_iald (pc := 235) hX dX6_call_235 (rfl) (rfl) (by omega) (by decide) ?_
        rw [r68]
        refine V_iconst (pc := 236) (v := (nI 1)) hX dX6_call_236 (by decide +kernel) ?_
        refine V_iadd (pc := 237) hX dX6_call_237 ?_
        refine V_aload_n (pc := 238) (i := 0) hX dX6_call_238 rfl rfl ?_
        refine V_getr (pc := 239) hX fX6_60 dX6_call_239 rfl rfl ?_
        refine V_iload_n (pc := 242) (i := 3) hX dX6_call_242 rfl rfl ?_
        refine V_iald (pc := 243) hX dX6_call_243 (rfl) (rfl) (by omega) (by decide) ?_
        rw [r68]
        refine V_icmp_ge (pc := 244) (tgt := 272) hX dX6_call_244 (by decide) (fun h244 => k272 h133 _ hz6 (by rw [stF, if_pos h1, if_neg (fun q => q.elim h204 (fun q => q.elim h215 (fun q => Int32.not_le.mpr q.2 h244)))])) (fun h244 => ?_)
        exact k247 h133 h1 (Or.inr (Or.inr ⟨h226, Int32.not_le.mp h244⟩))
termination_by n - c
set_option maxRecDepth 100000 in
set_option maxHeartbeats 4000000 in
theorem l_mcallB {n a : Nat} {x : Sw} {X : XC} {P : Option Value → Mem → Prop} {σ : Mem} (hX : Cok X RX6 cX6_call 7) (hR : Rok X 2) (hr : Ret X (some .int) P) (hn : σ 52 21 = nI n) (hn10 : n ≤ 10) (kk : ∀ z4 z5 z6, nol [z4, z5, z6] = true → Vw X 284 [some (.ref 52), some (.int (nI a)), some (.int (bI (swF (wy σ) (σ 52 25) n x n).2.2)), some (.int (nI n)), z4, z5, z6] [] (m2 σ (swF (wy σ) (σ 52 25) n x n))) (b : Nat) (hb : b ≤ n) (z4 z5 z6 : Option Value) (hz : nol [z4, z5, z6] = true) : Vw X 116 [some (.ref 52), some (.int (nI a)), some (.int (bI (swF (wy σ) (σ 52 25) n x b).2.2)), some (.int (nI b)), z4, z5, z6] [] (m2 σ (swF (wy σ) (σ 52 25) n x b)) := by
  have r52 : ∀ y, m2 σ y 52 = σ 52 := fun y => m2_r (by decide) (by decide)
  have hz5 : nol [z5, z6] = true := by
    cases z4 with
    | none => exact hz
    | some v => cases v <;> first | exact hz | (simp [nol] at hz)
  have ih := fun (h : b < n) (z4 z5 z6 : Option Value) (hz : nol [z4, z5, z6] = true) => l_mcallB hX hR hr hn hn10 kk (b + 1) h z4 z5 z6 hz
  refine V_iload_n (pc := 116) (i := 3) hX dX6_call_116 rfl rfl ?_
  refine V_aload_n (pc := 117) (i := 0) hX dX6_call_117 rfl rfl ?_
  refine V_getf (pc := 118) hX fX6_166 dX6_call_118 rfl rfl ?_
  rw [r52, hn]
  refine V_icmp_geN (pc := 121) (tgt := 287 - 3) hX dX6_call_121 (by decide) (by omega) (by omega) (fun h121 => ?_) (fun h121 => ?_)
  · obtain rfl : b = n := by omega
    exact kk z4 z5 z6 hz
  · refine V_iconst (pc := 124) (v := (nI 0)) hX dX6_call_124 (by decide +kernel) ?_
    refine V_istore4 (pc := 125) hX dX6_call_125 hz ?_
    cases hon : bt (σ 52 25) b with
    | true =>
      have ihk := ih h121 (some (.int (nI 0))) z5 z6 hz5
      rw [swF, if_pos hon] at ihk
      refine V_iload (pc := 127) (i := 4) hX dX6_call_127 rfl ?_
      refine V_aload_n (pc := 129) (i := 0) hX dX6_call_129 rfl rfl ?_
      refine V_getf (pc := 130) hX fX6_166 dX6_call_130 rfl rfl ?_
      rw [r52, hn]
      refine V_icmp_geN (pc := 133) (tgt := 278) hX dX6_call_133 (by decide) (by omega) (by omega) (fun h133 => absurd h133 (by omega)) (fun _ => ?_)
      refine V_aload_n (pc := 136) (i := 0) hX dX6_call_136 rfl rfl ?_
      refine V_getf (pc := 137) hX fX6_175 dX6_call_137 rfl rfl ?_
      rw [r52]
      refine V_iload_n (pc := 140) (i := 3) hX dX6_call_140 rfl rfl ?_
      refine V_ishr (pc := 141) hX dX6_call_141 ?_
      refine V_iconst (pc := 142) (v := (nI 1)) hX dX6_call_142 (by decide +kernel) ?_
      refine V_iand (pc := 143) hX dX6_call_143 ?_
      refine V_if_neS (pc := 144) (tgt := 278) hX dX6_call_144 (by decide) (by omega) (fun _ => ?_) (fun h => absurd (h.symm.trans hon) (by decide))
      refine V_iinc3 (pc := 278) hX dX6_call_278 hz5 (iinc1 _) ?_
      refine V_goto (pc := 281) (tgt := 116) hX dX6_call_281 (by decide) ?_
      exact ihk
    | false =>
      refine l_mcallC (x := swF (wy σ) (σ 52 25) n x b) hX hR hr hn hn10 h121 hon (fun z5 z6 hz => ?_) 0 (Nat.zero_le _) z5 z6 hz5
      have ihk := ih h121 (some (.int (nI n))) z5 z6 hz
      rw [swF, hon, if_neg (by decide)] at ihk
      refine V_iinc3 (pc := 278) hX dX6_call_278 hz (iinc1 _) ?_
      refine V_goto (pc := 281) (tgt := 116) hX dX6_call_281 (by decide) ?_
      exact ihk
termination_by n - b
set_option maxRecDepth 100000 in
set_option maxHeartbeats 4000000 in
theorem l_mcallW {n a R : Nat} {x : Sw} {X : XC} {P : Option Value → Mem → Prop} {σ : Mem} (hX : Cok X RX6 cX6_call 7) (hR : Rok X 2) (hr : Ret X (some .int) P) (hn : σ 52 21 = nI n) (hn10 : n ≤ 10) (h1 : ∀ r, r < R → (rdF (wy σ) (σ 52 25) n x r).2.2 = true) (h2 : (rdF (wy σ) (σ 52 25) n x R).2.2 = false) (kk : ∀ z3 z4 z5 z6, nol [z3, z4, z5, z6] = true → Vw X 287 [some (.ref 52), some (.int (nI a)), some (.int (bI false)), z3, z4, z5, z6] [] (m2 σ (rdF (wy σ) (σ 52 25) n x R))) (r : Nat) (hrR : r ≤ R) (z3 z4 z5 z6 : Option Value) (hz : nol [z3, z4, z5, z6] = true) : Vw X 108 [some (.ref 52), some (.int (nI a)), some (.int (bI (rdF (wy σ) (σ 52 25) n x r).2.2)), z3, z4, z5, z6] [] (m2 σ (rdF (wy σ) (σ 52 25) n x r)) := by
  have hz4 : nol [z4, z5, z6] = true := by
    cases z3 with
    | none => exact hz
    | some v => cases v <;> first | exact hz | (simp [nol] at hz)
  refine V_iload_n (pc := 108) (i := 2) hX dX6_call_108 rfl rfl ?_
  refine V_if_eqB (pc := 109) (tgt := 287) hX dX6_call_109 (by decide) (fun h109 => ?_) (fun h109 => ?_)
  · have e : r = R := by
      rcases Nat.lt_or_ge r R with q | q
      · exact absurd (h109.symm.trans (h1 r q)) (by decide)
      · omega
    subst e
    rw [h2]
    exact kk z3 z4 z5 z6 hz
  · have hlt : r < R := by
      rcases Nat.lt_or_ge r R with q | q
      · exact q
      · obtain rfl : r = R := by omega
        exact absurd (h109.symm.trans h2) (by decide)
    refine V_iconst (pc := 112) (v := (nI 0)) hX dX6_call_112 (by decide +kernel) ?_
    refine V_istore2 (pc := 113) hX dX6_call_113 hz ?_
    refine V_iconst (pc := 114) (v := (nI 0)) hX dX6_call_114 (by decide +kernel) ?_
    refine V_istore3 (pc := 115) hX dX6_call_115 hz ?_
    refine l_mcallB (x := ((rdF (wy σ) (σ 52 25) n x r).1, (rdF (wy σ) (σ 52 25) n x r).2.1, false)) hX hR hr hn hn10 (fun z4 z5 z6 hz => ?_) 0 (Nat.zero_le _) z4 z5 z6 hz4
    refine V_goto (pc := 284) (tgt := 108) hX dX6_call_284 (by decide) ?_
    exact l_mcallW hX hR hr hn hn10 h1 h2 kk (r + 1) hlt _ z4 z5 z6 hz
termination_by R - r
def ifF (on : Int32) (o : Nat → Int32) : Nat → Nat → Int32
  | 0 => o
  | k + 1 => upd (ifF on o k) k (if bt on k then nI 0 else (-1000000))
set_option maxRecDepth 100000 in
set_option maxHeartbeats 4000000 in
theorem l_mcallI {n a : Nat} {X : XC} {P : Option Value → Mem → Prop} {σ : Mem} (hX : Cok X RX6 cX6_call 7) (hR : Rok X 2) (hr : Ret X (some .int) P) (hn : σ 52 21 = nI n) (hn10 : n ≤ 10) (kk : Vw X 106 [some (.ref 52), some (.int (nI a)), some (.int (nI n)), none, none, none, none] [] (m2 σ (ifF (σ 52 25) (σ 67) n, clrf (σ 68) n, true))) (k : Nat) (hk : k ≤ n) : Vw X 61 [some (.ref 52), some (.int (nI a)), some (.int (nI k)), none, none, none, none] [] (m2 σ (ifF (σ 52 25) (σ 67) k, clrf (σ 68) k, true)) := by
  have r52 : ∀ y, m2 σ y 52 = σ 52 := fun y => m2_r (by decide) (by decide)
  refine V_iload_n (pc := 61) (i := 2) hX dX6_call_61 rfl rfl ?_
  refine V_aload_n (pc := 62) (i := 0) hX dX6_call_62 rfl rfl ?_
  refine V_getf (pc := 63) hX fX6_166 dX6_call_63 rfl rfl ?_
  rw [r52, hn]
  refine V_icmp_geN (pc := 66) (tgt := 106) hX dX6_call_66 (by decide) (by omega) (by omega) (fun h66 => ?_) (fun h66 => ?_)
  · obtain rfl : k = n := by omega
    exact kk
  · refine V_aload_n (pc := 69) (i := 0) hX dX6_call_69 rfl rfl ?_
    refine V_getr (pc := 70) hX fX6_57 dX6_call_70 rfl rfl ?_
    refine V_iload_n (pc := 73) (i := 2) hX dX6_call_73 rfl rfl ?_
    refine V_aload_n (pc := 74) (i := 0) hX dX6_call_74 rfl rfl ?_
    refine V_getf (pc := 75) hX fX6_175 dX6_call_75 rfl rfl ?_
    refine V_iload_n (pc := 78) (i := 2) hX dX6_call_78 rfl rfl ?_
    refine V_ishr (pc := 79) hX dX6_call_79 ?_
    refine V_iconst (pc := 80) (v := (nI 1)) hX dX6_call_80 (by decide +kernel) ?_
    refine V_iand (pc := 81) hX dX6_call_81 ?_
    refine V_iconst (pc := 82) (v := (nI 1)) hX dX6_call_82 (by decide +kernel) ?_
    rw [r52]
    refine V_icmp_neS (pc := 83) (tgt := 90) hX dX6_call_83 (by decide) (by omega) (fun h83 => ?_) (fun h83 => ?_)
    · refine V_ldc (pc := 90) hX kX6_126 dX6_call_90 ?_
      refine V_iast (pc := 92) hX dX6_call_92 (rfl) (rfl) (by omega) (by decide) ?_
      refine V_aload_n (pc := 93) (i := 0) hX dX6_call_93 rfl rfl ?_
      refine V_getr (pc := 94) hX fX6_60 dX6_call_94 rfl rfl ?_
      refine V_iload_n (pc := 97) (i := 2) hX dX6_call_97 rfl rfl ?_
      refine V_iconst (pc := 98) (v := (nI 0)) hX dX6_call_98 (by decide +kernel) ?_
      refine V_iast (pc := 99) hX dX6_call_99 (rfl) (rfl) (by omega) (by decide) ?_
      refine V_iinc2 (pc := 100) hX dX6_call_100 rfl (iinc1 _) ?_
      refine V_goto (pc := 103) (tgt := 61) hX dX6_call_103 (by decide) ?_
      have ih := l_mcallI hX hR hr hn hn10 kk (k + 1) (by omega)
      rw [ifF, if_neg (fun q => absurd (h83.symm.trans q) (by decide))] at ih
      rw [m2_mu (m' := true), clrf_s]
      exact ih
    · refine V_iconst (pc := 86) (v := (nI 0)) hX dX6_call_86 (by decide +kernel) ?_
      refine V_goto (pc := 87) (tgt := 92) hX dX6_call_87 (by decide) ?_
      refine V_iast (pc := 92) hX dX6_call_92 (rfl) (rfl) (by omega) (by decide) ?_
      refine V_aload_n (pc := 93) (i := 0) hX dX6_call_93 rfl rfl ?_
      refine V_getr (pc := 94) hX fX6_60 dX6_call_94 rfl rfl ?_
      refine V_iload_n (pc := 97) (i := 2) hX dX6_call_97 rfl rfl ?_
      refine V_iconst (pc := 98) (v := (nI 0)) hX dX6_call_98 (by decide +kernel) ?_
      refine V_iast (pc := 99) hX dX6_call_99 (rfl) (rfl) (by omega) (by decide) ?_
      refine V_iinc2 (pc := 100) hX dX6_call_100 rfl (iinc1 _) ?_
      refine V_goto (pc := 103) (tgt := 61) hX dX6_call_103 (by decide) ?_
      have ih := l_mcallI hX hR hr hn hn10 kk (k + 1) (by omega)
      rw [ifF, if_pos h83] at ih
      rw [m2_mu (m' := true), clrf_s]
      exact ih
termination_by n - k
/-- the next on the path: of the last m sites looked at (from the top), the least that fits -/
def nxF (w : Nat → Nat → Int32) (f s : Nat → Int32) (n b : Nat) : Nat → Int32
  | 0 => (-1000000)
  | m + 1 => if 0 < w b (n - 1 - m) ∧ ¬ f (n - 1 - m) = (-1000000) ∧ f (n - 1 - m) + w b (n - 1 - m) = f b ∧ s (n - 1 - m) + nI 1 = s b then nI (n - 1 - m) else nxF w f s n b m
set_option maxRecDepth 100000 in
set_option maxHeartbeats 4000000 in
theorem l_mcallN {n a b : Nat} {u : Int32} {X : XC} {P : Option Value → Mem → Prop} {σ : Mem} (hX : Cok X RX6 cX6_call 7) (hR : Rok X 2) (hr : Ret X (some .int) P) (hn : σ 52 21 = nI n) (hn10 : n ≤ 10) (hb : b < n) (kk : ∀ z6, nol [z6] = true → Vw X 445 [some (.ref 52), some (.int (nI a)), some (.int (bI false)), some (.int u), some (.int (nI b)), some (.int (nxF (wy σ) (σ 67) (σ 68) n b n)), z6] [] σ) (m : Nat) (hm : m < n) : Vw X 347 [some (.ref 52), some (.int (nI a)), some (.int (bI false)), some (.int u), some (.int (nI b)), some (.int (nxF (wy σ) (σ 67) (σ 68) n b m)), some (.int (nI (n - 1 - m)))] [] σ := by
  have k439 : nxF (wy σ) (σ 67) (σ 68) n b (m + 1) = nxF (wy σ) (σ 67) (σ 68) n b (m + 1) → Vw X 439 [some (.ref 52), some (.int (nI a)), some (.int (bI false)), some (.int u), some (.int (nI b)), some (.int (nxF (wy σ) (σ 67) (σ 68) n b (m + 1))), some (.int (nI (n - 1 - m)))] [] σ := by
    intro _
    rcases Nat.lt_or_ge (m + 1) n with h | h
    · have ih := l_mcallN (u := u) hX hR hr hn hn10 hb kk (m + 1) h
      refine V_iinc6 (pc := 439) (v := nI (n - 1 - (m + 1))) hX dX6_call_439 rfl (by rw [show n - 1 - m = (n - 1 - (m + 1)) + 1 by omega]; exact iincm1 _) ?_
      refine V_goto (pc := 442) (tgt := 347) hX dX6_call_442 (by decide) ?_
      exact ih
    · obtain rfl : n = m + 1 := by omega
      refine V_iinc6 (pc := 439) (v := (-1)) hX dX6_call_439 rfl (by rw [show m + 1 - 1 - m = 0 by omega]; decide +kernel) ?_
      refine V_goto (pc := 442) (tgt := 347) hX dX6_call_442 (by decide) ?_
      refine V_iload (pc := 347) (i := 6) hX dX6_call_347 rfl ?_
      refine V_if_lt (pc := 349) (tgt := 445) hX dX6_call_349 (by decide) (fun _ => ?_) (fun h => absurd (by decide +kernel) h)
      exact kk _ rfl
  refine V_iload (pc := 347) (i := 6) hX dX6_call_347 rfl ?_
  refine V_if_lt (pc := 349) (tgt := 445) hX dX6_call_349 (by decide) (fun h349 => absurd h349 (nI_pos (by omega))) (fun h349 => ?_)
  refine V_aload_n (pc := 352) (i := 0) hX dX6_call_352 rfl rfl ?_
  refine V_getr (pc := 353) hX fX6_51 dX6_call_353 rfl rfl ?_
  refine V_bipush (pc := 356) (v := (nI 10)) hX dX6_call_356 (by decide +kernel) ?_
  refine V_iload (pc := 358) (i := 4) hX dX6_call_358 rfl ?_
  refine V_imul (pc := 360) hX dX6_call_360 ?_
  refine V_iload (pc := 361) (i := 6) hX dX6_call_361 rfl ?_
  refine V_iadd (pc := 363) hX dX6_call_363 ?_
  refine V_iald (pc := 364) hX dX6_call_364 (rfl) (show _ = nI (10 * b + (n - 1 - m)) by rw [pk_mul, nI_add]) (by omega) (by decide) ?_
  rw [show σ 65 (10 * b + (n - 1 - m)) = wy σ b (n - 1 - m) from rfl]
  refine V_if_le (pc := 365) (tgt := 435) hX dX6_call_365 (by decide) (fun h365 => ?_) (fun h365 => ?_)
  · refine V_iload (pc := 435) (i := 5) hX dX6_call_435 rfl ?_
    refine V_istore5 (pc := 437) hX dX6_call_437 rfl ?_
    have h := k439 rfl
    rw [nxF, if_neg (fun q => Int32.not_le.mpr q.1 h365)] at h
    exact h
  · refine V_aload_n (pc := 368) (i := 0) hX dX6_call_368 rfl rfl ?_
    refine V_getr (pc := 369) hX fX6_57 dX6_call_369 rfl rfl ?_
    refine V_iload (pc := 372) (i := 6) hX dX6_call_372 rfl ?_
    refine V_iald (pc := 374) hX dX6_call_374 (rfl) (rfl) (by omega) (by decide) ?_
    refine V_ldc (pc := 375) hX kX6_126 dX6_call_375 ?_
    refine V_icmp_eq (pc := 377) (tgt := 435) hX dX6_call_377 (by decide) (fun h377 => ?_) (fun h377 => ?_)
    · refine V_iload (pc := 435) (i := 5) hX dX6_call_435 rfl ?_
      refine V_istore5 (pc := 437) hX dX6_call_437 rfl ?_
      have h := k439 rfl
      rw [nxF, if_neg (fun q => q.2.1 h377)] at h
      exact h
    · refine V_aload_n (pc := 380) (i := 0) hX dX6_call_380 rfl rfl ?_
      refine V_getr (pc := 381) hX fX6_57 dX6_call_381 rfl rfl ?_
      refine V_iload (pc := 384) (i := 6) hX dX6_call_384 rfl ?_
      refine V_iald (pc := 386) hX dX6_call_386 (rfl) (rfl) (by omega) (by decide) ?_
      refine V_aload_n (pc := 387) (i := 0) hX dX6_call_387 rfl rfl ?_
      refine V_getr (pc := 388) hX fX6_51 dX6_call_388 rfl rfl ?_
      refine V_bipush (pc := 391) (v := (nI 10)) hX dX6_call_391 (by decide +kernel) ?_
      refine V_iload (pc := 393) (i := 4) hX dX6_call_393 rfl ?_
      refine V_imul (pc := 395) hX dX6_call_395 ?_
      refine V_iload (pc := 396) (i := 6) hX dX6_call_396 rfl ?_
      refine V_iadd (pc := 398) hX dX6_call_398 ?_
      refine V_iald (pc := 399) hX dX6_call_399 (rfl) (show _ = nI (10 * b + (n - 1 - m)) by rw [pk_mul, nI_add]) (by omega) (by decide) ?_
      rw [show σ 65 (10 * b + (n - 1 - m)) = wy σ b (n - 1 - m) from rfl]
      refine V_iadd (pc := 400) hX dX6_call_400 ?_
      refine V_aload_n (pc := 401) (i := 0) hX dX6_call_401 rfl rfl ?_
      refine V_getr (pc := 402) hX fX6_57 dX6_call_402 rfl rfl ?_
      refine V_iload (pc := 405) (i := 4) hX dX6_call_405 rfl ?_
      refine V_iald (pc := 407) hX dX6_call_407 (rfl) (rfl) (by omega) (by decide) ?_
      refine V_icmp_ne (pc := 408) (tgt := 435) hX dX6_call_408 (by decide) (fun h408 => ?_) (fun h408 => ?_)
      · refine V_iload (pc := 435) (i := 5) hX dX6_call_435 rfl ?_
        refine V_istore5 (pc := 437) hX dX6_call_437 rfl ?_
        have h := k439 rfl
        rw [nxF, if_neg (fun q => h408 q.2.2.1)] at h
        exact h
      · refine V_aload_n (pc := 411) (i := 0) hX dX6_call_411 rfl rfl ?_
        refine V_getr (pc := 412) hX fX6_60 dX6_call_412 rfl rfl ?_
        refine V_iload (pc := 415) (i := 6) hX dX6_call_415 rfl ?_
        refine V_iald (pc := 417) hX dX6_call_417 (rfl) (rfl) (by omega) (by decide) ?_
        refine V_iconst (pc := 418) (v := (nI 1)) hX dX6_call_418 (by decide +kernel) ?_
        refine V_iadd (pc := 419) hX dX6_call_419 ?_
        refine V_aload_n (pc := 420) (i := 0) hX dX6_call_420 rfl rfl ?_
        refine V_getr (pc := 421) hX fX6_60 dX6_call_421 rfl rfl ?_
        refine V_iload (pc := 424) (i := 4) hX dX6_call_424 rfl ?_
        refine V_iald (pc := 426) hX dX6_call_426 (rfl) (rfl) (by omega) (by decide) ?_
        refine V_icmp_ne (pc := 427) (tgt := 435) hX dX6_call_427 (by decide) (fun h427 => ?_) (fun h427 => ?_)
        · refine V_iload (pc := 435) (i := 5) hX dX6_call_435 rfl ?_
          refine V_istore5 (pc := 437) hX dX6_call_437 rfl ?_
          have h := k439 rfl
          rw [nxF, if_neg (fun q => h427 q.2.2.2)] at h
          exact h
        · refine V_iload (pc := 430) (i := 6) hX dX6_call_430 rfl ?_
          refine V_goto (pc := 432) (tgt := 437) hX dX6_call_432 (by decide) ?_
          refine V_istore5 (pc := 437) hX dX6_call_437 rfl ?_
          have h := k439 rfl
          rw [nxF, if_pos ⟨Int32.not_le.mp h365, h377, h408, h427⟩] at h
          exact h
termination_by n - m
/-- the memory behind k steps of the path pb -/
def pmF (pb : Nat → Nat) (τ : Mem) : Nat → Mem
  | 0 => τ
  | k + 1 => mu (mu (mu (pmF pb τ k) 66 (10 * pb k + pb (k + 1)) (nI 1)) 66 (10 * pb (k + 1) + pb k) (nI 1)) 52 25 (pmF pb τ k 52 25 ||| sh1 (pb k))
theorem pmF_r {pb : Nat → Nat} {τ : Mem} {q : Nat} (h : q ≠ 52) (h2 : q ≠ 66) : ∀ k, pmF pb τ k q = τ q
  | 0 => rfl
  | k + 1 => by rw [pmF, ← mu_ne h, ← mu_ne h2, ← mu_ne h2, pmF_r h h2 k]
theorem pmF_c {pb : Nat → Nat} {τ : Mem} {j : Nat} (h : j ≠ 25) : ∀ k, pmF pb τ k 52 j = τ 52 j
  | 0 => rfl
  | k + 1 => by rw [pmF, mu_ni h, mu_np (by decide), mu_np (by decide), pmF_c h k]
set_option maxRecDepth 100000 in
set_option maxHeartbeats 4000000 in
theorem l_mcallP {n a K : Nat} {pb : Nat → Nat} {u : Int32} {X : XC} {P : Option Value → Mem → Prop} {σ : Mem} (hX : Cok X RX6 cX6_call 7) (hR : Rok X 2) (hr : Ret X (some .int) P) (hn : σ 52 21 = nI n) (hn10 : n ≤ 10) (hpb : ∀ k, k ≤ K → pb k < n) (h1 : ∀ k, k < K → bt (pmF pb σ k 52 25) (pb k) = false ∧ nxF (wy σ) (σ 67) (σ 68) n (pb k) n = nI (pb (k + 1))) (h2 : bt (pmF pb σ K 52 25) (pb K) = true) (kk : ∀ z4 z5 z6, nol [z4, z5, z6] = true → Vw X 493 [some (.ref 52), some (.int (nI a)), some (.int (bI false)), some (.int u), z4, z5, z6] [] (pmF pb σ K)) (k : Nat) (hk : k ≤ K) (z5 z6 : Option Value) (hz : nol [z5, z6] = true) : Vw X 323 [some (.ref 52), some (.int (nI a)), some (.int (bI false)), some (.int u), some (.int (nI (pb k))), z5, z6] [] (pmF pb σ k) := by
  have hpk := hpb k hk
  have r21 : pmF pb σ k 52 21 = nI n := by rw [pmF_c (by decide)]; exact hn
  have r65 : wy (pmF pb σ k) = wy σ := by
    funext i j
    unfold wy
    rw [pmF_r (by decide) (by decide)]
  have r67 : pmF pb σ k 67 = σ 67 := pmF_r (by decide) (by decide) k
  have r68 : pmF pb σ k 68 = σ 68 := pmF_r (by decide) (by decide) k
  refine V_aload_n (pc := 323) (i := 0) hX dX6_call_323 rfl rfl ?_
  refine V_getf (pc := 324) hX fX6_175 dX6_call_324 rfl rfl ?_
  refine V_iload (pc := 327) (i := 4) hX dX6_call_327 rfl ?_
  refine V_ishr (pc := 329) hX dX6_call_329 ?_
  refine V_iconst (pc := 330) (v := (nI 1)) hX dX6_call_330 (by decide +kernel) ?_
  refine V_iand (pc := 331) hX dX6_call_331 ?_
  refine V_if_neS (pc := 332) (tgt := 493) hX dX6_call_332 (by decide) (by omega) (fun h332 => ?_) (fun h332 => ?_)
  · have e : k = K := by
      rcases Nat.lt_or_ge k K with q | q
      · exact absurd ((h1 k q).1.symm.trans h332) (by decide)
      · omega
    subst e
    exact kk (some (.int (nI (pb k)))) z5 z6 hz
  · have hlt : k < K := by
      rcases Nat.lt_or_ge k K with q | q
      · exact q
      · obtain rfl : k = K := by omega
        exact absurd (h332.symm.trans h2) (by decide)
    have hz6 : nol [z6] = true := by
      cases z5 with
      | none => exact hz
      | some v => cases v <;> first | exact hz | (simp [nol] at hz)
    have hp1 := hpb (k + 1) hlt
    have ih := fun (z5 z6 : Option Value) (hz : nol [z5, z6] = true) => l_mcallP hX hR hr hn hn10 hpb h1 h2 kk (k + 1) hlt z5 z6 hz
    have k445 : ∀ z6, nol [z6] = true → Vw X 445 [some (.ref 52), some (.int (nI a)), some (.int (bI false)), some (.int u), some (.int (nI (pb k))), some (.int (nxF (wy (pmF pb σ k)) (pmF pb σ k 67) (pmF pb σ k 68) n (pb k) n)), z6] [] (pmF pb σ k) := by
      intro z6 hz6
      rw [r65, r67, r68, (h1 k hlt).2]
      have ihk := ih (some (.int (nI (pb (k + 1))))) z6 hz6
      refine V_aload_n (pc := 445) (i := 0) hX dX6_call_445 rfl rfl ?_
      refine V_getr (pc := 446) hX fX6_54 dX6_call_446 rfl rfl ?_
      refine V_bipush (pc := 449) (v := (nI 10)) hX dX6_call_449 (by decide +kernel) ?_
      refine V_iload (pc := 451) (i := 4) hX dX6_call_451 rfl ?_
      refine V_imul (pc := 453) hX dX6_call_453 ?_
      refine V_iload (pc := 454) (i := 5) hX dX6_call_454 rfl ?_
      refine V_iadd (pc := 456) hX dX6_call_456 ?_
      refine V_iconst (pc := 457) (v := (nI 1)) hX dX6_call_457 (by decide +kernel) ?_
      refine V_zast (pc := 458) hX dX6_call_458 (rfl) (show _ = nI (10 * pb k + pb (k + 1)) by rw [pk_mul, nI_add]) (by omega) (by decide) (by decide +kernel) ?_
      refine V_aload_n (pc := 459) (i := 0) hX dX6_call_459 rfl rfl ?_
      refine V_getr (pc := 460) hX fX6_54 dX6_call_460 rfl rfl ?_
      refine V_bipush (pc := 463) (v := (nI 10)) hX dX6_call_463 (by decide +kernel) ?_
      refine V_iload (pc := 465) (i := 5) hX dX6_call_465 rfl ?_
      refine V_imul (pc := 467) hX dX6_call_467 ?_
      refine V_iload (pc := 468) (i := 4) hX dX6_call_468 rfl ?_
      refine V_iadd (pc := 470) hX dX6_call_470 ?_
      refine V_iconst (pc := 471) (v := (nI 1)) hX dX6_call_471 (by decide +kernel) ?_
      refine V_zast (pc := 472) hX dX6_call_472 (rfl) (show _ = nI (10 * pb (k + 1) + pb k) by rw [pk_mul, nI_add]) (by omega) (by decide) (by decide +kernel) ?_
      refine V_aload_n (pc := 473) (i := 0) hX dX6_call_473 rfl rfl ?_
      refine V_dup (pc := 474) hX dX6_call_474 rfl ?_
      refine V_getf (pc := 475) hX fX6_175 dX6_call_475 rfl rfl ?_
      refine V_iconst (pc := 478) (v := (nI 1)) hX dX6_call_478 (by decide +kernel) ?_
      refine V_iload (pc := 479) (i := 4) hX dX6_call_479 rfl ?_
      refine V_ishl (pc := 481) hX dX6_call_481 ?_
      refine V_ior (pc := 482) hX dX6_call_482 ?_
      rw [mu_np (by decide), mu_np (by decide)]
      refine V_putf (pc := 483) hX fX6_175 gi6_25 dX6_call_483 rfl rfl ?_
      refine V_iload (pc := 486) (i := 5) hX dX6_call_486 rfl ?_
      refine V_istore4 (pc := 488) hX dX6_call_488 hz6 ?_
      refine V_goto (pc := 490) (tgt := 323) hX dX6_call_490 (by decide) ?_
      exact ihk
    refine V_ldc (pc := 335) hX kX6_126 dX6_call_335 ?_
    refine V_istore5 (pc := 337) hX dX6_call_337 hz ?_
    refine V_aload_n (pc := 339) (i := 0) hX dX6_call_339 rfl rfl ?_
    refine V_getf (pc := 340) hX fX6_166 dX6_call_340 rfl rfl ?_
    rw [r21]
    refine V_iconst (pc := 343) (v := (nI 1)) hX dX6_call_343 (by decide +kernel) ?_
    refine V_isub (pc := 344) hX dX6_call_344 ?_
    rw [pk_sub (by omega)]
    refine V_istore6 (pc := 345) hX dX6_call_345 hz6 ?_
    exact l_mcallN (u := u) hX hR hr r21 hn10 hpk k445 0 (by omega)
termination_by K - k
/-- the start of the looking, and its end -/
def c0F (σ : Mem) (n : Nat) : Sw := (ifF (σ 52 25) (σ 67) n, clrf (σ 68) n, true)
def cRF (σ : Mem) (n R : Nat) : Sw := rdF (wy σ) (σ 52 25) n (c0F σ n) R
def c1M (σ : Mem) (n R a : Nat) : Mem := mu (m2 σ (cRF σ n R)) 52 24 (σ 52 24 ||| sh1 a)
set_option maxRecDepth 100000 in
set_option maxHeartbeats 4000000 in
theorem c_mcallBad (n : Nat) (x : Int32) (σ : Mem) (hn : σ 52 21 = nI n) (hn10 : n ≤ 10) (hx : inr x n = false) : Cc yX6_call cX6_call 7 (some .int) 2 [.ref 52, .int x] σ (rI (-1000001) (m0 σ)) := by
  refine Cc.intro (by decide +kernel) [some (.ref 52), some (.int x), none, none, none, none, none] (fun _ => rfl) rfl (fun _ => Nat.le_of_ble_eq_true rfl) ?_
  intro X hX hR hr
  have a21 : m0 σ 52 21 = nI n := by rw [m0_c (by decide)]; exact hn
  refine V_aload_n (pc := 0) (i := 0) hX dX6_call_0 rfl rfl ?_
  refine V_iconst (pc := 1) (v := (nI 0)) hX dX6_call_1 (by decide +kernel) ?_
  refine V_putf (pc := 2) hX fX6_66 gi6_0 dX6_call_2 rfl rfl ?_
  refine Vw.mem (rfl : m0 σ = _) ?_
  refine V_aload_n (pc := 5) (i := 0) hX dX6_call_5 rfl rfl ?_
  refine V_iload_n (pc := 6) (i := 1) hX dX6_call_6 rfl rfl ?_
  refine V_callVi (pc := 7) hX (hR.mono (by omega)) mX6_169 (c_misSite n x _ a21 hn10) dX6_call_7 rfl rfl rfl rfl (Nat.le_of_ble_eq_true rfl) ?_
  refine V_if_neB (pc := 10) (tgt := 16) hX dX6_call_10 (by decide) (fun h10 => absurd h10 (by rw [hx]; decide)) (fun h10 => ?_)
  refine V_ldc (pc := 13) hX kX6_85 dX6_call_13 ?_
  exact V_iret (pc := 15) (st := []) hX hr (by first | rfl | exact bI_nar _ | decide +kernel) dX6_call_15 (⟨rfl, rfl⟩)
def mfirstM (σ : Mem) (a : Nat) : Mem := mu (mu σ 52 24 (sh1 a)) 52 25 (σ 52 25 ||| sh1 a)
set_option maxRecDepth 100000 in
set_option maxHeartbeats 4000000 in
theorem c_mcallS (n a : Nat) (σ : Mem) (hn : σ 52 21 = nI n) (hn10 : n ≤ 10) (ha : a < n) (hj : bt (σ 52 24) a = true) : Cc yX6_call cX6_call 7 (some .int) 2 [.ref 52, .int (nI a)] σ (rI (-1000002) (m0 σ)) := by
  refine Cc.intro (by decide +kernel) [some (.ref 52), some (.int (nI a)), none, none, none, none, none] (fun _ => rfl) rfl (fun _ => Nat.le_of_ble_eq_true rfl) ?_
  intro X hX hR hr
  have a21 : m0 σ 52 21 = nI n := by rw [m0_c (by decide)]; exact hn
  have a24 : m0 σ 52 24 = σ 52 24 := m0_c (by decide)
  refine V_aload_n (pc := 0) (i := 0) hX dX6_call_0 rfl rfl ?_
  refine V_iconst (pc := 1) (v := (nI 0)) hX dX6_call_1 (by decide +kernel) ?_
  refine V_putf (pc := 2) hX fX6_66 gi6_0 dX6_call_2 rfl rfl ?_
  refine Vw.mem (rfl : m0 σ = _) ?_
  refine V_aload_n (pc := 5) (i := 0) hX dX6_call_5 rfl rfl ?_
  refine V_iload_n (pc := 6) (i := 1) hX dX6_call_6 rfl rfl ?_
  refine V_callVi (pc := 7) hX (hR.mono (by omega)) mX6_169 (c_misSite n _ _ a21 hn10) dX6_call_7 rfl rfl rfl rfl (Nat.le_of_ble_eq_true rfl) ?_
  refine V_if_neB (pc := 10) (tgt := 16) hX dX6_call_10 (by decide) (fun h10 => ?_) (fun h10 => absurd h10 (by rw [inr_nI ha (by omega)]; decide))
  refine V_aload_n (pc := 16) (i := 0) hX dX6_call_16 rfl rfl ?_
  refine V_getf (pc := 17) hX fX6_172 dX6_call_17 rfl rfl ?_
  refine V_iload_n (pc := 20) (i := 1) hX dX6_call_20 rfl rfl ?_
  refine V_ishr (pc := 21) hX dX6_call_21 ?_
  refine V_iconst (pc := 22) (v := (nI 1)) hX dX6_call_22 (by decide +kernel) ?_
  refine V_iand (pc := 23) hX dX6_call_23 ?_
  refine V_iconst (pc := 24) (v := (nI 1)) hX dX6_call_24 (by decide +kernel) ?_
  rw [a24]
  refine V_icmp_neS (pc := 25) (tgt := 31) hX dX6_call_25 (by decide) (by omega) (fun h25 => absurd h25 (fun q => absurd (q.symm.trans hj) (by decide))) (fun h25 => ?_)
  refine V_ldc (pc := 28) hX kX6_103 dX6_call_28 ?_
  exact V_iret (pc := 30) (st := []) hX hr (by first | rfl | exact bI_nar _ | decide +kernel) dX6_call_30 (⟨rfl, rfl⟩)
set_option maxRecDepth 100000 in
set_option maxHeartbeats 4000000 in
theorem c_mcall1 (n a : Nat) (σ : Mem) (hn : σ 52 21 = nI n) (hn10 : n ≤ 10) (ha : a < n) (hj : σ 52 24 = 0) : Cc yX6_call cX6_call 7 (some .int) 2 [.ref 52, .int (nI a)] σ (rI (nI 0) (mfirstM (m0 σ) a)) := by
  refine Cc.intro (by decide +kernel) [some (.ref 52), some (.int (nI a)), none, none, none, none, none] (fun _ => rfl) rfl (fun _ => Nat.le_of_ble_eq_true rfl) ?_
  intro X hX hR hr
  have a21 : m0 σ 52 21 = nI n := by rw [m0_c (by decide)]; exact hn
  have a24 : m0 σ 52 24 = 0 := by rw [m0_c (by decide)]; exact hj
  refine V_aload_n (pc := 0) (i := 0) hX dX6_call_0 rfl rfl ?_
  refine V_iconst (pc := 1) (v := (nI 0)) hX dX6_call_1 (by decide +kernel) ?_
  refine V_putf (pc := 2) hX fX6_66 gi6_0 dX6_call_2 rfl rfl ?_
  refine Vw.mem (rfl : m0 σ = _) ?_
  refine V_aload_n (pc := 5) (i := 0) hX dX6_call_5 rfl rfl ?_
  refine V_iload_n (pc := 6) (i := 1) hX dX6_call_6 rfl rfl ?_
  refine V_callVi (pc := 7) hX (hR.mono (by omega)) mX6_169 (c_misSite n _ _ a21 hn10) dX6_call_7 rfl rfl rfl rfl (Nat.le_of_ble_eq_true rfl) ?_
  refine V_if_neB (pc := 10) (tgt := 16) hX dX6_call_10 (by decide) (fun h10 => ?_) (fun h10 => absurd h10 (by rw [inr_nI ha (by omega)]; decide))
  refine V_aload_n (pc := 16) (i := 0) hX dX6_call_16 rfl rfl ?_
  refine V_getf (pc := 17) hX fX6_172 dX6_call_17 rfl rfl ?_
  refine V_iload_n (pc := 20) (i := 1) hX dX6_call_20 rfl rfl ?_
  refine V_ishr (pc := 21) hX dX6_call_21 ?_
  refine V_iconst (pc := 22) (v := (nI 1)) hX dX6_call_22 (by decide +kernel) ?_
  refine V_iand (pc := 23) hX dX6_call_23 ?_
  refine V_iconst (pc := 24) (v := (nI 1)) hX dX6_call_24 (by decide +kernel) ?_
  rw [a24]
  refine V_icmp_neS (pc := 25) (tgt := 31) hX dX6_call_25 (by decide) (by omega) (fun h25 => ?_) (fun h25 => absurd h25 (by rw [b_0]; decide))
  refine V_aload_n (pc := 31) (i := 0) hX dX6_call_31 rfl rfl ?_
  refine V_getf (pc := 32) hX fX6_172 dX6_call_32 rfl rfl ?_
  rw [a24]
  refine V_if_ne (pc := 35) (tgt := 59) hX dX6_call_35 (by decide) (fun h35 => absurd h35 (by decide)) (fun h35 => ?_)
  refine V_aload_n (pc := 38) (i := 0) hX dX6_call_38 rfl rfl ?_
  refine V_iconst (pc := 39) (v := (nI 1)) hX dX6_call_39 (by decide +kernel) ?_
  refine V_iload_n (pc := 40) (i := 1) hX dX6_call_40 rfl rfl ?_
  refine V_ishl (pc := 41) hX dX6_call_41 ?_
  refine V_putf (pc := 42) hX fX6_172 gi6_24 dX6_call_42 rfl rfl ?_
  refine V_aload_n (pc := 45) (i := 0) hX dX6_call_45 rfl rfl ?_
  refine V_dup (pc := 46) hX dX6_call_46 rfl ?_
  refine V_getf (pc := 47) hX fX6_175 dX6_call_47 rfl rfl ?_
  refine V_iconst (pc := 50) (v := (nI 1)) hX dX6_call_50 (by decide +kernel) ?_
  refine V_iload_n (pc := 51) (i := 1) hX dX6_call_51 rfl rfl ?_
  refine V_ishl (pc := 52) hX dX6_call_52 ?_
  rw [mu_ni (by decide)]
  refine V_ior (pc := 53) hX dX6_call_53 ?_
  refine V_putf (pc := 54) hX fX6_175 gi6_25 dX6_call_54 rfl rfl ?_
  refine V_iconst (pc := 57) (v := (nI 0)) hX dX6_call_57 (by decide +kernel) ?_
  exact V_iret (pc := 58) (st := []) hX hr (by first | rfl | exact bI_nar _ | decide +kernel) dX6_call_58 (⟨rfl, rfl⟩)
set_option maxRecDepth 100000 in
set_option maxHeartbeats 4000000 in
theorem c_mcallN (n a R : Nat) (σ : Mem) (hn : σ 52 21 = nI n) (hn10 : n ≤ 10) (ha : a < n) (hj : bt (σ 52 24) a = false) (hj0 : ¬ σ 52 24 = 0) (h1 : ∀ r, r < R → (cRF (m0 σ) n r).2.2 = true) (h2 : (cRF (m0 σ) n R).2.2 = false) (h3 : (cRF (m0 σ) n R).1 a = (-1000000)) : Cc yX6_call cX6_call 7 (some .int) 2 [.ref 52, .int (nI a)] σ (rI (-1000000) (m2 (m0 σ) (cRF (m0 σ) n R))) := by
  refine Cc.intro (by decide +kernel) [some (.ref 52), some (.int (nI a)), none, none, none, none, none] (fun _ => rfl) rfl (fun _ => Nat.le_of_ble_eq_true rfl) ?_
  intro X hX hR hr
  have a21 : m0 σ 52 21 = nI n := by rw [m0_c (by decide)]; exact hn
  have a24 : m0 σ 52 24 = σ 52 24 := m0_c (by decide)
  refine V_aload_n (pc := 0) (i := 0) hX dX6_call_0 rfl rfl ?_
  refine V_iconst (pc := 1) (v := (nI 0)) hX dX6_call_1 (by decide +kernel) ?_
  refine V_putf (pc := 2) hX fX6_66 gi6_0 dX6_call_2 rfl rfl ?_
  refine Vw.mem (rfl : m0 σ = _) ?_
  refine V_aload_n (pc := 5) (i := 0) hX dX6_call_5 rfl rfl ?_
  refine V_iload_n (pc := 6) (i := 1) hX dX6_call_6 rfl rfl ?_
  refine V_callVi (pc := 7) hX (hR.mono (by omega)) mX6_169 (c_misSite n _ _ a21 hn10) dX6_call_7 rfl rfl rfl rfl (Nat.le_of_ble_eq_true rfl) ?_
  refine V_if_neB (pc := 10) (tgt := 16) hX dX6_call_10 (by decide) (fun h10 => ?_) (fun h10 => absurd h10 (by rw [inr_nI ha (by omega)]; decide))
  refine V_aload_n (pc := 16) (i := 0) hX dX6_call_16 rfl rfl ?_
  refine V_getf (pc := 17) hX fX6_172 dX6_call_17 rfl rfl ?_
  refine V_iload_n (pc := 20) (i := 1) hX dX6_call_20 rfl rfl ?_
  refine V_ishr (pc := 21) hX dX6_call_21 ?_
  refine V_iconst (pc := 22) (v := (nI 1)) hX dX6_call_22 (by decide +kernel) ?_
  refine V_iand (pc := 23) hX dX6_call_23 ?_
  refine V_iconst (pc := 24) (v := (nI 1)) hX dX6_call_24 (by decide +kernel) ?_
  rw [a24]
  refine V_icmp_neS (pc := 25) (tgt := 31) hX dX6_call_25 (by decide) (by omega) (fun h25 => ?_) (fun h25 => absurd h25 (by rw [hj]; decide))
  refine V_aload_n (pc := 31) (i := 0) hX dX6_call_31 rfl rfl ?_
  refine V_getf (pc := 32) hX fX6_172 dX6_call_32 rfl rfl ?_
  rw [a24]
  refine V_if_ne (pc := 35) (tgt := 59) hX dX6_call_35 (by decide) (fun h35 => ?_) (fun h35 => absurd h35 (hj0))
  refine V_iconst (pc := 59) (v := (nI 0)) hX dX6_call_59 (by decide +kernel) ?_
  refine V_istore2 (pc := 60) hX dX6_call_60 rfl ?_
  refine Vw.mem (show m2 (m0 σ) (ifF (m0 σ 52 25) (m0 σ 67) 0, clrf (m0 σ 68) 0, true) = _ by unfold m2; rw [clrf_0]; show mf (mf (m0 σ) 67 (m0 σ 67)) 68 (m0 σ 68) = m0 σ; rw [mf_id]; exact mf_id _ _) ?_
  refine l_mcallI hX hR hr a21 hn10 ?_ 0 (Nat.zero_le _)
  refine V_iconst (pc := 106) (v := (nI 1)) hX dX6_call_106 (by decide +kernel) ?_
  refine V_istore2 (pc := 107) hX dX6_call_107 rfl ?_
  refine l_mcallW (x := c0F (m0 σ) n) (R := R) hX hR hr a21 hn10 h1 h2 (fun z3 z4 z5 z6 hz => ?_) 0 (Nat.zero_le _) none none none none rfl
  refine V_aload_n (pc := 287) (i := 0) hX dX6_call_287 rfl rfl ?_
  refine V_getr (pc := 288) hX fX6_57 dX6_call_288 rfl rfl ?_
  refine V_iload_n (pc := 291) (i := 1) hX dX6_call_291 rfl rfl ?_
  refine V_iald (pc := 292) hX dX6_call_292 (rfl) (rfl) (by omega) (by decide) ?_
  refine V_ldc (pc := 293) hX kX6_126 dX6_call_293 ?_
  refine V_icmp_ne (pc := 295) (tgt := 301) hX dX6_call_295 (by decide) (fun h => absurd (by rw [m2_67]; exact h3) h) (fun _ => ?_)
  refine V_ldc (pc := 298) hX kX6_126 dX6_call_298 ?_
  exact V_iret (pc := 300) (st := []) hX hr rfl dX6_call_300 ⟨rfl, rfl⟩
set_option maxRecDepth 100000 in
set_option maxHeartbeats 4000000 in
theorem c_mcallG (n a R K : Nat) (pb : Nat → Nat) (σ : Mem) (hn : σ 52 21 = nI n) (hn10 : n ≤ 10) (ha : a < n) (hj : bt (σ 52 24) a = false) (hj0 : ¬ σ 52 24 = 0) (h1 : ∀ r, r < R → (cRF (m0 σ) n r).2.2 = true) (h2 : (cRF (m0 σ) n R).2.2 = false) (h3 : ¬ (cRF (m0 σ) n R).1 a = (-1000000)) (hp0 : pb 0 = a) (hpb : ∀ k, k ≤ K → pb k < n) (h4 : ∀ k, k < K → bt (pmF pb (c1M (m0 σ) n R a) k 52 25) (pb k) = false ∧ nxF (wy σ) (cRF (m0 σ) n R).1 (cRF (m0 σ) n R).2.1 n (pb k) n = nI (pb (k + 1))) (h5 : bt (pmF pb (c1M (m0 σ) n R a) K 52 25) (pb K) = true) : Cc yX6_call cX6_call 7 (some .int) 2 [.ref 52, .int (nI a)] σ (rI ((cRF (m0 σ) n R).1 a) (mu (pmF pb (c1M (m0 σ) n R a) K) 52 26 (σ 52 26 + (cRF (m0 σ) n R).1 a))) := by
  refine Cc.intro (by decide +kernel) [some (.ref 52), some (.int (nI a)), none, none, none, none, none] (fun _ => rfl) rfl (fun _ => Nat.le_of_ble_eq_true rfl) ?_
  intro X hX hR hr
  have a21 : m0 σ 52 21 = nI n := by rw [m0_c (by decide)]; exact hn
  have a24 : m0 σ 52 24 = σ 52 24 := m0_c (by decide)
  have c21 : c1M (m0 σ) n R a 52 21 = nI n := by unfold c1M; rw [mu_ni (by decide), m2_r (by decide) (by decide)]; exact a21
  have c65 : wy (c1M (m0 σ) n R a) = wy σ := by
    funext i j
    unfold wy c1M
    rw [mu_np (by decide), m2_r (by decide) (by decide), m0_r (by decide)]
  have c67 : c1M (m0 σ) n R a 67 = (cRF (m0 σ) n R).1 := by unfold c1M; rw [← mu_ne (by decide), m2_67]
  have c68 : c1M (m0 σ) n R a 68 = (cRF (m0 σ) n R).2.1 := by unfold c1M; rw [← mu_ne (by decide), m2_68]
  have c26 : pmF pb (c1M (m0 σ) n R a) K 52 26 = σ 52 26 := by
    rw [pmF_c (by decide)]
    unfold c1M
    rw [mu_ni (by decide), m2_r (by decide) (by decide), m0_c (by decide)]
  refine V_aload_n (pc := 0) (i := 0) hX dX6_call_0 rfl rfl ?_
  refine V_iconst (pc := 1) (v := (nI 0)) hX dX6_call_1 (by decide +kernel) ?_
  refine V_putf (pc := 2) hX fX6_66 gi6_0 dX6_call_2 rfl rfl ?_
  refine Vw.mem (rfl : m0 σ = _) ?_
  refine V_aload_n (pc := 5) (i := 0) hX dX6_call_5 rfl rfl ?_
  refine V_iload_n (pc := 6) (i := 1) hX dX6_call_6 rfl rfl ?_
  refine V_callVi (pc := 7) hX (hR.mono (by omega)) mX6_169 (c_misSite n _ _ a21 hn10) dX6_call_7 rfl rfl rfl rfl (Nat.le_of_ble_eq_true rfl) ?_
  refine V_if_neB (pc := 10) (tgt := 16) hX dX6_call_10 (by decide) (fun h10 => ?_) (fun h10 => absurd h10 (by rw [inr_nI ha (by omega)]; decide))
  refine V_aload_n (pc := 16) (i := 0) hX dX6_call_16 rfl rfl ?_
  refine V_getf (pc := 17) hX fX6_172 dX6_call_17 rfl rfl ?_
  refine V_iload_n (pc := 20) (i := 1) hX dX6_call_20 rfl rfl ?_
  refine V_ishr (pc := 21) hX dX6_call_21 ?_
  refine V_iconst (pc := 22) (v := (nI 1)) hX dX6_call_22 (by decide +kernel) ?_
  refine V_iand (pc := 23) hX dX6_call_23 ?_
  refine V_iconst (pc := 24) (v := (nI 1)) hX dX6_call_24 (by decide +kernel) ?_
  rw [a24]
  refine V_icmp_neS (pc := 25) (tgt := 31) hX dX6_call_25 (by decide) (by omega) (fun h25 => ?_) (fun h25 => absurd h25 (by rw [hj]; decide))
  refine V_aload_n (pc := 31) (i := 0) hX dX6_call_31 rfl rfl ?_
  refine V_getf (pc := 32) hX fX6_172 dX6_call_32 rfl rfl ?_
  rw [a24]
  refine V_if_ne (pc := 35) (tgt := 59) hX dX6_call_35 (by decide) (fun h35 => ?_) (fun h35 => absurd h35 (hj0))
  refine V_iconst (pc := 59) (v := (nI 0)) hX dX6_call_59 (by decide +kernel) ?_
  refine V_istore2 (pc := 60) hX dX6_call_60 rfl ?_
  refine Vw.mem (show m2 (m0 σ) (ifF (m0 σ 52 25) (m0 σ 67) 0, clrf (m0 σ 68) 0, true) = _ by unfold m2; rw [clrf_0]; show mf (mf (m0 σ) 67 (m0 σ 67)) 68 (m0 σ 68) = m0 σ; rw [mf_id]; exact mf_id _ _) ?_
  refine l_mcallI hX hR hr a21 hn10 ?_ 0 (Nat.zero_le _)
  refine V_iconst (pc := 106) (v := (nI 1)) hX dX6_call_106 (by decide +kernel) ?_
  refine V_istore2 (pc := 107) hX dX6_call_107 rfl ?_
  refine l_mcallW (x := c0F (m0 σ) n) (R := R) hX hR hr a21 hn10 h1 h2 (fun z3 z4 z5 z6 hz => ?_) 0 (Nat.zero_le _) none none none none rfl
  have hz4 : nol [z4, z5, z6] = true := by
    cases z3 with
    | none => exact hz
    | some v => cases v <;> first | exact hz | (simp [nol] at hz)
  have hz5 : nol [z5, z6] = true := by
    cases z4 with
    | none => exact hz4
    | some v => cases v <;> first | exact hz4 | (simp [nol] at hz4)
  refine V_aload_n (pc := 287) (i := 0) hX dX6_call_287 rfl rfl ?_
  refine V_getr (pc := 288) hX fX6_57 dX6_call_288 rfl rfl ?_
  refine V_iload_n (pc := 291) (i := 1) hX dX6_call_291 rfl rfl ?_
  refine V_iald (pc := 292) hX dX6_call_292 (rfl) (rfl) (by omega) (by decide) ?_
  refine V_ldc (pc := 293) hX kX6_126 dX6_call_293 ?_
  refine V_icmp_ne (pc := 295) (tgt := 301) hX dX6_call_295 (by decide) (fun _ => ?_) (fun h => absurd (by rw [m2_67] at h; exact h) h3)
  refine V_aload_n (pc := 301) (i := 0) hX dX6_call_301 rfl rfl ?_
  refine V_getr (pc := 302) hX fX6_57 dX6_call_302 rfl rfl ?_
  refine V_iload_n (pc := 305) (i := 1) hX dX6_call_305 rfl rfl ?_
  refine V_iald (pc := 306) hX dX6_call_306 (rfl) (rfl) (by omega) (by decide) ?_
  rw [m2_67]
  refine V_istore3 (pc := 307) hX dX6_call_307 hz ?_
  refine V_iload_n (pc := 308) (i := 1) hX dX6_call_308 rfl rfl ?_
  refine V_istore4 (pc := 309) hX dX6_call_309 hz4 ?_
  refine V_aload_n (pc := 311) (i := 0) hX dX6_call_311 rfl rfl ?_
  refine V_dup (pc := 312) hX dX6_call_312 rfl ?_
  refine V_getf (pc := 313) hX fX6_172 dX6_call_313 rfl rfl ?_
  rw [m2_r (by decide) (by decide)]
  refine V_iconst (pc := 316) (v := (nI 1)) hX dX6_call_316 (by decide +kernel) ?_
  refine V_iload_n (pc := 317) (i := 1) hX dX6_call_317 rfl rfl ?_
  refine V_ishl (pc := 318) hX dX6_call_318 ?_
  refine V_ior (pc := 319) hX dX6_call_319 ?_
  refine V_putf (pc := 320) hX fX6_172 gi6_24 dX6_call_320 rfl rfl ?_
  refine Vw.mem (rfl : c1M (m0 σ) n R a = _) ?_
  have hP := l_mcallP (u := (cRF (m0 σ) n R).1 a) (a := a) (σ := c1M (m0 σ) n R a) hX hR hr c21 hn10 hpb (by rw [c65, c67, c68]; exact h4) h5 (fun z4 z5 z6 hz => ?_) 0 (Nat.zero_le _) z5 z6 hz5
  · rw [hp0] at hP
    exact hP
  · refine V_aload_n (pc := 493) (i := 0) hX dX6_call_493 rfl rfl ?_
    refine V_dup (pc := 494) hX dX6_call_494 rfl ?_
    refine V_getf (pc := 495) hX fX6_178 dX6_call_495 rfl rfl ?_
    refine V_iload_n (pc := 498) (i := 3) hX dX6_call_498 rfl rfl ?_
    refine V_iadd (pc := 499) hX dX6_call_499 ?_
    refine V_putf (pc := 500) hX fX6_178 gi6_26 dX6_call_500 rfl rfl ?_
    refine V_iload_n (pc := 503) (i := 3) hX dX6_call_503 rfl rfl ?_
    exact V_iret (pc := 504) (st := []) hX hr rfl dX6_call_504 ⟨rfl, by rw [c26]⟩

