/-! ===== COVERS, ASKS and the rest, the reference's ===== -/
/-- how many of the first k sets share the demanded thing t -/
def shm (th : Nat → Int32) (dem : Int32) (t : Nat) : Nat → Nat
  | 0 => 0
  | k + 1 => if bt (th k) t && bt dem t then shm th dem t k + 1 else shm th dem t k
theorem shm_le (th : Nat → Int32) (dem : Int32) (t : Nat) : ∀ k, shm th dem t k ≤ k
  | 0 => Nat.le_refl _
  | k + 1 => by
    have := shm_le th dem t k
    unfold shm
    split <;> omega
theorem mx_le {v m : Int32} (h : m ≤ v) : imax v m = v := if_neg (Int32.not_lt.mpr h)
theorem mx_gt {v m : Int32} (h : ¬ m ≤ v) : imax v m = m := if_pos (Int32.not_le.mp h)
theorem nol_t1 {y z : Option Value} (h : nol [y, z] = true) : nol [z] = true := by
  cases y with
  | none => exact h
  | some v => cases v <;> first | exact h | (simp [nol] at h)
def mcv (w : Int32) (pr th : Nat → Int32) (dem : Int32) (n : Nat) : Nat → Int32
  | 0 => nI 0
  | t + 1 => if w = nI 1 then mcv w pr th dem n t + pr t else imax (mcv w pr th dem n t) (nI (shm th dem t n))
set_option maxRecDepth 100000 in
set_option maxHeartbeats 4000000 in
theorem l_mcv2 {n t : Nat} {w v : Int32} {X : XC} {P : Option Value → Mem → Prop} {σ : Mem} (hX : Cok X RX6 cX6_covers 6) (hR : Rok X 1) (hr : Ret X (some .int) P) (hn : σ 52 5 = nI n) (hn10 : n ≤ 10) (ht : t < 12)
    (kk : Vw X 83 [some (.ref 52), some (.int w), some (.int v), some (.int (nI t)), some (.int (nI (shm (σ 57) (σ 52 9) t n))), some (.int (nI n))] [] σ) (k : Nat) (hk : k ≤ n) :
    Vw X 36 [some (.ref 52), some (.int w), some (.int v), some (.int (nI t)), some (.int (nI (shm (σ 57) (σ 52 9) t k))), some (.int (nI k))] [] σ := by
  have ih := fun (h : k < n) => l_mcv2 hX hR hr hn hn10 ht kk (k + 1) h
  refine V_iload (pc := 36) (i := 5) hX dX6_covers_36 rfl ?_
  refine V_aload_n (pc := 38) (i := 0) hX dX6_covers_38 rfl rfl ?_
  refine V_getf (pc := 39) hX fX6_90 dX6_covers_39 rfl rfl ?_
  rw [hn]
  refine V_icmp_geN (pc := 42) (tgt := 83) hX dX6_covers_42 (by decide) (by omega) (by omega) (fun h42 => ?_) (fun h42 => ?_)
  · obtain rfl : k = n := by omega
    exact kk
  · refine V_iload (pc := 45) (i := 4) hX dX6_covers_45 rfl ?_
    refine V_aload_n (pc := 47) (i := 0) hX dX6_covers_47 rfl rfl ?_
    refine V_iload (pc := 48) (i := 5) hX dX6_covers_48 rfl ?_
    refine V_iload_n (pc := 50) (i := 3) hX dX6_covers_50 rfl rfl ?_
    refine V_callVi (pc := 51) hX (hR.mono (by omega)) mX6_108 (c_mhas k t _ (by omega) ht) dX6_covers_51 rfl rfl rfl rfl (Nat.le_of_ble_eq_true rfl) ?_
    refine V_if_eqB (pc := 54) (tgt := 73) hX dX6_covers_54 (by decide) (fun h54 => ?_) (fun h54 => ?_)
    · refine V_iconst (pc := 73) (v := (nI 0)) hX dX6_covers_73 (by decide +kernel) ?_
      refine V_iadd (pc := 74) hX dX6_covers_74 ?_
      refine V_istore4 (pc := 75) hX dX6_covers_75 rfl ?_
      refine V_iinc5 (pc := 77) hX dX6_covers_77 rfl (iinc1 _) ?_
      refine V_goto (pc := 80) (tgt := 36) hX dX6_covers_80 (by decide) ?_
      have ihk := ih h42
      rw [shm, h54, Bool.false_and, if_neg Bool.false_ne_true] at ihk
      rw [add0]
      exact ihk
    · refine V_aload_n (pc := 57) (i := 0) hX dX6_covers_57 rfl rfl ?_
      refine V_getf (pc := 58) hX fX6_100 dX6_covers_58 rfl rfl ?_
      refine V_iload_n (pc := 61) (i := 3) hX dX6_covers_61 rfl rfl ?_
      refine V_ishr (pc := 62) hX dX6_covers_62 ?_
      refine V_iconst (pc := 63) (v := (nI 1)) hX dX6_covers_63 (by decide +kernel) ?_
      refine V_iand (pc := 64) hX dX6_covers_64 ?_
      refine V_iconst (pc := 65) (v := (nI 1)) hX dX6_covers_65 (by decide +kernel) ?_
      refine V_icmp_neS (pc := 66) (tgt := 73) hX dX6_covers_66 (by decide) (by omega) (fun h66 => ?_) (fun h66 => ?_)
      · refine V_iconst (pc := 73) (v := (nI 0)) hX dX6_covers_73 (by decide +kernel) ?_
        refine V_iadd (pc := 74) hX dX6_covers_74 ?_
        refine V_istore4 (pc := 75) hX dX6_covers_75 rfl ?_
        refine V_iinc5 (pc := 77) hX dX6_covers_77 rfl (iinc1 _) ?_
        refine V_goto (pc := 80) (tgt := 36) hX dX6_covers_80 (by decide) ?_
        have ihk := ih h42
        rw [shm, h54, h66, Bool.and_false, if_neg Bool.false_ne_true] at ihk
        rw [add0]
        exact ihk
      · refine V_iconst (pc := 69) (v := (nI 1)) hX dX6_covers_69 (by decide +kernel) ?_
        refine V_goto (pc := 70) (tgt := 74) hX dX6_covers_70 (by decide) ?_
        refine V_iadd (pc := 74) hX dX6_covers_74 ?_
        refine V_istore4 (pc := 75) hX dX6_covers_75 rfl ?_
        refine V_iinc5 (pc := 77) hX dX6_covers_77 rfl (iinc1 _) ?_
        refine V_goto (pc := 80) (tgt := 36) hX dX6_covers_80 (by decide) ?_
        have ihk := ih h42
        rw [shm, h54, h66, Bool.and_true, if_pos rfl] at ihk
        rw [nI_add]
        exact ihk
termination_by n - k
set_option maxRecDepth 100000 in
set_option maxHeartbeats 4000000 in
theorem l_mcv1 {n : Nat} {w : Int32} {X : XC} {P : Option Value → Mem → Prop} {σ : Mem} (hX : Cok X RX6 cX6_covers 6) (hR : Rok X 1) (hr : Ret X (some .int) P) (hn : σ 52 5 = nI n) (hn10 : n ≤ 10)
    (kk : ∀ y z, Vw X 118 [some (.ref 52), some (.int w), some (.int (mcv w (σ 58) (σ 57) (σ 52 9) n 12)), some (.int (nI 12)), y, z] [] σ) (t : Nat) (ht : t ≤ 12) (y z : Option Value) (hy : nol [y, z] = true) :
    Vw X 24 [some (.ref 52), some (.int w), some (.int (mcv w (σ 58) (σ 57) (σ 52 9) n t)), some (.int (nI t)), y, z] [] σ := by
  have ih := fun (h : t < 12) y z hy => l_mcv1 hX hR hr hn hn10 kk (t + 1) h y z hy
  refine V_iload_n (pc := 24) (i := 3) hX dX6_covers_24 rfl rfl ?_
  refine V_bipush (pc := 25) (v := (nI 12)) hX dX6_covers_25 (by decide +kernel) ?_
  refine V_icmp_geN (pc := 27) (tgt := 118) hX dX6_covers_27 (by decide) (by omega) (by omega) (fun h27 => ?_) (fun h27 => ?_)
  · obtain rfl : t = 12 := by omega
    exact kk y z
  · refine V_iconst (pc := 30) (v := (nI 0)) hX dX6_covers_30 (by decide +kernel) ?_
    refine V_istore4 (pc := 31) hX dX6_covers_31 hy ?_
    refine V_iconst (pc := 33) (v := (nI 0)) hX dX6_covers_33 (by decide +kernel) ?_
    refine V_istore5 (pc := 34) hX dX6_covers_34 (nol_t1 hy) ?_
    refine l_mcv2 hX hR hr hn hn10 h27 ?_ 0 (Nat.zero_le _)
    refine V_iload_n (pc := 83) (i := 1) hX dX6_covers_83 rfl rfl ?_
    refine V_iconst (pc := 84) (v := (nI 1)) hX dX6_covers_84 (by decide +kernel) ?_
    refine V_icmp_ne (pc := 85) (tgt := 99) hX dX6_covers_85 (by decide) (fun h85 => ?_) (fun h85 => ?_)
    · refine V_iload (pc := 99) (i := 4) hX dX6_covers_99 rfl ?_
      refine V_iload_n (pc := 101) (i := 2) hX dX6_covers_101 rfl rfl ?_
      refine V_icmp_le (pc := 102) (tgt := 110) hX dX6_covers_102 (by decide) (fun h102 => ?_) (fun h102 => ?_)
      · refine V_iload_n (pc := 110) (i := 2) hX dX6_covers_110 rfl rfl ?_
        refine V_istore2 (pc := 111) hX dX6_covers_111 rfl ?_
        refine V_iinc3 (pc := 112) hX dX6_covers_112 rfl (iinc1 _) ?_
        refine V_goto (pc := 115) (tgt := 24) hX dX6_covers_115 (by decide) ?_
        have ihk := ih h27 (some (.int (nI (shm (σ 57) (σ 52 9) t n)))) (some (.int (nI n))) rfl
        rw [mcv, if_neg h85, mx_le h102] at ihk
        exact ihk
      · refine V_iload (pc := 105) (i := 4) hX dX6_covers_105 rfl ?_
        refine V_goto (pc := 107) (tgt := 111) hX dX6_covers_107 (by decide) ?_
        refine V_istore2 (pc := 111) hX dX6_covers_111 rfl ?_
        refine V_iinc3 (pc := 112) hX dX6_covers_112 rfl (iinc1 _) ?_
        refine V_goto (pc := 115) (tgt := 24) hX dX6_covers_115 (by decide) ?_
        have ihk := ih h27 (some (.int (nI (shm (σ 57) (σ 52 9) t n)))) (some (.int (nI n))) rfl
        rw [mcv, if_neg h85, mx_gt h102] at ihk
        exact ihk
    · refine V_iload_n (pc := 88) (i := 2) hX dX6_covers_88 rfl rfl ?_
      refine V_aload_n (pc := 89) (i := 0) hX dX6_covers_89 rfl rfl ?_
      refine V_getr (pc := 90) hX fX6_25 dX6_covers_90 rfl rfl ?_
      refine V_iload_n (pc := 93) (i := 3) hX dX6_covers_93 rfl rfl ?_
      refine V_iald (pc := 94) hX dX6_covers_94 (rfl) (rfl) (by omega) (by decide) ?_
      refine V_iadd (pc := 95) hX dX6_covers_95 ?_
      refine V_goto (pc := 96) (tgt := 111) hX dX6_covers_96 (by decide) ?_
      refine V_istore2 (pc := 111) hX dX6_covers_111 rfl ?_
      refine V_iinc3 (pc := 112) hX dX6_covers_112 rfl (iinc1 _) ?_
      refine V_goto (pc := 115) (tgt := 24) hX dX6_covers_115 (by decide) ?_
      have ihk := ih h27 (some (.int (nI (shm (σ 57) (σ 52 9) t n)))) (some (.int (nI n))) rfl
      rw [mcv, if_pos h85] at ihk
      exact ihk
termination_by 12 - t
def mcoversF (n : Nat) (c th pr : Nat → Int32) (paid dem bo w : Int32) : Int32 := if w = nI 0 then paid else if w = nI 1 then mcv (nI 1) pr th dem n 12 else if w = nI 2 then bestf c th dem n (2 ^ n) else if w = nI 3 then mcv (nI 3) pr th dem n 12 else if w = nI 4 then dem else if w = nI 5 then bo else (-1000001)
set_option maxRecDepth 100000 in
set_option maxHeartbeats 4000000 in
theorem c_mcovers (n : Nat) (w : Int32) (σ : Mem) (hn : σ 52 5 = nI n) (hn10 : n ≤ 10) : Cc yX6_covers cX6_covers 6 (some .int) 1 [.ref 52, .int w] σ (rI (mcoversF n (σ 56) (σ 57) (σ 58) (σ 52 11) (σ 52 9) (σ 52 8) w) (m0 σ)) := by
  refine Cc.intro (by decide +kernel) [some (.ref 52), some (.int w), none, none, none, none] (fun _ => rfl) rfl (fun _ => Nat.le_of_ble_eq_true rfl) ?_
  intro X hX hR hr
  have a5 : m0 σ 52 5 = nI n := by rw [m0_c (by decide)]; exact hn
  have a56 : m0 σ 56 = σ 56 := m0_r (by decide)
  have a57 : m0 σ 57 = σ 57 := m0_r (by decide)
  have a58 : m0 σ 58 = σ 58 := m0_r (by decide)
  have a8 : m0 σ 52 8 = σ 52 8 := m0_c (by decide)
  have a9 : m0 σ 52 9 = σ 52 9 := m0_c (by decide)
  have a11 : m0 σ 52 11 = σ 52 11 := m0_c (by decide)
  have z0 : ∀ {z : Int32}, z = 0 ↔ z = nI 0 := fun {z} => by rw [nI_0]
  have wn : inr2 w 0 5 = false → ∀ j, j ≤ 5 → ¬ w = nI j := fun h j hj q => by
    rw [q, inr2_0, inr_nI (by omega) (by decide)] at h
    exact absurd h (by decide)
  have w5 : inr2 w 0 5 = true → ¬ w = nI 0 → ¬ w = nI 2 → ¬ w = nI 4 → ¬ w = nI 5 → w = nI 1 ∨ w = nI 3 := fun h h0 h2 h4 h5 => by
    obtain ⟨j, -, hj, rfl⟩ := inr2_of h (by decide)
    rcases (show j = 0 ∨ j = 1 ∨ j = 2 ∨ j = 3 ∨ j = 4 ∨ j = 5 by omega) with rfl | rfl | rfl | rfl | rfl | rfl
    · exact absurd rfl h0
    · exact Or.inl rfl
    · exact absurd rfl h2
    · exact Or.inr rfl
    · exact absurd rfl h4
    · exact absurd rfl h5
  have k118 : inr2 w 0 5 = true → ∀ y z, Vw X 118 [some (.ref 52), some (.int w), some (.int (mcv w (m0 σ 58) (m0 σ 57) (m0 σ 52 9) n 12)), some (.int (nI 12)), y, z] [] (m0 σ) := by
    intro hw y z
    rw [a57, a58, a9]
    refine V_iload_n (pc := 118) (i := 1) hX dX6_covers_118 rfl rfl ?_
    refine V_if_ne (pc := 119) (tgt := 129) hX dX6_covers_119 (by decide) (fun h119 => ?_) (fun h119 => ?_)
    · refine V_iload_n (pc := 129) (i := 1) hX dX6_covers_129 rfl rfl ?_
      refine V_iconst (pc := 130) (v := (nI 2)) hX dX6_covers_130 (by decide +kernel) ?_
      refine V_icmp_ne (pc := 131) (tgt := 141) hX dX6_covers_131 (by decide) (fun h131 => ?_) (fun h131 => ?_)
      · refine V_iload_n (pc := 141) (i := 1) hX dX6_covers_141 rfl rfl ?_
        refine V_iconst (pc := 142) (v := (nI 4)) hX dX6_covers_142 (by decide +kernel) ?_
        refine V_icmp_ne (pc := 143) (tgt := 153) hX dX6_covers_143 (by decide) (fun h143 => ?_) (fun h143 => ?_)
        · refine V_iload_n (pc := 153) (i := 1) hX dX6_covers_153 rfl rfl ?_
          refine V_iconst (pc := 154) (v := (nI 5)) hX dX6_covers_154 (by decide +kernel) ?_
          refine V_icmp_ne (pc := 155) (tgt := 165) hX dX6_covers_155 (by decide) (fun h155 => ?_) (fun h155 => ?_)
          · refine V_iload_n (pc := 165) (i := 2) hX dX6_covers_165 rfl rfl ?_
            exact V_iret (pc := 166) (st := []) hX hr (by first | rfl | exact bI_nar _ | decide +kernel) dX6_covers_166 (⟨by
  rcases w5 hw (fun q => h119 (z0.mpr q)) h131 h143 h155 with rfl | rfl
  · rw [mcoversF, if_neg (by decide +kernel), if_pos rfl]
  · rw [mcoversF, if_neg (by decide +kernel), if_neg (by decide +kernel), if_neg (by decide +kernel), if_pos rfl], rfl⟩)
          · refine V_aload_n (pc := 158) (i := 0) hX dX6_covers_158 rfl rfl ?_
            refine V_getf (pc := 159) hX fX6_93 dX6_covers_159 rfl rfl ?_
            refine V_goto (pc := 162) (tgt := 166) hX dX6_covers_162 (by decide) ?_
            exact V_iret (pc := 166) (st := []) hX hr (by first | rfl | exact bI_nar _ | decide +kernel) dX6_covers_166 (⟨by
  subst h155
  rw [mcoversF, if_neg (by decide +kernel), if_neg (by decide +kernel), if_neg (by decide +kernel), if_neg (by decide +kernel), if_neg (by decide +kernel), if_pos rfl, a8], rfl⟩)
        · refine V_aload_n (pc := 146) (i := 0) hX dX6_covers_146 rfl rfl ?_
          refine V_getf (pc := 147) hX fX6_100 dX6_covers_147 rfl rfl ?_
          refine V_goto (pc := 150) (tgt := 166) hX dX6_covers_150 (by decide) ?_
          exact V_iret (pc := 166) (st := []) hX hr (by first | rfl | exact bI_nar _ | decide +kernel) dX6_covers_166 (⟨by
  subst h143
  rw [mcoversF, if_neg (by decide +kernel), if_neg (by decide +kernel), if_neg (by decide +kernel), if_neg (by decide +kernel), if_pos rfl, a9], rfl⟩)
      · refine V_aload_n (pc := 134) (i := 0) hX dX6_covers_134 rfl rfl ?_
        refine V_callVi (pc := 135) hX (hR.mono (by omega)) mX6_129 (c_mbest n _ a5 hn10) dX6_covers_135 rfl rfl rfl rfl (Nat.le_of_ble_eq_true rfl) ?_
        refine V_goto (pc := 138) (tgt := 166) hX dX6_covers_138 (by decide) ?_
        exact V_iret (pc := 166) (st := []) hX hr (by first | rfl | exact bI_nar _ | decide +kernel) dX6_covers_166 (⟨by
  subst h131
  rw [mcoversF, if_neg (by decide +kernel), if_neg (by decide +kernel), if_pos rfl, a56, a57, a9], rfl⟩)
    · refine V_aload_n (pc := 122) (i := 0) hX dX6_covers_122 rfl rfl ?_
      refine V_getf (pc := 123) hX fX6_118 dX6_covers_123 rfl rfl ?_
      refine V_goto (pc := 126) (tgt := 166) hX dX6_covers_126 (by decide) ?_
      exact V_iret (pc := 166) (st := []) hX hr (by first | rfl | exact bI_nar _ | decide +kernel) dX6_covers_166 (⟨by rw [mcoversF, if_pos (z0.mp h119), a11], rfl⟩)
  refine V_aload_n (pc := 0) (i := 0) hX dX6_covers_0 rfl rfl ?_
  refine V_iconst (pc := 1) (v := (nI 0)) hX dX6_covers_1 (by decide +kernel) ?_
  refine V_putf (pc := 2) hX fX6_66 gi6_0 dX6_covers_2 rfl rfl ?_
  refine Vw.mem (rfl : m0 σ = _) ?_
  refine V_iload_n (pc := 5) (i := 1) hX dX6_covers_5 rfl rfl ?_
  refine V_i2l (pc := 6) hX dX6_covers_6 ?_
  refine V_lconst (pc := 7) (v := lN 0) hX dX6_covers_7 (by decide +kernel) ?_
  refine V_ldc2 (pc := 8) hX kX6_127 dX6_covers_8 ?_
  refine V_callSi (pc := 11) hX (hR.mono (by omega)) mX6_75 (c_inN w 0 5 (by decide) (by decide) _) dX6_covers_11 rfl rfl rfl (Nat.le_of_ble_eq_true rfl) ?_
  refine V_if_neB (pc := 14) (tgt := 20) hX dX6_covers_14 (by decide) (fun h14 => ?_) (fun h14 => ?_)
  · refine V_iconst (pc := 20) (v := (nI 0)) hX dX6_covers_20 (by decide +kernel) ?_
    refine V_istore2 (pc := 21) hX dX6_covers_21 rfl ?_
    refine V_iconst (pc := 22) (v := (nI 0)) hX dX6_covers_22 (by decide +kernel) ?_
    refine V_istore3 (pc := 23) hX dX6_covers_23 rfl ?_
    exact l_mcv1 hX hR hr a5 hn10 (k118 h14) 0 (Nat.zero_le _) none none rfl
  · refine V_ldc (pc := 17) hX kX6_85 dX6_covers_17 ?_
    exact V_iret (pc := 19) (st := []) hX hr (by first | rfl | exact bI_nar _ | decide +kernel) dX6_covers_19 (⟨by rw [mcoversF, if_neg (wn h14 0 (by decide)), if_neg (wn h14 1 (by decide)), if_neg (wn h14 2 (by decide)), if_neg (wn h14 3 (by decide)), if_neg (wn h14 4 (by decide)), if_neg (wn h14 5 (by decide))], rfl⟩)
/-- the reference's world with a trace -/
def tmM (σ : Mem) (x : (Nat → Int32) × Nat) : Mem := mu (mf σ 69 x.1) 52 31 (nI x.2)
theorem tmM_r {σ : Mem} {x : (Nat → Int32) × Nat} {q : Nat} (h : q ≠ 52) (h2 : q ≠ 69) : tmM σ x q = σ q := by unfold tmM; rw [← mu_ne h, ← mf_ne h2]
theorem tmM_c {σ : Mem} {x : (Nat → Int32) × Nat} {j : Nat} (h : j ≠ 31) : tmM σ x 52 j = σ 52 j := by unfold tmM; rw [mu_ni h, ← mf_ne (by decide)]
theorem tmM_bg {σ : Mem} {x : (Nat → Int32) × Nat} {b : Nat} (h : x.2 < 16) : mu (mu (tmM σ x) 69 x.2 (nI b)) 52 31 (nI (x.2 + 1)) = tmM σ (bgF x b) := by
  unfold bgF
  rw [if_pos h]
  unfold tmM
  funext q j
  by_cases h1 : q = 52 <;> by_cases h2 : q = 69 <;> simp_all [mu, mf, upd]
set_option maxRecDepth 100000 in
set_option maxHeartbeats 4000000 in
theorem c_began (x : (Nat → Int32) × Nat) (b : Nat) (σ : Mem) (hx : x.2 ≤ 16) : Cc yX6_began cX6_began 2 none 0 [.ref 52, .int (nI b)] (tmM σ x) (rV (tmM σ (bgF x b))) := by
  refine Cc.intro (by decide +kernel) [some (.ref 52), some (.int (nI b))] (fun _ => rfl) rfl (fun _ => Nat.le_of_ble_eq_true rfl) ?_
  intro X hX hR hr
  have e1 : tmM σ x 52 31 = nI x.2 := mu_at
  refine V_aload_n (pc := 0) (i := 0) hX dX6_began_0 rfl rfl ?_
  refine V_getf (pc := 1) hX fX6_193 dX6_began_1 rfl rfl ?_
  refine V_bipush (pc := 4) (v := (nI 16)) hX dX6_began_4 (by decide +kernel) ?_
  rw [e1]
  refine V_icmp_geN (pc := 6) (tgt := 29) hX dX6_began_6 (by decide) (by omega) (by omega) (fun h6 => ?_) (fun h6 => ?_)
  · exact V_vret (pc := 29) (st := []) hX hr dX6_began_29 (⟨rfl, by unfold bgF; rw [if_neg (by omega)]⟩)
  · refine V_aload_n (pc := 9) (i := 0) hX dX6_began_9 rfl rfl ?_
    refine V_getr (pc := 10) hX fX6_63 dX6_began_10 rfl rfl ?_
    refine V_aload_n (pc := 13) (i := 0) hX dX6_began_13 rfl rfl ?_
    refine V_getf (pc := 14) hX fX6_193 dX6_began_14 rfl rfl ?_
    rw [e1]
    refine V_iload_n (pc := 17) (i := 1) hX dX6_began_17 rfl rfl ?_
    refine V_iast (pc := 18) hX dX6_began_18 (rfl) (rfl) (by omega) (by decide) ?_
    refine V_aload_n (pc := 19) (i := 0) hX dX6_began_19 rfl rfl ?_
    refine V_dup (pc := 20) hX dX6_began_20 rfl ?_
    refine V_getf (pc := 21) hX fX6_193 dX6_began_21 rfl rfl ?_
    rw [mu_np (by decide), e1]
    refine V_iconst (pc := 24) (v := (nI 1)) hX dX6_began_24 (by decide +kernel) ?_
    refine V_iadd (pc := 25) hX dX6_began_25 ?_
    rw [nI_add]
    refine V_putf (pc := 26) hX fX6_193 gi6_31 dX6_began_26 rfl rfl ?_
    exact V_vret (pc := 29) (st := []) hX hr dX6_began_29 (⟨rfl, tmM_bg h6⟩)
set_option maxRecDepth 100000 in
set_option maxHeartbeats 4000000 in
theorem c_ownW (x : (Nat → Int32) × Nat) (s : Nat) (σ : Mem) (hx : x.2 ≤ 16) (hs : s < 10) : Cc yX6_ownWorth cX6_ownWorth 2 (some .int) 1 [.ref 52, .int (nI s)] (tmM σ x) (rI (nI 2 * σ 56 s) (tmM σ (bgF (bgF x 13) 10))) := by
  refine Cc.intro (by decide +kernel) [some (.ref 52), some (.int (nI s))] (fun _ => rfl) rfl (fun _ => Nat.le_of_ble_eq_true rfl) ?_
  intro X hX hR hr
  refine V_aload_n (pc := 0) (i := 0) hX dX6_ownWorth_0 rfl rfl ?_
  refine V_bipush (pc := 1) (v := (nI 13)) hX dX6_ownWorth_1 (by decide +kernel) ?_
  refine V_callVv (pc := 3) hX (hR.mono (by omega)) mX6_196 (c_began x 13 σ hx) dX6_ownWorth_3 rfl rfl rfl rfl (Nat.le_of_ble_eq_true rfl) ?_
  refine V_aload_n (pc := 6) (i := 0) hX dX6_ownWorth_6 rfl rfl ?_
  refine V_bipush (pc := 7) (v := (nI 10)) hX dX6_ownWorth_7 (by decide +kernel) ?_
  refine V_callVv (pc := 9) hX (hR.mono (by omega)) mX6_196 (c_began _ 10 σ (bgF_le hx)) dX6_ownWorth_9 rfl rfl rfl rfl (Nat.le_of_ble_eq_true rfl) ?_
  refine V_iconst (pc := 12) (v := (nI 2)) hX dX6_ownWorth_12 (by decide +kernel) ?_
  refine V_aload_n (pc := 13) (i := 0) hX dX6_ownWorth_13 rfl rfl ?_
  refine V_getr (pc := 14) hX fX6_19 dX6_ownWorth_14 rfl rfl ?_
  refine V_iload_n (pc := 17) (i := 1) hX dX6_ownWorth_17 rfl rfl ?_
  refine V_iald (pc := 18) hX dX6_ownWorth_18 (rfl) (rfl) (by omega) (by decide) ?_
  refine V_imul (pc := 19) hX dX6_ownWorth_19 ?_
  exact V_iret (pc := 20) (st := []) hX hr (by first | rfl | exact bI_nar _ | decide +kernel) dX6_ownWorth_20 (⟨by rw [tmM_r (by decide) (by decide)], rfl⟩)
def mTrX (kd : Int32) (x : (Nat → Int32) × Nat) : (Nat → Int32) × Nat := if kd = nI 2 then bgF (bgF x 21) 20 else if kd = nI 3 then bgF (bgF (bgF (bgF x 22) 20) 13) 10 else bgF x 20
theorem mTrX_0 (kd : Int32) (g : Nat → Int32) : mTrX kd (g, 0) = mTr kd g := rfl
set_option maxRecDepth 100000 in
set_option maxHeartbeats 4000000 in
theorem c_marked (x : (Nat → Int32) × Nat) (s : Nat) (K : Int32) (σ : Mem) (hx : x.2 ≤ 16) (hs : s < 10) (hK : kindf (σ 52 8) s (pf (σ 57 s) (σ 58) 12) (σ 56 s) = K) : Cc yX6_marked cX6_marked 3 (some .int) 2 [.ref 52, .int (nI s)] (tmM σ x) (rI (mVal K (σ 56 s) (nI (popn (σ 57 s) 12))) (tmM σ (mTrX K x))) := by
  refine Cc.intro (by decide +kernel) [some (.ref 52), some (.int (nI s)), none] (fun _ => rfl) rfl (fun _ => Nat.le_of_ble_eq_true rfl) ?_
  intro X hX hR hr
  have eK : kindf (tmM σ x 52 8) s (pf (tmM σ x 57 s) (tmM σ x 58) 12) (tmM σ x 56 s) = K := by rw [tmM_c (by decide), tmM_r (by decide) (by decide), tmM_r (by decide) (by decide), tmM_r (by decide) (by decide)]; exact hK
  rcases Classical.em (K = nI 2) with q2 | q2
  · refine V_aload_n (pc := 0) (i := 0) hX dX6_marked_0 rfl rfl ?_
    refine V_iload_n (pc := 1) (i := 1) hX dX6_marked_1 rfl rfl ?_
    refine V_callVi (pc := 2) hX (hR.mono (by omega)) mX6_190 (c_mkindOf s _ hs) dX6_marked_2 rfl rfl rfl rfl (Nat.le_of_ble_eq_true rfl) ?_
    rw [eK]
    refine V_istore2 (pc := 5) hX dX6_marked_5 rfl ?_
    refine V_iload_n (pc := 6) (i := 2) hX dX6_marked_6 rfl rfl ?_
    refine V_iconst (pc := 7) (v := (nI 2)) hX dX6_marked_7 (by decide +kernel) ?_
    refine V_icmp_ne (pc := 8) (tgt := 17) hX dX6_marked_8 (by decide) (fun h8 => absurd h8 (fun q => q q2)) (fun h8 => ?_)
    refine V_aload_n (pc := 11) (i := 0) hX dX6_marked_11 rfl rfl ?_
    refine V_bipush (pc := 12) (v := (nI 21)) hX dX6_marked_12 (by decide +kernel) ?_
    refine V_callVv (pc := 14) hX (hR.mono (by omega)) mX6_196 (c_began x 21 σ hx) dX6_marked_14 rfl rfl rfl rfl (Nat.le_of_ble_eq_true rfl) ?_
    refine V_iload_n (pc := 17) (i := 2) hX dX6_marked_17 rfl rfl ?_
    refine V_iconst (pc := 18) (v := (nI 3)) hX dX6_marked_18 (by decide +kernel) ?_
    refine V_icmp_ne (pc := 19) (tgt := 28) hX dX6_marked_19 (by decide) (fun h19 => ?_) (fun h19 => absurd h19 (fun q => absurd (q2.symm.trans q) (by decide +kernel)))
    refine V_aload_n (pc := 28) (i := 0) hX dX6_marked_28 rfl rfl ?_
    refine V_bipush (pc := 29) (v := (nI 20)) hX dX6_marked_29 (by decide +kernel) ?_
    refine V_callVv (pc := 31) hX (hR.mono (by omega)) mX6_196 (c_began _ 20 σ (bgF_le hx)) dX6_marked_31 rfl rfl rfl rfl (Nat.le_of_ble_eq_true rfl) ?_
    refine V_aload_n (pc := 34) (i := 0) hX dX6_marked_34 rfl rfl ?_
    refine V_getr (pc := 35) hX fX6_22 dX6_marked_35 rfl rfl ?_
    refine V_iload_n (pc := 38) (i := 1) hX dX6_marked_38 rfl rfl ?_
    refine V_iald (pc := 39) hX dX6_marked_39 (rfl) (rfl) (by omega) (by decide) ?_
    refine V_callSi (pc := 40) hX (hR.mono (by omega)) mX6_200 (c_msize _ _) dX6_marked_40 rfl rfl rfl (Nat.le_of_ble_eq_true rfl) ?_
    refine V_iload_n (pc := 43) (i := 2) hX dX6_marked_43 rfl rfl ?_
    refine V_iconst (pc := 44) (v := (nI 2)) hX dX6_marked_44 (by decide +kernel) ?_
    refine V_icmp_ne (pc := 45) (tgt := 53) hX dX6_marked_45 (by decide) (fun h45 => absurd h45 (fun q => q q2)) (fun h45 => ?_)
    refine V_bipush (pc := 48) (v := (nI 100)) hX dX6_marked_48 (by decide +kernel) ?_
    refine V_goto (pc := 50) (tgt := 67) hX dX6_marked_50 (by decide) ?_
    refine V_iadd (pc := 67) hX dX6_marked_67 ?_
    exact V_iret (pc := 68) (st := []) hX hr (by first | rfl | exact bI_nar _ | decide +kernel) dX6_marked_68 (⟨by rw [mVal, if_pos q2, tmM_r (by decide) (by decide)], by rw [mTrX, if_pos q2]⟩)
  · rcases Classical.em (K = nI 3) with q3 | q3
    · refine V_aload_n (pc := 0) (i := 0) hX dX6_marked_0 rfl rfl ?_
      refine V_iload_n (pc := 1) (i := 1) hX dX6_marked_1 rfl rfl ?_
      refine V_callVi (pc := 2) hX (hR.mono (by omega)) mX6_190 (c_mkindOf s _ hs) dX6_marked_2 rfl rfl rfl rfl (Nat.le_of_ble_eq_true rfl) ?_
      rw [eK]
      refine V_istore2 (pc := 5) hX dX6_marked_5 rfl ?_
      refine V_iload_n (pc := 6) (i := 2) hX dX6_marked_6 rfl rfl ?_
      refine V_iconst (pc := 7) (v := (nI 2)) hX dX6_marked_7 (by decide +kernel) ?_
      refine V_icmp_ne (pc := 8) (tgt := 17) hX dX6_marked_8 (by decide) (fun h8 => ?_) (fun h8 => absurd h8 (q2))
      refine V_iload_n (pc := 17) (i := 2) hX dX6_marked_17 rfl rfl ?_
      refine V_iconst (pc := 18) (v := (nI 3)) hX dX6_marked_18 (by decide +kernel) ?_
      refine V_icmp_ne (pc := 19) (tgt := 28) hX dX6_marked_19 (by decide) (fun h19 => absurd h19 (fun q => q q3)) (fun h19 => ?_)
      refine V_aload_n (pc := 22) (i := 0) hX dX6_marked_22 rfl rfl ?_
      refine V_bipush (pc := 23) (v := (nI 22)) hX dX6_marked_23 (by decide +kernel) ?_
      refine V_callVv (pc := 25) hX (hR.mono (by omega)) mX6_196 (c_began x 22 σ hx) dX6_marked_25 rfl rfl rfl rfl (Nat.le_of_ble_eq_true rfl) ?_
      refine V_aload_n (pc := 28) (i := 0) hX dX6_marked_28 rfl rfl ?_
      refine V_bipush (pc := 29) (v := (nI 20)) hX dX6_marked_29 (by decide +kernel) ?_
      refine V_callVv (pc := 31) hX (hR.mono (by omega)) mX6_196 (c_began _ 20 σ (bgF_le hx)) dX6_marked_31 rfl rfl rfl rfl (Nat.le_of_ble_eq_true rfl) ?_
      refine V_aload_n (pc := 34) (i := 0) hX dX6_marked_34 rfl rfl ?_
      refine V_getr (pc := 35) hX fX6_22 dX6_marked_35 rfl rfl ?_
      refine V_iload_n (pc := 38) (i := 1) hX dX6_marked_38 rfl rfl ?_
      refine V_iald (pc := 39) hX dX6_marked_39 (rfl) (rfl) (by omega) (by decide) ?_
      refine V_callSi (pc := 40) hX (hR.mono (by omega)) mX6_200 (c_msize _ _) dX6_marked_40 rfl rfl rfl (Nat.le_of_ble_eq_true rfl) ?_
      refine V_iload_n (pc := 43) (i := 2) hX dX6_marked_43 rfl rfl ?_
      refine V_iconst (pc := 44) (v := (nI 2)) hX dX6_marked_44 (by decide +kernel) ?_
      refine V_icmp_ne (pc := 45) (tgt := 53) hX dX6_marked_45 (by decide) (fun h45 => ?_) (fun h45 => absurd h45 (q2))
      refine V_iload_n (pc := 53) (i := 2) hX dX6_marked_53 rfl rfl ?_
      refine V_iconst (pc := 54) (v := (nI 3)) hX dX6_marked_54 (by decide +kernel) ?_
      refine V_icmp_ne (pc := 55) (tgt := 66) hX dX6_marked_55 (by decide) (fun h55 => absurd h55 (fun q => q q3)) (fun h55 => ?_)
      refine V_aload_n (pc := 58) (i := 0) hX dX6_marked_58 rfl rfl ?_
      refine V_iload_n (pc := 59) (i := 1) hX dX6_marked_59 rfl rfl ?_
      refine V_callVi (pc := 60) hX (hR.mono (by omega)) mX6_203 (c_ownW _ s σ (bgF_le (bgF_le hx)) hs) dX6_marked_60 rfl rfl rfl rfl (Nat.le_of_ble_eq_true rfl) ?_
      refine V_goto (pc := 63) (tgt := 67) hX dX6_marked_63 (by decide) ?_
      refine V_iadd (pc := 67) hX dX6_marked_67 ?_
      exact V_iret (pc := 68) (st := []) hX hr (by first | rfl | exact bI_nar _ | decide +kernel) dX6_marked_68 (⟨by rw [mVal, if_neg q2, if_pos q3, tmM_r (by decide) (by decide)], by rw [mTrX, if_neg q2, if_pos q3]⟩)
    · refine V_aload_n (pc := 0) (i := 0) hX dX6_marked_0 rfl rfl ?_
      refine V_iload_n (pc := 1) (i := 1) hX dX6_marked_1 rfl rfl ?_
      refine V_callVi (pc := 2) hX (hR.mono (by omega)) mX6_190 (c_mkindOf s _ hs) dX6_marked_2 rfl rfl rfl rfl (Nat.le_of_ble_eq_true rfl) ?_
      rw [eK]
      refine V_istore2 (pc := 5) hX dX6_marked_5 rfl ?_
      refine V_iload_n (pc := 6) (i := 2) hX dX6_marked_6 rfl rfl ?_
      refine V_iconst (pc := 7) (v := (nI 2)) hX dX6_marked_7 (by decide +kernel) ?_
      refine V_icmp_ne (pc := 8) (tgt := 17) hX dX6_marked_8 (by decide) (fun h8 => ?_) (fun h8 => absurd h8 (q2))
      refine V_iload_n (pc := 17) (i := 2) hX dX6_marked_17 rfl rfl ?_
      refine V_iconst (pc := 18) (v := (nI 3)) hX dX6_marked_18 (by decide +kernel) ?_
      refine V_icmp_ne (pc := 19) (tgt := 28) hX dX6_marked_19 (by decide) (fun h19 => ?_) (fun h19 => absurd h19 (q3))
      refine V_aload_n (pc := 28) (i := 0) hX dX6_marked_28 rfl rfl ?_
      refine V_bipush (pc := 29) (v := (nI 20)) hX dX6_marked_29 (by decide +kernel) ?_
      refine V_callVv (pc := 31) hX (hR.mono (by omega)) mX6_196 (c_began x 20 σ hx) dX6_marked_31 rfl rfl rfl rfl (Nat.le_of_ble_eq_true rfl) ?_
      refine V_aload_n (pc := 34) (i := 0) hX dX6_marked_34 rfl rfl ?_
      refine V_getr (pc := 35) hX fX6_22 dX6_marked_35 rfl rfl ?_
      refine V_iload_n (pc := 38) (i := 1) hX dX6_marked_38 rfl rfl ?_
      refine V_iald (pc := 39) hX dX6_marked_39 (rfl) (rfl) (by omega) (by decide) ?_
      refine V_callSi (pc := 40) hX (hR.mono (by omega)) mX6_200 (c_msize _ _) dX6_marked_40 rfl rfl rfl (Nat.le_of_ble_eq_true rfl) ?_
      refine V_iload_n (pc := 43) (i := 2) hX dX6_marked_43 rfl rfl ?_
      refine V_iconst (pc := 44) (v := (nI 2)) hX dX6_marked_44 (by decide +kernel) ?_
      refine V_icmp_ne (pc := 45) (tgt := 53) hX dX6_marked_45 (by decide) (fun h45 => ?_) (fun h45 => absurd h45 (q2))
      refine V_iload_n (pc := 53) (i := 2) hX dX6_marked_53 rfl rfl ?_
      refine V_iconst (pc := 54) (v := (nI 3)) hX dX6_marked_54 (by decide +kernel) ?_
      refine V_icmp_ne (pc := 55) (tgt := 66) hX dX6_marked_55 (by decide) (fun h55 => ?_) (fun h55 => absurd h55 (q3))
      refine V_iconst (pc := 66) (v := (nI 0)) hX dX6_marked_66 (by decide +kernel) ?_
      refine V_iadd (pc := 67) hX dX6_marked_67 ?_
      exact V_iret (pc := 68) (st := []) hX hr (by first | rfl | exact bI_nar _ | decide +kernel) dX6_marked_68 (⟨by rw [mVal, if_neg q2, if_neg q3, tmM_r (by decide) (by decide), add0], by rw [mTrX, if_neg q2, if_neg q3]⟩)
set_option maxRecDepth 100000 in
set_option maxHeartbeats 4000000 in
theorem c_mworth (s : Nat) (K : Int32) (g : Nat → Int32) (σ : Mem) (hs : s < 10) (hK : kindf (σ 52 8) s (pf (σ 57 s) (σ 58) 12) (σ 56 s) = K) : Cc yX6_worth cX6_worth 4 (some .int) 3 [.ref 52, .int (nI s)] (tmM σ (g, 0)) (rI (wVal K (σ 56 s) (pf (σ 57 s) (σ 58) 12) (nI (popn (σ 57 s) 12))) (tmM σ (wTr K g))) := by
  refine Cc.intro (by decide +kernel) [some (.ref 52), some (.int (nI s)), none, none] (fun _ => rfl) rfl (fun _ => Nat.le_of_ble_eq_true rfl) ?_
  intro X hX hR hr
  have hx : (g, 0).2 ≤ 16 := Nat.zero_le _
  have eK : kindf (tmM σ (g, 0) 52 8) s (pf (tmM σ (g, 0) 57 s) (tmM σ (g, 0) 58) 12) (tmM σ (g, 0) 56 s) = K := by rw [tmM_c (by decide), tmM_r (by decide) (by decide), tmM_r (by decide) (by decide), tmM_r (by decide) (by decide)]; exact hK
  rcases Classical.em (K = nI 2) with q2 | q2
  · have n3 : ¬ K = nI 3 := fun q => absurd (q2.symm.trans q) (by decide +kernel)
    refine V_aload_n (pc := 0) (i := 0) hX dX6_worth_0 rfl rfl ?_
    refine V_iload_n (pc := 1) (i := 1) hX dX6_worth_1 rfl rfl ?_
    refine V_callVi (pc := 2) hX (hR.mono (by omega)) mX6_190 (c_mkindOf s _ hs) dX6_worth_2 rfl rfl rfl rfl (Nat.le_of_ble_eq_true rfl) ?_
    rw [eK]
    refine V_istore2 (pc := 5) hX dX6_worth_5 rfl ?_
    refine V_iload_n (pc := 6) (i := 2) hX dX6_worth_6 rfl rfl ?_
    refine V_iconst (pc := 7) (v := (nI 3)) hX dX6_worth_7 (by decide +kernel) ?_
    refine V_icmp_ne (pc := 8) (tgt := 17) hX dX6_worth_8 (by decide) (fun h8 => ?_) (fun h8 => absurd h8 (n3))
    refine V_iload_n (pc := 17) (i := 2) hX dX6_worth_17 rfl rfl ?_
    refine V_iconst (pc := 18) (v := (nI 2)) hX dX6_worth_18 (by decide +kernel) ?_
    refine V_icmp_ne (pc := 19) (tgt := 28) hX dX6_worth_19 (by decide) (fun h19 => absurd h19 (fun q => q q2)) (fun h19 => ?_)
    refine V_aload_n (pc := 22) (i := 0) hX dX6_worth_22 rfl rfl ?_
    refine V_bipush (pc := 23) (v := (nI 12)) hX dX6_worth_23 (by decide +kernel) ?_
    refine V_callVv (pc := 25) hX (hR.mono (by omega)) mX6_196 (c_began (g, 0) 12 σ hx) dX6_worth_25 rfl rfl rfl rfl (Nat.le_of_ble_eq_true rfl) ?_
    refine V_aload_n (pc := 28) (i := 0) hX dX6_worth_28 rfl rfl ?_
    refine V_bipush (pc := 29) (v := (nI 11)) hX dX6_worth_29 (by decide +kernel) ?_
    refine V_callVv (pc := 31) hX (hR.mono (by omega)) mX6_196 (c_began _ 11 σ (bgF_le hx)) dX6_worth_31 rfl rfl rfl rfl (Nat.le_of_ble_eq_true rfl) ?_
    refine V_aload_n (pc := 34) (i := 0) hX dX6_worth_34 rfl rfl ?_
    refine V_bipush (pc := 35) (v := (nI 10)) hX dX6_worth_35 (by decide +kernel) ?_
    refine V_callVv (pc := 37) hX (hR.mono (by omega)) mX6_196 (c_began _ 10 σ (bgF_le (bgF_le hx))) dX6_worth_37 rfl rfl rfl rfl (Nat.le_of_ble_eq_true rfl) ?_
    refine V_aload_n (pc := 40) (i := 0) hX dX6_worth_40 rfl rfl ?_
    refine V_getr (pc := 41) hX fX6_19 dX6_worth_41 rfl rfl ?_
    refine V_iload_n (pc := 44) (i := 1) hX dX6_worth_44 rfl rfl ?_
    refine V_iald (pc := 45) hX dX6_worth_45 (rfl) (rfl) (by omega) (by decide) ?_
    refine V_aload_n (pc := 46) (i := 0) hX dX6_worth_46 rfl rfl ?_
    refine V_iload_n (pc := 47) (i := 1) hX dX6_worth_47 rfl rfl ?_
    refine V_callVi (pc := 48) hX (hR.mono (by omega)) mX6_115 (c_mfilled s _ hs) dX6_worth_48 rfl rfl rfl rfl (Nat.le_of_ble_eq_true rfl) ?_
    refine V_isub (pc := 51) hX dX6_worth_51 ?_
    refine V_istore3 (pc := 52) hX dX6_worth_52 rfl ?_
    refine V_iload_n (pc := 53) (i := 2) hX dX6_worth_53 rfl rfl ?_
    refine V_iconst (pc := 54) (v := (nI 2)) hX dX6_worth_54 (by decide +kernel) ?_
    refine V_icmp_ne (pc := 55) (tgt := 68) hX dX6_worth_55 (by decide) (fun h55 => absurd h55 (fun q => q q2)) (fun h55 => ?_)
    refine V_iload_n (pc := 58) (i := 3) hX dX6_worth_58 rfl rfl ?_
    refine V_aload_n (pc := 59) (i := 0) hX dX6_worth_59 rfl rfl ?_
    refine V_iload_n (pc := 60) (i := 1) hX dX6_worth_60 rfl rfl ?_
    refine V_callVi (pc := 61) hX (hR.mono (by omega)) mX6_206 (c_marked _ s K σ (bgF_le (bgF_le (bgF_le hx))) hs hK) dX6_worth_61 rfl rfl rfl rfl (Nat.le_of_ble_eq_true rfl) ?_
    refine V_iadd (pc := 64) hX dX6_worth_64 ?_
    refine V_goto (pc := 65) (tgt := 69) hX dX6_worth_65 (by decide) ?_
    exact V_iret (pc := 69) (st := []) hX hr (by first | rfl | exact bI_nar _ | decide +kernel) dX6_worth_69 (⟨by rw [wVal, mVal, if_pos q2, if_pos q2, tmM_r (by decide) (by decide), tmM_r (by decide) (by decide), tmM_r (by decide) (by decide)], by rw [mTrX, wTr, if_pos q2, if_pos q2]⟩)
  · rcases Classical.em (K = nI 3) with q3 | q3
    · refine V_aload_n (pc := 0) (i := 0) hX dX6_worth_0 rfl rfl ?_
      refine V_iload_n (pc := 1) (i := 1) hX dX6_worth_1 rfl rfl ?_
      refine V_callVi (pc := 2) hX (hR.mono (by omega)) mX6_190 (c_mkindOf s _ hs) dX6_worth_2 rfl rfl rfl rfl (Nat.le_of_ble_eq_true rfl) ?_
      rw [eK]
      refine V_istore2 (pc := 5) hX dX6_worth_5 rfl ?_
      refine V_iload_n (pc := 6) (i := 2) hX dX6_worth_6 rfl rfl ?_
      refine V_iconst (pc := 7) (v := (nI 3)) hX dX6_worth_7 (by decide +kernel) ?_
      refine V_icmp_ne (pc := 8) (tgt := 17) hX dX6_worth_8 (by decide) (fun h8 => absurd h8 (fun q => q q3)) (fun h8 => ?_)
      refine V_aload_n (pc := 11) (i := 0) hX dX6_worth_11 rfl rfl ?_
      refine V_iload_n (pc := 12) (i := 1) hX dX6_worth_12 rfl rfl ?_
      refine V_callVi (pc := 13) hX (hR.mono (by omega)) mX6_203 (c_ownW (g, 0) s σ hx hs) dX6_worth_13 rfl rfl rfl rfl (Nat.le_of_ble_eq_true rfl) ?_
      exact V_iret (pc := 16) (st := []) hX hr (by first | rfl | exact bI_nar _ | decide +kernel) dX6_worth_16 (⟨by rw [wVal, if_neg q2, if_pos q3], by rw [wTr, if_neg q2, if_pos q3]⟩)
    · refine V_aload_n (pc := 0) (i := 0) hX dX6_worth_0 rfl rfl ?_
      refine V_iload_n (pc := 1) (i := 1) hX dX6_worth_1 rfl rfl ?_
      refine V_callVi (pc := 2) hX (hR.mono (by omega)) mX6_190 (c_mkindOf s _ hs) dX6_worth_2 rfl rfl rfl rfl (Nat.le_of_ble_eq_true rfl) ?_
      rw [eK]
      refine V_istore2 (pc := 5) hX dX6_worth_5 rfl ?_
      refine V_iload_n (pc := 6) (i := 2) hX dX6_worth_6 rfl rfl ?_
      refine V_iconst (pc := 7) (v := (nI 3)) hX dX6_worth_7 (by decide +kernel) ?_
      refine V_icmp_ne (pc := 8) (tgt := 17) hX dX6_worth_8 (by decide) (fun h8 => ?_) (fun h8 => absurd h8 (q3))
      refine V_iload_n (pc := 17) (i := 2) hX dX6_worth_17 rfl rfl ?_
      refine V_iconst (pc := 18) (v := (nI 2)) hX dX6_worth_18 (by decide +kernel) ?_
      refine V_icmp_ne (pc := 19) (tgt := 28) hX dX6_worth_19 (by decide) (fun h19 => ?_) (fun h19 => absurd h19 (q2))
      refine V_aload_n (pc := 28) (i := 0) hX dX6_worth_28 rfl rfl ?_
      refine V_bipush (pc := 29) (v := (nI 11)) hX dX6_worth_29 (by decide +kernel) ?_
      refine V_callVv (pc := 31) hX (hR.mono (by omega)) mX6_196 (c_began (g, 0) 11 σ hx) dX6_worth_31 rfl rfl rfl rfl (Nat.le_of_ble_eq_true rfl) ?_
      refine V_aload_n (pc := 34) (i := 0) hX dX6_worth_34 rfl rfl ?_
      refine V_bipush (pc := 35) (v := (nI 10)) hX dX6_worth_35 (by decide +kernel) ?_
      refine V_callVv (pc := 37) hX (hR.mono (by omega)) mX6_196 (c_began _ 10 σ (bgF_le hx)) dX6_worth_37 rfl rfl rfl rfl (Nat.le_of_ble_eq_true rfl) ?_
      refine V_aload_n (pc := 40) (i := 0) hX dX6_worth_40 rfl rfl ?_
      refine V_getr (pc := 41) hX fX6_19 dX6_worth_41 rfl rfl ?_
      refine V_iload_n (pc := 44) (i := 1) hX dX6_worth_44 rfl rfl ?_
      refine V_iald (pc := 45) hX dX6_worth_45 (rfl) (rfl) (by omega) (by decide) ?_
      refine V_aload_n (pc := 46) (i := 0) hX dX6_worth_46 rfl rfl ?_
      refine V_iload_n (pc := 47) (i := 1) hX dX6_worth_47 rfl rfl ?_
      refine V_callVi (pc := 48) hX (hR.mono (by omega)) mX6_115 (c_mfilled s _ hs) dX6_worth_48 rfl rfl rfl rfl (Nat.le_of_ble_eq_true rfl) ?_
      refine V_isub (pc := 51) hX dX6_worth_51 ?_
      refine V_istore3 (pc := 52) hX dX6_worth_52 rfl ?_
      refine V_iload_n (pc := 53) (i := 2) hX dX6_worth_53 rfl rfl ?_
      refine V_iconst (pc := 54) (v := (nI 2)) hX dX6_worth_54 (by decide +kernel) ?_
      refine V_icmp_ne (pc := 55) (tgt := 68) hX dX6_worth_55 (by decide) (fun h55 => ?_) (fun h55 => absurd h55 (q2))
      refine V_iload_n (pc := 68) (i := 3) hX dX6_worth_68 rfl rfl ?_
      exact V_iret (pc := 69) (st := []) hX hr (by first | rfl | exact bI_nar _ | decide +kernel) dX6_worth_69 (⟨by rw [wVal, if_neg q2, if_neg q3, tmM_r (by decide) (by decide), tmM_r (by decide) (by decide), tmM_r (by decide) (by decide)], by rw [wTr, if_neg q2, if_neg q3]⟩)
theorem tmM_0 {σ : Mem} : mu σ 52 31 (nI 0) = tmM σ (σ 69, 0) := by unfold tmM; rw [mf_id]
set_option maxRecDepth 100000 in
set_option maxHeartbeats 4000000 in
theorem c_mask (n tr : Nat) (x w : Int32) (σ : Mem) (hn : σ 52 5 = nI n) (hn10 : n ≤ 10) (ht : σ 52 31 = nI tr) : Cc yX6_ask cX6_ask 3 (some .int) 4 [.ref 52, .int x, .int w] σ (rI (askF n (σ 56) (σ 57) (σ 58) (σ 52 8) (fun s => nI (popn (σ 57 s) 12)) x w) (tmM (m0 σ) (askT n (σ 56) (σ 57) (σ 58) (σ 52 8) (σ 69, tr) x w))) := by
  refine Cc.intro (by decide +kernel) [some (.ref 52), some (.int x), some (.int w)] (fun _ => rfl) rfl (fun _ => Nat.le_of_ble_eq_true rfl) ?_
  intro X hX hR hr
  have a5 : m0 σ 52 5 = nI n := by rw [m0_c (by decide)]; exact hn
  have a56 : m0 σ 56 = σ 56 := m0_r (by decide)
  have a57 : m0 σ 57 = σ 57 := m0_r (by decide)
  have a58 : m0 σ 58 = σ 58 := m0_r (by decide)
  have a69 : m0 σ 69 = σ 69 := m0_r (by decide)
  have a8 : m0 σ 52 8 = σ 52 8 := m0_c (by decide)
  have e0 : m0 σ = tmM (m0 σ) (σ 69, tr) := by unfold tmM; rw [← a69, mf_id, ← ht, ← m0_c (σ := σ) (j := 31) (by decide), mu_self]
  have z0 : ∀ {z : Int32}, z = 0 ↔ z = nI 0 := fun {z} => by rw [nI_0]
  have wn : inr2 w 0 1 = false → ¬ w = nI 0 ∧ ¬ w = nI 1 := fun h => by
    constructor <;> (rintro rfl; exact absurd h (by decide +kernel))
  have w1 : inr2 w 0 1 = true → ¬ w = nI 0 → w = nI 1 := fun h h0 => by
    obtain ⟨j, -, hj, rfl⟩ := inr2_of h (by decide)
    rcases (show j = 0 ∨ j = 1 by omega) with rfl | rfl
    · exact absurd rfl h0
    · rfl
  refine V_aload_n (pc := 0) (i := 0) hX dX6_ask_0 rfl rfl ?_
  refine V_iconst (pc := 1) (v := (nI 0)) hX dX6_ask_1 (by decide +kernel) ?_
  refine V_putf (pc := 2) hX fX6_66 gi6_0 dX6_ask_2 rfl rfl ?_
  refine Vw.mem (rfl : m0 σ = _) ?_
  refine V_aload_n (pc := 5) (i := 0) hX dX6_ask_5 rfl rfl ?_
  refine V_iload_n (pc := 6) (i := 1) hX dX6_ask_6 rfl rfl ?_
  refine V_callVi (pc := 7) hX (hR.mono (by omega)) mX6_133 (c_misSet n _ _ a5 hn10) dX6_ask_7 rfl rfl rfl rfl (Nat.le_of_ble_eq_true rfl) ?_
  refine V_if_eqB (pc := 10) (tgt := 23) hX dX6_ask_10 (by decide) (fun h10 => ?_) (fun h10 => ?_)
  · refine V_ldc (pc := 23) hX kX6_85 dX6_ask_23 ?_
    exact V_iret (pc := 25) (st := []) hX hr (by first | rfl | exact bI_nar _ | decide +kernel) dX6_ask_25 (⟨by rw [askF, h10]; rfl, by rw [askT, h10]; exact e0⟩)
  · refine V_iload_n (pc := 13) (i := 2) hX dX6_ask_13 rfl rfl ?_
    refine V_i2l (pc := 14) hX dX6_ask_14 ?_
    refine V_lconst (pc := 15) (v := lN 0) hX dX6_ask_15 (by decide +kernel) ?_
    refine V_lconst (pc := 16) (v := lN 1) hX dX6_ask_16 (by decide +kernel) ?_
    refine V_callSi (pc := 17) hX (hR.mono (by omega)) mX6_75 (c_inN w 0 1 (by decide) (by decide) _) dX6_ask_17 rfl rfl rfl (Nat.le_of_ble_eq_true rfl) ?_
    refine V_if_neB (pc := 20) (tgt := 26) hX dX6_ask_20 (by decide) (fun h20 => ?_) (fun h20 => ?_)
    · obtain ⟨s, hs, rfl⟩ := inr_of h10 (by omega)
      have ts : tn (nI s) = s := tn_nI (by omega)
      refine V_aload_n (pc := 26) (i := 0) hX dX6_ask_26 rfl rfl ?_
      refine V_iconst (pc := 27) (v := (nI 0)) hX dX6_ask_27 (by decide +kernel) ?_
      refine V_putf (pc := 28) hX fX6_193 gi6_31 dX6_ask_28 rfl rfl ?_
      refine Vw.mem tmM_0.symm ?_
      refine V_iload_n (pc := 31) (i := 2) hX dX6_ask_31 rfl rfl ?_
      refine V_if_ne (pc := 32) (tgt := 43) hX dX6_ask_32 (by decide) (fun h32 => ?_) (fun h32 => ?_)
      · refine V_aload_n (pc := 43) (i := 0) hX dX6_ask_43 rfl rfl ?_
        refine V_iload_n (pc := 44) (i := 1) hX dX6_ask_44 rfl rfl ?_
        refine V_callVi (pc := 45) hX (hR.mono (by omega)) mX6_206 (c_marked _ s _ _ (Nat.zero_le _) (by omega) rfl) dX6_ask_45 rfl rfl rfl rfl (Nat.le_of_ble_eq_true rfl) ?_
        exact V_iret (pc := 48) (st := []) hX hr (by first | rfl | exact bI_nar _ | decide +kernel) dX6_ask_48 (⟨by rw [askF, h10, if_pos rfl, if_neg (fun q => h32 (z0.mpr q)), if_pos (w1 h20 (fun q => h32 (z0.mpr q))), ts, a56, a57, a58, a8], by rw [askT, h10, if_pos rfl, if_neg (fun q => h32 (z0.mpr q)), if_pos (w1 h20 (fun q => h32 (z0.mpr q))), ts, a56, a57, a58, a8, a69, mTrX_0]⟩)
      · refine V_aload_n (pc := 35) (i := 0) hX dX6_ask_35 rfl rfl ?_
        refine V_iload_n (pc := 36) (i := 1) hX dX6_ask_36 rfl rfl ?_
        refine V_callVi (pc := 37) hX (hR.mono (by omega)) mX6_209 (c_mworth s _ _ _ (by omega) rfl) dX6_ask_37 rfl rfl rfl rfl (Nat.le_of_ble_eq_true rfl) ?_
        refine V_goto (pc := 40) (tgt := 48) hX dX6_ask_40 (by decide) ?_
        exact V_iret (pc := 48) (st := []) hX hr (by first | rfl | exact bI_nar _ | decide +kernel) dX6_ask_48 (⟨by rw [askF, h10, if_pos rfl, if_pos (z0.mp h32), ts, a56, a57, a58, a8], by rw [askT, h10, if_pos rfl, if_pos (z0.mp h32), ts, a56, a57, a58, a8, a69]⟩)
    · refine V_ldc (pc := 23) hX kX6_85 dX6_ask_23 ?_
      exact V_iret (pc := 25) (st := []) hX hr (by first | rfl | exact bI_nar _ | decide +kernel) dX6_ask_25 (⟨by rw [askF, h10, if_pos rfl, if_neg (wn h20).1, if_neg (wn h20).2], by rw [askT, h10, if_pos rfl, if_neg (wn h20).1, if_neg (wn h20).2]; exact e0⟩)
set_option maxRecDepth 100000 in
set_option maxHeartbeats 4000000 in
theorem c_mtrace (tr : Nat) (x : Int32) (σ : Mem) (ht : σ 52 31 = nI tr) (htr : tr ≤ 16) : Cc yX6_trace cX6_trace 2 (some .int) 1 [.ref 52, .int x] σ (rI (traceF (σ 69, tr) x) (m0 σ)) := by
  refine Cc.intro (by decide +kernel) [some (.ref 52), some (.int x)] (fun _ => rfl) rfl (fun _ => Nat.le_of_ble_eq_true rfl) ?_
  intro X hX hR hr
  refine V_aload_n (pc := 0) (i := 0) hX dX6_trace_0 rfl rfl ?_
  refine V_iconst (pc := 1) (v := (nI 0)) hX dX6_trace_1 (by decide +kernel) ?_
  refine V_putf (pc := 2) hX fX6_66 gi6_0 dX6_trace_2 rfl rfl ?_
  refine Vw.mem (rfl : m0 σ = _) ?_
  refine V_iload_n (pc := 5) (i := 1) hX dX6_trace_5 rfl rfl ?_
  refine V_i2l (pc := 6) hX dX6_trace_6 ?_
  refine V_lconst (pc := 7) (v := lN 0) hX dX6_trace_7 (by decide +kernel) ?_
  refine V_aload_n (pc := 8) (i := 0) hX dX6_trace_8 rfl rfl ?_
  refine V_getf (pc := 9) hX fX6_193 dX6_trace_9 rfl rfl ?_
  rw [m0_c (by decide), ht]
  refine V_iconst (pc := 12) (v := (nI 1)) hX dX6_trace_12 (by decide +kernel) ?_
  refine V_isub (pc := 13) hX dX6_trace_13 ?_
  refine V_i2l (pc := 14) hX dX6_trace_14 ?_
  refine V_callSi (pc := 15) hX (hR.mono (by omega)) mX6_75 (c_inS x tr (by omega) _) dX6_trace_15 rfl rfl rfl (Nat.le_of_ble_eq_true rfl) ?_
  refine V_if_eqB (pc := 18) (tgt := 30) hX dX6_trace_18 (by decide) (fun h18 => ?_) (fun h18 => ?_)
  · refine V_ldc (pc := 30) hX kX6_126 dX6_trace_30 ?_
    exact V_iret (pc := 32) (st := []) hX hr (by first | rfl | exact bI_nar _ | decide +kernel) dX6_trace_32 (⟨by rw [traceF, h18]; rfl, rfl⟩)
  · obtain ⟨j, hj, rfl⟩ := inr_of h18 (by omega)
    refine V_aload_n (pc := 21) (i := 0) hX dX6_trace_21 rfl rfl ?_
    refine V_getr (pc := 22) hX fX6_63 dX6_trace_22 rfl rfl ?_
    refine V_iload_n (pc := 25) (i := 1) hX dX6_trace_25 rfl rfl ?_
    refine V_iald (pc := 26) hX dX6_trace_26 (rfl) (rfl) (by omega) (by decide) ?_
    refine V_goto (pc := 27) (tgt := 32) hX dX6_trace_27 (by decide) ?_
    exact V_iret (pc := 32) (st := []) hX hr (by first | rfl | exact bI_nar _ | decide +kernel) dX6_trace_32 (⟨by rw [traceF, h18, if_pos rfl, tn_nI (by omega), m0_r (by decide)], rfl⟩)
set_option maxRecDepth 100000 in
set_option maxHeartbeats 4000000 in
theorem c_mstatus (σ : Mem) : Cc yX6_status cX6_status 1 (some .int) 0 [.ref 52] σ (rI (σ 52 1) (m0 σ)) := by
  refine Cc.intro (by decide +kernel) [some (.ref 52)] (fun _ => rfl) rfl (fun _ => Nat.le_of_ble_eq_true rfl) ?_
  intro X hX hR hr
  refine V_aload_n (pc := 0) (i := 0) hX dX6_status_0 rfl rfl ?_
  refine V_iconst (pc := 1) (v := (nI 0)) hX dX6_status_1 (by decide +kernel) ?_
  refine V_putf (pc := 2) hX fX6_66 gi6_0 dX6_status_2 rfl rfl ?_
  refine Vw.mem (rfl : m0 σ = _) ?_
  refine V_aload_n (pc := 5) (i := 0) hX dX6_status_5 rfl rfl ?_
  refine V_getf (pc := 6) hX fX6_69 dX6_status_6 rfl rfl ?_
  exact V_iret (pc := 9) (st := []) hX hr (by first | rfl | exact bI_nar _ | decide +kernel) dX6_status_9 (⟨by rw [m0_c (by decide)], rfl⟩)
set_option maxRecDepth 100000 in
set_option maxHeartbeats 4000000 in
theorem c_mas (n : Nat) (x k : Int32) (σ : Mem) (hn : σ 52 5 = nI n) (hn10 : n ≤ 10) : Cc yX6_as cX6_as 4 (some .int) 2 [.ref 52, .int x, .int k] σ (rI (asF n (σ 56) (σ 57) (σ 58) (σ 52 8) x k) (mu (m0 σ) 52 1 (asS n (σ 56) (σ 57) (σ 58) (σ 52 8) x k (σ 52 1)))) := by
  refine Cc.intro (by decide +kernel) [some (.ref 52), some (.int x), some (.int k), none] (fun _ => rfl) rfl (fun _ => Nat.le_of_ble_eq_true rfl) ?_
  intro X hX hR hr
  have a5 : m0 σ 52 5 = nI n := by rw [m0_c (by decide)]; exact hn
  have a56 : m1 σ 56 = σ 56 := m1_r (by decide)
  have a57 : m1 σ 57 = σ 57 := m1_r (by decide)
  have a58 : m1 σ 58 = σ 58 := m1_r (by decide)
  have a8 : m1 σ 52 8 = σ 52 8 := m1_c (by decide) (by decide)
  have es : m0 σ = mu (m0 σ) 52 1 (σ 52 1) := by rw [← m0_c (σ := σ) (j := 1) (by decide), mu_self]
  have z0 : ∀ {z : Int32}, z = 0 ↔ z = nI 0 := fun {z} => by rw [nI_0]
  refine V_aload_n (pc := 0) (i := 0) hX dX6_as_0 rfl rfl ?_
  refine V_iconst (pc := 1) (v := (nI 0)) hX dX6_as_1 (by decide +kernel) ?_
  refine V_putf (pc := 2) hX fX6_66 gi6_0 dX6_as_2 rfl rfl ?_
  refine Vw.mem (rfl : m0 σ = _) ?_
  refine V_aload_n (pc := 5) (i := 0) hX dX6_as_5 rfl rfl ?_
  refine V_iload_n (pc := 6) (i := 1) hX dX6_as_6 rfl rfl ?_
  refine V_callVi (pc := 7) hX (hR.mono (by omega)) mX6_133 (c_misSet n _ _ a5 hn10) dX6_as_7 rfl rfl rfl rfl (Nat.le_of_ble_eq_true rfl) ?_
  refine V_if_eqB (pc := 10) (tgt := 25) hX dX6_as_10 (by decide) (fun h10 => ?_) (fun h10 => ?_)
  · refine V_ldc (pc := 25) hX kX6_85 dX6_as_25 ?_
    exact V_iret (pc := 27) (st := []) hX hr (by first | rfl | exact bI_nar _ | decide +kernel) dX6_as_27 (⟨by rw [asF, h10]; rfl, by rw [asS, h10]; exact es⟩)
  · refine V_iload_n (pc := 13) (i := 2) hX dX6_as_13 rfl rfl ?_
    refine V_i2l (pc := 14) hX dX6_as_14 ?_
    refine V_lconst (pc := 15) (v := lN 0) hX dX6_as_15 (by decide +kernel) ?_
    refine V_ldc2 (pc := 16) hX kX6_136 dX6_as_16 ?_
    refine V_callSi (pc := 19) hX (hR.mono (by omega)) mX6_75 (c_inN k 0 3 (by decide) (by decide) _) dX6_as_19 rfl rfl rfl (Nat.le_of_ble_eq_true rfl) ?_
    refine V_if_neB (pc := 22) (tgt := 28) hX dX6_as_22 (by decide) (fun h22 => ?_) (fun h22 => ?_)
    · obtain ⟨s, hs, rfl⟩ := inr_of h10 (by omega)
      have ts : tn (nI s) = s := tn_nI (by omega)
      rw [inr2_0] at h22
      have eo : (inr (nI s) n && inr k 4) = true := by rw [h10, h22]; rfl
      have good : kisf k (kindf (σ 52 8) s (pf (σ 57 s) (σ 58) 12) (σ 56 s)) = true → some (Value.int (m1 σ 56 s)) = some (Value.int (asF n (σ 56) (σ 57) (σ 58) (σ 52 8) (nI s) k)) ∧ m1 σ = mu (m0 σ) 52 1 (asS n (σ 56) (σ 57) (σ 58) (σ 52 8) (nI s) k (σ 52 1)) := fun q => ⟨by rw [asF, eo, if_pos rfl, ts, if_pos q, a56], by rw [asS, eo, if_pos rfl, ts, if_pos q]; rfl⟩
      have bad : kisf k (kindf (σ 52 8) s (pf (σ 57 s) (σ 58) 12) (σ 56 s)) = false → some (Value.int ((-1000010) - nI 3)) = some (Value.int (asF n (σ 56) (σ 57) (σ 58) (σ 52 8) (nI s) k)) ∧ mu (m1 σ) 52 1 (nI 3) = mu (m0 σ) 52 1 (asS n (σ 56) (σ 57) (σ 58) (σ 52 8) (nI s) k (σ 52 1)) := fun q => ⟨by rw [asF, eo, if_pos rfl, ts, q]; rfl, by rw [asS, eo, if_pos rfl, ts, q]; exact mu_mu _ _ _ _ _⟩
      refine V_aload_n (pc := 28) (i := 0) hX dX6_as_28 rfl rfl ?_
      refine V_iconst (pc := 29) (v := (nI 0)) hX dX6_as_29 (by decide +kernel) ?_
      refine V_putf (pc := 30) hX fX6_69 gi6_1 dX6_as_30 rfl rfl ?_
      refine Vw.mem (rfl : m1 σ = _) ?_
      refine V_aload_n (pc := 33) (i := 0) hX dX6_as_33 rfl rfl ?_
      refine V_iload_n (pc := 34) (i := 1) hX dX6_as_34 rfl rfl ?_
      refine V_callVi (pc := 35) hX (hR.mono (by omega)) mX6_190 (c_mkindOf s _ (by omega)) dX6_as_35 rfl rfl rfl rfl (Nat.le_of_ble_eq_true rfl) ?_
      rw [a56, a57, a58, a8]
      refine V_istore3 (pc := 38) hX dX6_as_38 rfl ?_
      refine V_iload_n (pc := 39) (i := 2) hX dX6_as_39 rfl rfl ?_
      refine V_if_eq (pc := 40) (tgt := 58) hX dX6_as_40 (by decide) (fun h40 => ?_) (fun h40 => ?_)
      · refine V_aload_n (pc := 58) (i := 0) hX dX6_as_58 rfl rfl ?_
        refine V_getr (pc := 59) hX fX6_19 dX6_as_59 rfl rfl ?_
        refine V_iload_n (pc := 62) (i := 1) hX dX6_as_62 rfl rfl ?_
        refine V_iald (pc := 63) hX dX6_as_63 (rfl) (rfl) (by omega) (by decide) ?_
        refine V_goto (pc := 64) (tgt := 72) hX dX6_as_64 (by decide) ?_
        exact V_iret (pc := 72) (st := []) hX hr (by first | rfl | exact bI_nar _ | decide +kernel) dX6_as_72 (good (decide_eq_true (Or.inl (z0.mpr h40))))
      · refine V_iload_n (pc := 43) (i := 3) hX dX6_as_43 rfl rfl ?_
        refine V_iload_n (pc := 44) (i := 2) hX dX6_as_44 rfl rfl ?_
        refine V_icmp_eq (pc := 45) (tgt := 58) hX dX6_as_45 (by decide) (fun h45 => ?_) (fun h45 => ?_)
        · refine V_aload_n (pc := 58) (i := 0) hX dX6_as_58 rfl rfl ?_
          refine V_getr (pc := 59) hX fX6_19 dX6_as_59 rfl rfl ?_
          refine V_iload_n (pc := 62) (i := 1) hX dX6_as_62 rfl rfl ?_
          refine V_iald (pc := 63) hX dX6_as_63 (rfl) (rfl) (by omega) (by decide) ?_
          refine V_goto (pc := 64) (tgt := 72) hX dX6_as_64 (by decide) ?_
          exact V_iret (pc := 72) (st := []) hX hr (by first | rfl | exact bI_nar _ | decide +kernel) dX6_as_72 (good (decide_eq_true (Or.inr (Or.inl h45.symm))))
        · refine V_iload_n (pc := 48) (i := 2) hX dX6_as_48 rfl rfl ?_
          refine V_iconst (pc := 49) (v := (nI 1)) hX dX6_as_49 (by decide +kernel) ?_
          refine V_icmp_ne (pc := 50) (tgt := 67) hX dX6_as_50 (by decide) (fun h50 => ?_) (fun h50 => ?_)
          · refine V_aload_n (pc := 67) (i := 0) hX dX6_as_67 rfl rfl ?_
            refine V_iconst (pc := 68) (v := (nI 3)) hX dX6_as_68 (by decide +kernel) ?_
            refine V_callVi (pc := 69) hX (hR.mono (by omega)) mX6_86 (c_found _ _) dX6_as_69 rfl rfl rfl rfl (Nat.le_of_ble_eq_true rfl) ?_
            exact V_iret (pc := 72) (st := []) hX hr (by first | rfl | exact bI_nar _ | decide +kernel) dX6_as_72 (bad (decide_eq_false (fun q => q.elim h40 (fun q => q.elim (fun q => h45 q.symm) (fun q => h50 q.1)))))
          · refine V_iload_n (pc := 53) (i := 3) hX dX6_as_53 rfl rfl ?_
            refine V_iconst (pc := 54) (v := (nI 2)) hX dX6_as_54 (by decide +kernel) ?_
            refine V_icmp_ne (pc := 55) (tgt := 67) hX dX6_as_55 (by decide) (fun h55 => ?_) (fun h55 => ?_)
            · refine V_aload_n (pc := 67) (i := 0) hX dX6_as_67 rfl rfl ?_
              refine V_iconst (pc := 68) (v := (nI 3)) hX dX6_as_68 (by decide +kernel) ?_
              refine V_callVi (pc := 69) hX (hR.mono (by omega)) mX6_86 (c_found _ _) dX6_as_69 rfl rfl rfl rfl (Nat.le_of_ble_eq_true rfl) ?_
              exact V_iret (pc := 72) (st := []) hX hr (by first | rfl | exact bI_nar _ | decide +kernel) dX6_as_72 (bad (decide_eq_false (fun q => q.elim h40 (fun q => q.elim (fun q => h45 q.symm) (fun q => h55 q.2)))))
            · refine V_aload_n (pc := 58) (i := 0) hX dX6_as_58 rfl rfl ?_
              refine V_getr (pc := 59) hX fX6_19 dX6_as_59 rfl rfl ?_
              refine V_iload_n (pc := 62) (i := 1) hX dX6_as_62 rfl rfl ?_
              refine V_iald (pc := 63) hX dX6_as_63 (rfl) (rfl) (by omega) (by decide) ?_
              refine V_goto (pc := 64) (tgt := 72) hX dX6_as_64 (by decide) ?_
              exact V_iret (pc := 72) (st := []) hX hr (by first | rfl | exact bI_nar _ | decide +kernel) dX6_as_72 (good (decide_eq_true (Or.inr (Or.inr ⟨h50, h55⟩))))
    · refine V_ldc (pc := 25) hX kX6_85 dX6_as_25 ?_
      exact V_iret (pc := 27) (st := []) hX hr (by first | rfl | exact bI_nar _ | decide +kernel) dX6_as_27 (⟨by rw [asF, h10, ← inr2_0 (x := k) (b := 3), h22]; rfl, by rw [asS, h10, ← inr2_0 (x := k) (b := 3), h22]; exact es⟩)
def cntL (g : Nat → Int32) : Nat → Nat
  | 0 => 0
  | k + 1 => if g k < 0 then cntL g k else cntL g k + 1
theorem cntL_le (g : Nat → Int32) : ∀ k, cntL g k ≤ k
  | 0 => Nat.le_refl _
  | k + 1 => by
    have := cntL_le g k
    unfold cntL
    split <;> omega
def cntG (g : Nat → Int32) : Nat → Nat
  | 0 => 0
  | k + 1 => if g k ≤ 0 then cntG g k else cntG g k + 1
theorem cntG_le (g : Nat → Int32) : ∀ k, cntG g k ≤ k
  | 0 => Nat.le_refl _
  | k + 1 => by
    have := cntG_le g k
    unfold cntG
    split <;> omega
set_option maxRecDepth 100000 in
set_option maxHeartbeats 4000000 in
theorem l_mcnt0 {w : Int32} {X : XC} {P : Option Value → Mem → Prop} {σ : Mem} (hX : Cok X RX6 cX6_count 4) (hR : Rok X 2) (hr : Ret X (some .int) P) (hp : P (some (.int (nI (cntL (σ 53) 8)))) σ) (k : Nat) (hk : k ≤ 8) : Vw X 54 [some (.ref 52), some (.int w), some (.int (nI (cntL (σ 53) k))), some (.int (nI k))] [] σ := by
  refine V_iload_n (pc := 54) (i := 3) hX dX6_count_54 rfl rfl ?_
  refine V_bipush (pc := 55) (v := (nI 8)) hX dX6_count_55 (by decide +kernel) ?_
  refine V_icmp_geN (pc := 57) (tgt := 83) hX dX6_count_57 (by decide) (by omega) (by omega) (fun h57 => ?_) (fun h57 => ?_)
  · obtain rfl : k = 8 := by omega
    refine V_iload_n (pc := 83) (i := 2) hX dX6_count_83 rfl rfl ?_
    exact V_iret (pc := 84) (st := []) hX hr (by first | rfl | exact bI_nar _ | decide +kernel) dX6_count_84 (hp)
  · refine V_iload_n (pc := 60) (i := 2) hX dX6_count_60 rfl rfl ?_
    refine V_aload_n (pc := 61) (i := 0) hX dX6_count_61 rfl rfl ?_
    refine V_getr (pc := 62) hX fX6_7 dX6_count_62 rfl rfl ?_
    refine V_iload_n (pc := 65) (i := 3) hX dX6_count_65 rfl rfl ?_
    refine V_iald (pc := 66) hX dX6_count_66 (rfl) (rfl) (by omega) (by decide) ?_
    refine V_if_lt (pc := 67) (tgt := 74) hX dX6_count_67 (by decide) (fun h67 => ?_) (fun h67 => ?_)
    · refine V_iconst (pc := 74) (v := (nI 0)) hX dX6_count_74 (by decide +kernel) ?_
      refine V_iadd (pc := 75) hX dX6_count_75 ?_
      refine V_istore2 (pc := 76) hX dX6_count_76 rfl ?_
      refine V_iinc3 (pc := 77) hX dX6_count_77 rfl (iinc1 _) ?_
      refine V_goto (pc := 80) (tgt := 54) hX dX6_count_80 (by decide) ?_
      have ih := l_mcnt0 hX hR hr hp (k + 1) (by omega) (w := w)
      rw [cntL, if_pos h67] at ih
      rw [add0]
      exact ih
    · refine V_iconst (pc := 70) (v := (nI 1)) hX dX6_count_70 (by decide +kernel) ?_
      refine V_goto (pc := 71) (tgt := 75) hX dX6_count_71 (by decide) ?_
      refine V_iadd (pc := 75) hX dX6_count_75 ?_
      refine V_istore2 (pc := 76) hX dX6_count_76 rfl ?_
      refine V_iinc3 (pc := 77) hX dX6_count_77 rfl (iinc1 _) ?_
      refine V_goto (pc := 80) (tgt := 54) hX dX6_count_80 (by decide) ?_
      have ih := l_mcnt0 hX hR hr hp (k + 1) (by omega) (w := w)
      rw [cntL, if_neg (h67)] at ih
      rw [nI_add]
      exact ih
termination_by 8 - k
set_option maxRecDepth 100000 in
set_option maxHeartbeats 4000000 in
theorem l_mcnt6 {w : Int32} {X : XC} {P : Option Value → Mem → Prop} {σ : Mem} (hX : Cok X RX6 cX6_count 4) (hR : Rok X 2) (hr : Ret X (some .int) P) (hp : P (some (.int (nI (cntG (σ 65) 100 / 2)))) σ) (k : Nat) (hk : k ≤ 100) : Vw X 145 [some (.ref 52), some (.int w), some (.int (nI (cntG (σ 65) k))), some (.int (nI k))] [] σ := by
  have hc := cntG_le (σ 65) 100
  refine V_iload_n (pc := 145) (i := 3) hX dX6_count_145 rfl rfl ?_
  refine V_bipush (pc := 146) (v := (nI 100)) hX dX6_count_146 (by decide +kernel) ?_
  refine V_icmp_geN (pc := 148) (tgt := 174) hX dX6_count_148 (by decide) (by omega) (by omega) (fun h148 => ?_) (fun h148 => ?_)
  · obtain rfl : k = 100 := by omega
    refine V_iload_n (pc := 174) (i := 2) hX dX6_count_174 rfl rfl ?_
    refine V_iconst (pc := 175) (v := (nI 2)) hX dX6_count_175 (by decide +kernel) ?_
    refine V_idiv (pc := 176) hX dX6_count_176 (by decide +kernel) ?_
    rw [pk_div (a := cntG (σ 65) 100) (by omega) (by decide) (by decide)]
    exact V_iret (pc := 177) (st := []) hX hr (by first | rfl | exact bI_nar _ | decide +kernel) dX6_count_177 (hp)
  · refine V_iload_n (pc := 151) (i := 2) hX dX6_count_151 rfl rfl ?_
    refine V_aload_n (pc := 152) (i := 0) hX dX6_count_152 rfl rfl ?_
    refine V_getr (pc := 153) hX fX6_51 dX6_count_153 rfl rfl ?_
    refine V_iload_n (pc := 156) (i := 3) hX dX6_count_156 rfl rfl ?_
    refine V_iald (pc := 157) hX dX6_count_157 (rfl) (rfl) (by omega) (by decide) ?_
    refine V_if_le (pc := 158) (tgt := 165) hX dX6_count_158 (by decide) (fun h158 => ?_) (fun h158 => ?_)
    · refine V_iconst (pc := 165) (v := (nI 0)) hX dX6_count_165 (by decide +kernel) ?_
      refine V_iadd (pc := 166) hX dX6_count_166 ?_
      refine V_istore2 (pc := 167) hX dX6_count_167 rfl ?_
      refine V_iinc3 (pc := 168) hX dX6_count_168 rfl (iinc1 _) ?_
      refine V_goto (pc := 171) (tgt := 145) hX dX6_count_171 (by decide) ?_
      have ih := l_mcnt6 hX hR hr hp (k + 1) (by omega) (w := w)
      rw [cntG, if_pos h158] at ih
      rw [add0]
      exact ih
    · refine V_iconst (pc := 161) (v := (nI 1)) hX dX6_count_161 (by decide +kernel) ?_
      refine V_goto (pc := 162) (tgt := 166) hX dX6_count_162 (by decide) ?_
      refine V_iadd (pc := 166) hX dX6_count_166 ?_
      refine V_istore2 (pc := 167) hX dX6_count_167 rfl ?_
      refine V_iinc3 (pc := 168) hX dX6_count_168 rfl (iinc1 _) ?_
      refine V_goto (pc := 171) (tgt := 145) hX dX6_count_171 (by decide) ?_
      have ih := l_mcnt6 hX hR hr hp (k + 1) (by omega) (w := w)
      rw [cntG, if_neg (h158)] at ih
      rw [nI_add]
      exact ih
termination_by 100 - k
set_option maxRecDepth 100000 in
set_option maxHeartbeats 4000000 in
theorem l_mcnt3 {n : Nat} {w : Int32} {X : XC} {P : Option Value → Mem → Prop} {σ : Mem} (hX : Cok X RX6 cX6_count 4) (hR : Rok X 2) (hr : Ret X (some .int) P) (hn : σ 52 5 = nI n) (hn10 : n ≤ 10) (hp : P (some (.int (nI (nearf (σ 52 8) (σ 56) (σ 57) (σ 58) n)))) σ) (k : Nat) (hk : k ≤ n) : Vw X 100 [some (.ref 52), some (.int w), some (.int (nI (nearf (σ 52 8) (σ 56) (σ 57) (σ 58) k))), some (.int (nI k))] [] σ := by
  have ih := fun (h : k < n) => l_mcnt3 hX hR hr hn hn10 hp (k + 1) h (w := w)
  refine V_iload_n (pc := 100) (i := 3) hX dX6_count_100 rfl rfl ?_
  refine V_aload_n (pc := 101) (i := 0) hX dX6_count_101 rfl rfl ?_
  refine V_getf (pc := 102) hX fX6_90 dX6_count_102 rfl rfl ?_
  rw [hn]
  refine V_icmp_geN (pc := 105) (tgt := 131) hX dX6_count_105 (by decide) (by omega) (by omega) (fun h105 => ?_) (fun h105 => ?_)
  · obtain rfl : k = n := by omega
    refine V_iload_n (pc := 131) (i := 2) hX dX6_count_131 rfl rfl ?_
    exact V_iret (pc := 132) (st := []) hX hr (by first | rfl | exact bI_nar _ | decide +kernel) dX6_count_132 (hp)
  · refine V_iload_n (pc := 108) (i := 2) hX dX6_count_108 rfl rfl ?_
    refine V_aload_n (pc := 109) (i := 0) hX dX6_count_109 rfl rfl ?_
    refine V_iload_n (pc := 110) (i := 3) hX dX6_count_110 rfl rfl ?_
    refine V_callVi (pc := 111) hX (hR.mono (by omega)) mX6_190 (c_mkindOf k _ (by omega)) dX6_count_111 rfl rfl rfl rfl (Nat.le_of_ble_eq_true rfl) ?_
    refine V_iconst (pc := 114) (v := (nI 2)) hX dX6_count_114 (by decide +kernel) ?_
    refine V_icmp_ne (pc := 115) (tgt := 122) hX dX6_count_115 (by decide) (fun h115 => ?_) (fun h115 => ?_)
    · refine V_iconst (pc := 122) (v := (nI 0)) hX dX6_count_122 (by decide +kernel) ?_
      refine V_iadd (pc := 123) hX dX6_count_123 ?_
      refine V_istore2 (pc := 124) hX dX6_count_124 rfl ?_
      refine V_iinc3 (pc := 125) hX dX6_count_125 rfl (iinc1 _) ?_
      refine V_goto (pc := 128) (tgt := 100) hX dX6_count_128 (by decide) ?_
      have ihk := ih h105
      rw [nearf, if_neg h115] at ihk
      rw [add0]
      exact ihk
    · refine V_iconst (pc := 118) (v := (nI 1)) hX dX6_count_118 (by decide +kernel) ?_
      refine V_goto (pc := 119) (tgt := 123) hX dX6_count_119 (by decide) ?_
      refine V_iadd (pc := 123) hX dX6_count_123 ?_
      refine V_istore2 (pc := 124) hX dX6_count_124 rfl ?_
      refine V_iinc3 (pc := 125) hX dX6_count_125 rfl (iinc1 _) ?_
      refine V_goto (pc := 128) (tgt := 100) hX dX6_count_128 (by decide) ?_
      have ihk := ih h105
      rw [nearf, if_pos h115] at ihk
      rw [nI_add]
      exact ihk
termination_by n - k
def cntM (σ : Mem) (n : Nat) : Nat → Int32 := fun k => match k with
  | 0 => nI (cntL (σ 53) 8)
  | 1 => σ 52 5
  | 2 => nI (popn (σ 52 8) 12)
  | 3 => nI (nearf (σ 52 8) (σ 56) (σ 57) (σ 58) n)
  | 4 => σ 52 12
  | 5 => σ 52 21
  | _ => nI (cntG (σ 65) 100 / 2)
set_option maxRecDepth 100000 in
set_option maxHeartbeats 4000000 in
theorem c_mcount (n : Nat) (w : Int32) (σ : Mem) (hn : σ 52 5 = nI n) (hn10 : n ≤ 10) : Cc yX6_count cX6_count 4 (some .int) 2 [.ref 52, .int w] σ (rI (countF (cntM σ n) w) (m0 σ)) := by
  refine Cc.intro (by decide +kernel) [some (.ref 52), some (.int w), none, none] (fun _ => rfl) rfl (fun _ => Nat.le_of_ble_eq_true rfl) ?_
  intro X hX hR hr
  have a5 : m0 σ 52 5 = nI n := by rw [m0_c (by decide)]; exact hn
  have a56 : m0 σ 56 = σ 56 := m0_r (by decide)
  have a57 : m0 σ 57 = σ 57 := m0_r (by decide)
  have a58 : m0 σ 58 = σ 58 := m0_r (by decide)
  have a53 : m0 σ 53 = σ 53 := m0_r (by decide)
  have a65 : m0 σ 65 = σ 65 := m0_r (by decide)
  have ac : ∀ j, j ≠ 0 → m0 σ 52 j = σ 52 j := fun j hj => m0_c hj
  refine V_aload_n (pc := 0) (i := 0) hX dX6_count_0 rfl rfl ?_
  refine V_iconst (pc := 1) (v := (nI 0)) hX dX6_count_1 (by decide +kernel) ?_
  refine V_putf (pc := 2) hX fX6_66 gi6_0 dX6_count_2 rfl rfl ?_
  refine Vw.mem (rfl : m0 σ = _) ?_
  refine V_iconst (pc := 5) (v := (nI 0)) hX dX6_count_5 (by decide +kernel) ?_
  refine V_istore2 (pc := 6) hX dX6_count_6 rfl ?_
  refine V_iload_n (pc := 7) (i := 1) hX dX6_count_7 rfl rfl ?_
  rcases Classical.em (w = nI 0) with e8_0 | e8_0
  · refine V_tableIn (pc := 8) (off := 44) (tgt := 52) hX dX6_count_8 (by rw [e8_0]; decide +kernel) (by rw [e8_0]; decide +kernel) (by rw [e8_0]; decide +kernel) (by decide) ?_
    refine V_iconst (pc := 52) (v := (nI 0)) hX dX6_count_52 (by decide +kernel) ?_
    refine V_istore3 (pc := 53) hX dX6_count_53 rfl ?_
    refine l_mcnt0 hX hR hr ⟨by rw [countF, if_pos e8_0, a53]; rfl, rfl⟩ 0 (Nat.zero_le _)
  · skip
    rcases Classical.em (w = nI 1) with e8_1 | e8_1
    · refine V_tableIn (pc := 8) (off := 77) (tgt := 85) hX dX6_count_8 (by rw [e8_1]; decide +kernel) (by rw [e8_1]; decide +kernel) (by rw [e8_1]; decide +kernel) (by decide) ?_
      refine V_aload_n (pc := 85) (i := 0) hX dX6_count_85 rfl rfl ?_
      refine V_getf (pc := 86) hX fX6_90 dX6_count_86 rfl rfl ?_
      exact V_iret (pc := 89) (st := []) hX hr (by first | rfl | exact bI_nar _ | decide +kernel) dX6_count_89 (⟨by rw [countF, if_neg e8_0, if_pos e8_1, ac 5 (by decide)]; rfl, rfl⟩)
    · skip
      rcases Classical.em (w = nI 2) with e8_2 | e8_2
      · refine V_tableIn (pc := 8) (off := 82) (tgt := 90) hX dX6_count_8 (by rw [e8_2]; decide +kernel) (by rw [e8_2]; decide +kernel) (by rw [e8_2]; decide +kernel) (by decide) ?_
        refine V_aload_n (pc := 90) (i := 0) hX dX6_count_90 rfl rfl ?_
        refine V_getf (pc := 91) hX fX6_93 dX6_count_91 rfl rfl ?_
        refine V_callSi (pc := 94) hX (hR.mono (by omega)) mX6_200 (c_msize _ _) dX6_count_94 rfl rfl rfl (Nat.le_of_ble_eq_true rfl) ?_
        exact V_iret (pc := 97) (st := []) hX hr (by first | rfl | exact bI_nar _ | decide +kernel) dX6_count_97 (⟨by rw [countF, if_neg e8_0, if_neg e8_1, if_pos e8_2, ac 8 (by decide)]; rfl, rfl⟩)
      · skip
        rcases Classical.em (w = nI 3) with e8_3 | e8_3
        · refine V_tableIn (pc := 8) (off := 90) (tgt := 98) hX dX6_count_8 (by rw [e8_3]; decide +kernel) (by rw [e8_3]; decide +kernel) (by rw [e8_3]; decide +kernel) (by decide) ?_
          refine V_iconst (pc := 98) (v := (nI 0)) hX dX6_count_98 (by decide +kernel) ?_
          refine V_istore3 (pc := 99) hX dX6_count_99 rfl ?_
          refine l_mcnt3 hX hR hr a5 hn10 ⟨by rw [countF, if_neg e8_0, if_neg e8_1, if_neg e8_2, if_pos e8_3, ac 8 (by decide), a56, a57, a58]; rfl, rfl⟩ 0 (Nat.zero_le _)
        · skip
          rcases Classical.em (w = nI 4) with e8_4 | e8_4
          · refine V_tableIn (pc := 8) (off := 125) (tgt := 133) hX dX6_count_8 (by rw [e8_4]; decide +kernel) (by rw [e8_4]; decide +kernel) (by rw [e8_4]; decide +kernel) (by decide) ?_
            refine V_aload_n (pc := 133) (i := 0) hX dX6_count_133 rfl rfl ?_
            refine V_getf (pc := 134) hX fX6_140 dX6_count_134 rfl rfl ?_
            exact V_iret (pc := 137) (st := []) hX hr (by first | rfl | exact bI_nar _ | decide +kernel) dX6_count_137 (⟨by rw [countF, if_neg e8_0, if_neg e8_1, if_neg e8_2, if_neg e8_3, if_pos e8_4, ac 12 (by decide)]; rfl, rfl⟩)
          · skip
            rcases Classical.em (w = nI 5) with e8_5 | e8_5
            · refine V_tableIn (pc := 8) (off := 130) (tgt := 138) hX dX6_count_8 (by rw [e8_5]; decide +kernel) (by rw [e8_5]; decide +kernel) (by rw [e8_5]; decide +kernel) (by decide) ?_
              refine V_aload_n (pc := 138) (i := 0) hX dX6_count_138 rfl rfl ?_
              refine V_getf (pc := 139) hX fX6_166 dX6_count_139 rfl rfl ?_
              exact V_iret (pc := 142) (st := []) hX hr (by first | rfl | exact bI_nar _ | decide +kernel) dX6_count_142 (⟨by rw [countF, if_neg e8_0, if_neg e8_1, if_neg e8_2, if_neg e8_3, if_neg e8_4, if_pos e8_5, ac 21 (by decide)]; rfl, rfl⟩)
            · skip
              rcases Classical.em (w = nI 6) with e8_6 | e8_6
              · refine V_tableIn (pc := 8) (off := 135) (tgt := 143) hX dX6_count_8 (by rw [e8_6]; decide +kernel) (by rw [e8_6]; decide +kernel) (by rw [e8_6]; decide +kernel) (by decide) ?_
                refine V_iconst (pc := 143) (v := (nI 0)) hX dX6_count_143 (by decide +kernel) ?_
                refine V_istore3 (pc := 144) hX dX6_count_144 rfl ?_
                refine l_mcnt6 hX hR hr ⟨by rw [countF, if_neg e8_0, if_neg e8_1, if_neg e8_2, if_neg e8_3, if_neg e8_4, if_neg e8_5, if_pos e8_6, a65]; rfl, rfl⟩ 0 (Nat.zero_le _)
              · skip
                refine V_tableOut (pc := 8) (tgt := 178) hX dX6_count_8 (tsw_out 6 (by
                    intro j hj
                    rcases (show j = 0 ∨ j = 1 ∨ j = 2 ∨ j = 3 ∨ j = 4 ∨ j = 5 ∨ j = 6 by omega) with rfl | rfl | rfl | rfl | rfl | rfl | rfl
                    · exact e8_0
                    · exact e8_1
                    · exact e8_2
                    · exact e8_3
                    · exact e8_4
                    · exact e8_5
                    · exact e8_6)) (by decide) ?_
                refine V_ldc (pc := 178) hX kX6_85 dX6_count_178 ?_
                exact V_iret (pc := 180) (st := []) hX hr (by first | rfl | exact bI_nar _ | decide +kernel) dX6_count_180 (⟨by rw [countF, if_neg e8_0, if_neg e8_1, if_neg e8_2, if_neg e8_3, if_neg e8_4, if_neg e8_5, if_neg e8_6], rfl⟩)

