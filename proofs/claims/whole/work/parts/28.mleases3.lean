/-! ===== the least of LEASES, the reference's ===== -/
def p2f (as : Nat → Int32) (c0 : Int32) (L0 : Nat) (o : Nat → Int32) : Nat → Nat → Int32
  | 0 => o
  | d + 1 => if as d = 0 then p2f as c0 L0 o d else upd (p2f as c0 L0 o d) (fo L0 d) c0
/-- a span's row: the steps from first on by below, taken up (their sum) and set to 0 -/
def zI (g : Nat → Int32) (below first : Nat) : Nat → Nat → Int32
  | 0 => g
  | j + 1 => upd (zI g below first j) (first + j * below) (nI 0)
def sI (g : Nat → Int32) (below first : Nat) : Nat → Int32
  | 0 => nI 0
  | j + 1 => sI g below first j + zI g below first j (first + j * below)
def stp (len below first : Nat) : Nat := ((if first + len < 128 then len else 128 - first) + below - 1) / below
theorem stp_iff {len below first t : Nat} (hb : 1 ≤ below) (hf : first < 128) : t < stp len below first ↔ (first + t * below < first + len ∧ first + t * below < 128) := by
  unfold stp
  rw [Nat.lt_iff_add_one_le, Nat.le_div_iff_mul_le (by omega), Nat.add_mul, Nat.one_mul]
  split <;> omega
def rowK (g : Nat → Int32) (below len : Nat) (c : Int32) : Nat → Nat → Int32
  | 0 => g
  | f + 1 => upd (zI (rowK g below len c f) below (f * len) (stp len below (f * len))) (f * len) (imin c (sI (rowK g below len c f) below (f * len) (stp len below (f * len))))
def lev (g : Nat → Int32) (c : Nat → Int32) (L : Nat → Nat) : Nat → Nat → Int32
  | 0 => g
  | k + 1 => rowK (lev g c L k) (L k) (L (k + 1)) (c (k + 1)) ((128 + L (k + 1) - 1) / L (k + 1))
def sumR (g : Nat → Int32) : Nat → Int32
  | 0 => nI 0
  | d + 1 => sumR g d + g d
set_option maxRecDepth 100000 in
set_option maxHeartbeats 4000000 in
theorem l_mb1 {X : XC} {P : Option Value → Mem → Prop} {σ : Mem} (hX : Cok X RX6 cX6_bestOfLeases 6) (hR : Rok X 1) (hr : Ret X (some .int) P) (kk : Vw X 22 [some (.ref 52), some (.int (nI 128)), none, none, none, none] [] (mf σ 64 (clrf (σ 64) 128))) (k : Nat) (hk : k ≤ 128) : Vw X 2 [some (.ref 52), some (.int (nI k)), none, none, none, none] [] (mf σ 64 (clrf (σ 64) k)) := by
  refine V_iload_n (pc := 2) (i := 1) hX dX6_bestOfLeases_2 rfl rfl ?_
  refine V_sipush (pc := 3) (v := (nI 128)) hX dX6_bestOfLeases_3 (by decide +kernel) ?_
  refine V_icmp_geN (pc := 6) (tgt := 22) hX dX6_bestOfLeases_6 (by decide) (by omega) (by omega) (fun h6 => ?_) (fun h6 => ?_)
  · obtain rfl : k = 128 := by omega
    exact kk
  · refine V_aload_n (pc := 9) (i := 0) hX dX6_bestOfLeases_9 rfl rfl ?_
    refine V_getr (pc := 10) hX fX6_48 dX6_bestOfLeases_10 rfl rfl ?_
    refine V_iload_n (pc := 13) (i := 1) hX dX6_bestOfLeases_13 rfl rfl ?_
    refine V_iconst (pc := 14) (v := (nI 0)) hX dX6_bestOfLeases_14 (by decide +kernel) ?_
    refine V_iast (pc := 15) hX dX6_bestOfLeases_15 (rfl) (rfl) (by omega) (by decide) ?_
    refine V_iinc1 (pc := 16) hX dX6_bestOfLeases_16 rfl (iinc1 _) ?_
    refine V_goto (pc := 19) (tgt := 2) hX dX6_bestOfLeases_19 (by decide) ?_
    have ih := l_mb1 hX hR hr kk (k + 1) (by omega)
    rw [mf_mu, clrf_s]
    exact ih
termination_by 128 - k
set_option maxRecDepth 100000 in
set_option maxHeartbeats 4000000 in
theorem l_mb2 {n : Nat} {L : Nat → Nat} {o : Nat → Int32} {X : XC} {P : Option Value → Mem → Prop} {σ : Mem} (hX : Cok X RX6 cX6_bestOfLeases 6) (hR : Rok X 1) (hr : Ret X (some .int) P) (hn : σ 52 12 = nI n) (hL : lok σ 59 n L) (hn0 : 0 < n) (hn4 : n ≤ 4) (kk : Vw X 70 [some (.ref 52), some (.int (nI 128)), none, none, none, none] [] (mf σ 64 (p2f (σ 61) (σ 60 0) (L 0) o 128))) (d : Nat) (hd : d ≤ 128) : Vw X 24 [some (.ref 52), some (.int (nI d)), none, none, none, none] [] (mf σ 64 (p2f (σ 61) (σ 60 0) (L 0) o d)) := by
  have r12 : ∀ g, mf σ 64 g 52 12 = nI n := fun _ => hn
  have rL : ∀ g, lok (mf σ 64 g) 59 n L := fun _ => hL
  have hf := fo_le (L 0) d
  refine V_iload_n (pc := 24) (i := 1) hX dX6_bestOfLeases_24 rfl rfl ?_
  refine V_sipush (pc := 25) (v := (nI 128)) hX dX6_bestOfLeases_25 (by decide +kernel) ?_
  refine V_icmp_geN (pc := 28) (tgt := 70) hX dX6_bestOfLeases_28 (by decide) (by omega) (by omega) (fun h28 => ?_) (fun h28 => ?_)
  · obtain rfl : d = 128 := by omega
    exact kk
  · refine V_aload_n (pc := 31) (i := 0) hX dX6_bestOfLeases_31 rfl rfl ?_
    refine V_getf (pc := 32) hX fX6_140 dX6_bestOfLeases_32 rfl rfl ?_
    rw [r12]
    refine V_if_le (pc := 35) (tgt := 70) hX dX6_bestOfLeases_35 (by decide) (fun h35 => absurd h35 (nI_nle hn0 (by omega))) (fun h35 => ?_)
    refine V_aload_n (pc := 38) (i := 0) hX dX6_bestOfLeases_38 rfl rfl ?_
    refine V_getr (pc := 39) hX fX6_34 dX6_bestOfLeases_39 rfl rfl ?_
    refine V_iload_n (pc := 42) (i := 1) hX dX6_bestOfLeases_42 rfl rfl ?_
    refine V_zald (pc := 43) hX dX6_bestOfLeases_43 (rfl) (rfl) (by omega) (by decide) ?_
    refine V_if_eq (pc := 44) (tgt := 64) hX dX6_bestOfLeases_44 (by decide) (fun h44 => ?_) (fun h44 => ?_)
    · refine V_iinc1 (pc := 64) hX dX6_bestOfLeases_64 rfl (iinc1 _) ?_
      refine V_goto (pc := 67) (tgt := 24) hX dX6_bestOfLeases_67 (by decide) ?_
      have ih := l_mb2 hX hR hr hn hL hn0 hn4 kk (d + 1) (by omega)
      rw [p2f, if_pos (show σ 61 d = 0 from h44)] at ih
      exact ih
    · refine V_aload_n (pc := 47) (i := 0) hX dX6_bestOfLeases_47 rfl rfl ?_
      refine V_getr (pc := 48) hX fX6_48 dX6_bestOfLeases_48 rfl rfl ?_
      refine V_aload_n (pc := 51) (i := 0) hX dX6_bestOfLeases_51 rfl rfl ?_
      refine V_iconst (pc := 52) (v := (nI 0)) hX dX6_bestOfLeases_52 (by decide +kernel) ?_
      refine V_iload_n (pc := 53) (i := 1) hX dX6_bestOfLeases_53 rfl rfl ?_
      refine V_callVi (pc := 54) hX (hR.mono (by omega)) mX6_145 (c_mfirst n 0 d L _ (rL _) hn4 hn0 (by omega)) dX6_bestOfLeases_54 rfl rfl rfl rfl (Nat.le_of_ble_eq_true rfl) ?_
      refine V_aload_n (pc := 57) (i := 0) hX dX6_bestOfLeases_57 rfl rfl ?_
      refine V_getr (pc := 58) hX fX6_31 dX6_bestOfLeases_58 rfl rfl ?_
      refine V_iconst (pc := 61) (v := (nI 0)) hX dX6_bestOfLeases_61 (by decide +kernel) ?_
      refine V_iald (pc := 62) hX dX6_bestOfLeases_62 (rfl) (show _ = nI 0 from rfl) (by omega) (by decide) ?_
      refine V_iast (pc := 63) hX dX6_bestOfLeases_63 (rfl) (rfl) (by omega) (by decide) ?_
      refine V_iinc1 (pc := 64) hX dX6_bestOfLeases_64 rfl (iinc1 _) ?_
      refine V_goto (pc := 67) (tgt := 24) hX dX6_bestOfLeases_67 (by decide) ?_
      have ih := l_mb2 hX hR hr hn hL hn0 hn4 kk (d + 1) (by omega)
      rw [p2f, if_neg (show ¬ σ 61 d = 0 from h44)] at ih
      simp only [mf_mu]
      exact ih
termination_by 128 - d
set_option maxRecDepth 100000 in
set_option maxHeartbeats 4000000 in
theorem l_mb4 {n k below first : Nat} {L : Nat → Nat} {g : Nat → Int32} {X : XC} {P : Option Value → Mem → Prop} {σ : Mem} (hX : Cok X RX6 cX6_bestOfLeases 6) (hR : Rok X 1) (hr : Ret X (some .int) P) (hL : lok σ 59 n L) (hn4 : n ≤ 4) (hk : k < n) (hb : 1 ≤ below) (hb2 : below ≤ 64) (hf : first < 128) (kk : ∀ x : Int32, Vw X 163 [some (.ref 52), some (.int (nI below)), some (.int (nI k)), some (.int (nI first)), some (.int (sI g below first (stp (L k) below first))), some (.int x)] [] (mf σ 64 (zI g below first (stp (L k) below first)))) (j : Nat) (hj : j ≤ stp (L k) below first) : Vw X 113 [some (.ref 52), some (.int (nI below)), some (.int (nI k)), some (.int (nI first)), some (.int (sI g below first j)), some (.int (nI (first + j * below)))] [] (mf σ 64 (zI g below first j)) := by
  obtain ⟨e, l1, l2⟩ := hL k hk
  have hlt : j * below ≤ 200 := by
    rcases Nat.eq_zero_or_pos j with q | q
    · rw [q, Nat.zero_mul]; omega
    · have h1 := (stp_iff (len := L k) (t := j - 1) hb hf).mp (by omega)
      have h2 : j * below = (j - 1) * below + below := by
        rw [← Nat.succ_mul, Nat.succ_eq_add_one, Nat.sub_add_cancel q]
      omega
  have hend : ¬ (first + j * below < first + L k ∧ first + j * below < 128) → j = stp (L k) below first := fun h => by
    have := mt (stp_iff (len := L k) (t := j) hb hf).mp h
    omega
  refine V_iload (pc := 113) (i := 5) hX dX6_bestOfLeases_113 rfl ?_
  refine V_iload_n (pc := 115) (i := 3) hX dX6_bestOfLeases_115 rfl rfl ?_
  refine V_aload_n (pc := 116) (i := 0) hX dX6_bestOfLeases_116 rfl rfl ?_
  refine V_getr (pc := 117) hX fX6_28 dX6_bestOfLeases_117 rfl rfl ?_
  refine V_iload_n (pc := 120) (i := 2) hX dX6_bestOfLeases_120 rfl rfl ?_
  refine V_iald (pc := 121) hX dX6_bestOfLeases_121 (rfl) (rfl) (by omega) (by decide) ?_
  rw [show mf σ 64 (zI g below first j) 59 k = nI (L k) from e]
  refine V_iadd (pc := 122) hX dX6_bestOfLeases_122 ?_
  rw [nI_add]
  refine V_icmp_geN (pc := 123) (tgt := 163) hX dX6_bestOfLeases_123 (by decide) (by omega) (by omega) (fun h123 => ?_) (fun h123 => ?_)
  · have hs := hend (fun q => by omega)
    rw [hs]
    exact kk _
  · refine V_iload (pc := 126) (i := 5) hX dX6_bestOfLeases_126 rfl ?_
    refine V_sipush (pc := 128) (v := (nI 128)) hX dX6_bestOfLeases_128 (by decide +kernel) ?_
    refine V_icmp_geN (pc := 131) (tgt := 163) hX dX6_bestOfLeases_131 (by decide) (by omega) (by omega) (fun h131 => ?_) (fun h131 => ?_)
    · have hs := hend (fun q => by omega)
      rw [hs]
      exact kk _
    · refine V_iload (pc := 134) (i := 4) hX dX6_bestOfLeases_134 rfl ?_
      refine V_aload_n (pc := 136) (i := 0) hX dX6_bestOfLeases_136 rfl rfl ?_
      refine V_getr (pc := 137) hX fX6_48 dX6_bestOfLeases_137 rfl rfl ?_
      refine V_iload (pc := 140) (i := 5) hX dX6_bestOfLeases_140 rfl ?_
      refine V_iald (pc := 142) hX dX6_bestOfLeases_142 (rfl) (rfl) (by omega) (by decide) ?_
      refine V_iadd (pc := 143) hX dX6_bestOfLeases_143 ?_
      refine V_istore4 (pc := 144) hX dX6_bestOfLeases_144 rfl ?_
      refine V_aload_n (pc := 146) (i := 0) hX dX6_bestOfLeases_146 rfl rfl ?_
      refine V_getr (pc := 147) hX fX6_48 dX6_bestOfLeases_147 rfl rfl ?_
      refine V_iload (pc := 150) (i := 5) hX dX6_bestOfLeases_150 rfl ?_
      refine V_iconst (pc := 152) (v := (nI 0)) hX dX6_bestOfLeases_152 (by decide +kernel) ?_
      refine V_iast (pc := 153) hX dX6_bestOfLeases_153 (rfl) (rfl) (by omega) (by decide) ?_
      refine V_iload (pc := 154) (i := 5) hX dX6_bestOfLeases_154 rfl ?_
      refine V_iload_n (pc := 156) (i := 1) hX dX6_bestOfLeases_156 rfl rfl ?_
      simp only [mf_at, Nat.reduceEqDiff, ↓reduceIte]
      refine V_iadd (pc := 157) hX dX6_bestOfLeases_157 ?_
      rw [nI_add]
      refine V_istore5 (pc := 158) hX dX6_bestOfLeases_158 rfl ?_
      refine V_goto (pc := 160) (tgt := 113) hX dX6_bestOfLeases_160 (by decide) ?_
      have hjl : j < stp (L k) below first := (stp_iff hb hf).mpr ⟨h123, h131⟩
      have ih := l_mb4 hX hR hr hL hn4 hk hb hb2 hf kk (j + 1) hjl
      rw [zI, sI, Nat.add_mul, Nat.one_mul, ← Nat.add_assoc] at ih
      simp only [mf_mu]
      exact ih
termination_by stp (L k) below first - j
set_option maxRecDepth 100000 in
set_option maxHeartbeats 4000000 in
theorem l_mb3 {n k below F : Nat} {L : Nat → Nat} {g : Nat → Int32} {X : XC} {P : Option Value → Mem → Prop} {σ : Mem} (hX : Cok X RX6 cX6_bestOfLeases 6) (hR : Rok X 1) (hr : Ret X (some .int) P) (hL : lok σ 59 n L) (hn4 : n ≤ 4) (hk : k < n) (hb : 1 ≤ below) (hb2 : below ≤ 64) (hF : ∀ f, f < F ↔ f * L k < 128) (kk : ∀ x y z : Option Value, nol [x, y, z] = true → Vw X 203 [some (.ref 52), some (.int (nI below)), some (.int (nI k)), x, y, z] [] (mf σ 64 (rowK g below (L k) (σ 60 k) F))) (f : Nat) (hf : f ≤ F) (y z : Option Value) (hz : nol [y, z] = true) : Vw X 100 [some (.ref 52), some (.int (nI below)), some (.int (nI k)), some (.int (nI (f * L k))), y, z] [] (mf σ 64 (rowK g below (L k) (σ 60 k) f)) := by
  obtain ⟨e, l1, l2⟩ := hL k hk
  have hlt : f * L k ≤ 200 := by
    rcases Nat.eq_zero_or_pos f with q | q
    · rw [q, Nat.zero_mul]; omega
    · have h1 := (hF (f - 1)).mp (by omega)
      have h2 : f * L k = (f - 1) * L k + L k := by
        rw [← Nat.succ_mul, Nat.succ_eq_add_one, Nat.sub_add_cancel q]
      omega
  have hz1 : nol [z] = true := by
    cases y with
    | none => exact hz
    | some v => cases v <;> first | exact hz | (simp [nol] at hz)
  refine V_iload_n (pc := 100) (i := 3) hX dX6_bestOfLeases_100 rfl rfl ?_
  refine V_sipush (pc := 101) (v := (nI 128)) hX dX6_bestOfLeases_101 (by decide +kernel) ?_
  refine V_icmp_geN (pc := 104) (tgt := 203) hX dX6_bestOfLeases_104 (by decide) (by omega) (by omega) (fun h104 => ?_) (fun h104 => ?_)
  · obtain rfl : f = F := by have := mt (hF f).mp (Nat.not_lt.mpr h104); omega
    exact kk _ y z hz
  · refine V_iconst (pc := 107) (v := (nI 0)) hX dX6_bestOfLeases_107 (by decide +kernel) ?_
    refine V_istore4 (pc := 108) hX dX6_bestOfLeases_108 hz ?_
    refine V_iload_n (pc := 110) (i := 3) hX dX6_bestOfLeases_110 rfl rfl ?_
    refine V_istore5 (pc := 111) hX dX6_bestOfLeases_111 hz1 ?_
    have k163 : ∀ x : Int32, Vw X 163 [some (.ref 52), some (.int (nI below)), some (.int (nI k)), some (.int (nI (f * L k))), some (.int (sI (rowK g below (L k) (σ 60 k) f) below (f * L k) (stp (L k) below (f * L k)))), some (.int x)] [] (mf σ 64 (zI (rowK g below (L k) (σ 60 k) f) below (f * L k) (stp (L k) below (f * L k)))) := by
      intro x
      have hfl : f < F := (hF f).mpr h104
      have ih := fun (v : Int32) => l_mb3 hX hR hr hL hn4 hk hb hb2 hF kk (f + 1) hfl (some (.int (sI (rowK g below (L k) (σ 60 k) f) below (f * L k) (stp (L k) below (f * L k))))) (some (.int x)) rfl
      have es : nI (f * L k) + nI (L k) = nI ((f + 1) * L k) := by rw [nI_add, Nat.add_mul, Nat.one_mul]
      refine V_aload_n (pc := 163) (i := 0) hX dX6_bestOfLeases_163 rfl rfl ?_
      refine V_getr (pc := 164) hX fX6_48 dX6_bestOfLeases_164 rfl rfl ?_
      refine V_iload_n (pc := 167) (i := 3) hX dX6_bestOfLeases_167 rfl rfl ?_
      refine V_iload (pc := 168) (i := 4) hX dX6_bestOfLeases_168 rfl ?_
      refine V_aload_n (pc := 170) (i := 0) hX dX6_bestOfLeases_170 rfl rfl ?_
      refine V_getr (pc := 171) hX fX6_31 dX6_bestOfLeases_171 rfl rfl ?_
      refine V_iload_n (pc := 174) (i := 2) hX dX6_bestOfLeases_174 rfl rfl ?_
      refine V_iald (pc := 175) hX dX6_bestOfLeases_175 (rfl) (rfl) (by omega) (by decide) ?_
      rw [show mf σ 64 (zI (rowK g below (L k) (σ 60 k) f) below (f * L k) (stp (L k) below (f * L k))) 60 k = σ 60 k from rfl]
      refine V_icmp_ge (pc := 176) (tgt := 184) hX dX6_bestOfLeases_176 (by decide) (fun h176 => ?_) (fun h176 => ?_)
      · refine V_aload_n (pc := 184) (i := 0) hX dX6_bestOfLeases_184 rfl rfl ?_
        refine V_getr (pc := 185) hX fX6_31 dX6_bestOfLeases_185 rfl rfl ?_
        refine V_iload_n (pc := 188) (i := 2) hX dX6_bestOfLeases_188 rfl rfl ?_
        refine V_iald (pc := 189) hX dX6_bestOfLeases_189 (rfl) (rfl) (by omega) (by decide) ?_
        refine V_iast (pc := 190) hX dX6_bestOfLeases_190 (rfl) (rfl) (by omega) (by decide) ?_
        refine V_iload_n (pc := 191) (i := 3) hX dX6_bestOfLeases_191 rfl rfl ?_
        refine V_aload_n (pc := 192) (i := 0) hX dX6_bestOfLeases_192 rfl rfl ?_
        refine V_getr (pc := 193) hX fX6_28 dX6_bestOfLeases_193 rfl rfl ?_
        refine V_iload_n (pc := 196) (i := 2) hX dX6_bestOfLeases_196 rfl rfl ?_
        refine V_iald (pc := 197) hX dX6_bestOfLeases_197 (rfl) (rfl) (by omega) (by decide) ?_
        simp only [mf_mu]
        rw [show ∀ g, mf σ 64 g 59 k = nI (L k) from fun _ => e]
        refine V_iadd (pc := 198) hX dX6_bestOfLeases_198 ?_
        rw [es]
        refine V_istore3 (pc := 199) hX dX6_bestOfLeases_199 rfl ?_
        refine V_goto (pc := 200) (tgt := 100) hX dX6_bestOfLeases_200 (by decide) ?_
        have ihk := ih 0
        rw [rowK, imin_ge (Int32.not_lt.mp (fun q => Int32.not_le.mpr q h176))] at ihk
        exact ihk
      · refine V_iload (pc := 179) (i := 4) hX dX6_bestOfLeases_179 rfl ?_
        refine V_goto (pc := 181) (tgt := 190) hX dX6_bestOfLeases_181 (by decide) ?_
        refine V_iast (pc := 190) hX dX6_bestOfLeases_190 (rfl) (rfl) (by omega) (by decide) ?_
        refine V_iload_n (pc := 191) (i := 3) hX dX6_bestOfLeases_191 rfl rfl ?_
        refine V_aload_n (pc := 192) (i := 0) hX dX6_bestOfLeases_192 rfl rfl ?_
        refine V_getr (pc := 193) hX fX6_28 dX6_bestOfLeases_193 rfl rfl ?_
        refine V_iload_n (pc := 196) (i := 2) hX dX6_bestOfLeases_196 rfl rfl ?_
        refine V_iald (pc := 197) hX dX6_bestOfLeases_197 (rfl) (rfl) (by omega) (by decide) ?_
        simp only [mf_mu]
        rw [show ∀ g, mf σ 64 g 59 k = nI (L k) from fun _ => e]
        refine V_iadd (pc := 198) hX dX6_bestOfLeases_198 ?_
        rw [es]
        refine V_istore3 (pc := 199) hX dX6_bestOfLeases_199 rfl ?_
        refine V_goto (pc := 200) (tgt := 100) hX dX6_bestOfLeases_200 (by decide) ?_
        have ihk := ih 0
        rw [rowK, imin_lt (fun q => h176 q)] at ihk
        exact ihk
    refine Vw.mem (show mf σ 64 (zI (rowK g below (L k) (σ 60 k) f) below (f * L k) 0) = mf σ 64 (rowK g below (L k) (σ 60 k) f) from rfl) ?_
    have h0 := l_mb4 (g := rowK g below (L k) (σ 60 k) f) hX hR hr hL hn4 hk hb hb2 h104 k163 0 (Nat.zero_le _)
    rw [Nat.zero_mul, Nat.add_zero] at h0
    exact h0
termination_by F - f
set_option maxRecDepth 100000 in
set_option maxHeartbeats 4000000 in
theorem l_mbL {n : Nat} {L : Nat → Nat} {g : Nat → Int32} {X : XC} {P : Option Value → Mem → Prop} {σ : Mem} (hX : Cok X RX6 cX6_bestOfLeases 6) (hR : Rok X 1) (hr : Ret X (some .int) P) (hn : σ 52 12 = nI n) (hL : lok σ 59 n L) (hn0 : 0 < n) (hn4 : n ≤ 4) (kk : ∀ b x y z : Option Value, nol [b, some (.int (nI n)), x, y, z] = true → Vw X 216 [some (.ref 52), b, some (.int (nI n)), x, y, z] [] (mf σ 64 (lev g (σ 60) L (n - 1)))) (k : Nat) (hk : k + 1 ≤ n) (x y z : Option Value) (hz : nol [x, y, z] = true) : Vw X 90 [some (.ref 52), some (.int (nI (L k))), some (.int (nI (k + 1))), x, y, z] [] (mf σ 64 (lev g (σ 60) L k)) := by
  have r12 : ∀ g, mf σ 64 g 52 12 = nI n := fun _ => hn
  obtain ⟨e, l1, l2⟩ := hL k (by omega)
  have hz1 : nol [y, z] = true := by
    cases x with
    | none => exact hz
    | some v => cases v <;> first | exact hz | (simp [nol] at hz)
  refine V_iload_n (pc := 90) (i := 2) hX dX6_bestOfLeases_90 rfl rfl ?_
  refine V_aload_n (pc := 91) (i := 0) hX dX6_bestOfLeases_91 rfl rfl ?_
  refine V_getf (pc := 92) hX fX6_140 dX6_bestOfLeases_92 rfl rfl ?_
  rw [r12]
  refine V_icmp_geN (pc := 95) (tgt := 216) hX dX6_bestOfLeases_95 (by decide) (by omega) (by omega) (fun h95 => ?_) (fun h95 => ?_)
  · obtain rfl : n = k + 1 := by omega
    exact kk _ x y z hz
  · refine V_iconst (pc := 98) (v := (nI 0)) hX dX6_bestOfLeases_98 (by decide +kernel) ?_
    refine V_istore3 (pc := 99) hX dX6_bestOfLeases_99 hz ?_
    obtain ⟨e2, m1, m2⟩ := hL (k + 1) h95
    have h3 := l_mb3 (g := lev g (σ 60) L k) (F := (128 + L (k + 1) - 1) / L (k + 1)) hX hR hr hL hn4 h95 l1 l2 (fun f => by
      rw [Nat.lt_iff_add_one_le, Nat.le_div_iff_mul_le (by omega), Nat.add_mul, Nat.one_mul]
      omega) (fun x y z hz => by
      refine V_aload_n (pc := 203) (i := 0) hX dX6_bestOfLeases_203 rfl rfl ?_
      refine V_getr (pc := 204) hX fX6_28 dX6_bestOfLeases_204 rfl rfl ?_
      refine V_iload_n (pc := 207) (i := 2) hX dX6_bestOfLeases_207 rfl rfl ?_
      refine V_iald (pc := 208) hX dX6_bestOfLeases_208 (rfl) (rfl) (by omega) (by decide) ?_
      rw [show ∀ g, mf σ 64 g 59 (k + 1) = nI (L (k + 1)) from fun _ => e2]
      refine V_istore1 (pc := 209) hX dX6_bestOfLeases_209 hz ?_
      refine V_iinc2 (pc := 210) hX dX6_bestOfLeases_210 hz (iinc1 _) ?_
      refine V_goto (pc := 213) (tgt := 90) hX dX6_bestOfLeases_213 (by decide) ?_
      exact l_mbL hX hR hr hn hL hn0 hn4 kk (k + 1) (by omega) x y z hz) 0 (Nat.zero_le _) y z hz1
    rw [Nat.zero_mul] at h3
    exact h3
termination_by n - k
set_option maxRecDepth 100000 in
set_option maxHeartbeats 4000000 in
theorem l_mb5 {b : Option Value} {y z : Option Value} {X : XC} {P : Option Value → Mem → Prop} {σ : Mem} (hX : Cok X RX6 cX6_bestOfLeases 6) (hR : Rok X 1) (hr : Ret X (some .int) P) (hz : nol [b, y, z] = true) (hp : P (some (.int (sumR (σ 64) 128))) σ) (d : Nat) (hd : d ≤ 128) : Vw X 220 [some (.ref 52), b, some (.int (sumR (σ 64) d)), some (.int (nI d)), y, z] [] σ := by
  have hz2 : ∀ u v : Int32, nol [some (Value.ref 52), b, some (.int u), some (.int v), y, z] = true := fun u v => by
    cases b with
    | none => exact hz
    | some w => cases w <;> first | exact hz | (simp [nol] at hz)
  have ih := fun (h : d < 128) => l_mb5 hX hR hr hz hp (d + 1) h
  refine V_iload_n (pc := 220) (i := 3) hX dX6_bestOfLeases_220 rfl rfl ?_
  refine V_sipush (pc := 221) (v := (nI 128)) hX dX6_bestOfLeases_221 (by decide +kernel) ?_
  refine V_icmp_geN (pc := 224) (tgt := 242) hX dX6_bestOfLeases_224 (by decide) (by omega) (by omega) (fun h224 => ?_) (fun h224 => ?_)
  · obtain rfl : d = 128 := by omega
    refine V_iload_n (pc := 242) (i := 2) hX dX6_bestOfLeases_242 rfl rfl ?_
    exact V_iret (pc := 243) (st := []) hX hr (by first | rfl | exact bI_nar _ | decide +kernel) dX6_bestOfLeases_243 (hp)
  · refine V_iload_n (pc := 227) (i := 2) hX dX6_bestOfLeases_227 rfl rfl ?_
    refine V_aload_n (pc := 228) (i := 0) hX dX6_bestOfLeases_228 rfl rfl ?_
    refine V_getr (pc := 229) hX fX6_48 dX6_bestOfLeases_229 rfl rfl ?_
    refine V_iload_n (pc := 232) (i := 3) hX dX6_bestOfLeases_232 rfl rfl ?_
    refine V_iald (pc := 233) hX dX6_bestOfLeases_233 (rfl) (rfl) (by omega) (by decide) ?_
    refine V_iadd (pc := 234) hX dX6_bestOfLeases_234 ?_
    refine V_istore2 (pc := 235) hX dX6_bestOfLeases_235 (hz2 _ _) ?_
    refine V_iinc3 (pc := 236) hX dX6_bestOfLeases_236 (hz2 _ _) (iinc1 _) ?_
    refine V_goto (pc := 239) (tgt := 220) hX dX6_bestOfLeases_239 (by decide) ?_
    exact ih h224
termination_by 128 - d
/-- the row that the reference adds up in the end -/
def mbRow (σ : Mem) (L : Nat → Nat) (n : Nat) : Nat → Int32 := lev (p2f (σ 61) (σ 60 0) (L 0) (clrf (σ 64) 128) 128) (σ 60) L (n - 1)
set_option maxRecDepth 100000 in
set_option maxHeartbeats 4000000 in
theorem c_mbestL0 (σ : Mem) (hn : σ 52 12 = nI 0) : Cc yX6_bestOfLeases cX6_bestOfLeases 6 (some .int) 1 [.ref 52] σ (rI (sumR (clrf (σ 64) 128) 128) (mf σ 64 (clrf (σ 64) 128))) := by
  refine Cc.intro (by decide +kernel) [some (.ref 52), none, none, none, none, none] (fun _ => rfl) rfl (fun _ => Nat.le_of_ble_eq_true rfl) ?_
  intro X hX hR hr
  have r12 : ∀ g, mf σ 64 g 52 12 = nI 0 := fun _ => hn
  have k22 : Vw X 22 [some (.ref 52), some (.int (nI 128)), none, none, none, none] [] (mf σ 64 (clrf (σ 64) 128)) := by
    refine V_iconst (pc := 22) (v := (nI 0)) hX dX6_bestOfLeases_22 (by decide +kernel) ?_
    refine V_istore1 (pc := 23) hX dX6_bestOfLeases_23 rfl ?_
    refine V_iload_n (pc := 24) (i := 1) hX dX6_bestOfLeases_24 rfl rfl ?_
    refine V_sipush (pc := 25) (v := (nI 128)) hX dX6_bestOfLeases_25 (by decide +kernel) ?_
    refine V_icmp_geN (pc := 28) (tgt := 70) hX dX6_bestOfLeases_28 (by decide) (by omega) (by omega) (fun h28 => absurd h28 (by decide)) (fun _ => ?_)
    refine V_aload_n (pc := 31) (i := 0) hX dX6_bestOfLeases_31 rfl rfl ?_
    refine V_getf (pc := 32) hX fX6_140 dX6_bestOfLeases_32 rfl rfl ?_
    rw [r12]
    refine V_if_le (pc := 35) (tgt := 70) hX dX6_bestOfLeases_35 (by decide) (fun _ => ?_) (fun h => absurd (by decide +kernel) h)
    refine V_aload_n (pc := 70) (i := 0) hX dX6_bestOfLeases_70 rfl rfl ?_
    refine V_getf (pc := 71) hX fX6_140 dX6_bestOfLeases_71 rfl rfl ?_
    rw [r12]
    refine V_if_le (pc := 74) (tgt := 86) hX dX6_bestOfLeases_74 (by decide) (fun _ => ?_) (fun h => absurd (by decide +kernel) h)
    refine V_iconst (pc := 86) (v := (nI 1)) hX dX6_bestOfLeases_86 (by decide +kernel) ?_
    refine V_istore1 (pc := 87) hX dX6_bestOfLeases_87 rfl ?_
    refine V_iconst (pc := 88) (v := (nI 1)) hX dX6_bestOfLeases_88 (by decide +kernel) ?_
    refine V_istore2 (pc := 89) hX dX6_bestOfLeases_89 rfl ?_
    refine V_iload_n (pc := 90) (i := 2) hX dX6_bestOfLeases_90 rfl rfl ?_
    refine V_aload_n (pc := 91) (i := 0) hX dX6_bestOfLeases_91 rfl rfl ?_
    refine V_getf (pc := 92) hX fX6_140 dX6_bestOfLeases_92 rfl rfl ?_
    rw [r12]
    refine V_icmp_geN (pc := 95) (tgt := 216) hX dX6_bestOfLeases_95 (by decide) (by omega) (by omega) (fun _ => ?_) (fun h => absurd h (by decide))
    refine V_iconst (pc := 216) (v := (nI 0)) hX dX6_bestOfLeases_216 (by decide +kernel) ?_
    refine V_istore2 (pc := 217) hX dX6_bestOfLeases_217 rfl ?_
    refine V_iconst (pc := 218) (v := (nI 0)) hX dX6_bestOfLeases_218 (by decide +kernel) ?_
    refine V_istore3 (pc := 219) hX dX6_bestOfLeases_219 rfl ?_
    exact l_mb5 (b := some (.int (nI 1))) (y := none) (z := none) hX hR hr rfl ⟨by rw [mf_row], rfl⟩ 0 (Nat.zero_le _)
  refine V_iconst (pc := 0) (v := (nI 0)) hX dX6_bestOfLeases_0 (by decide +kernel) ?_
  refine V_istore1 (pc := 1) hX dX6_bestOfLeases_1 rfl ?_
  refine Vw.mem (show mf σ 64 (clrf (σ 64) 0) = σ by rw [clrf_0, mf_id]) ?_
  exact l_mb1 hX hR hr k22 0 (Nat.zero_le _)
set_option maxRecDepth 100000 in
set_option maxHeartbeats 4000000 in
theorem c_mbestL (n : Nat) (L : Nat → Nat) (σ : Mem) (hn : σ 52 12 = nI n) (hL : lok σ 59 n L) (hn0 : 0 < n) (hn4 : n ≤ 4) : Cc yX6_bestOfLeases cX6_bestOfLeases 6 (some .int) 1 [.ref 52] σ (rI (sumR (mbRow σ L n) 128) (mf σ 64 (mbRow σ L n))) := by
  refine Cc.intro (by decide +kernel) [some (.ref 52), none, none, none, none, none] (fun _ => rfl) rfl (fun _ => Nat.le_of_ble_eq_true rfl) ?_
  intro X hX hR hr
  have r12 : ∀ g, mf σ 64 g 52 12 = nI n := fun _ => hn
  obtain ⟨e, l1, l2⟩ := hL 0 hn0
  have k216 : ∀ b x y z : Option Value, nol [b, some (.int (nI n)), x, y, z] = true → Vw X 216 [some (.ref 52), b, some (.int (nI n)), x, y, z] [] (mf σ 64 (mbRow σ L n)) := by
    intro b x y z hz
    have hz2 : ∀ u : Int32, nol [some (Value.ref 52), b, some (.int u), x, y, z] = true := fun u => by
      cases b with
      | none => exact hz
      | some w => cases w <;> first | exact hz | (simp [nol] at hz)
    have hx : nol [x, y, z] = true := by
      cases b with
      | none => exact hz
      | some w => cases w <;> first | exact hz | (simp [nol] at hz)
    have hyz : nol [y, z] = true := by
      cases x with
      | none => exact hx
      | some w => cases w <;> first | exact hx | (simp [nol] at hx)
    have hb : nol [b, y, z] = true := by
      cases b with
      | none => exact hyz
      | some w => cases w <;> first | exact hyz | (simp [nol] at hz)
    refine V_iconst (pc := 216) (v := (nI 0)) hX dX6_bestOfLeases_216 (by decide +kernel) ?_
    refine V_istore2 (pc := 217) hX dX6_bestOfLeases_217 (hz2 _) ?_
    refine V_iconst (pc := 218) (v := (nI 0)) hX dX6_bestOfLeases_218 (by decide +kernel) ?_
    refine V_istore3 (pc := 219) hX dX6_bestOfLeases_219 (hz2 _) ?_
    exact l_mb5 (b := b) (y := y) (z := z) hX hR hr hb ⟨by rw [mf_row], rfl⟩ 0 (Nat.zero_le _)
  have k70 : Vw X 70 [some (.ref 52), some (.int (nI 128)), none, none, none, none] [] (mf σ 64 (p2f (σ 61) (σ 60 0) (L 0) (clrf (σ 64) 128) 128)) := by
    refine V_aload_n (pc := 70) (i := 0) hX dX6_bestOfLeases_70 rfl rfl ?_
    refine V_getf (pc := 71) hX fX6_140 dX6_bestOfLeases_71 rfl rfl ?_
    rw [r12]
    refine V_if_le (pc := 74) (tgt := 86) hX dX6_bestOfLeases_74 (by decide) (fun h => absurd h (nI_nle hn0 (by omega))) (fun _ => ?_)
    refine V_aload_n (pc := 77) (i := 0) hX dX6_bestOfLeases_77 rfl rfl ?_
    refine V_getr (pc := 78) hX fX6_28 dX6_bestOfLeases_78 rfl rfl ?_
    refine V_iconst (pc := 81) (v := (nI 0)) hX dX6_bestOfLeases_81 (by decide +kernel) ?_
    refine V_iald (pc := 82) hX dX6_bestOfLeases_82 (rfl) (rfl) (by omega) (by decide) ?_
    rw [show ∀ g, mf σ 64 g 59 0 = nI (L 0) from fun _ => e]
    refine V_goto (pc := 83) (tgt := 87) hX dX6_bestOfLeases_83 (by decide) ?_
    refine V_istore1 (pc := 87) hX dX6_bestOfLeases_87 rfl ?_
    refine V_iconst (pc := 88) (v := (nI 1)) hX dX6_bestOfLeases_88 (by decide +kernel) ?_
    refine V_istore2 (pc := 89) hX dX6_bestOfLeases_89 rfl ?_
    exact l_mbL (g := p2f (σ 61) (σ 60 0) (L 0) (clrf (σ 64) 128) 128) hX hR hr hn hL hn0 hn4 k216 0 (by omega) none none none rfl
  have k22 : Vw X 22 [some (.ref 52), some (.int (nI 128)), none, none, none, none] [] (mf σ 64 (clrf (σ 64) 128)) := by
    refine V_iconst (pc := 22) (v := (nI 0)) hX dX6_bestOfLeases_22 (by decide +kernel) ?_
    refine V_istore1 (pc := 23) hX dX6_bestOfLeases_23 rfl ?_
    exact l_mb2 (o := clrf (σ 64) 128) hX hR hr hn hL hn0 hn4 k70 0 (Nat.zero_le _)
  refine V_iconst (pc := 0) (v := (nI 0)) hX dX6_bestOfLeases_0 (by decide +kernel) ?_
  refine V_istore1 (pc := 1) hX dX6_bestOfLeases_1 rfl ?_
  refine Vw.mem (show mf σ 64 (clrf (σ 64) 0) = σ by rw [clrf_0, mf_id]) ?_
  exact l_mb1 hX hR hr k22 0 (Nat.zero_le _)
/-- what the reference's loops over days and spans count -/
def lv1 (w : Int32) (toll as : Nat → Int32) : Nat → Int32
  | 0 => nI 0
  | k + 1 => lv1 w toll as k + (if w = nI 1 then toll k else if w = nI 3 ∧ ¬ as k = 0 then nI 1 else nI 0)
def lv2 (v : Int32) (ib : Nat → Int32) : Nat → Int32
  | 0 => v
  | k + 1 => lv2 v ib k + (if ib k = 0 then nI 0 else nI 1)
set_option maxRecDepth 100000 in
set_option maxHeartbeats 4000000 in
theorem l_mleases1 {w : Int32} {X : XC} {P : Option Value → Mem → Prop} {σ : Mem} (hX : Cok X RX6 cX6_leases 4) (hR : Rok X 2) (hr : Ret X (some .int) P) (kk : Vw X 73 [some (.ref 52), some (.int w), some (.int (lv1 w (σ 62) (σ 61) 128)), some (.int (nI 128))] [] σ) (k : Nat) (hk : k ≤ 128) : Vw X 24 [some (.ref 52), some (.int w), some (.int (lv1 w (σ 62) (σ 61) k)), some (.int (nI k))] [] σ := by
  refine V_iload_n (pc := 24) (i := 3) hX dX6_leases_24 rfl rfl ?_
  refine V_sipush (pc := 25) (v := (nI 128)) hX dX6_leases_25 (by decide +kernel) ?_
  refine V_icmp_geN (pc := 28) (tgt := 73) hX dX6_leases_28 (by decide) (by omega) (by omega) (fun h28 => ?_) (fun h28 => ?_)
  · obtain rfl : k = 128 := by omega
    exact kk
  · refine V_iload_n (pc := 31) (i := 2) hX dX6_leases_31 rfl rfl ?_
    refine V_iload_n (pc := 32) (i := 1) hX dX6_leases_32 rfl rfl ?_
    refine V_iconst (pc := 33) (v := (nI 1)) hX dX6_leases_33 (by decide +kernel) ?_
    refine V_icmp_ne (pc := 34) (tgt := 46) hX dX6_leases_34 (by decide) (fun h34 => ?_) (fun h34 => ?_)
    · refine V_iload_n (pc := 46) (i := 1) hX dX6_leases_46 rfl rfl ?_
      refine V_iconst (pc := 47) (v := (nI 3)) hX dX6_leases_47 (by decide +kernel) ?_
      refine V_icmp_ne (pc := 48) (tgt := 64) hX dX6_leases_48 (by decide) (fun h48 => ?_) (fun h48 => ?_)
      · refine V_iconst (pc := 64) (v := (nI 0)) hX dX6_leases_64 (by decide +kernel) ?_
        refine V_iadd (pc := 65) hX dX6_leases_65 ?_
        refine V_istore2 (pc := 66) hX dX6_leases_66 rfl ?_
        refine V_iinc3 (pc := 67) hX dX6_leases_67 rfl (iinc1 _) ?_
        refine V_goto (pc := 70) (tgt := 24) hX dX6_leases_70 (by decide) ?_
        have ih := l_mleases1 hX hR hr kk (k + 1) (by omega)
        rw [lv1, if_neg h34, if_neg (fun q => h48 q.1)] at ih
        exact ih
      · refine V_aload_n (pc := 51) (i := 0) hX dX6_leases_51 rfl rfl ?_
        refine V_getr (pc := 52) hX fX6_34 dX6_leases_52 rfl rfl ?_
        refine V_iload_n (pc := 55) (i := 3) hX dX6_leases_55 rfl rfl ?_
        refine V_zald (pc := 56) hX dX6_leases_56 (rfl) (rfl) (by omega) (by decide) ?_
        refine V_if_eq (pc := 57) (tgt := 64) hX dX6_leases_57 (by decide) (fun h57 => ?_) (fun h57 => ?_)
        · refine V_iconst (pc := 64) (v := (nI 0)) hX dX6_leases_64 (by decide +kernel) ?_
          refine V_iadd (pc := 65) hX dX6_leases_65 ?_
          refine V_istore2 (pc := 66) hX dX6_leases_66 rfl ?_
          refine V_iinc3 (pc := 67) hX dX6_leases_67 rfl (iinc1 _) ?_
          refine V_goto (pc := 70) (tgt := 24) hX dX6_leases_70 (by decide) ?_
          have ih := l_mleases1 hX hR hr kk (k + 1) (by omega)
          rw [lv1, if_neg h34, if_neg (fun q => q.2 h57)] at ih
          exact ih
        · refine V_iconst (pc := 60) (v := (nI 1)) hX dX6_leases_60 (by decide +kernel) ?_
          refine V_goto (pc := 61) (tgt := 65) hX dX6_leases_61 (by decide) ?_
          refine V_iadd (pc := 65) hX dX6_leases_65 ?_
          refine V_istore2 (pc := 66) hX dX6_leases_66 rfl ?_
          refine V_iinc3 (pc := 67) hX dX6_leases_67 rfl (iinc1 _) ?_
          refine V_goto (pc := 70) (tgt := 24) hX dX6_leases_70 (by decide) ?_
          have ih := l_mleases1 hX hR hr kk (k + 1) (by omega)
          rw [lv1, if_neg h34, if_pos ⟨h48, h57⟩] at ih
          exact ih
    · refine V_aload_n (pc := 37) (i := 0) hX dX6_leases_37 rfl rfl ?_
      refine V_getr (pc := 38) hX fX6_38 dX6_leases_38 rfl rfl ?_
      refine V_iload_n (pc := 41) (i := 3) hX dX6_leases_41 rfl rfl ?_
      refine V_iald (pc := 42) hX dX6_leases_42 (rfl) (rfl) (by omega) (by decide) ?_
      refine V_goto (pc := 43) (tgt := 65) hX dX6_leases_43 (by decide) ?_
      refine V_iadd (pc := 65) hX dX6_leases_65 ?_
      refine V_istore2 (pc := 66) hX dX6_leases_66 rfl ?_
      refine V_iinc3 (pc := 67) hX dX6_leases_67 rfl (iinc1 _) ?_
      refine V_goto (pc := 70) (tgt := 24) hX dX6_leases_70 (by decide) ?_
      have ih := l_mleases1 hX hR hr kk (k + 1) (by omega)
      rw [lv1, if_pos h34] at ih
      exact ih
termination_by 128 - k
set_option maxRecDepth 100000 in
set_option maxHeartbeats 4000000 in
theorem l_mleases2 {v : Int32} {X : XC} {P : Option Value → Mem → Prop} {σ : Mem} (hX : Cok X RX6 cX6_leases 4) (hR : Rok X 2) (hr : Ret X (some .int) P) (kk : Vw X 110 [some (.ref 52), some (.int (nI 4)), some (.int (lv2 v (σ 63) 512)), some (.int (nI 512))] [] σ) (k : Nat) (hk : k ≤ 512) : Vw X 75 [some (.ref 52), some (.int (nI 4)), some (.int (lv2 v (σ 63) k)), some (.int (nI k))] [] σ := by
  refine V_iload_n (pc := 75) (i := 3) hX dX6_leases_75 rfl rfl ?_
  refine V_sipush (pc := 76) (v := (nI 512)) hX dX6_leases_76 (by decide +kernel) ?_
  refine V_icmp_geN (pc := 79) (tgt := 110) hX dX6_leases_79 (by decide) (by omega) (by omega) (fun h79 => ?_) (fun h79 => ?_)
  · obtain rfl : k = 512 := by omega
    exact kk
  · refine V_iload_n (pc := 82) (i := 1) hX dX6_leases_82 rfl rfl ?_
    refine V_iconst (pc := 83) (v := (nI 4)) hX dX6_leases_83 (by decide +kernel) ?_
    refine V_icmp_ne (pc := 84) (tgt := 110) hX dX6_leases_84 (by decide) (fun h84 => absurd h84 (fun q => q rfl)) (fun h84 => ?_)
    refine V_iload_n (pc := 87) (i := 2) hX dX6_leases_87 rfl rfl ?_
    refine V_aload_n (pc := 88) (i := 0) hX dX6_leases_88 rfl rfl ?_
    refine V_getr (pc := 89) hX fX6_41 dX6_leases_89 rfl rfl ?_
    refine V_iload_n (pc := 92) (i := 3) hX dX6_leases_92 rfl rfl ?_
    refine V_zald (pc := 93) hX dX6_leases_93 (rfl) (rfl) (by omega) (by decide) ?_
    refine V_if_eq (pc := 94) (tgt := 101) hX dX6_leases_94 (by decide) (fun h94 => ?_) (fun h94 => ?_)
    · refine V_iconst (pc := 101) (v := (nI 0)) hX dX6_leases_101 (by decide +kernel) ?_
      refine V_iadd (pc := 102) hX dX6_leases_102 ?_
      refine V_istore2 (pc := 103) hX dX6_leases_103 rfl ?_
      refine V_iinc3 (pc := 104) hX dX6_leases_104 rfl (iinc1 _) ?_
      refine V_goto (pc := 107) (tgt := 75) hX dX6_leases_107 (by decide) ?_
      have ih := l_mleases2 hX hR hr kk (k + 1) (by omega)
      rw [lv2, if_pos h94] at ih
      exact ih
    · refine V_iconst (pc := 97) (v := (nI 1)) hX dX6_leases_97 (by decide +kernel) ?_
      refine V_goto (pc := 98) (tgt := 102) hX dX6_leases_98 (by decide) ?_
      refine V_iadd (pc := 102) hX dX6_leases_102 ?_
      refine V_istore2 (pc := 103) hX dX6_leases_103 rfl ?_
      refine V_iinc3 (pc := 104) hX dX6_leases_104 rfl (iinc1 _) ?_
      refine V_goto (pc := 107) (tgt := 75) hX dX6_leases_107 (by decide) ?_
      have ih := l_mleases2 hX hR hr kk (k + 1) (by omega)
      rw [lv2, if_neg h94] at ih
      exact ih
termination_by 512 - k
def mleasesB (σ : Mem) (L : Nat → Nat) (n : Nat) : Int32 := if n = 0 then sumR (clrf (σ 64) 128) 128 else sumR (mbRow σ L n) 128
def mleasesR (σ : Mem) (L : Nat → Nat) (n : Nat) : Nat → Int32 := if n = 0 then clrf (σ 64) 128 else mbRow σ L n
theorem c_mbestG (n : Nat) (L : Nat → Nat) (σ : Mem) (hn : σ 52 12 = nI n) (hL : lok σ 59 n L) (hn4 : n ≤ 4) : Cc yX6_bestOfLeases cX6_bestOfLeases 6 (some .int) 1 [.ref 52] σ (rI (mleasesB σ L n) (mf σ 64 (mleasesR σ L n))) := by
  unfold mleasesB mleasesR
  rcases Nat.eq_zero_or_pos n with h | h
  · subst h
    rw [if_pos rfl, if_pos rfl]
    exact c_mbestL0 σ hn
  · rw [if_neg (by omega), if_neg (by omega)]
    exact c_mbestL n L σ hn hL h hn4
def mleasesF (leased b v1 v2 w : Int32) : Int32 := if inr2 w 0 4 then (if w = nI 0 then leased else if w = nI 2 then b else if w = nI 4 then v2 else v1) else (-1000001)
def mleasesM (σ : Mem) (L : Nat → Nat) (n : Nat) (w : Int32) : Mem := if w = nI 2 then mf σ 64 (mleasesR σ L n) else σ
set_option maxRecDepth 100000 in
set_option maxHeartbeats 4000000 in
theorem c_mleases (n : Nat) (L : Nat → Nat) (w : Int32) (σ : Mem) (hn : σ 52 12 = nI n) (hL : lok σ 59 n L) (hn4 : n ≤ 4) : Cc yX6_leases cX6_leases 4 (some .int) 2 [.ref 52, .int w] σ (rI (mleasesF (σ 52 19) (mleasesB σ L n) (lv1 w (σ 62) (σ 61) 128) (lv2 (lv1 w (σ 62) (σ 61) 128) (σ 63) 512) w) (mleasesM (m0 σ) L n w)) := by
  refine Cc.intro (by decide +kernel) [some (.ref 52), some (.int w), none, none] (fun _ => rfl) rfl (fun _ => Nat.le_of_ble_eq_true rfl) ?_
  intro X hX hR hr
  have a12 : m0 σ 52 12 = nI n := by rw [m0_c (by decide)]; exact hn
  have a19 : m0 σ 52 19 = σ 52 19 := m0_c (by decide)
  have aL : lok (m0 σ) 59 n L := fun j hj => by rw [m0_r (by decide)]; exact hL j hj
  have a62 : m0 σ 62 = σ 62 := m0_r (by decide)
  have a61 : m0 σ 61 = σ 61 := m0_r (by decide)
  have a63 : m0 σ 63 = σ 63 := m0_r (by decide)
  have eb : mleasesB (m0 σ) L n = mleasesB σ L n := by
    unfold mleasesB mbRow
    rw [a61, m0_r (by decide), m0_r (by decide)]
  have z0 : ∀ {z : Int32}, z = 0 ↔ z = nI 0 := fun {z} => by rw [nI_0]
  have w2 : inr2 w 0 4 = false → ¬ w = nI 2 := fun h q => by rw [q] at h; exact absurd h (by decide +kernel)
  have k110 : inr2 w 0 4 = true → ∀ v : Int32, ∀ y : Int32, (w = nI 4 → v = lv2 (lv1 w (σ 62) (σ 61) 128) (σ 63) 512) → (¬ w = nI 4 → v = lv1 w (σ 62) (σ 61) 128) → Vw X 110 [some (.ref 52), some (.int w), some (.int v), some (.int y)] [] (m0 σ) := by
    intro hw v y h4 h4'
    refine V_iload_n (pc := 110) (i := 1) hX dX6_leases_110 rfl rfl ?_
    refine V_if_ne (pc := 111) (tgt := 121) hX dX6_leases_111 (by decide) (fun h111 => ?_) (fun h111 => ?_)
    · refine V_iload_n (pc := 121) (i := 1) hX dX6_leases_121 rfl rfl ?_
      refine V_iconst (pc := 122) (v := (nI 2)) hX dX6_leases_122 (by decide +kernel) ?_
      refine V_icmp_ne (pc := 123) (tgt := 133) hX dX6_leases_123 (by decide) (fun h123 => ?_) (fun h123 => ?_)
      · refine V_iload_n (pc := 133) (i := 2) hX dX6_leases_133 rfl rfl ?_
        exact V_iret (pc := 134) (st := []) hX hr (by first | rfl | exact bI_nar _ | decide +kernel) dX6_leases_134 (by
  rw [mleasesF, hw, if_pos rfl, if_neg (fun q => h111 (z0.mpr q)), if_neg h123, mleasesM, if_neg h123]
  by_cases q : w = nI 4
  · rw [if_pos q, ← h4 q]; exact ⟨rfl, rfl⟩
  · rw [if_neg q, ← h4' q]; exact ⟨rfl, rfl⟩)
      · refine V_aload_n (pc := 126) (i := 0) hX dX6_leases_126 rfl rfl ?_
        refine V_callVi (pc := 127) hX (hR.mono (by omega)) mX6_163 (c_mbestG n L _ a12 aL hn4) dX6_leases_127 rfl rfl rfl rfl (Nat.le_of_ble_eq_true rfl) ?_
        refine V_goto (pc := 130) (tgt := 134) hX dX6_leases_130 (by decide) ?_
        exact V_iret (pc := 134) (st := []) hX hr (by first | rfl | exact bI_nar _ | decide +kernel) dX6_leases_134 (⟨by rw [mleasesF, hw, if_pos rfl, if_neg (fun q => h111 (z0.mpr q)), if_pos h123, eb], by rw [mleasesM, if_pos h123]⟩)
    · refine V_aload_n (pc := 114) (i := 0) hX dX6_leases_114 rfl rfl ?_
      refine V_getf (pc := 115) hX fX6_158 dX6_leases_115 rfl rfl ?_
      rw [a19]
      refine V_goto (pc := 118) (tgt := 134) hX dX6_leases_118 (by decide) ?_
      exact V_iret (pc := 134) (st := []) hX hr (by first | rfl | exact bI_nar _ | decide +kernel) dX6_leases_134 (⟨by rw [mleasesF, hw, if_pos rfl, if_pos (z0.mp h111)], by rw [mleasesM, if_neg (fun q => absurd ((z0.mp h111).symm.trans q) (by decide +kernel))]⟩)
  have k73 : inr2 w 0 4 = true → Vw X 73 [some (.ref 52), some (.int w), some (.int (lv1 w (m0 σ 62) (m0 σ 61) 128)), some (.int (nI 128))] [] (m0 σ) := by
    intro hw
    rw [a61, a62]
    by_cases q : w = nI 4
    · have kq := k110 hw (lv2 (lv1 w (σ 62) (σ 61) 128) (σ 63) 512) (nI 512) (fun _ => rfl) (fun q2 => absurd q q2)
      have kz := fun (v : Int32) (kk : Vw X 110 [some (.ref 52), some (.int (nI 4)), some (.int (lv2 v (m0 σ 63) 512)), some (.int (nI 512))] [] (m0 σ)) => l_mleases2 (v := v) hX hR hr kk 0 (Nat.zero_le _)
      rw [a63] at kz
      refine V_iconst (pc := 73) (v := (nI 0)) hX dX6_leases_73 (by decide +kernel) ?_
      refine V_istore3 (pc := 74) hX dX6_leases_74 rfl ?_
      have k9 := kz (lv1 w (σ 62) (σ 61) 128)
      rw [← q] at k9
      exact k9 kq
    · refine V_iconst (pc := 73) (v := (nI 0)) hX dX6_leases_73 (by decide +kernel) ?_
      refine V_istore3 (pc := 74) hX dX6_leases_74 rfl ?_
      refine V_iload_n (pc := 75) (i := 3) hX dX6_leases_75 rfl rfl ?_
      refine V_sipush (pc := 76) (v := (nI 512)) hX dX6_leases_76 (by decide +kernel) ?_
      refine V_icmp_geN (pc := 79) (tgt := 110) hX dX6_leases_79 (by decide) (by omega) (by omega) (fun h79 => absurd h79 (by decide)) (fun _ => ?_)
      refine V_iload_n (pc := 82) (i := 1) hX dX6_leases_82 rfl rfl ?_
      refine V_iconst (pc := 83) (v := (nI 4)) hX dX6_leases_83 (by decide +kernel) ?_
      refine V_icmp_ne (pc := 84) (tgt := 110) hX dX6_leases_84 (by decide) (fun _ => ?_) (fun h => absurd h q)
      exact k110 hw _ _ (fun q2 => absurd q2 q) (fun _ => rfl)
  refine V_aload_n (pc := 0) (i := 0) hX dX6_leases_0 rfl rfl ?_
  refine V_iconst (pc := 1) (v := (nI 0)) hX dX6_leases_1 (by decide +kernel) ?_
  refine V_putf (pc := 2) hX fX6_66 gi6_0 dX6_leases_2 rfl rfl ?_
  refine Vw.mem (rfl : m0 σ = _) ?_
  refine V_iload_n (pc := 5) (i := 1) hX dX6_leases_5 rfl rfl ?_
  refine V_i2l (pc := 6) hX dX6_leases_6 ?_
  refine V_lconst (pc := 7) (v := lN 0) hX dX6_leases_7 (by decide +kernel) ?_
  refine V_ldc2 (pc := 8) hX kX6_161 dX6_leases_8 ?_
  refine V_callSi (pc := 11) hX (hR.mono (by omega)) mX6_75 (c_inN w 0 4 (by decide) (by decide) _) dX6_leases_11 rfl rfl rfl (Nat.le_of_ble_eq_true rfl) ?_
  refine V_if_neB (pc := 14) (tgt := 20) hX dX6_leases_14 (by decide) (fun h14 => ?_) (fun h14 => ?_)
  · refine V_iconst (pc := 20) (v := (nI 0)) hX dX6_leases_20 (by decide +kernel) ?_
    refine V_istore2 (pc := 21) hX dX6_leases_21 rfl ?_
    refine V_iconst (pc := 22) (v := (nI 0)) hX dX6_leases_22 (by decide +kernel) ?_
    refine V_istore3 (pc := 23) hX dX6_leases_23 rfl ?_
    exact l_mleases1 hX hR hr (k73 h14) 0 (Nat.zero_le _)
  · refine V_ldc (pc := 17) hX kX6_85 dX6_leases_17 ?_
    exact V_iret (pc := 19) (st := []) hX hr (by first | rfl | exact bI_nar _ | decide +kernel) dX6_leases_19 (⟨by rw [mleasesF, h14]; rfl, by rw [mleasesM, if_neg (w2 h14)]⟩)

