/-! ===== the law's body: its end ===== -/
theorem havf_cg {th th' : Nat → Int32} {t : Nat} : ∀ k, (∀ j, j < k → th j = th' j) → havf th t k = havf th' t k
  | 0, _ => rfl
  | k + 1, h => by rw [havf, havf, havf_cg k (fun j hj => h j (by omega)), h k (by omega)]
theorem sharf_cg {dem : Int32} {th th' : Nat → Int32} {n : Nat} (h : ∀ j, j < n → th j = th' j) : ∀ m, sharf dem th n m = sharf dem th' n m
  | 0 => rfl
  | m + 1 => by rw [sharf, sharf, sharf_cg h m, havf_cg n h]
theorem nearf_cg {bo : Int32} {c c' th th' pr pr' : Nat → Int32} (hp : ∀ i, i < 12 → pr i = pr' i) : ∀ k, (∀ j, j < k → c j = c' j ∧ th j = th' j) → nearf bo c th pr k = nearf bo c' th' pr' k
  | 0, _ => rfl
  | k + 1, h => by rw [nearf, nearf, nearf_cg hp k (fun j hj => h j (by omega)), (h k (by omega)).1, (h k (by omega)).2, pf_cg 12 hp]
theorem k_cov1 {L : Nat} {xs : Nat → Int32} {σ : Mem} {N P A : Nat} {dem bo : Int32} (h : LI L xs σ N dem bo P) (e : pf (nI 4095) (σ 53) 12 = nI A) : Cc yX5_covers cX5_covers 2 (some .int) 13 [.ref 0, .int (nI 1)] σ (rI (nI A) σ) := by
  have c := c_covers N (nI 1) σ h.n.1 h.n.2
  rw [coversF, if_neg (by decide +kernel), if_pos rfl, ← pf_cg 12 h.2.2.2.2.1, e] at c
  exact c
theorem k_cov2 {L : Nat} {xs : Nat → Int32} {σ : Mem} {N P B : Nat} {dem bo : Int32} (h : LI L xs σ N dem bo P) (e : lff (σ 17) (σ 18) N N dem = nI B) : Cc yX5_covers cX5_covers 2 (some .int) 13 [.ref 0, .int (nI 2)] σ (rI (nI B) σ) := by
  have c := c_covers N (nI 2) σ h.n.1 h.n.2
  rw [coversF, if_neg (by decide +kernel), if_neg (by decide +kernel), if_pos rfl, h.2.2.2.1.1, e] at c
  exact c
theorem k_cov3 {L : Nat} {xs : Nat → Int32} {σ : Mem} {N P S : Nat} {dem bo : Int32} (h : LI L xs σ N dem bo P) (e : sharf dem (thF L xs) N 12 = nI S) : Cc yX5_covers cX5_covers 2 (some .int) 13 [.ref 0, .int (nI 3)] σ (rI (nI S) σ) := by
  have c := c_covers N (nI 3) σ h.n.1 h.n.2
  rw [coversF, if_neg (by decide +kernel), if_neg (by decide +kernel), if_neg (by decide +kernel), if_pos rfl, h.2.2.2.1.1, sharf_cg (fun j hj => (h.2.1 j hj).2), e] at c
  exact c
theorem k_count3 {L : Nat} {xs : Nat → Int32} {σ : Mem} {N P : Nat} {dem bo : Int32} (h : LI L xs σ N dem bo P) : Cc yX5_count cX5_count 2 (some .int) 5 [.ref 0, .int (nI 3)] σ (rI (nI (nearf bo (cF L xs) (thF L xs) (σ 53) N)) σ) := by
  have c := c_count3 N σ h.n.1 h.n.2
  rw [h.2.2.2.1.2.1, nearf_cg (pr' := σ 53) (fun i hi => (h.2.2.2.2.1 i hi).symm) N h.2.1] at c
  exact c
theorem k_off1 {L : Nat} {xs : Nat → Int32} {σ : Mem} {N P : Nat} {dem bo : Int32} (h : LI L xs σ N dem bo P) (hd : ¬ dem = 0) : Cc yX5_offer cX5_offer 3 (some .int) 1 [.ref 0, .int (nI 1), .int (nI 1)] σ (rI (-1000002) σ) := by
  have c := c_offer N (nI 1) (nI 1) σ h.n.1 h.n.2
  have e1 : (inr2 (nI 1) 1 1000 && inr2 (nI 1) 1 4095) = true := by decide +kernel
  rw [offerF, offerM, e1, if_pos rfl, if_pos rfl, h.2.2.2.1.1, if_neg hd, if_neg hd] at c
  exact c
set_option maxRecDepth 100000 in
set_option maxHeartbeats 4000000 in
theorem l_831 {L : Nat} {xs : Nat → Int32} {X : XC} (hX : Cok X RL cL_law 15) (hp : Pok X) (hR : Rok X 20) (hs : Scr X L xs) (hL : L < 2 ^ 31) {σ : Mem} {N P A B Sh : Nat} {dem bo v : Int32} (h : LI L xs σ N dem bo P) (e2 : lff (σ 17) (σ 18) N N dem = nI B) (e3 : pf (nI 4095) (σ 53) 12 = nI A) (e4 : sharf dem (thF L xs) N 12 = nI Sh) (i1 : P ≤ Sh * A) (i2 : A ≤ B) (i3 : B ≤ P) (i4 : A ≤ 12000) (i5 : Sh ≤ 10) (i6 : P ≤ 400) (kk : ∀ τ, Lw X 915 [some (.ref 52), some (.ref 0), some (.int (nI N)), some (.int (dem)), some (.int (bo)), some (.int (nI P)), some (.ref 53), some (.int (nI A)), some (.int (nI Sh)), some (.int (nI (nearf bo (cF L xs) (thF L xs) (σ 53) N))), some (.int (nI B)), some (.int (v)), none, none, none] [.int (nI 1)] τ) : Lw X 831 [some (.ref 52), some (.ref 0), some (.int (nI N)), some (.int (dem)), some (.int (bo)), some (.int (nI P)), some (.ref 53), some (.int (nI A)), some (.int (nI Sh)), some (.int (nI (nearf bo (cF L xs) (thF L xs) (σ 53) N))), some (.int (nI B)), some (.int (v)), none, none, none] [] σ := by
  have hSA : Sh * A ≤ 10 * 12000 := Nat.mul_le_mul i5 i4
  obtain ⟨Q, hQ⟩ : ∃ Q, Q = Sh * A := ⟨_, rfl⟩
  rw [← hQ] at i1 hSA
  refine L_aload_n (pc := 831) (i := 1) hX dL_law_831 rfl rfl ?_
  refine L_iconst (pc := 832) (v := (nI 1)) hX dL_law_832 (by decide +kernel) ?_
  refine L_callVi (pc := 833) hX hp (hR.mono (by omega)) mL_42 (k_cov1 h e3) dL_law_833 rfl rfl rfl rfl (Nat.le_of_ble_eq_true rfl) (rfl) ?_
  refine L_iload (pc := 836) (i := 7) hX dL_law_836 rfl ?_
  refine L_icmp_ne (pc := 838) (tgt := 914) hX dL_law_838 (by decide) (fun h838 => absurd h838 (fun q => q rfl)) (fun h838 => ?_)
  refine L_aload_n (pc := 841) (i := 1) hX dL_law_841 rfl rfl ?_
  refine L_iconst (pc := 842) (v := (nI 2)) hX dL_law_842 (by decide +kernel) ?_
  refine L_callVi (pc := 843) hX hp (hR.mono (by omega)) mL_42 (k_cov2 h e2) dL_law_843 rfl rfl rfl rfl (Nat.le_of_ble_eq_true rfl) (rfl) ?_
  refine L_iload (pc := 846) (i := 10) hX dL_law_846 rfl ?_
  refine L_icmp_ne (pc := 848) (tgt := 914) hX dL_law_848 (by decide) (fun h848 => absurd h848 (fun q => q rfl)) (fun h848 => ?_)
  refine L_aload_n (pc := 851) (i := 1) hX dL_law_851 rfl rfl ?_
  refine L_iconst (pc := 852) (v := (nI 3)) hX dL_law_852 (by decide +kernel) ?_
  refine L_callVi (pc := 853) hX hp (hR.mono (by omega)) mL_42 (k_cov3 h e4) dL_law_853 rfl rfl rfl rfl (Nat.le_of_ble_eq_true rfl) (rfl) ?_
  refine L_iload (pc := 856) (i := 8) hX dL_law_856 rfl ?_
  refine L_icmp_ne (pc := 858) (tgt := 914) hX dL_law_858 (by decide) (fun h858 => absurd h858 (fun q => q rfl)) (fun h858 => ?_)
  refine L_iload (pc := 861) (i := 5) hX dL_law_861 rfl ?_
  refine L_iload (pc := 863) (i := 8) hX dL_law_863 rfl ?_
  refine L_iload (pc := 865) (i := 7) hX dL_law_865 rfl ?_
  refine L_imul (pc := 867) hX dL_law_867 ?_
  rw [pk_mul, ← hQ]
  refine L_icmp_gtN (pc := 868) (tgt := 914) hX dL_law_868 (by decide) (by omega) (by omega) (fun h868 => absurd h868 ((by omega))) (fun h868 => ?_)
  refine L_iload (pc := 871) (i := 7) hX dL_law_871 rfl ?_
  refine L_iload (pc := 873) (i := 10) hX dL_law_873 rfl ?_
  refine L_icmp_gtN (pc := 875) (tgt := 914) hX dL_law_875 (by decide) (by omega) (by omega) (fun h875 => absurd h875 ((by omega))) (fun h875 => ?_)
  refine L_iload (pc := 878) (i := 10) hX dL_law_878 rfl ?_
  refine L_iload (pc := 880) (i := 5) hX dL_law_880 rfl ?_
  refine L_icmp_gtN (pc := 882) (tgt := 914) hX dL_law_882 (by decide) (by omega) (by omega) (fun h882 => absurd h882 ((by omega))) (fun h882 => ?_)
  refine L_aload_n (pc := 885) (i := 1) hX dL_law_885 rfl rfl ?_
  refine L_iconst (pc := 886) (v := (nI 3)) hX dL_law_886 (by decide +kernel) ?_
  refine L_callVi (pc := 887) hX hp (hR.mono (by omega)) mL_58 (k_count3 h) dL_law_887 rfl rfl rfl rfl (Nat.le_of_ble_eq_true rfl) (rfl) ?_
  refine L_iload (pc := 890) (i := 9) hX dL_law_890 rfl ?_
  refine L_icmp_ne (pc := 892) (tgt := 914) hX dL_law_892 (by decide) (fun h892 => absurd h892 (fun q => q rfl)) (fun h892 => ?_)
  refine L_iload_n (pc := 895) (i := 3) hX dL_law_895 rfl rfl ?_
  refine L_if_eq (pc := 896) (tgt := 910) hX dL_law_896 (by decide) (fun h896 => ?_) (fun h896 => ?_)
  · refine L_iconst (pc := 910) (v := (nI 1)) hX dL_law_910 (by decide +kernel) ?_
    refine L_goto (pc := 911) (tgt := 915) hX dL_law_911 (by decide) ?_
    exact kk _
  · refine L_aload_n (pc := 899) (i := 1) hX dL_law_899 rfl rfl ?_
    refine L_iconst (pc := 900) (v := (nI 1)) hX dL_law_900 (by decide +kernel) ?_
    refine L_iconst (pc := 901) (v := (nI 1)) hX dL_law_901 (by decide +kernel) ?_
    refine L_callVi (pc := 902) hX hp (hR.mono (by omega)) mL_22 (k_off1 h h896) dL_law_902 rfl rfl rfl rfl (Nat.le_of_ble_eq_true rfl) (rfl) ?_
    refine L_ldc (pc := 905) hX kL_41 dL_law_905 ?_
    refine L_icmp_ne (pc := 907) (tgt := 914) hX dL_law_907 (by decide) (fun h907 => absurd h907 (fun q => q rfl)) (fun h907 => ?_)
    refine L_iconst (pc := 910) (v := (nI 1)) hX dL_law_910 (by decide +kernel) ?_
    refine L_goto (pc := 911) (tgt := 915) hX dL_law_911 (by decide) ?_
    exact kk _
set_option maxRecDepth 100000 in
set_option maxHeartbeats 4000000 in
theorem l_719 {L : Nat} {xs : Nat → Int32} {X : XC} (hX : Cok X RL cL_law 15) (hp : Pok X) (hR : Rok X 20) (hs : Scr X L xs) (hL : L < 2 ^ 31) {σ : Mem} {N P : Nat} {dem bo v : Int32} {pr : Nat → Int32} (h : LI L xs σ N dem bo P) (hpr : σ 53 = pr) (kk : ∀ A Sh B nr M τ, Lw X 915 [some (.ref 52), some (.ref 0), some (.int (nI N)), some (.int (dem)), some (.int (bo)), some (.int (nI P)), some (.ref 53), some (.int (nI A)), some (.int (nI Sh)), some (.int (nr)), some (.int (nI B)), some (.int (nI M)), none, none, none] [.int (nI 1)] τ) : Lw X 719 [some (.ref 52), some (.ref 0), some (.int (nI N)), some (.int (dem)), some (.int (bo)), some (.int (nI P)), some (.ref 53), some (.int (pf (nI 4095) pr 12)), some (.int (sharf dem (thF L xs) N 12)), some (.int (nI (nearf bo (cF L xs) (thF L xs) pr N))), some (.int (v)), none, none, none, none] [] σ := by
  have hN := h.mem.1
  obtain ⟨B, A, Sh, o1, o2, o3, o4, i1, i2, i3, i4, i5, i6⟩ := opt_ok h
  rw [← hpr, o3, o4]
  refine L_ldc (pc := 719) hX kL_32 dL_law_719 ?_
  refine L_istore10 (pc := 721) hX dL_law_721 rfl ?_
  refine L_iconst (pc := 723) (v := (nI 0)) hX dL_law_723 (by decide +kernel) ?_
  refine L_istore11 (pc := 724) hX dL_law_724 rfl ?_
  have r := l_831 hX hp hR hs hL (v := nI (2 ^ N)) h o2 o3 o4 i1 i2 i3 i4 i5 i6 (fun τ => kk A Sh B _ (2 ^ N) τ)
  rw [← o1] at r
  exact l_best hX hp hR hs hL hN (shl_N N (by omega)) (Nat.pow_le_pow_right (n := 2) (by decide) hN) r 0 (Nat.zero_le _)
set_option maxRecDepth 100000 in
set_option maxHeartbeats 4000000 in
theorem l_511 {L : Nat} {xs : Nat → Int32} {X : XC} (hX : Cok X RL cL_law 15) (hp : Pok X) (hR : Rok X 20) (hs : Scr X L xs) (hL : L < 2 ^ 31) {σ : Mem} {N P : Nat} {dem bo v : Int32} (h : LI L xs σ N dem bo P) (kk : ∀ A Sh B nr M τ, Lw X 915 [some (.ref 52), some (.ref 0), some (.int (nI N)), some (.int (dem)), some (.int (bo)), some (.int (nI P)), some (.ref 53), some (.int (nI A)), some (.int (nI Sh)), some (.int (nr)), some (.int (nI B)), some (.int (nI M)), none, none, none] [.int (nI 1)] τ) : Lw X 511 [some (.ref 52), some (.ref 0), some (.int (nI N)), some (.int (dem)), some (.int (bo)), some (.int (nI P)), some (.ref 53), some (.int (pf (nI 4095) (σ 53) 12)), some (.int (sharf dem (thF L xs) N 12)), some (.int (v)), none, none, none, none, none] [] σ := by
  refine L_iconst (pc := 511) (v := (nI 0)) hX dL_law_511 (by decide +kernel) ?_
  refine L_istore9 (pc := 512) hX dL_law_512 rfl ?_
  refine L_iconst (pc := 514) (v := (nI 0)) hX dL_law_514 (by decide +kernel) ?_
  refine L_istore10 (pc := 515) hX dL_law_515 rfl ?_
  exact l_sets hX hp hR hs hL (pr := σ 53) (fun τ h2 e => l_719 hX hp hR hs hL h2 e kk) 0 (Nat.zero_le _) h rfl
set_option maxRecDepth 100000 in
set_option maxHeartbeats 4000000 in
theorem l_424 {L : Nat} {xs : Nat → Int32} {X : XC} (hX : Cok X RL cL_law 15) (hp : Pok X) (hR : Rok X 20) (hs : Scr X L xs) (hL : L < 2 ^ 31) {σ : Mem} {N P : Nat} {dem bo v : Int32} (h : LI L xs σ N dem bo P) (kk : ∀ A Sh B nr M τ, Lw X 915 [some (.ref 52), some (.ref 0), some (.int (nI N)), some (.int (dem)), some (.int (bo)), some (.int (nI P)), some (.ref 53), some (.int (nI A)), some (.int (nI Sh)), some (.int (nr)), some (.int (nI B)), some (.int (nI M)), none, none, none] [.int (nI 1)] τ) : Lw X 424 [some (.ref 52), some (.ref 0), some (.int (nI N)), some (.int (dem)), some (.int (bo)), some (.int (nI P)), some (.ref 53), some (.int (v)), none, none, none, none, none, none, none] [] σ := by
  have hN := h.mem.1
  refine L_iconst (pc := 424) (v := (nI 0)) hX dL_law_424 (by decide +kernel) ?_
  refine L_istore7 (pc := 425) hX dL_law_425 rfl ?_
  refine L_iconst (pc := 427) (v := (nI 0)) hX dL_law_427 (by decide +kernel) ?_
  refine L_istore8 (pc := 428) hX dL_law_428 rfl ?_
  refine L_iconst (pc := 430) (v := (nI 0)) hX dL_law_430 (by decide +kernel) ?_
  refine L_istore9 (pc := 431) hX dL_law_431 rfl ?_
  exact l_all hX hp hR hs hL hN (l_511 hX hp hR hs hL h kk) 0 (Nat.zero_le _)
theorem smN_0 {X : Nat → Nat} {S : Nat → Bool} : ∀ n, (∀ k, k < n → S k = false) → smN X S n = 0
  | 0, _ => rfl
  | n + 1, h => by rw [smN, smN_0 n (fun k hk => h k (by omega)), h n (by omega), if_neg Bool.false_ne_true]
theorem LI_0 {L : Nat} {xs : Nat → Int32} {σ : Mem} (h : SI L xs σ (nsN L xs)) : LI L xs (mf σ 53 (fun _ => 0)) (nsN L xs) (nI 0) (nI 0) 0 := by
  obtain ⟨h1, h2, h3, h4, h5, h6, h7⟩ := h
  have hn := nsN_le (L := L) (xs := xs)
  have hp : ∀ i, i < 12 → σ 19 i = nI 0 := fun i hi => h3.2.2.1 i hi (b_0 i)
  unfold LI
  rw [mf_q (q := 2) (by decide), mf_q (q := 17) (by decide), mf_q (q := 18) (by decide), mf_q (q := 19) (by decide), mf_q (q := 5) (by decide), mf_s]
  refine ⟨⟨hn.1, hn.2, h1⟩, h2, by rw [nI_0]; exact h3, ⟨by rw [h4, nI_0], by rw [h5, nI_0], by rw [h6, nI_0]⟩, fun i hi => by rw [hp i hi, nI_0], ⟨0, by omega, by rw [h7, nI_0]⟩, fun k hk hb => ?_, fun i hi => ?_, ?_, fun i hi => ⟨0, by omega, hp i hi⟩⟩
  · rw [nI_0, b_0] at hb; exact absurd hb (by decide)
  · rw [nI_0, b_0] at hi; exact absurd hi (by decide)
  · exact (smN_0 _ (fun k _ => by rw [nI_0, b_0])).symm
/-- from the demands to the end -/
theorem l_38 {L : Nat} {xs : Nat → Int32} {X : XC} (hX : Cok X RL cL_law 15) (hp : Pok X) (hR : Rok X 20) (hs : Scr X L xs) (hL : L < 2 ^ 31) {σ : Mem} (h : SI L xs σ (nsN L xs)) (kk : ∀ ls τ, ls.length = 15 → Lw X 915 ls [.int (nI 1)] τ) : Lw X 38 [some (.ref 52), some (.ref 0), some (.int (nI (nsN L xs))), some (.int (nI 0)), some (.int (nI 0)), some (.int (nI 0)), some (.ref 53), some (.int (nI 0)), none, none, none, none, none, none, none] [] (mf σ 53 (fun _ => 0)) :=
  l_iter hX hp hR hs hL (fun dem bo P τ h2 => l_424 hX hp hR hs hL h2 (fun A Sh B nr M ρ => kk _ _ rfl)) 0 (Nat.zero_le _) (LI_0 h)

