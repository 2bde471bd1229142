/-! ===== shop: the sets are offered ===== -/
/-- k sets are offered, nothing is demanded -/
def SI (L : Nat) (xs : Nat → Int32) (σ : Mem) (k : Nat) : Prop := σ 2 3 = nI k ∧ (∀ j, j < k → σ 17 j = nI (coN L xs j) ∧ σ 18 j = thF L xs j) ∧ setsOK (σ 17) (σ 18) (σ 19) k (σ 2 4) 0 0 (σ 2 7) ∧ σ 2 5 = 0 ∧ σ 2 6 = 0 ∧ σ 2 8 = 0 ∧ σ 5 1 = 0
theorem inr2_nI {a b j : Nat} (h1 : a ≤ j) (h2 : j ≤ b) (hb : b < 2 ^ 31) : inr2 (nI j) a b = true := decide_eq_true (by rw [nI_toInt (by omega)]; omega)
theorem SI_off {L : Nat} {xs : Nat → Int32} {σ : Mem} {k : Nat} (h : SI L xs σ k) (hk : k < 10) : offerF k (σ 2 5) (nI (coN L xs k)) (thF L xs k) = nI k ∧ offerM σ k (nI (coN L xs k)) (thF L xs k) = caddM σ k (nI (coN L xs k)) (thF L xs k) := by
  have hc := coN_le (L := L) (xs := xs) (k := k)
  obtain ⟨m, m1, m2, m3⟩ := thX_ok (cellF L xs (1 + k))
  have e1 : inr2 (nI (coN L xs k)) 1 1000 = true := inr2_nI hc.1 (by omega) (by decide)
  have e2 : inr2 (thF L xs k) 1 4095 = true := by
    show inr2 (thX _) 1 4095 = true
    rw [m3]
    exact inr2_nI m1 (by omega) (by decide)
  obtain ⟨h1, h2, h3, h4, h5, h6, h7⟩ := h
  constructor
  · rw [offerF, e1, e2, Bool.and_self, if_pos rfl, if_pos h4, if_pos hk]
  · rw [offerM, e1, e2, Bool.and_self, if_pos rfl, if_pos h4, if_pos hk]
theorem SI_next {L : Nat} {xs : Nat → Int32} {σ : Mem} {k : Nat} (h : SI L xs σ k) (hk : k < 10) : SI L xs (caddM σ k (nI (coN L xs k)) (thF L xs k)) (k + 1) := by
  have hc := coN_le (L := L) (xs := xs) (k := k)
  obtain ⟨m, m1, m2, m3⟩ := thX_ok (cellF L xs (1 + k))
  obtain ⟨h1, h2, h3, h4, h5, h6, h7⟩ := h
  have r17 : caddM σ k (nI (coN L xs k)) (thF L xs k) 17 = upd (σ 17) k (nI (coN L xs k)) := by
    rw [caddM, mu_q (by decide), mu_q (by decide), mu_q (by decide), mu_s]
  have r18 : caddM σ k (nI (coN L xs k)) (thF L xs k) 18 = upd (σ 18) k (thF L xs k) := by
    rw [caddM, mu_q (by decide), mu_q (by decide), mu_s, mu_q (by decide)]
  have r19 : caddM σ k (nI (coN L xs k)) (thF L xs k) 19 = σ 19 := by
    rw [caddM, mu_q (by decide), mu_q (by decide), mu_q (by decide), mu_q (by decide)]
  have r5 : caddM σ k (nI (coN L xs k)) (thF L xs k) 5 = σ 5 := by
    rw [caddM, mu_q (by decide), mu_q (by decide), mu_q (by decide), mu_q (by decide)]
  have r23 : caddM σ k (nI (coN L xs k)) (thF L xs k) 2 3 = nI (k + 1) := by rw [caddM, mu_at]
  have r24 : caddM σ k (nI (coN L xs k)) (thF L xs k) 2 4 = σ 2 4 ||| thF L xs k := by rw [caddM, mu_ni (by decide), mu_at]
  have r2 : ∀ j, j ≠ 3 → j ≠ 4 → caddM σ k (nI (coN L xs k)) (thF L xs k) 2 j = σ 2 j := by
    intro j a b
    rw [caddM, mu_ni a, mu_ni b, mu_np (by decide), mu_np (by decide)]
  unfold SI
  rw [r17, r18, r19, r5, r23, r24, r2 5 (by decide) (by decide), r2 6 (by decide) (by decide), r2 7 (by decide) (by decide), r2 8 (by decide) (by decide)]
  have h3' := h3
  refine ⟨rfl, fun j hj => ?_, ?_, h4, h5, h6, h7⟩
  · by_cases e : j = k
    · subst e; rw [upd_s, upd_s]; exact ⟨rfl, rfl⟩
    · rw [upd_n e, upd_n e]; exact h2 j (by omega)
  · have e : thF L xs k = nI m := m3
    rw [e]
    exact caddM_of h3' hk hc.1 (by omega) m2
set_option maxRecDepth 100000 in
set_option maxHeartbeats 4000000 in
theorem l_shop {L : Nat} {xs : Nat → Int32} {X : XC} {P : Option Value → Mem → Prop} (hX : Cok X RL cL_shop 5) (hR : Rok X 2) (hr : Ret X (some .int) P) (hs : Scr X L xs) (hL : L < 2 ^ 31) (n : Nat) (hn : n ≤ 9) (hp : ∀ τ, SI L xs τ n → P (some (.int (nI n))) τ) (k : Nat) (hk : k ≤ n) (σ : Mem) (hσ : SI L xs σ k) : Vw X 15 [some (.ref 0), some (.ref 52), some (.int (nI n)), some (.int (nI k)), none] [] σ := by
  refine V_iload_n (pc := 15) (i := 3) hX dL_shop_15 rfl rfl ?_
  refine V_iload_n (pc := 16) (i := 2) hX dL_shop_16 rfl rfl ?_
  refine V_icmp_geN (pc := 17) (tgt := 59) hX dL_shop_17 (by decide) (by omega) (by omega) (fun h17 => ?_) (fun h17 => ?_)
  · refine V_iload_n (pc := 59) (i := 2) hX dL_shop_59 rfl rfl ?_
    obtain rfl : k = n := by omega
    exact V_iret (pc := 60) (st := []) hX hr (by first | rfl | exact bI_nar _ | decide +kernel) dL_shop_60 (hp σ hσ)
  · refine V_aload_n (pc := 20) (i := 1) hX dL_shop_20 rfl rfl ?_
    refine V_iconst (pc := 21) (v := (nI 1)) hX dL_shop_21 (by decide +kernel) ?_
    refine V_iload_n (pc := 22) (i := 3) hX dL_shop_22 rfl rfl ?_
    refine V_iadd (pc := 23) hX dL_shop_23 ?_
    rw [nI_add]
    refine V_callSsi (pc := 24) hX (hR.mono (by omega)) mL_9 hs (c_cell hL _ (by omega) _) dL_shop_24 rfl rfl rfl (Nat.le_of_ble_eq_true rfl) ?_
    refine V_istore4 (pc := 27) hX dL_shop_27 rfl ?_
    refine V_aload_n (pc := 29) (i := 0) hX dL_shop_29 rfl rfl ?_
    refine V_iconst (pc := 30) (v := (nI 1)) hX dL_shop_30 (by decide +kernel) ?_
    refine V_iload (pc := 31) (i := 4) hX dL_shop_31 rfl ?_
    refine V_bipush (pc := 33) (v := (nI 40)) hX dL_shop_33 (by decide +kernel) ?_
    refine V_callSsi (pc := 35) hX (hR.mono (by omega)) mL_15 hs (c_low _ _ (by decide) (by decide) _) dL_shop_35 rfl rfl rfl (Nat.le_of_ble_eq_true rfl) ?_
    refine V_iadd (pc := 38) hX dL_shop_38 ?_
    rw [nI_add]
    refine V_aload_n (pc := 39) (i := 1) hX dL_shop_39 rfl rfl ?_
    refine V_iload_n (pc := 40) (i := 3) hX dL_shop_40 rfl rfl ?_
    refine V_callSsi (pc := 41) hX (hR.mono (by omega)) mL_19 hs (c_things hL _ (by omega) _) dL_shop_41 rfl rfl rfl (Nat.le_of_ble_eq_true rfl) ?_
    have e9 := SI_off hσ (by omega)
    have c9 := c_offer k (nI (coN L xs k)) (thF L xs k) σ hσ.1 (by omega)
    rw [e9.1, e9.2] at c9
    refine V_callVi (pc := 44) hX (hR.mono (by omega)) mL_22 (c9) dL_shop_44 rfl rfl rfl rfl (Nat.le_of_ble_eq_true rfl) ?_
    refine V_iload_n (pc := 47) (i := 3) hX dL_shop_47 rfl rfl ?_
    refine V_icmp_eq (pc := 48) (tgt := 53) hX dL_shop_48 (by decide) (fun h48 => ?_) (fun h48 => absurd h48 (fun q => q rfl))
    refine V_iinc3 (pc := 53) hX dL_shop_53 rfl (iinc1 _) ?_
    refine V_goto (pc := 56) (tgt := 15) hX dL_shop_56 (by decide) ?_
    exact Vw.fg (by repeat (first | exact fgt_n | refine fgt_c (Or.inr rfl) ?_ | refine fgt_c (Or.inl rfl) ?_)) (l_shop hX hR hr hs hL n hn hp (k + 1) (by omega) _ (SI_next hσ (by omega)))
termination_by n - k
set_option maxRecDepth 100000 in
set_option maxHeartbeats 4000000 in
theorem c_shop {L : Nat} {xs : Nat → Int32} (hL : L < 2 ^ 31) (σ : Mem) (hσ : SI L xs σ 0) : Cs L xs yL_shop cL_shop 5 (some .int) 2 [.ref 0, .ref 52] σ (fun r τ => r = some (.int (nI (nsN L xs))) ∧ SI L xs τ (nsN L xs)) := by
  refine Cs.intro (by decide +kernel) [some (.ref 0), some (.ref 52), none, none, none] (fun _ => rfl) rfl (fun _ => Nat.le_of_ble_eq_true rfl) ?_
  intro X hX hR hr hs
  refine V_iconst (pc := 0) (v := (nI 1)) hX dL_shop_0 (by decide +kernel) ?_
  refine V_aload_n (pc := 1) (i := 1) hX dL_shop_1 rfl rfl ?_
  refine V_iconst (pc := 2) (v := (nI 0)) hX dL_shop_2 (by decide +kernel) ?_
  refine V_callSsi (pc := 3) hX (hR.mono (by omega)) mL_9 hs (c_cell hL _ (by omega) _) dL_shop_3 rfl rfl rfl (Nat.le_of_ble_eq_true rfl) ?_
  refine V_bipush (pc := 6) (v := (nI 9)) hX dL_shop_6 (by decide +kernel) ?_
  refine V_callSsi (pc := 8) hX (hR.mono (by omega)) mL_15 hs (c_low _ _ (by decide) (by decide) _) dL_shop_8 rfl rfl rfl (Nat.le_of_ble_eq_true rfl) ?_
  refine V_iadd (pc := 11) hX dL_shop_11 ?_
  rw [nI_add]
  refine V_istore2 (pc := 12) hX dL_shop_12 rfl ?_
  refine V_iconst (pc := 13) (v := (nI 0)) hX dL_shop_13 (by decide +kernel) ?_
  refine V_istore3 (pc := 14) hX dL_shop_14 rfl ?_
  exact l_shop hX hR hr hs hL (nsN L xs) nsN_le.2 (fun τ h => ⟨rfl, h⟩) 0 (Nat.zero_le _) σ hσ

