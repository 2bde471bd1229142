/-! ===== SETS (the class's): answers as functions of the memory ===== -/
/-- the prices of the first t things that are among the bits, added -/
def pf (b : Int32) (pr : Nat → Int32) : Nat → Int32
  | 0 => nI 0
  | t + 1 => if bt b t then pf b pr t + pr t else pf b pr t
def imin (x y : Int32) : Int32 := if y < x then y else x
def imax (x y : Int32) : Int32 := if x < y then y else x
/-- the least gap of the first k sets that have t -/
def lgap (c th : Nat → Int32) (pr : Nat → Int32) (t : Nat) : Nat → Int32
  | 0 => nI 1000
  | k + 1 => if bt (th k) t then imin (lgap c th pr t k) (c k - pf (th k) pr 12) else lgap c th pr t k
def havf (th : Nat → Int32) (t : Nat) : Nat → Nat
  | 0 => 0
  | k + 1 => if bt (th k) t then havf th t k + 1 else havf th t k
theorem havf_le (th : Nat → Int32) (t : Nat) : ∀ k, havf th t k ≤ k
  | 0 => Nat.le_refl _
  | k + 1 => by
    have := havf_le th t k
    unfold havf
    split <;> omega
def sharf (d : Int32) (th : Nat → Int32) (n : Nat) : Nat → Int32
  | 0 => nI 0
  | t + 1 => if bt d t then imax (sharf d th n t) (nI (havf th t n)) else sharf d th n t
/-- the kind as it is told -/
def kindf (bo : Int32) (s : Nat) (f c : Int32) : Int32 := if bt bo s then nI 3 else if nI 2 * f < c then nI 1 else nI 2
def nearf (bo : Int32) (c th : Nat → Int32) (pr : Nat → Int32) : Nat → Nat
  | 0 => 0
  | k + 1 => if kindf bo k (pf (th k) pr 12) (c k) = nI 2 then nearf bo c th pr k + 1 else nearf bo c th pr k
theorem nearf_le (bo : Int32) (c th : Nat → Int32) (pr : Nat → Int32) : ∀ k, nearf bo c th pr k ≤ k
  | 0 => Nat.le_refl _
  | k + 1 => by
    have := nearf_le bo c th pr k
    unfold nearf
    split <;> omega
/-- buying: the sets among the first k that have t and are tight: what is bought, what is met, what it costs -/
def tight (c th : Nat → Int32) (pr : Nat → Int32) (t k : Nat) : Bool := bt (th k) t && decide (pf (th k) pr 12 = c k)
def buyB (c th : Nat → Int32) (pr : Nat → Int32) (t : Nat) (b : Int32) : Nat → Int32
  | 0 => b
  | k + 1 => if tight c th pr t k then buyB c th pr t b k ||| (nI 1 <<< (nI k &&& 31)) else buyB c th pr t b k
def buyM (c th : Nat → Int32) (pr : Nat → Int32) (t : Nat) (b : Int32) : Nat → Int32
  | 0 => b
  | k + 1 => if tight c th pr t k then buyM c th pr t b k ||| th k else buyM c th pr t b k
def buyC (c th : Nat → Int32) (pr : Nat → Int32) (t : Nat) : Nat → Int32
  | 0 => nI 0
  | k + 1 => if tight c th pr t k then buyC c th pr t k + c k else buyC c th pr t k

theorem mu_f (σ : Mem) (p i : Nat) (v : Int32) (q : Nat) : mu σ p i v q = if q = p then upd (σ p) i v else σ q := by
  by_cases h : q = p
  · subst h; simp [mu_row]
  · rw [if_neg h, ← mu_ne h]
theorem upd_at (f : Nat → Int32) (k : Nat) (x : Int32) (j : Nat) : upd f k x j = if j = k then x else f j := rfl
theorem mu_mu (σ : Mem) (p i : Nat) (v w : Int32) : mu (mu σ p i v) p i w = mu σ p i w := by
  funext q j
  simp only [mu]
  split <;> simp_all
theorem mu_comm (σ : Mem) {p i q j : Nat} (v w : Int32) (h : ¬ (p = q ∧ i = j)) : mu (mu σ p i v) q j w = mu (mu σ q j w) p i v := by
  funext a b
  simp only [mu]
  by_cases h1 : a = q ∧ b = j
  · rw [if_pos h1, if_neg (fun h2 => h ⟨h2.1.symm.trans h1.1, h2.2.symm.trans h1.2⟩), if_pos h1]
  · rw [if_neg h1, if_neg h1]
theorem mu_self (σ : Mem) (p i : Nat) : mu σ p i (σ p i) = σ := by
  funext a b
  simp only [mu]
  split
  · rename_i h; rw [h.1, h.2]
  · rfl
theorem Vw.mem {X : XC} {pc : Nat} {ls : List (Option Value)} {st : List Value} {σ σ' : Mem} (e : σ' = σ) (h : Vw X pc ls st σ') : Vw X pc ls st σ := e ▸ h

set_option maxRecDepth 100000 in
set_option maxHeartbeats 4000000 in
theorem l_pricesOf {b : Int32} {X : XC} {P : Option Value → Mem → Prop} {σ : Mem} (hX : Cok X RX2 cX2_pricesOf 4) (hR : Rok X 1) (hr : Ret X (some .int) P) (hp : P (some (.int (pf b (σ 19) 12))) σ) (k : Nat) (hk : k ≤ 12) : Vw X 4 [some (.ref 2), some (.int b), some (.int (pf b (σ 19) k)), some (.int (nI k))] [] σ := by
  refine V_iload_n (pc := 4) (i := 3) hX dX2_pricesOf_4 rfl rfl ?_
  refine V_bipush (pc := 5) (v := (nI 12)) hX dX2_pricesOf_5 (by decide +kernel) ?_
  refine V_icmp_geN (pc := 7) (tgt := 33) hX dX2_pricesOf_7 (by decide) (by omega) (by omega) (fun h7 => ?_) (fun h7 => ?_)
  · obtain rfl : k = 12 := by omega
    refine V_iload_n (pc := 33) (i := 2) hX dX2_pricesOf_33 rfl rfl ?_
    exact V_iret (pc := 34) (st := []) hX hr (by first | rfl | exact bI_nar _ | decide +kernel) dX2_pricesOf_34 (hp)
  · refine V_iload_n (pc := 10) (i := 1) hX dX2_pricesOf_10 rfl rfl ?_
    refine V_iload_n (pc := 11) (i := 3) hX dX2_pricesOf_11 rfl rfl ?_
    refine V_callSi (pc := 12) hX (hR.mono (by decide)) mX2_32 (c_holds _ _ (by omega) _) dX2_pricesOf_12 rfl rfl rfl (Nat.le_of_ble_eq_true rfl) ?_
    refine V_if_eqB (pc := 15) (tgt := 27) hX dX2_pricesOf_15 (by decide) (fun h15 => ?_) (fun h15 => ?_)
    · refine V_iinc3 (pc := 27) hX dX2_pricesOf_27 rfl (iinc1 _) ?_
      refine V_goto (pc := 30) (tgt := 4) hX dX2_pricesOf_30 (by decide) ?_
      have ih := l_pricesOf hX hR hr hp (k + 1) (by omega)
      simp only [pf, h15, ↓reduceIte, Bool.false_eq_true] at ih
      exact ih
    · refine V_iload_n (pc := 18) (i := 2) hX dX2_pricesOf_18 rfl rfl ?_
      refine V_aload_n (pc := 19) (i := 0) hX dX2_pricesOf_19 rfl rfl ?_
      refine V_getr (pc := 20) hX fX2_18 dX2_pricesOf_20 rfl rfl ?_
      refine V_iload_n (pc := 23) (i := 3) hX dX2_pricesOf_23 rfl rfl ?_
      refine V_iald (pc := 24) hX dX2_pricesOf_24 (rfl) (rfl) (by omega) (by decide) ?_
      refine V_iadd (pc := 25) hX dX2_pricesOf_25 ?_
      refine V_istore2 (pc := 26) hX dX2_pricesOf_26 rfl ?_
      refine V_iinc3 (pc := 27) hX dX2_pricesOf_27 rfl (iinc1 _) ?_
      refine V_goto (pc := 30) (tgt := 4) hX dX2_pricesOf_30 (by decide) ?_
      have ih := l_pricesOf hX hR hr hp (k + 1) (by omega)
      simp only [pf, h15, ↓reduceIte, Bool.false_eq_true] at ih
      exact ih
termination_by 12 - k

set_option maxRecDepth 100000 in
set_option maxHeartbeats 4000000 in
theorem c_pricesOf (b : Int32) (σ : Mem) : Cc yX2_pricesOf cX2_pricesOf 4 (some .int) 1 [.ref 2, .int b] σ (rI (pf b (σ 19) 12) σ) := by
  refine Cc.intro (by decide +kernel) [some (.ref 2), some (.int b), none, none] (fun _ => rfl) rfl (fun _ => Nat.le_of_ble_eq_true rfl) ?_
  intro X hX hR hr
  refine V_iconst (pc := 0) (v := (nI 0)) hX dX2_pricesOf_0 (by decide +kernel) ?_
  refine V_istore2 (pc := 1) hX dX2_pricesOf_1 rfl ?_
  refine V_iconst (pc := 2) (v := (nI 0)) hX dX2_pricesOf_2 (by decide +kernel) ?_
  refine V_istore3 (pc := 3) hX dX2_pricesOf_3 rfl ?_
  exact l_pricesOf hX hR hr ⟨rfl, rfl⟩ 0 (by omega)

set_option maxRecDepth 100000 in
set_option maxHeartbeats 4000000 in
theorem c_filled (s : Nat) (hs : s < 10) (σ : Mem) : Cc yX2_filled cX2_filled 2 (some .int) 2 [.ref 2, .int (nI s)] σ (rI (pf (σ 18 s) (σ 19) 12) σ) := by
  refine Cc.intro (by decide +kernel) [some (.ref 2), some (.int (nI s))] (fun _ => rfl) rfl (fun _ => Nat.le_of_ble_eq_true rfl) ?_
  intro X hX hR hr
  refine V_aload_n (pc := 0) (i := 0) hX dX2_filled_0 rfl rfl ?_
  refine V_aload_n (pc := 1) (i := 0) hX dX2_filled_1 rfl rfl ?_
  refine V_getr (pc := 2) hX fX2_15 dX2_filled_2 rfl rfl ?_
  refine V_iload_n (pc := 5) (i := 1) hX dX2_filled_5 rfl rfl ?_
  refine V_iald (pc := 6) hX dX2_filled_6 (rfl) (rfl) (by omega) (by decide) ?_
  refine V_callVi (pc := 7) hX (hR.mono (by decide)) mX2_63 (c_pricesOf _ _) dX2_filled_7 rfl rfl rfl rfl (Nat.le_of_ble_eq_true rfl) ?_
  exact V_iret (pc := 10) (st := []) hX hr (by first | rfl | exact bI_nar _ | decide +kernel) dX2_filled_10 (⟨rfl, rfl⟩)

set_option maxRecDepth 100000 in
set_option maxHeartbeats 4000000 in
theorem c_pricesAdded (σ : Mem) : Cc yX2_pricesAdded cX2_pricesAdded 1 (some .int) 2 [.ref 2] σ (rI (pf (nI 4095) (σ 19) 12) σ) := by
  refine Cc.intro (by decide +kernel) [some (.ref 2)] (fun _ => rfl) rfl (fun _ => Nat.le_of_ble_eq_true rfl) ?_
  intro X hX hR hr
  refine V_aload_n (pc := 0) (i := 0) hX dX2_pricesAdded_0 rfl rfl ?_
  refine V_sipush (pc := 1) (v := (nI 4095)) hX dX2_pricesAdded_1 (by decide +kernel) ?_
  refine V_callVi (pc := 4) hX (hR.mono (by decide)) mX2_63 (c_pricesOf _ _) dX2_pricesAdded_4 rfl rfl rfl rfl (Nat.le_of_ble_eq_true rfl) ?_
  exact V_iret (pc := 7) (st := []) hX hr (by first | rfl | exact bI_nar _ | decide +kernel) dX2_pricesAdded_7 (⟨rfl, rfl⟩)

set_option maxRecDepth 100000 in
set_option maxHeartbeats 4000000 in
theorem c_isSet (x : Int32) (σ : Mem) : Cc yX2_isSet cX2_isSet 2 (some .boolean) 1 [.ref 2, .int x] σ (rI (bI (decide (0 ≤ x ∧ x < σ 2 3))) σ) := by
  refine Cc.intro (by decide +kernel) [some (.ref 2), some (.int x)] (fun _ => rfl) rfl (fun _ => Nat.le_of_ble_eq_true rfl) ?_
  intro X hX hR hr
  refine V_iload_n (pc := 0) (i := 1) hX dX2_isSet_0 rfl rfl ?_
  refine V_aload_n (pc := 1) (i := 0) hX dX2_isSet_1 rfl rfl ?_
  refine V_getf (pc := 2) hX fX2_21 dX2_isSet_2 rfl rfl ?_
  refine V_callSi (pc := 5) hX (hR.mono (by decide)) mX2_25 (c_isUnder _ _ _) dX2_isSet_5 rfl rfl rfl (Nat.le_of_ble_eq_true rfl) ?_
  exact V_iret (pc := 8) (st := []) hX hr (by first | rfl | exact bI_nar _ | decide +kernel) dX2_isSet_8 (⟨rfl, rfl⟩)

set_option maxRecDepth 100000 in
set_option maxHeartbeats 4000000 in
theorem c_isOffered (t : Nat) (ht : t < 12) (σ : Mem) : Cc yX2_isOffered cX2_isOffered 2 (some .boolean) 1 [.ref 2, .int (nI t)] σ (rI (bI (bt (σ 2 4) t)) σ) := by
  refine Cc.intro (by decide +kernel) [some (.ref 2), some (.int (nI t))] (fun _ => rfl) rfl (fun _ => Nat.le_of_ble_eq_true rfl) ?_
  intro X hX hR hr
  refine V_aload_n (pc := 0) (i := 0) hX dX2_isOffered_0 rfl rfl ?_
  refine V_getf (pc := 1) hX fX2_29 dX2_isOffered_1 rfl rfl ?_
  refine V_iload_n (pc := 4) (i := 1) hX dX2_isOffered_4 rfl rfl ?_
  refine V_callSi (pc := 5) hX (hR.mono (by decide)) mX2_32 (c_holds _ _ (by omega) _) dX2_isOffered_5 rfl rfl rfl (Nat.le_of_ble_eq_true rfl) ?_
  exact V_iret (pc := 8) (st := []) hX hr (by first | rfl | exact bI_nar _ | decide +kernel) dX2_isOffered_8 (⟨rfl, rfl⟩)

set_option maxRecDepth 100000 in
set_option maxHeartbeats 4000000 in
theorem c_isBought (t : Nat) (ht : t < 10) (σ : Mem) : Cc yX2_isBought cX2_isBought 2 (some .boolean) 1 [.ref 2, .int (nI t)] σ (rI (bI (bt (σ 2 6) t)) σ) := by
  refine Cc.intro (by decide +kernel) [some (.ref 2), some (.int (nI t))] (fun _ => rfl) rfl (fun _ => Nat.le_of_ble_eq_true rfl) ?_
  intro X hX hR hr
  refine V_aload_n (pc := 0) (i := 0) hX dX2_isBought_0 rfl rfl ?_
  refine V_getf (pc := 1) hX fX2_35 dX2_isBought_1 rfl rfl ?_
  refine V_iload_n (pc := 4) (i := 1) hX dX2_isBought_4 rfl rfl ?_
  refine V_callSi (pc := 5) hX (hR.mono (by decide)) mX2_32 (c_holds _ _ (by omega) _) dX2_isBought_5 rfl rfl rfl (Nat.le_of_ble_eq_true rfl) ?_
  exact V_iret (pc := 8) (st := []) hX hr (by first | rfl | exact bI_nar _ | decide +kernel) dX2_isBought_8 (⟨rfl, rfl⟩)

set_option maxRecDepth 100000 in
set_option maxHeartbeats 4000000 in
theorem l_leastGap {n t : Nat} {X : XC} {P : Option Value → Mem → Prop} {σ : Mem} (hX : Cok X RX2 cX2_leastGap 4) (hR : Rok X 4) (hr : Ret X (some .int) P) (hn : σ 2 3 = nI n) (hn10 : n ≤ 10) (ht : t < 12) (hp : P (some (.int (lgap (σ 17) (σ 18) (σ 19) t n))) σ) (k : Nat) (hk : k ≤ n) : Vw X 6 [some (.ref 2), some (.int (nI t)), some (.int (lgap (σ 17) (σ 18) (σ 19) t k)), some (.int (nI k))] [] σ := by
  refine V_iload_n (pc := 6) (i := 3) hX dX2_leastGap_6 rfl rfl ?_
  refine V_aload_n (pc := 7) (i := 0) hX dX2_leastGap_7 rfl rfl ?_
  refine V_getf (pc := 8) hX fX2_21 dX2_leastGap_8 rfl rfl ?_
  rw [hn]
  refine V_icmp_geN (pc := 11) (tgt := 50) hX dX2_leastGap_11 (by decide) (by omega) (by omega) (fun h11 => ?_) (fun h11 => ?_)
  · obtain rfl : k = n := by omega
    refine V_iload_n (pc := 50) (i := 2) hX dX2_leastGap_50 rfl rfl ?_
    exact V_iret (pc := 51) (st := []) hX hr (by first | rfl | exact bI_nar _ | decide +kernel) dX2_leastGap_51 (hp)
  · refine V_aload_n (pc := 14) (i := 0) hX dX2_leastGap_14 rfl rfl ?_
    refine V_getr (pc := 15) hX fX2_15 dX2_leastGap_15 rfl rfl ?_
    refine V_iload_n (pc := 18) (i := 3) hX dX2_leastGap_18 rfl rfl ?_
    refine V_iald (pc := 19) hX dX2_leastGap_19 (rfl) (rfl) (by omega) (by decide) ?_
    refine V_iload_n (pc := 20) (i := 1) hX dX2_leastGap_20 rfl rfl ?_
    refine V_callSi (pc := 21) hX (hR.mono (by decide)) mX2_32 (c_holds _ _ (by omega) _) dX2_leastGap_21 rfl rfl rfl (Nat.le_of_ble_eq_true rfl) ?_
    refine V_if_eqB (pc := 24) (tgt := 44) hX dX2_leastGap_24 (by decide) (fun h24 => ?_) (fun h24 => ?_)
    · refine V_iinc3 (pc := 44) hX dX2_leastGap_44 rfl (iinc1 _) ?_
      refine V_goto (pc := 47) (tgt := 6) hX dX2_leastGap_47 (by decide) ?_
      have ih := l_leastGap hX hR hr hn hn10 ht hp (k + 1) (by omega)
      simp only [lgap, h24, ↓reduceIte, Bool.false_eq_true] at ih
      exact ih
    · refine V_iload_n (pc := 27) (i := 2) hX dX2_leastGap_27 rfl rfl ?_
      refine V_aload_n (pc := 28) (i := 0) hX dX2_leastGap_28 rfl rfl ?_
      refine V_getr (pc := 29) hX fX2_9 dX2_leastGap_29 rfl rfl ?_
      refine V_iload_n (pc := 32) (i := 3) hX dX2_leastGap_32 rfl rfl ?_
      refine V_iald (pc := 33) hX dX2_leastGap_33 (rfl) (rfl) (by omega) (by decide) ?_
      refine V_aload_n (pc := 34) (i := 0) hX dX2_leastGap_34 rfl rfl ?_
      refine V_iload_n (pc := 35) (i := 3) hX dX2_leastGap_35 rfl rfl ?_
      refine V_callVi (pc := 36) hX (hR.mono (by decide)) mX2_54 (c_filled _ (by omega) _) dX2_leastGap_36 rfl rfl rfl rfl (Nat.le_of_ble_eq_true rfl) ?_
      refine V_isub (pc := 39) hX dX2_leastGap_39 ?_
      refine V_mmin (pc := 40) hX (hR.mono (by decide)) mX2_57 dX2_leastGap_40 rfl (Nat.le_of_ble_eq_true rfl) ?_
      refine V_istore2 (pc := 43) hX dX2_leastGap_43 rfl ?_
      refine V_iinc3 (pc := 44) hX dX2_leastGap_44 rfl (iinc1 _) ?_
      refine V_goto (pc := 47) (tgt := 6) hX dX2_leastGap_47 (by decide) ?_
      have ih := l_leastGap hX hR hr hn hn10 ht hp (k + 1) (by omega)
      simp only [lgap, h24, ↓reduceIte, Bool.false_eq_true] at ih
      exact ih
termination_by n - k

set_option maxRecDepth 100000 in
set_option maxHeartbeats 4000000 in
theorem c_leastGap (n t : Nat) (σ : Mem) (hn : σ 2 3 = nI n) (hn10 : n ≤ 10) (ht : t < 12) : Cc yX2_leastGap cX2_leastGap 4 (some .int) 4 [.ref 2, .int (nI t)] σ (rI (lgap (σ 17) (σ 18) (σ 19) t n) σ) := by
  refine Cc.intro (by decide +kernel) [some (.ref 2), some (.int (nI t)), none, none] (fun _ => rfl) rfl (fun _ => Nat.le_of_ble_eq_true rfl) ?_
  intro X hX hR hr
  refine V_sipush (pc := 0) (v := (nI 1000)) hX dX2_leastGap_0 (by decide +kernel) ?_
  refine V_istore2 (pc := 3) hX dX2_leastGap_3 rfl ?_
  refine V_iconst (pc := 4) (v := (nI 0)) hX dX2_leastGap_4 (by decide +kernel) ?_
  refine V_istore3 (pc := 5) hX dX2_leastGap_5 rfl ?_
  exact l_leastGap hX hR hr hn hn10 ht ⟨rfl, rfl⟩ 0 (by omega)

def mbuy (σ : Mem) (t k : Nat) : Mem := mu (mu σ 2 6 (buyB (σ 17) (σ 18) (σ 19) t (σ 2 6) k)) 2 7 (buyM (σ 17) (σ 18) (σ 19) t (σ 2 7) k)
theorem mbuy_0 (σ : Mem) (t : Nat) : mbuy σ t 0 = σ := by
  unfold mbuy buyB buyM
  rw [mu_self]
  exact mu_self σ 2 7
theorem mbuy_t {σ : Mem} {t k : Nat} (h1 : bt (σ 18 k) t = true) (h2 : pf (σ 18 k) (σ 19) 12 = σ 17 k) : mbuy σ t (k + 1) = mu (mu (mbuy σ t k) 2 6 (mbuy σ t k 2 6 ||| (nI 1 <<< (nI k &&& 31)))) 2 7 (mbuy σ t k 2 7 ||| σ 18 k) := by
  have ht : tight (σ 17) (σ 18) (σ 19) t k = true := by simp [tight, h1, h2]
  unfold mbuy
  simp only [buyB, buyM, ht, ↓reduceIte]
  funext q j
  simp only [mu]
  by_cases a : q = 2 <;> by_cases b : j = 6 <;> by_cases c : j = 7 <;> simp_all
theorem mbuy_f {σ : Mem} {t k : Nat} (h1 : bt (σ 18 k) t = false ∨ pf (σ 18 k) (σ 19) 12 ≠ σ 17 k) : mbuy σ t (k + 1) = mbuy σ t k := by
  have ht : tight (σ 17) (σ 18) (σ 19) t k = false := by
    rcases h1 with h | h <;> simp [tight, h]
  unfold mbuy
  simp only [buyB, buyM, ht, Bool.false_eq_true, ↓reduceIte]
theorem mbuy_r {σ : Mem} {t k q : Nat} (h : q ≠ 2) : mbuy σ t k q = σ q := by
  unfold mbuy
  rw [← mu_ne h, ← mu_ne h]
theorem mbuy_c {σ : Mem} {t k j : Nat} (h : j ≠ 6) (h2 : j ≠ 7) : mbuy σ t k 2 j = σ 2 j := by
  unfold mbuy
  simp [mu, h, h2]
