/-! ===== SETS, both: a demand keeps the relation of two memories ===== -/
def GT2 (σ τ : Mem) (n : Nat) : Prop := n ≤ 10 ∧ σ 2 3 = nI n ∧ τ 52 5 = nI n ∧ τ 56 = σ 17 ∧ τ 57 = σ 18 ∧ τ 58 = σ 19 ∧ τ 52 8 = σ 2 6 ∧ τ 52 9 = σ 2 5 ∧ τ 52 11 = σ 2 8 ∧ setsOK (σ 17) (σ 18) (σ 19) n (σ 2 4) (σ 2 5) (σ 2 6) (σ 2 7)
theorem or_dem {c th pr : Nat → Int32} {n t : Nat} {of dem bo me : Int32} (h : setsOK c th pr n of dem bo me) (ht : t < 12) (ho : bt of t = true) : setsOK c th pr n of (dem ||| (nI 1 <<< (nI t &&& 31))) bo me := by
  obtain ⟨h1, h2, h3, h4, h5, h6, h7⟩ := h
  refine ⟨h1, h2, fun u hu hb => h3 u hu ?_, h4, fun u hu => ?_, h6, h7⟩
  · rw [b_or] at hb
    cases hd : bt dem u with
    | false => rfl
    | true => rw [hd, Bool.true_or] at hb; exact absurd hb (by decide)
  · rw [b_or, Bool.or_eq_true, bt_sh (by omega), decide_eq_true_iff] at hu
    rcases hu with hu | rfl
    · exact h5 u hu
    · exact ⟨ht, ho⟩
theorem X_Y {c th pr : Nat → Int32} {n : Nat} (h : ∀ k, k < n → ∃ x y : Nat, 1 ≤ x ∧ x ≤ 1000 ∧ c k = nI x ∧ y ≤ x ∧ pf (th k) pr 12 = nI y) : ∃ X Y : Nat → Nat, ∀ k, k < n → c k = nI (X k) ∧ pf (th k) pr 12 = nI (Y k) ∧ Y k ≤ X k ∧ X k ≤ 1000 ∧ 1 ≤ X k := by
  refine ⟨fun k => tn (c k), fun k => tn (pf (th k) pr 12), fun k hk => ?_⟩
  obtain ⟨x, y, a1, a2, a3, a4, a5⟩ := h k hk
  show c k = nI (tn (c k)) ∧ pf (th k) pr 12 = nI (tn (pf (th k) pr 12)) ∧ tn (pf (th k) pr 12) ≤ tn (c k) ∧ tn (c k) ≤ 1000 ∧ 1 ≤ tn (c k)
  rw [a3, a5, tn_nI (by omega), tn_nI (by omega)]
  exact ⟨rfl, rfl, a4, a2, a1⟩
/-- what raising the price of t by the least gap does, and buying what is tight -/
theorem buy_ok {c th pr : Nat → Int32} {n t : Nat} {of dem bo me : Int32} (hn : n ≤ 10) (h : setsOK c th pr n of dem bo me) (ht : t < 12) (ho : bt of t = true) : lgm c th pr t n = lgap c th pr t n ∧ setsOK c th (upd pr t (pr t + lgap c th pr t n)) n of (dem ||| (nI 1 <<< (nI t &&& 31))) (buyB c th (upd pr t (pr t + lgap c th pr t n)) t bo n) (buyM c th (upd pr t (pr t + lgap c th pr t n)) t me n) := by
  obtain ⟨h1, h2, h3, h4, h5, h6, h7⟩ := or_dem h ht ho
  obtain ⟨X, Y, hXY⟩ := X_Y h1
  obtain ⟨G, g1, g2, g3, g4, -⟩ := lgap_spec (c := c) (th := th) (pr := pr) (t := t) (X := X) (Y := Y) (fun k hk => ⟨(hXY k hk).1, (hXY k hk).2.1, (hXY k hk).2.2.1, (hXY k hk).2.2.2.1⟩) n (Nat.le_refl n)
  have hex := (h4 t ht).mp ho
  refine ⟨(g4 hex).trans g2.symm, fun k hk => ?_, h2, fun u hu hb => ?_, h4, h5, fun k hk => ?_, fun u hu => ?_⟩
  · obtain ⟨a1, a2, a3, a4, a5⟩ := hXY k hk
    rw [pf_upd, g2, a2]
    by_cases hb : bt (th k) t = true
    · rw [if_pos ⟨ht, hb⟩]
      have := g3 k hk hb
      exact ⟨X k, Y k + G, a5, a4, a1, by omega, nI_add _ _⟩
    · rw [if_neg (fun q => hb q.2)]
      exact ⟨X k, Y k, a5, a4, a1, a3, rfl⟩
  · have hut : u ≠ t := by
      rintro rfl
      rw [b_or, bt_sh (by omega), decide_eq_true rfl, Bool.or_true] at hb
      exact absurd hb (by decide)
    rw [upd_n hut]
    exact h3 u hu hb
  · rcases (buyB_bt n (by omega)).mp hk with q | q
    · exact h6 k q
    · exact q.1
  · rw [buyM_bt, h7 u hu]
    constructor
    · rintro (⟨k, q1, q2, q3⟩ | ⟨k, q1, q2, q3⟩)
      · exact ⟨k, q1, (buyB_bt n (by omega)).mpr (Or.inl q2), q3⟩
      · exact ⟨k, q1, (buyB_bt n (by omega)).mpr (Or.inr ⟨q1, q2⟩), q3⟩
    · rintro ⟨k, q1, q2, q3⟩
      rcases (buyB_bt n (by omega)).mp q2 with q | q
      · exact Or.inl ⟨k, q1, q, q3⟩
      · exact Or.inr ⟨k, q1, q.2, q3⟩
theorem dem_no {σ τ : Mem} {n t : Nat} (g : GT2 σ τ n) (ht : t < 12) (ho : bt (σ 2 4) t = false) : mdemV τ n t = (-1000002) ∧ mdemM τ n t = τ := by
  obtain ⟨h10, e1, e2, e3, e4, e5, e6, e7, e8, hs⟩ := g
  have hf : smf (τ 57) t n = false := by
    cases h : smf (τ 57) t n with
    | false => rfl
    | true =>
      rw [e4, smf_iff] at h
      rw [(hs.2.2.2.1 t ht).mpr h] at ho
      exact absurd ho (by decide)
  rw [mdemV, mdemM, hf, if_neg Bool.false_ne_true, if_neg Bool.false_ne_true]
  exact ⟨rfl, rfl⟩
theorem dem_step {σ τ : Mem} {n t : Nat} (g : GT2 σ τ n) (ht : t < 12) (ho : bt (σ 2 4) t = true) : mdemV τ n t = cmeetV σ n t ∧ (∃ s : Nat, s ≤ 10000 ∧ cmeetV σ n t = nI s) ∧ GT2 (cmeetM σ n t) (mdemM τ n t) n := by
  obtain ⟨h10, e1, e2, e3, e4, e5, e6, e7, e8, hs⟩ := g
  obtain ⟨b1, b2⟩ := buy_ok h10 hs ht ho
  have hsm : smf (τ 57) t n = true := by rw [e4, smf_iff]; exact (hs.2.2.2.1 t ht).mp ho
  have how : owf (τ 52 8) (τ 57) t n = bt (σ 2 7) t := by
    rw [e4, e6]
    cases hm : bt (σ 2 7) t with
    | true =>
      obtain ⟨k, q1, q2, q3⟩ := (hs.2.2.2.2.2.2 t ht).mp hm
      exact (owf_iff n).mpr ⟨k, q1, q3, q2⟩
    | false =>
      cases h : owf (σ 2 6) (σ 18) t n with
      | false => rfl
      | true =>
        obtain ⟨k, q1, q2, q3⟩ := (owf_iff n).mp h
        rw [(hs.2.2.2.2.2.2 t ht).mpr ⟨k, q1, q3, q2⟩] at hm
        exact absurd hm (by decide)
  cases hm : bt (σ 2 7) t with
  | true =>
    rw [mdemV, mdemM, cmeetV, cmeetM, hsm, how, hm, if_pos rfl, if_pos rfl, if_pos rfl, if_pos rfl, if_pos rfl, if_pos rfl]
    refine ⟨rfl, ⟨0, by decide, rfl⟩, h10, ?_, ?_, ?_, ?_, ?_, ?_, ?_, ?_, ?_⟩
    · simp (disch := omega) only [mask, mu_q, mu_s, upd_n]; exact e1
    · simp (disch := omega) only [mask2, mu_q, mu_s, upd_n]; exact e2
    · simp (disch := omega) only [mask, mask2, mu_q, mu_s, upd_n]; exact e3
    · simp (disch := omega) only [mask, mask2, mu_q, mu_s, upd_n]; exact e4
    · simp (disch := omega) only [mask, mask2, mu_q, mu_s, upd_n]; exact e5
    · simp (disch := omega) only [mask, mask2, mu_q, mu_s, upd_n]; exact e6
    · simp (disch := omega) only [mask, mask2, mu_q, mu_s, upd_s]; rw [e7]
    · simp (disch := omega) only [mask, mask2, mu_q, mu_s, upd_n]; exact e8
    · simp (disch := omega) only [mask, mu_q, mu_s, upd_n, upd_s]; exact or_dem hs ht ho
  | false =>
    rw [mdemV, mdemM, cmeetV, cmeetM, hsm, how, hm, if_pos rfl, if_neg Bool.false_ne_true, if_neg Bool.false_ne_true, if_pos rfl, if_neg Bool.false_ne_true, if_neg Bool.false_ne_true]
    obtain ⟨X, Y, hXY⟩ := X_Y hs.1
    obtain ⟨s, hs1, hs2⟩ := buyC_nI (c := σ 17) (th := σ 18) (pr := upd (σ 19) t (σ 19 t + lgap (σ 17) (σ 18) (σ 19) t n)) (t := t) (n := n) (fun k hk => ⟨X k, (hXY k hk).2.2.2.1, (hXY k hk).1⟩) n (Nat.le_refl n)
    have r19 : mraise σ n t 19 = upd (σ 19) t (σ 19 t + lgap (σ 17) (σ 18) (σ 19) t n) := by
      simp (disch := omega) only [mraise, mask, mu_q, mu_s]
    have r58 : mraise2 τ n t 58 = upd (σ 19) t (σ 19 t + lgap (σ 17) (σ 18) (σ 19) t n) := by
      simp (disch := omega) only [mraise2, mask2, mu_q, mu_s]
      rw [e3, e4, e5, b1]
    rw [r19, r58, e3, e4]
    refine ⟨rfl, ⟨s, by omega, hs2⟩, h10, ?_, ?_, ?_, ?_, ?_, ?_, ?_, ?_, ?_⟩
    · simp (disch := omega) only [mbuy, mraise, mask, mu_q, mu_s, upd_n]; exact e1
    · simp (disch := omega) only [mmB, mraise2, mask2, mu_q, mu_s, upd_n]; exact e2
    · simp (disch := omega) only [mbuy, mraise, mask, mmB, mraise2, mask2, mu_q, mu_s, upd_n]; exact e3
    · simp (disch := omega) only [mbuy, mraise, mask, mmB, mraise2, mask2, mu_q, mu_s, upd_n]; exact e4
    · simp (disch := omega) only [mbuy, mraise, mask, mmB, mraise2, mask2, mu_q, mu_s, upd_n]; rw [e3, e4, e5, b1]
    · simp (disch := omega) only [mbuy, mraise, mask, mmB, mraise2, mask2, mu_q, mu_s, upd_n, upd_s]; rw [e3, e4, e5, e6, b1]
    · simp (disch := omega) only [mbuy, mraise, mask, mmB, mraise2, mask2, mu_q, mu_s, upd_n, upd_s]; rw [e7]
    · simp (disch := omega) only [mbuy, mraise, mask, mmB, mraise2, mask2, mu_q, mu_s, upd_n, upd_s]; rw [e8]
    · simp (disch := omega) only [mbuy, mraise, mask, mu_q, mu_s, upd_n, upd_s]; exact b2
/-- rows and cells that only SETS may change -/
def onT (σ τ : Mem) : Prop := (∀ q, ¬ (q = 2 ∨ (17 ≤ q ∧ q ≤ 19) ∨ (56 ≤ q ∧ q ≤ 58)) → q ≠ 52 → τ q = σ q) ∧ ∀ j, ¬ (j = 0 ∨ j = 5 ∨ j = 8 ∨ j = 9 ∨ j = 11) → τ 52 j = σ 52 j
theorem onT.tr {σ τ ρ : Mem} (h : onT σ τ) (h2 : onT τ ρ) : onT σ ρ := ⟨fun q z z2 => (h2.1 q z z2).trans (h.1 q z z2), fun j z => (h2.2 j z).trans (h.2 j z)⟩
theorem onT.rf {σ : Mem} : onT σ σ := ⟨fun _ _ _ => rfl, fun _ _ => rfl⟩
theorem onT.m0 (σ : Mem) : onT σ (m0 σ) := ⟨fun q _ h => m0_r h, fun j h => m0_c (by omega)⟩
theorem onT.S {σ τ : Mem} (h : onT σ τ) : frS σ τ := fun q z => h.1 q (by omega) (by omega)
theorem onT.A {σ τ : Mem} (h : onT σ τ) : frA σ τ := ⟨fun q z => h.1 q (by omega) (by omega), fun j z => h.2 j (by omega)⟩
theorem onT.L {σ τ : Mem} (h : onT σ τ) : frL σ τ := ⟨fun q z => h.1 q (by omega) (by omega), fun j z => h.2 j (by omega)⟩
theorem onT.W {σ τ : Mem} (h : onT σ τ) : frW σ τ := ⟨fun q z => h.1 q (by omega) (by omega), fun j z => h.2 j (by omega)⟩
theorem onT.cm {σ : Mem} {n t : Nat} : onT σ (cmeetM σ n t) := by
  constructor
  · intro q h h2
    unfold cmeetM
    split
    · simp (disch := omega) only [mask, mu_q]
    · simp (disch := omega) only [mbuy, mraise, mask, mu_q]
  · intro j h
    unfold cmeetM
    split
    · simp (disch := omega) only [mask, mu_q]
    · simp (disch := omega) only [mbuy, mraise, mask, mu_q]
theorem onT.md {σ : Mem} {n t : Nat} : onT σ (mdemM σ n t) := by
  constructor
  · intro q h h2
    unfold mdemM
    split
    · split
      · simp (disch := omega) only [mask2, mu_q]
      · simp (disch := omega) only [mmB, mraise2, mask2, mu_q]
    · rfl
  · intro j h
    unfold mdemM
    split
    · split
      · simp (disch := omega) only [mask2, mu_q, mu_s, upd_n]
      · simp (disch := omega) only [mmB, mraise2, mask2, mu_q, mu_s, upd_n]
    · rfl
theorem cm_52 {σ : Mem} {n t q : Nat} (h : q = 52 ∨ (56 ≤ q ∧ q ≤ 58)) : cmeetM σ n t q = σ q := by
  unfold cmeetM
  split
  · simp (disch := omega) only [mask, mu_q]
  · simp (disch := omega) only [mbuy, mraise, mask, mu_q]
theorem md_2 {σ : Mem} {n t q : Nat} (h : q = 2 ∨ (17 ≤ q ∧ q ≤ 19)) : mdemM σ n t q = σ q := by
  unfold mdemM
  split
  · split
    · simp (disch := omega) only [mask2, mu_q]
    · simp (disch := omega) only [mmB, mraise2, mask2, mu_q]
  · rfl
/-- the relation speaks of the class's part of the one, the reference's of the other -/
theorem GT2.fr {σ σ' τ τ' : Mem} {n : Nat} (h : ∀ q, q = 2 ∨ (17 ≤ q ∧ q ≤ 19) → σ' q = σ q) (h2 : ∀ q, 56 ≤ q ∧ q ≤ 58 → τ' q = τ q) (h3 : ∀ j, j = 5 ∨ j = 8 ∨ j = 9 ∨ j = 11 → τ' 52 j = τ 52 j) (g : GT2 σ τ n) : GT2 σ' τ' n := by
  unfold GT2
  rw [h 2 (by omega), h 17 (by omega), h 18 (by omega), h 19 (by omega), h2 56 (by omega), h2 57 (by omega), h2 58 (by omega), h3 5 (by omega), h3 8 (by omega), h3 9 (by omega), h3 11 (by omega)]
  exact g

