/-! ===== mathematics of SETS (from the rows of whole) ===== -/
theorem mu_rw {σ : Mem} {p i : Nat} {v : Int32} {q : Nat} : mu σ p i v q = if q = p then upd (σ p) i v else σ q := by
  by_cases h : q = p
  · rw [if_pos h, h, mu_row]
  · rw [if_neg h, ← mu_ne h]
theorem mu_q {σ : Mem} {p i : Nat} {v : Int32} {q : Nat} (h : q ≠ p) : mu σ p i v q = σ q := (mu_ne h).symm
theorem mf_q {σ : Mem} {p : Nat} {g : Nat → Int32} {q : Nat} (h : q ≠ p) : mf σ p g q = σ q := (mf_ne h).symm
theorem mf_s {σ : Mem} {p : Nat} {g : Nat → Int32} : mf σ p g p = g := mf_row σ p g
theorem mu_s {σ : Mem} {p i : Nat} {v : Int32} : mu σ p i v p = upd (σ p) i v := mu_row σ p i v
theorem upd_n {f : Nat → Int32} {i j : Nat} {v : Int32} (h : j ≠ i) : upd f i v j = f j := if_neg h
theorem upd_s {f : Nat → Int32} {i : Nat} {v : Int32} : upd f i v i = v := if_pos rfl
def setsOK (c th pr : Nat → Int32) (n : Nat) (of dem bo me : Int32) : Prop :=
  (∀ k, k < n → ∃ x y : Nat, 1 ≤ x ∧ x ≤ 1000 ∧ c k = nI x ∧ y ≤ x ∧ pf (th k) pr 12 = nI y) ∧
  (∀ k, ∃ m : Nat, m < 4096 ∧ th k = nI m) ∧
  (∀ t, t < 12 → bt dem t = false → pr t = nI 0) ∧
  (∀ t, t < 12 → (bt of t = true ↔ ∃ k, k < n ∧ bt (th k) t = true)) ∧
  (∀ t, bt dem t = true → t < 12 ∧ bt of t = true) ∧
  (∀ k, bt bo k = true → k < n) ∧
  (∀ t, t < 12 → (bt me t = true ↔ ∃ k, k < n ∧ bt bo k = true ∧ bt (th k) t = true))
def lgm (c th : Nat → Int32) (pr : Nat → Int32) (t : Nat) : Nat → Int32
  | 0 => nI 1000000
  | k + 1 => if bt (th k) t then imin (lgm c th pr t k) (c k - pf (th k) pr 12) else lgm c th pr t k
def allf (th : Nat → Int32) (s : Nat) : Nat → Int32
  | 0 => nI 0
  | k + 1 => if bt (nI s) k then allf th s k ||| th k else allf th s k
def sumf (c : Nat → Int32) (s : Nat) : Nat → Int32
  | 0 => nI 0
  | k + 1 => if bt (nI s) k then sumf c s k + c k else sumf c s k
theorem bt_nI {m i : Nat} (h : m < 2 ^ 31) : bt (nI m) i = m.testBit i := by
  show (Int32.ofNat m).toBitVec.getLsbD i = _
  rw [show (Int32.ofNat m).toBitVec = BitVec.ofNat 32 m from rfl, BitVec.getLsbD_ofNat]
  by_cases hi : i < 32
  · rw [decide_eq_true hi, Bool.true_and]
  · rw [decide_eq_false hi, Bool.false_and]
    exact (Nat.testBit_lt_two_pow (Nat.lt_of_lt_of_le h (Nat.pow_le_pow_right (by decide) (by omega)))).symm
theorem bt_lt {x : Int32} {i : Nat} (h : bt x i = true) : i < 32 := by
  rcases Nat.lt_or_ge i 32 with h1 | h1
  · exact h1
  · rw [b_big h1] at h
    exact absurd h (by decide)
theorem bt_sh {k i : Nat} (hk : k < 32) : bt (nI 1 <<< (nI k &&& 31)) i = decide (i = k) := by
  rcases Nat.lt_or_ge i 32 with hi | hi
  · rw [b_shl k hk (nI 1) hi]
    by_cases h : k ≤ i
    · rw [decide_eq_true h, Bool.true_and, b_one _ (by omega)]
      exact decide_eq_decide.mpr (by omega)
    · rw [decide_eq_false h, Bool.false_and]
      exact (decide_eq_false (by omega)).symm
  · rw [b_big hi]
    exact (decide_eq_false (by omega)).symm
theorem bits_nI {x : Int32} {N : Nat} (hN : N ≤ 30) (h : ∀ i, bt x i = true → i < N) : ∃ m : Nat, m < 2 ^ N ∧ x = nI m := by
  have hlt : x.toBitVec.toNat < 2 ^ N := by
    apply Nat.lt_pow_two_of_testBit
    intro i hi
    cases hb : x.toBitVec.toNat.testBit i with
    | false => rfl
    | true => exact absurd (h i hb) (by omega)
  refine ⟨x.toBitVec.toNat, hlt, ?_⟩
  apply Int32.toBitVec_inj.mp
  show x.toBitVec = BitVec.ofNat 32 x.toBitVec.toNat
  rw [BitVec.ofNat_toNat, BitVec.setWidth_eq]
theorem tight_iff {c th pr : Nat → Int32} {t k : Nat} : tight c th pr t k = true ↔ bt (th k) t = true ∧ pf (th k) pr 12 = c k := by
  unfold tight
  rw [Bool.and_eq_true, decide_eq_true_iff]
theorem buyB_bt {c th pr : Nat → Int32} {t : Nat} {b : Int32} {i : Nat} : ∀ k, k ≤ 32 → (bt (buyB c th pr t b k) i = true ↔ bt b i = true ∨ (i < k ∧ tight c th pr t i = true))
  | 0, _ => by
    rw [buyB]
    exact ⟨Or.inl, fun h => h.elim id (fun h => absurd h.1 (Nat.not_lt_zero i))⟩
  | k + 1, hk => by
    have ih := buyB_bt (c := c) (th := th) (pr := pr) (t := t) (b := b) (i := i) k (by omega)
    rw [buyB]
    cases ht : tight c th pr t k with
    | false =>
      rw [if_neg Bool.false_ne_true, ih]
      constructor
      · rintro (h | ⟨h, h2⟩)
        · exact Or.inl h
        · exact Or.inr ⟨by omega, h2⟩
      · rintro (h | ⟨h, h2⟩)
        · exact Or.inl h
        · refine Or.inr ⟨?_, h2⟩
          rcases Nat.lt_or_ge i k with q | q
          · exact q
          · obtain rfl : i = k := by omega
            rw [ht] at h2
            exact absurd h2 (by decide)
    | true =>
      rw [if_pos rfl, b_or, Bool.or_eq_true, ih, bt_sh (by omega), decide_eq_true_iff]
      constructor
      · rintro ((h | ⟨h, h2⟩) | rfl)
        · exact Or.inl h
        · exact Or.inr ⟨by omega, h2⟩
        · exact Or.inr ⟨by omega, ht⟩
      · rintro (h | ⟨h, h2⟩)
        · exact Or.inl (Or.inl h)
        · by_cases q : i = k
          · exact Or.inr q
          · exact Or.inl (Or.inr ⟨by omega, h2⟩)
theorem buyM_bt {c th pr : Nat → Int32} {t : Nat} {b : Int32} {i : Nat} : ∀ k, (bt (buyM c th pr t b k) i = true ↔ bt b i = true ∨ ∃ j, j < k ∧ tight c th pr t j = true ∧ bt (th j) i = true)
  | 0 => by
    rw [buyM]
    exact ⟨Or.inl, fun h => h.elim id (fun ⟨j, h, _⟩ => absurd h (Nat.not_lt_zero j))⟩
  | k + 1 => by
    have ih := buyM_bt (c := c) (th := th) (pr := pr) (t := t) (b := b) (i := i) k
    rw [buyM]
    cases ht : tight c th pr t k with
    | false =>
      rw [if_neg Bool.false_ne_true, ih]
      constructor
      · rintro (h | ⟨j, h, h2⟩)
        · exact Or.inl h
        · exact Or.inr ⟨j, by omega, h2⟩
      · rintro (h | ⟨j, h, h2, h3⟩)
        · exact Or.inl h
        · refine Or.inr ⟨j, ?_, h2, h3⟩
          rcases Nat.lt_or_ge j k with q | q
          · exact q
          · obtain rfl : j = k := by omega
            rw [ht] at h2
            exact absurd h2 (by decide)
    | true =>
      rw [if_pos rfl, b_or, Bool.or_eq_true, ih]
      constructor
      · rintro ((h | ⟨j, h, h2⟩) | h)
        · exact Or.inl h
        · exact Or.inr ⟨j, by omega, h2⟩
        · exact Or.inr ⟨k, by omega, ht, h⟩
      · rintro (h | ⟨j, h, h2, h3⟩)
        · exact Or.inl (Or.inl h)
        · by_cases q : j = k
          · subst q
            exact Or.inr h3
          · exact Or.inl (Or.inr ⟨j, by omega, h2, h3⟩)
theorem buyC_nI {c th pr : Nat → Int32} {t : Nat} {n : Nat} (hc : ∀ k, k < n → ∃ x : Nat, x ≤ 1000 ∧ c k = nI x) : ∀ k, k ≤ n → ∃ s : Nat, s ≤ 1000 * k ∧ buyC c th pr t k = nI s
  | 0, _ => ⟨0, Nat.le_refl _, rfl⟩
  | k + 1, hk => by
    obtain ⟨s, h1, h2⟩ := buyC_nI hc k (by omega)
    obtain ⟨x, h3, h4⟩ := hc k (by omega)
    rw [buyC, h2, h4]
    split
    · exact ⟨s + x, by omega, nI_add s x⟩
    · exact ⟨s, by omega, rfl⟩
theorem pf_upd {b : Int32} {pr : Nat → Int32} {t : Nat} {g : Int32} : ∀ m, pf b (upd pr t (pr t + g)) m = if t < m ∧ bt b t = true then pf b pr m + g else pf b pr m
  | 0 => by rw [if_neg (fun h => absurd h.1 (Nat.not_lt_zero t))]; rfl
  | m + 1 => by
    rw [pf, pf, pf_upd m]
    by_cases hb : bt b m = true
    · rw [if_pos hb, if_pos hb]
      by_cases hm : m = t
      · subst hm
        rw [if_neg (fun h => absurd h.1 (Nat.lt_irrefl m)), upd_s, if_pos ⟨Nat.lt_succ_self m, hb⟩, Int32.add_assoc]
      · rw [upd_n hm]
        by_cases h1 : t < m ∧ bt b t = true
        · rw [if_pos h1, if_pos ⟨by omega, h1.2⟩, Int32.add_assoc, Int32.add_assoc, Int32.add_comm g]
        · rw [if_neg h1, if_neg (fun h => h1 ⟨by omega, h.2⟩)]
    · rw [if_neg hb, if_neg hb]
      by_cases h1 : t < m ∧ bt b t = true
      · rw [if_pos h1, if_pos ⟨by omega, h1.2⟩]
      · rw [if_neg h1, if_neg (fun h => h1 ⟨by
          by_cases q : m = t
          · subst q; exact absurd h.2 hb
          · omega, h.2⟩)]
theorem imin_nI {a b : Nat} (ha : a < 2 ^ 31) (hb : b < 2 ^ 31) : imin (nI a) (nI b) = nI (min a b) := by
  unfold imin
  by_cases h : b < a
  · rw [if_pos ((nI_ltI hb ha).mpr h), Nat.min_eq_right (by omega)]
  · rw [if_neg (fun q => h ((nI_ltI hb ha).mp q)), Nat.min_eq_left (by omega)]
theorem lgap_spec {c th pr : Nat → Int32} {t n : Nat} {X Y : Nat → Nat} (hc : ∀ k, k < n → c k = nI (X k) ∧ pf (th k) pr 12 = nI (Y k) ∧ Y k ≤ X k ∧ X k ≤ 1000) : ∀ k, k ≤ n → ∃ G : Nat, G ≤ 1000 ∧ lgap c th pr t k = nI G ∧ (∀ j, j < k → bt (th j) t = true → G ≤ X j - Y j) ∧ ((∃ j, j < k ∧ bt (th j) t = true) → lgm c th pr t k = nI G) ∧ ((¬ ∃ j, j < k ∧ bt (th j) t = true) → lgm c th pr t k = nI 1000000 ∧ G = 1000)
  | 0, _ => ⟨1000, Nat.le_refl _, rfl, fun j h => absurd h (Nat.not_lt_zero j), fun ⟨j, h, _⟩ => absurd h (Nat.not_lt_zero j), fun _ => ⟨rfl, rfl⟩⟩
  | k + 1, hk => by
    obtain ⟨G, h1, h2, h3, h4, h5⟩ := lgap_spec hc k (by omega)
    obtain ⟨e1, e2, e3, e4⟩ := hc k (by omega)
    rw [lgap, lgm]
    cases hb : bt (th k) t with
    | false =>
      rw [if_neg Bool.false_ne_true, if_neg Bool.false_ne_true]
      have hx : (∃ j, j < k + 1 ∧ bt (th j) t = true) → ∃ j, j < k ∧ bt (th j) t = true := by
        rintro ⟨j, q1, q2⟩
        refine ⟨j, ?_, q2⟩
        rcases Nat.lt_or_ge j k with q | q
        · exact q
        · obtain rfl : j = k := by omega
          rw [hb] at q2
          exact absurd q2 (by decide)
      refine ⟨G, h1, h2, fun j q1 q2 => ?_, fun q => h4 (hx q), fun q => h5 (fun ⟨j, q1, q2⟩ => q ⟨j, by omega, q2⟩)⟩
      obtain ⟨j', q3, q4⟩ := hx ⟨j, q1, q2⟩
      rcases Nat.lt_or_ge j k with q | q
      · exact h3 j q q2
      · obtain rfl : j = k := by omega
        rw [hb] at q2
        exact absurd q2 (by decide)
    | true =>
      rw [if_pos rfl, if_pos rfl, e1, e2, pk_sub e3, h2, imin_nI (by omega) (by omega)]
      refine ⟨min G (X k - Y k), by omega, rfl, fun j q1 q2 => ?_, fun _ => ?_, fun q => absurd ⟨k, by omega, hb⟩ q⟩
      · by_cases q : j = k
        · subst q; omega
        · have := h3 j (by omega) q2; omega
      · by_cases q : ∃ j, j < k ∧ bt (th j) t = true
        · rw [h4 q, imin_nI (by omega) (by omega)]
        · obtain ⟨q5, q6⟩ := h5 q
          rw [q5, imin_nI (by omega) (by omega), q6]
          congr 1
          omega
theorem or_dem {c th pr : Nat → Int32} {n t : Nat} {of dem bo me : Int32} (h : setsOK c th pr n of dem bo me) (ht : t < 12) (ho : bt of t = true) : setsOK c th pr n of (dem ||| (nI 1 <<< (nI t &&& 31))) bo me := by
  obtain ⟨h1, h2, h3, h4, h5, h6, h7⟩ := h
  refine ⟨h1, h2, fun u hu hb => h3 u hu ?_, h4, fun u hu => ?_, h6, h7⟩
  · rw [b_or] at hb
    cases hd : bt dem u with
    | false => rfl
    | true => rw [hd, Bool.true_or] at hb; exact absurd hb (by decide)
  · rw [b_or, Bool.or_eq_true, bt_sh (by omega), decide_eq_true_iff] at hu
    rcases hu with hu | rfl
    · exact h5 u hu
    · exact ⟨ht, ho⟩
theorem X_Y {c th pr : Nat → Int32} {n : Nat} (h : ∀ k, k < n → ∃ x y : Nat, 1 ≤ x ∧ x ≤ 1000 ∧ c k = nI x ∧ y ≤ x ∧ pf (th k) pr 12 = nI y) : ∃ X Y : Nat → Nat, ∀ k, k < n → c k = nI (X k) ∧ pf (th k) pr 12 = nI (Y k) ∧ Y k ≤ X k ∧ X k ≤ 1000 ∧ 1 ≤ X k := by
  refine ⟨fun k => tn (c k), fun k => tn (pf (th k) pr 12), fun k hk => ?_⟩
  obtain ⟨x, y, a1, a2, a3, a4, a5⟩ := h k hk
  show c k = nI (tn (c k)) ∧ pf (th k) pr 12 = nI (tn (pf (th k) pr 12)) ∧ tn (pf (th k) pr 12) ≤ tn (c k) ∧ tn (c k) ≤ 1000 ∧ 1 ≤ tn (c k)
  rw [a3, a5, tn_nI (by omega), tn_nI (by omega)]
  exact ⟨rfl, rfl, a4, a2, a1⟩
theorem buy_ok {c th pr : Nat → Int32} {n t : Nat} {of dem bo me : Int32} (hn : n ≤ 10) (h : setsOK c th pr n of dem bo me) (ht : t < 12) (ho : bt of t = true) : lgm c th pr t n = lgap c th pr t n ∧ setsOK c th (upd pr t (pr t + lgap c th pr t n)) n of (dem ||| (nI 1 <<< (nI t &&& 31))) (buyB c th (upd pr t (pr t + lgap c th pr t n)) t bo n) (buyM c th (upd pr t (pr t + lgap c th pr t n)) t me n) := by
  obtain ⟨h1, h2, h3, h4, h5, h6, h7⟩ := or_dem h ht ho
  obtain ⟨X, Y, hXY⟩ := X_Y h1
  obtain ⟨G, g1, g2, g3, g4, -⟩ := lgap_spec (c := c) (th := th) (pr := pr) (t := t) (X := X) (Y := Y) (fun k hk => ⟨(hXY k hk).1, (hXY k hk).2.1, (hXY k hk).2.2.1, (hXY k hk).2.2.2.1⟩) n (Nat.le_refl n)
  have hex := (h4 t ht).mp ho
  refine ⟨(g4 hex).trans g2.symm, fun k hk => ?_, h2, fun u hu hb => ?_, h4, h5, fun k hk => ?_, fun u hu => ?_⟩
  · obtain ⟨a1, a2, a3, a4, a5⟩ := hXY k hk
    rw [pf_upd, g2, a2]
    by_cases hb : bt (th k) t = true
    · rw [if_pos ⟨ht, hb⟩]
      have := g3 k hk hb
      exact ⟨X k, Y k + G, a5, a4, a1, by omega, nI_add _ _⟩
    · rw [if_neg (fun q => hb q.2)]
      exact ⟨X k, Y k, a5, a4, a1, a3, rfl⟩
  · have hut : u ≠ t := by
      rintro rfl
      rw [b_or, bt_sh (by omega), decide_eq_true rfl, Bool.or_true] at hb
      exact absurd hb (by decide)
    rw [upd_n hut]
    exact h3 u hu hb
  · rcases (buyB_bt n (by omega)).mp hk with q | q
    · exact h6 k q
    · exact q.1
  · rw [buyM_bt, h7 u hu]
    constructor
    · rintro (⟨k, q1, q2, q3⟩ | ⟨k, q1, q2, q3⟩)
      · exact ⟨k, q1, (buyB_bt n (by omega)).mpr (Or.inl q2), q3⟩
      · exact ⟨k, q1, (buyB_bt n (by omega)).mpr (Or.inr ⟨q1, q2⟩), q3⟩
    · rintro ⟨k, q1, q2, q3⟩
      rcases (buyB_bt n (by omega)).mp q2 with q | q
      · exact Or.inl ⟨k, q1, q, q3⟩
      · exact Or.inr ⟨k, q1, q.2, q3⟩
theorem caddM_of {c th pr : Nat → Int32} {n : Nat} {of bo me : Int32} {x m : Nat} (h : setsOK c th pr n of 0 bo me) (hn : n < 10) (hx1 : 1 ≤ x) (hx : x ≤ 1000) (hm : m < 4096) : setsOK (upd c n (nI x)) (upd th n (nI m)) pr (n + 1) (of ||| nI m) 0 bo me := by
  obtain ⟨h1, h2, h3, h4, h5, h6, h7⟩ := h
  have p0 : ∀ (b : Int32) (k : Nat), k ≤ 12 → pf b pr k = nI 0 := by
    intro b k
    induction k with
    | zero => intro _; rfl
    | succ k ih =>
      intro hk
      rw [pf, ih (by omega), h3 k (by omega) (b_0 k)]
      split <;> decide +kernel
  refine ⟨fun k hk => ?_, fun k => ?_, h3, fun t ht => ?_, fun t ht => ?_, fun k hk => ?_, fun t ht => ?_⟩
  · by_cases e : k = n
    · subst e
      rw [upd_s, upd_s, p0 _ _ (Nat.le_refl 12)]
      exact ⟨x, 0, hx1, hx, rfl, Nat.zero_le x, rfl⟩
    · rw [upd_n e, upd_n e]
      exact h1 k (by omega)
  · by_cases e : k = n
    · subst e; rw [upd_s]; exact ⟨m, hm, rfl⟩
    · rw [upd_n e]; exact h2 k
  · rw [b_or, Bool.or_eq_true, h4 t ht]
    constructor
    · rintro (⟨k, q1, q2⟩ | q)
      · exact ⟨k, by omega, by rw [upd_n (by omega)]; exact q2⟩
      · exact ⟨n, by omega, by rw [upd_s]; exact q⟩
    · rintro ⟨k, q1, q2⟩
      by_cases e : k = n
      · subst e; rw [upd_s] at q2; exact Or.inr q2
      · rw [upd_n e] at q2; exact Or.inl ⟨k, by omega, q2⟩
  · rw [b_0] at ht; exact absurd ht (by decide)
  · have := h6 k hk; omega
  · rw [h7 t ht]
    constructor
    · rintro ⟨k, q1, q2, q3⟩
      exact ⟨k, by omega, q2, by rw [upd_n (by omega)]; exact q3⟩
    · rintro ⟨k, q1, q2, q3⟩
      have := h6 k q2
      exact ⟨k, this, q2, by rw [upd_n (by omega)] at q3; exact q3⟩
def smN (X : Nat → Nat) (S : Nat → Bool) : Nat → Nat
  | 0 => 0
  | k + 1 => smN X S k + (if S k then X k else 0)
def csN (X : Nat → Nat) (S : Nat → Bool) (n : Nat) : Nat → Nat
  | 0 => 0
  | m + 1 => csN X S n m + (if S (n - (m + 1)) then X (n - (m + 1)) else 0)
theorem cs_sm (X : Nat → Nat) (S : Nat → Bool) (n : Nat) : ∀ m, m ≤ n → csN X S n m + smN X S (n - m) = smN X S n
  | 0, _ => by rw [csN, Nat.sub_zero, Nat.zero_add]
  | m + 1, h => by
    have ih := cs_sm X S n m (by omega)
    rw [show n - m = n - (m + 1) + 1 by omega, smN] at ih
    rw [csN]
    omega
theorem csN_congr {X : Nat → Nat} {S S' : Nat → Bool} {n : Nat} : ∀ m, m ≤ n → (∀ k, n - m ≤ k → k < n → S k = S' k) → csN X S n m = csN X S' n m
  | 0, _, _ => rfl
  | m + 1, h, hs => by rw [csN, csN, csN_congr m (by omega) (fun k h1 h2 => hs k (by omega) h2), hs (n - (m + 1)) (by omega) (by omega)]
theorem csN_le {X : Nat → Nat} {S : Nat → Bool} {n : Nat} (hX : ∀ k, k < n → X k ≤ 1000) : ∀ m, m ≤ n → csN X S n m ≤ 1000 * m
  | 0, _ => Nat.le_refl _
  | m + 1, h => by
    have h1 := csN_le (S := S) hX m (by omega)
    have h2 := hX (n - (m + 1)) (by omega)
    rw [csN]
    split <;> omega
def cvS (th : Nat → Int32) (S : Nat → Bool) (n m : Nat) (mis : Int32) : Prop := ∀ i, bt mis i = true → ∃ k, n - m ≤ k ∧ k < n ∧ S k = true ∧ bt (th k) i = true
theorem and_0 {x y : Int32} : x &&& y = 0 ↔ ∀ i, bt x i = true → bt y i = false := by
  constructor
  · intro h i hi
    have h1 : bt (x &&& y) i = bt 0 i := by rw [h]
    rw [b_and, b_0, hi, Bool.true_and] at h1
    exact h1
  · intro h
    apply b_ext
    intro i hi
    rw [b_and, b_0]
    cases hx : bt x i with
    | false => rfl
    | true => rw [h i hx]; rfl
theorem b_not {x : Int32} {i : Nat} (hi : i < 32) : bt (x ^^^ (-1)) i = !bt x i := by
  rw [b_xor, b_m1 i hi, Bool.xor_true]
theorem x0_b {x : Int32} : x = 0 ↔ ∀ i, bt x i = false := ⟨fun h i => by rw [h, b_0], fun h => b_ext fun i _ => by rw [h, b_0]⟩
theorem lff_spec {c th : Nat → Int32} {n : Nat} {X : Nat → Nat} (hc : ∀ k, k < n → c k = nI (X k) ∧ X k ≤ 1000) (hn : n ≤ 10) : ∀ m, m ≤ n → ∀ mis : Int32, ∃ V : Nat, V ≤ 1000000 + 1000 * m ∧ lff c th n m mis = nI V ∧ (∀ S, cvS th S n m mis → V ≤ csN X S n m) ∧ (1000000 ≤ V ∨ ∃ S, cvS th S n m mis ∧ csN X S n m = V)
  | 0, _, mis => by
    rw [lff]
    by_cases h : mis = 0
    · rw [if_pos h]
      exact ⟨0, by omega, rfl, fun _ _ => Nat.zero_le _, Or.inr ⟨fun _ => false, fun i hi => by rw [h, b_0] at hi; exact absurd hi (by decide), rfl⟩⟩
    · rw [if_neg h]
      refine ⟨1000000, by omega, rfl, fun S hS => ?_, Or.inl (Nat.le_refl _)⟩
      exfalso
      apply h
      apply x0_b.mpr
      intro i
      cases hb : bt mis i with
      | false => rfl
      | true =>
        obtain ⟨k, h1, h2, -⟩ := hS i hb
        omega
  | m + 1, hm, mis => by
    rw [lff]
    by_cases h : mis = 0
    · rw [if_pos h]
      refine ⟨0, by omega, rfl, fun _ _ => Nat.zero_le _, Or.inr ⟨fun _ => false, fun i hi => by rw [h, b_0] at hi; exact absurd hi (by decide), ?_⟩⟩
      have : ∀ m, csN X (fun _ => false) n m = 0 := by
        intro m
        induction m with
        | zero => rfl
        | succ m ih => rw [csN, ih]; rfl
      exact this _
    · rw [if_neg h]
      obtain ⟨e1, e2⟩ := hc (n - (m + 1)) (by omega)
      have hk : n - (m + 1) < n := by omega
      generalize hkd : n - (m + 1) = k at e1 e2 hk ⊢
      obtain ⟨V, v1, v2, v3, v4⟩ := lff_spec (th := th) hc hn m (by omega) mis
      -- without the set k
      have out : ∀ S, cvS th S n m mis → ∃ S', cvS th S' n (m + 1) mis ∧ csN X S' n (m + 1) = csN X S n m := by
        intro S hS
        refine ⟨fun j => if j = k then false else S j, fun i hi => ?_, ?_⟩
        · obtain ⟨j, a1, a2, a3, a4⟩ := hS i hi
          exact ⟨j, by omega, a2, by show (if j = k then false else S j) = true; rw [if_neg (by omega)]; exact a3, a4⟩
        · rw [csN, hkd, csN_congr (S' := S) m (by omega) (fun j a1 a2 => if_neg (by omega))]
          simp
      have noK : ∀ S, cvS th S n (m + 1) mis → (S k = false ∨ th k &&& mis = 0) → cvS th S n m mis := by
        intro S hS hk2 i hi
        obtain ⟨j, a1, a2, a3, a4⟩ := hS i hi
        refine ⟨j, ?_, a2, a3, a4⟩
        rcases Nat.lt_or_ge j (n - m) with q | q
        · exfalso
          obtain rfl : j = k := by omega
          rcases hk2 with q2 | q2
          · rw [q2] at a3; exact absurd a3 (by decide)
          · rw [(and_0.mp q2) i a4] at hi; exact absurd hi (by decide)
        · exact q
      have cs1 : ∀ S, csN X S n m ≤ csN X S n (m + 1) := fun S => by rw [csN]; omega
      by_cases h2 : th k &&& mis = 0
      · rw [if_pos h2]
        refine ⟨V, by omega, v2, fun S hS => Nat.le_trans (v3 S (noK S hS (Or.inr h2))) (cs1 S), ?_⟩
        rcases v4 with q | ⟨S, q1, q2⟩
        · exact Or.inl q
        · obtain ⟨S', b1, b2⟩ := out S q1
          exact Or.inr ⟨S', b1, by rw [b2, q2]⟩
      · rw [if_neg h2]
        obtain ⟨V', u1, u2, u3, u4⟩ := lff_spec (th := th) hc hn m (by omega) (mis &&& (th k ^^^ (-1)))
        rw [v2, u2, e1, nI_add, imin_nI (by omega) (by omega)]
        have hin : ∀ S, cvS th S n (m + 1) mis → S k = true → cvS th S n m (mis &&& (th k ^^^ (-1))) := by
          clear v4 u4 v3 u3
          intro S hS hSk i hi
          have hi32 := bt_lt hi
          rw [b_and, Bool.and_eq_true, b_not hi32] at hi
          obtain ⟨j, a1, a2, a3, a4⟩ := hS i hi.1
          refine ⟨j, ?_, a2, a3, a4⟩
          rcases Nat.lt_or_ge j (n - m) with q | q
          · exfalso
            obtain rfl : j = k := by omega
            rw [a4] at hi
            exact absurd hi.2 (by decide)
          · exact q
        refine ⟨min V (X k + V'), by omega, rfl, fun S hS => ?_, ?_⟩
        · cases hSk : S k with
          | false =>
            have := v3 S (noK S hS (Or.inl hSk))
            have := cs1 S
            omega
          | true =>
            have h3 := u3 S (hin S hS hSk)
            have h4 : csN X S n (m + 1) = csN X S n m + X k := by rw [csN, hkd, if_pos hSk]
            omega
        · by_cases hm2 : V ≤ X k + V'
          · rw [Nat.min_eq_left hm2]
            rcases v4 with q | ⟨S, q1, q2⟩
            · exact Or.inl q
            · obtain ⟨S', b1, b2⟩ := out S q1
              exact Or.inr ⟨S', b1, by rw [b2, q2]⟩
          · rw [Nat.min_eq_right (by omega)]
            rcases u4 with q | ⟨S, q1, q2⟩
            · exact Or.inl (by omega)
            · refine Or.inr ⟨fun j => if j = k then true else S j, fun i hi => ?_, ?_⟩
              · cases hb : bt (th k) i with
                | true => exact ⟨k, by omega, hk, if_pos rfl, hb⟩
                | false =>
                  obtain ⟨j, a1, a2, a3, a4⟩ := q1 i (by rw [b_and, hi, b_not (bt_lt hi), hb]; rfl)
                  exact ⟨j, by omega, a2, by show (if j = k then true else S j) = true; rw [if_neg (by omega)]; exact a3, a4⟩
              · rw [csN, hkd, csN_congr (S' := S) m (by omega) (fun j a1 a2 => if_neg (by omega)), q2]
                simp
                omega
theorem sumf_N {c : Nat → Int32} {X : Nat → Nat} {n s : Nat} (hc : ∀ k, k < n → c k = nI (X k)) : ∀ k, k ≤ n → sumf c s k = nI (smN X (fun j => bt (nI s) j) k)
  | 0, _ => rfl
  | k + 1, h => by
    rw [sumf, smN, sumf_N hc k (by omega), hc k (by omega)]
    by_cases hb : bt (nI s) k = true
    · rw [if_pos hb, if_pos hb, nI_add]
    · rw [if_neg hb, if_neg hb, Nat.add_zero]
theorem allf_b {th : Nat → Int32} {s i : Nat} : ∀ k, bt (allf th s k) i = true ↔ ∃ j, j < k ∧ bt (nI s) j = true ∧ bt (th j) i = true
  | 0 => by
    rw [allf, nI_0, b_0]
    exact ⟨fun h => (by cases h), fun ⟨j, h, _⟩ => absurd h (Nat.not_lt_zero j)⟩
  | k + 1 => by
    have ih := allf_b (th := th) (s := s) (i := i) k
    rw [allf]
    cases hb : bt (nI s) k with
    | false =>
      rw [if_neg Bool.false_ne_true, ih]
      constructor
      · rintro ⟨j, h, h2⟩
        exact ⟨j, by omega, h2⟩
      · rintro ⟨j, h, h2, h3⟩
        refine ⟨j, ?_, h2, h3⟩
        rcases Nat.lt_or_ge j k with q | q
        · exact q
        · obtain rfl : j = k := by omega
          rw [hb] at h2
          exact absurd h2 (by decide)
    | true =>
      rw [if_pos rfl, b_or, Bool.or_eq_true, ih]
      constructor
      · rintro (⟨j, h, h2⟩ | h)
        · exact ⟨j, by omega, h2⟩
        · exact ⟨k, by omega, hb, h⟩
      · rintro ⟨j, h, h2, h3⟩
        by_cases q : j = k
        · subst q; exact Or.inr h3
        · exact Or.inl ⟨j, by omega, h2, h3⟩
def fea (th : Nat → Int32) (dem : Int32) (n s : Nat) : Prop := ∀ i, bt dem i = true → ∃ j, j < n ∧ bt (nI s) j = true ∧ bt (th j) i = true
theorem fea_iff {th : Nat → Int32} {dem : Int32} {n s : Nat} : dem &&& (allf th s n ^^^ (-1)) = 0 ↔ fea th dem n s := by
  rw [and_0]
  constructor
  · intro h i hi
    have h1 := h i hi
    rw [b_not (bt_lt hi)] at h1
    exact (allf_b n).mp (by cases hb : bt (allf th s n) i with
      | true => rfl
      | false => rw [hb] at h1; exact absurd h1 (by decide))
  · intro h i hi
    rw [b_not (bt_lt hi), (allf_b n).mpr (h i hi)]
    rfl
theorem nI_ltm {a b : Nat} (ha : a < 2 ^ 31) (hb : b < 2 ^ 31) : nI a < nI b ↔ a < b := nI_ltI ha hb
theorem ofS (S : Nat → Bool) : ∀ n, ∃ s, s < 2 ^ n ∧ ∀ k, k < n → s.testBit k = S k
  | 0 => ⟨0, by decide, fun k h => absurd h (Nat.not_lt_zero k)⟩
  | n + 1 => by
    obtain ⟨s, h1, h2⟩ := ofS S n
    have hlt : s < 2 ^ (n + 1) := Nat.lt_of_lt_of_le h1 (Nat.pow_le_pow_right (by decide) (by omega))
    cases hn : S n with
    | false =>
      refine ⟨s, hlt, fun k hk => ?_⟩
      by_cases e : k = n
      · subst e; rw [hn]; exact Nat.testBit_lt_two_pow h1
      · exact h2 k (by omega)
    | true =>
      refine ⟨s ||| 2 ^ n, Nat.or_lt_two_pow hlt (Nat.pow_lt_pow_right (by decide) (by omega)), fun k hk => ?_⟩
      rw [Nat.testBit_or, Nat.testBit_two_pow]
      by_cases e : k = n
      · subst e; rw [hn, decide_eq_true rfl, Bool.or_true]
      · rw [decide_eq_false (Ne.symm e), Bool.or_false]; exact h2 k (by omega)
theorem smN_congr {X : Nat → Nat} {S S' : Nat → Bool} : ∀ n, (∀ k, k < n → S k = S' k) → smN X S n = smN X S' n
  | 0, _ => rfl
  | n + 1, h => by rw [smN, smN, smN_congr n (fun k hk => h k (by omega)), h n (by omega)]
theorem imax_nI {a b : Nat} (ha : a < 2 ^ 31) (hb : b < 2 ^ 31) : imax (nI a) (nI b) = nI (max a b) := by
  unfold imax
  by_cases h : a < b
  · rw [if_pos ((nI_ltI ha hb).mpr h), Nat.max_eq_right (by omega)]
  · rw [if_neg (fun q => h ((nI_ltI ha hb).mp q)), Nat.max_eq_left (by omega)]
theorem havf_le2 (th : Nat → Int32) (t : Nat) : ∀ k, havf th t k ≤ k
  | 0 => Nat.le_refl _
  | k + 1 => by
    have := havf_le2 th t k
    unfold havf
    split <;> omega
