/-! ===== a CALL, the reference's looking: it comes to an end, and how things stand there ===== -/
def fI (v : Nat) : Int32 := if v < 100000 then nI v else (-1000000)
theorem fI_f {v : Nat} (h : v < 100000) : fI v = nI v := if_pos h
theorem fI_n {v : Nat} (h : ¬ v < 100000) : fI v = (-1000000) := if_neg h
theorem fI_ne {v : Nat} (h : v < 100000) : ¬ fI v = (-1000000) := by rw [fI_f h]; exact nI_m6 (by omega)
def cf (p : Nat → Nat) (n : Nat) : Nat := ct (fun z => decide (p z < 100000)) n
def meas (p q : Nat → Nat) : Nat → Nat
  | 0 => 0
  | n + 1 => meas p q n + (p n * 20000 + if p n < 100000 then q n else 0)
theorem meas_hi {p q : Nat → Nat} {b v u : Nat} : ∀ n, n ≤ b → meas (updN p b v) (updN q b u) n = meas p q n
  | 0, _ => rfl
  | n + 1, h => by rw [meas, meas, meas_hi n (by omega), updN_n (by omega), updN_n (by omega)]
theorem meas_upd {p q : Nat → Nat} {b v u : Nat} : ∀ n, b < n → meas (updN p b v) (updN q b u) n + (p b * 20000 + if p b < 100000 then q b else 0) = meas p q n + (v * 20000 + if v < 100000 then u else 0)
  | 0, h => absurd h (Nat.not_lt_zero b)
  | n + 1, h => by
    rw [meas, meas]
    by_cases e : n = b
    · subst e
      rw [meas_hi n (Nat.le_refl n), updN_s, updN_s]
      omega
    · have ih := meas_upd (p := p) (q := q) (b := b) (v := v) (u := u) n (by omega)
      rw [updN_n e, updN_n e]
      omega
def Zp (l : Nat → Nat → Nat) (on : Int32) (n : Nat) (p q : Nat → Nat) : Prop :=
  (∀ b, b < n → bt on b = true → p b = 0 ∧ q b = 0) ∧
  (∀ b, b < n → p b ≤ 100000 ∧ (p b < 100000 → q b ≤ p b ∧ p b ≤ 1000 * cf p n)) ∧
  (∀ b, b < n → bt on b = false → p b < 100000 → ∃ c, c < n ∧ 0 < l b c ∧ p c < 100000 ∧ (p c + l b c < p b ∨ (p c + l b c = p b ∧ q c + 1 ≤ q b)))
def Zr (n : Nat) (x : Sw) (p q : Nat → Nat) : Prop := ∀ b, b < n → x.1 b = fI (p b) ∧ x.2.1 b = nI (q b)
def stb (l : Nat → Nat → Nat) (p q : Nat → Nat) (b c : Nat) : Prop := 0 < l b c → p c < 100000 → ¬ (p c + l b c < p b) ∧ ¬ (p c + l b c = p b ∧ q c + 1 < q b)
theorem cf_le (p : Nat → Nat) (n : Nat) : cf p n ≤ n := ct_le _ n
theorem cf_new {p : Nat → Nat} {b v n : Nat} (hb : b < n) (h : ¬ p b < 100000) (hv : v < 100000) : cf (updN p b v) n = cf p n + 1 := by
  have e : (fun z => decide (updN p b v z < 100000)) = ins (fun z => decide (p z < 100000)) b := by
    funext z
    unfold ins
    by_cases q : z = b
    · subst q
      rw [updN_s, decide_eq_true hv, decide_eq_true (rfl : z = z), Bool.or_true]
    · rw [updN_n q, decide_eq_false q, Bool.or_false]
  unfold cf
  rw [e, ct_ins (decide_eq_false h), if_pos hb]
theorem cf_old {p : Nat → Nat} {b v n : Nat} (h : p b < 100000) (hv : v < 100000) : cf (updN p b v) n = cf p n := by
  unfold cf
  refine ct_congr n (fun z _ => ?_)
  by_cases q : z = b
  · subst q
    rw [updN_s, decide_eq_true hv, decide_eq_true h]
  · rw [updN_n q]
theorem st_step {l : Nat → Nat → Nat} {w : Nat → Nat → Int32} {on : Int32} {n b c : Nat} {x : Sw} {p q : Nat → Nat} (hn : n ≤ 10) (hl : ∀ a b, l a b ≤ 1000) (hli : ∀ a b, 0 < l a b → a ≠ b) (hw : w b c = nI (l b c)) (hb : b < n) (hc : c < n) (hon : bt on b = false) (hz : Zp l on n p q) (hr : Zr n x p q) : (stF w b c x = x ∧ stb l p q b c) ∨ ∃ p' q', Zp l on n p' q' ∧ Zr n (stF w b c x) p' q' ∧ (stF w b c x).2.2 = true ∧ meas p' q' n < meas p q n := by
  obtain ⟨z1, z2, z3⟩ := hz
  have lbc := hl b c
  have hcf := cf_le p n
  obtain ⟨xb, sb⟩ := hr b hb
  obtain ⟨xc, sc⟩ := hr c hc
  obtain ⟨b1, b2⟩ := z2 b hb
  obtain ⟨c1, c2⟩ := z2 c hc
  by_cases h1 : 0 < l b c ∧ p c < 100000
  · have hpc := c2 h1.2
    have hne : b ≠ c := hli b c h1.1
    have k1 : 0 < w b c ∧ ¬ x.1 c = (-1000000) := ⟨by rw [hw]; exact (pos_nI (by omega)).mpr h1.1, by rw [xc]; exact fI_ne h1.2⟩
    have es : x.1 c + w b c = nI (p c + l b c) := by rw [xc, fI_f h1.2, hw, nI_add]
    have eq1 : x.2.1 c + nI 1 = nI (q c + 1) := by rw [sc, nI_add]
    by_cases h2 : p c + l b c < p b ∨ (p c + l b c = p b ∧ q c + 1 < q b)
    · refine Or.inr ⟨updN p b (p c + l b c), updN q b (q c + 1), ⟨fun z hz ho => ?_, fun z hz => ?_, fun z hz ho hp => ?_⟩, ?_, ?_, ?_⟩
      · have : z ≠ b := fun e => by rw [e, hon] at ho; exact absurd ho (by decide)
        rw [updN_n this, updN_n this]
        exact z1 z hz ho
      · by_cases hf : p b < 100000
        · rw [cf_old hf (by omega)]
          by_cases e : z = b
          · subst e
            rw [updN_s, updN_s]
            have := b2 hf
            exact ⟨by omega, fun _ => ⟨by omega, by omega⟩⟩
          · rw [updN_n e, updN_n e]
            exact z2 z hz
        · rw [cf_new hb hf (by omega)]
          by_cases e : z = b
          · subst e
            rw [updN_s, updN_s]
            exact ⟨by omega, fun _ => ⟨by omega, by omega⟩⟩
          · rw [updN_n e, updN_n e]
            obtain ⟨y1, y2⟩ := z2 z hz
            exact ⟨y1, fun hh => by have := y2 hh; exact ⟨by omega, by omega⟩⟩
      · by_cases e : z = b
        · subst e
          refine ⟨c, hc, h1.1, ?_, Or.inr ⟨?_, ?_⟩⟩
          · rw [updN_n (Ne.symm hne)]; exact h1.2
          · rw [updN_n (Ne.symm hne), updN_s]
          · rw [updN_n (Ne.symm hne), updN_s]; exact Nat.le_refl _
        · rw [updN_n e] at hp ⊢
          rw [updN_n e]
          obtain ⟨c0, a1, a2, a3, a4⟩ := z3 z hz ho hp
          refine ⟨c0, a1, a2, ?_⟩
          by_cases e2 : c0 = b
          · subst e2
            rw [updN_s, updN_s]
            omega
          · rw [updN_n e2, updN_n e2]
            exact ⟨a3, a4⟩
      · have k2 : x.1 b = (-1000000) ∨ x.1 c + w b c < x.1 b ∨ (x.1 c + w b c = x.1 b ∧ x.2.1 c + nI 1 < x.2.1 b) := by
          by_cases hf : p b < 100000
          · have := b2 hf
            rw [es, eq1, xb, fI_f hf, sb]
            rcases h2 with q1 | ⟨q1, q2⟩
            · exact Or.inr (Or.inl ((nI_ltI (by omega) (by omega)).mpr q1))
            · exact Or.inr (Or.inr ⟨by rw [q1], (nI_ltI (by omega) (by omega)).mpr q2⟩)
          · exact Or.inl (by rw [xb, fI_n hf])
        rw [stF, if_pos k1, if_pos k2, es, eq1]
        intro z hz
        by_cases e : z = b
        · subst e
          show upd x.1 z (nI (p c + l z c)) z = _ ∧ upd x.2.1 z (nI (q c + 1)) z = _
          rw [upd_s, upd_s, updN_s, updN_s, fI_f (by omega)]
          exact ⟨rfl, rfl⟩
        · show upd x.1 b (nI (p c + l b c)) z = _ ∧ upd x.2.1 b (nI (q c + 1)) z = _
          rw [upd_n e, upd_n e, updN_n e, updN_n e]
          exact hr z hz
      · have k2 : x.1 b = (-1000000) ∨ x.1 c + w b c < x.1 b ∨ (x.1 c + w b c = x.1 b ∧ x.2.1 c + nI 1 < x.2.1 b) := by
          by_cases hf : p b < 100000
          · have := b2 hf
            rw [es, eq1, xb, fI_f hf, sb]
            rcases h2 with q1 | ⟨q1, q2⟩
            · exact Or.inr (Or.inl ((nI_ltI (by omega) (by omega)).mpr q1))
            · exact Or.inr (Or.inr ⟨by rw [q1], (nI_ltI (by omega) (by omega)).mpr q2⟩)
          · exact Or.inl (by rw [xb, fI_n hf])
        rw [stF, if_pos k1, if_pos k2]
      · have hm := meas_upd (p := p) (q := q) (b := b) (v := p c + l b c) (u := q c + 1) n hb
        rw [if_pos (show p c + l b c < 100000 by omega)] at hm
        by_cases hf : p b < 100000
        · have := b2 hf
          rw [if_pos hf] at hm
          omega
        · rw [if_neg hf] at hm
          omega
    · refine Or.inl ⟨?_, fun _ _ => ⟨fun q1 => h2 (Or.inl q1), fun q1 => h2 (Or.inr q1)⟩⟩
      have hf : p b < 100000 := by
        rcases Nat.lt_or_ge (p b) 100000 with q1 | q1
        · exact q1
        · exact absurd (Or.inl (by omega)) h2
      have := b2 hf
      rw [stF, if_pos k1, if_neg]
      rw [es, eq1, xb, fI_f hf, sb]
      rintro (q1 | q1 | ⟨q1, q2⟩)
      · exact nI_m6 (by omega) q1
      · exact h2 (Or.inl ((nI_ltI (by omega) (by omega)).mp q1))
      · exact h2 (Or.inr ⟨nI_ij (by omega) (by omega) q1, (nI_ltI (by omega) (by omega)).mp q2⟩)
  · refine Or.inl ⟨?_, fun a b => absurd ⟨a, b⟩ h1⟩
    rw [stF, if_neg]
    rintro ⟨q1, q2⟩
    rw [hw] at q1
    refine h1 ⟨(pos_nI (by omega)).mp q1, ?_⟩
    rcases Nat.lt_or_ge (p c) 100000 with q3 | q3
    · exact q3
    · exact absurd (by rw [xc]; exact fI_n (by omega)) q2
theorem ic_step {l : Nat → Nat → Nat} {w : Nat → Nat → Int32} {on : Int32} {n b : Nat} {x : Sw} {p q : Nat → Nat} (hn : n ≤ 10) (hl : ∀ a b, l a b ≤ 1000) (hli : ∀ a b, 0 < l a b → a ≠ b) (hw : ∀ a b, a < n → b < n → w a b = nI (l a b)) (hb : b < n) (hon : bt on b = false) (hz : Zp l on n p q) (hr : Zr n x p q) : ∀ k, k ≤ n → (icF w b x k = x ∧ ∀ c, c < k → stb l p q b c) ∨ ∃ p' q', Zp l on n p' q' ∧ Zr n (icF w b x k) p' q' ∧ (icF w b x k).2.2 = true ∧ meas p' q' n < meas p q n
  | 0, _ => Or.inl ⟨rfl, fun c h => absurd h (Nat.not_lt_zero c)⟩
  | k + 1, hk => by
    rw [icF]
    rcases ic_step hn hl hli hw hb hon hz hr k (by omega) with ⟨i1, i2⟩ | ⟨p', q', j1, j2, j3, j4⟩
    · rw [i1]
      rcases st_step (c := k) hn hl hli (hw b k hb (by omega)) hb (by omega) hon hz hr with ⟨s1, s2⟩ | s
      · refine Or.inl ⟨s1, fun c hc => ?_⟩
        by_cases e : c = k
        · rw [e]; exact s2
        · exact i2 c (by omega)
      · exact Or.inr s
    · rcases st_step (c := k) hn hl hli (hw b k hb (by omega)) hb (by omega) hon j1 j2 with ⟨s1, s2⟩ | ⟨p2, q2, t1, t2, t3, t4⟩
      · rw [s1]; exact Or.inr ⟨p', q', j1, j2, j3, j4⟩
      · exact Or.inr ⟨p2, q2, t1, t2, t3, by omega⟩
theorem sw_step {l : Nat → Nat → Nat} {w : Nat → Nat → Int32} {on : Int32} {n : Nat} {x : Sw} {p q : Nat → Nat} (hn : n ≤ 10) (hl : ∀ a b, l a b ≤ 1000) (hli : ∀ a b, 0 < l a b → a ≠ b) (hw : ∀ a b, a < n → b < n → w a b = nI (l a b)) (hz : Zp l on n p q) (hr : Zr n x p q) : ∀ k, k ≤ n → (swF w on n x k = x ∧ ∀ b, b < k → bt on b = false → ∀ c, c < n → stb l p q b c) ∨ ∃ p' q', Zp l on n p' q' ∧ Zr n (swF w on n x k) p' q' ∧ (swF w on n x k).2.2 = true ∧ meas p' q' n < meas p q n
  | 0, _ => Or.inl ⟨rfl, fun c h => absurd h (Nat.not_lt_zero c)⟩
  | k + 1, hk => by
    rw [swF]
    cases hon : bt on k with
    | true =>
      rw [if_pos rfl]
      rcases sw_step hn hl hli hw hz hr k (by omega) with ⟨i1, i2⟩ | i
      · refine Or.inl ⟨i1, fun b hb hob => ?_⟩
        have : b ≠ k := fun e => by rw [e, hon] at hob; exact absurd hob (by decide)
        exact i2 b (by omega) hob
      · exact Or.inr i
    | false =>
      rw [if_neg Bool.false_ne_true]
      rcases sw_step hn hl hli hw hz hr k (by omega) with ⟨i1, i2⟩ | ⟨p', q', j1, j2, j3, j4⟩
      · rw [i1]
        rcases ic_step (b := k) hn hl hli hw (by omega) hon hz hr n (Nat.le_refl n) with ⟨s1, s2⟩ | s
        · refine Or.inl ⟨s1, fun b hb hob => ?_⟩
          by_cases e : b = k
          · rw [e]; exact s2
          · exact i2 b (by omega) hob
        · exact Or.inr s
      · rcases ic_step (b := k) hn hl hli hw (by omega) hon j1 j2 n (Nat.le_refl n) with ⟨s1, s2⟩ | ⟨p2, q2, t1, t2, t3, t4⟩
        · rw [s1]; exact Or.inr ⟨p', q', j1, j2, j3, j4⟩
        · exact Or.inr ⟨p2, q2, t1, t2, t3, by omega⟩
def rdS (w : Nat → Nat → Int32) (on : Int32) (n : Nat) (x : Sw) : Sw := swF w on n (x.1, x.2.1, false) n
theorem rdF_itr {w : Nat → Nat → Int32} {on : Int32} {n : Nat} {x : Sw} : ∀ r, rdF w on n x r = itr (rdS w on n) r x
  | 0 => rfl
  | r + 1 => by
    rw [rdF, rdF_itr r]
    rfl
theorem rd_end {l : Nat → Nat → Nat} {w : Nat → Nat → Int32} {on : Int32} {n : Nat} (hn : n ≤ 10) (hl : ∀ a b, l a b ≤ 1000) (hli : ∀ a b, 0 < l a b → a ≠ b) (hw : ∀ a b, a < n → b < n → w a b = nI (l a b)) : ∀ (N : Nat) (x : Sw) (p q : Nat → Nat), Zp l on n p q → Zr n x p q → x.2.2 = true → meas p q n ≤ N → ∃ (R : Nat) (p' q' : Nat → Nat), (∀ r, r < R → (itr (rdS w on n) r x).2.2 = true) ∧ (itr (rdS w on n) R x).2.2 = false ∧ Zp l on n p' q' ∧ Zr n (itr (rdS w on n) R x) p' q' ∧ ∀ b, b < n → bt on b = false → ∀ c, c < n → stb l p' q' b c
  | N, x, p, q, hz, hr, hx, hm => by
    have hr' : Zr n (x.1, x.2.1, false) p q := hr
    rcases sw_step hn hl hli hw hz hr' n (Nat.le_refl n) with ⟨s1, s2⟩ | ⟨p2, q2, t1, t2, t3, t4⟩
    · have e : rdS w on n x = (x.1, x.2.1, false) := s1
      refine ⟨1, p, q, fun r hr1 => ?_, ?_, hz, ?_, s2⟩
      · obtain rfl : r = 0 := by omega
        exact hx
      · show (rdS w on n x).2.2 = false
        rw [e]
      · show Zr n (rdS w on n x) p q
        rw [e]
        exact hr'
    · match N, hm with
      | 0, hm => omega
      | N + 1, hm =>
        obtain ⟨R, p3, q3, u1, u2, u3, u4, u5⟩ := rd_end hn hl hli hw N (rdS w on n x) p2 q2 t1 t2 t3 (by omega)
        refine ⟨R + 1, p3, q3, fun r hr1 => ?_, ?_, u3, ?_, u5⟩
        · cases r with
          | zero => exact hx
          | succ r => rw [itr_s]; exact u1 r (by omega)
        · rw [itr_s]; exact u2
        · rw [itr_s]; exact u4
