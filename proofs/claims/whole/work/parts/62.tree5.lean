/-! ===== the reference's tree as it grows ===== -/
def cr (l : Nat → Nat → Nat) (V S : Nat → Bool) (a b : Nat) : Prop := V a = true ∧ S b = true ∧ V b = false ∧ 0 < l a b
def scP (l : Nat → Nat → Nat) (V S : Nat → Bool) (Q : Nat → Nat → Prop) (x : Int32 × Int32) : Prop := (x = ((-1000000), (-1000000)) ∧ ∀ a b, Q a b → ¬ cr l V S a b) ∨ ∃ a b, cr l V S a b ∧ x = (nI (l a b), nI b) ∧ ∀ a' b', Q a' b' → cr l V S a' b' → l a b ≤ l a' b'
theorem scP_mono {l : Nat → Nat → Nat} {V S : Nat → Bool} {Q Q' : Nat → Nat → Prop} {x : Int32 × Int32} (hq : ∀ a b, Q' a b → cr l V S a b → Q a b) (h : scP l V S Q x) : scP l V S Q' x := by
  rcases h with ⟨h1, h2⟩ | ⟨a, b, h1, h2, h3⟩
  · exact Or.inl ⟨h1, fun a b q c => h2 a b (hq a b q c) c⟩
  · exact Or.inr ⟨a, b, h1, h2, fun a' b' q c => h3 a' b' (hq a' b' q c) c⟩
theorem sc1_P {l : Nat → Nat → Nat} {w : Nat → Nat → Int32} {set re : Int32} {a b : Nat} {x : Int32 × Int32} {Q : Nat → Nat → Prop} (hl : ∀ a b, l a b ≤ 1000) (hw : w a b = nI (l a b)) (ha : bt re a = true) (h : scP l (bt re) (bt set) Q x) : scP l (bt re) (bt set) (fun a' b' => Q a' b' ∨ (a' = a ∧ b' = b)) (sc1 w set re a b x) := by
  have lab := hl a b
  unfold sc1
  by_cases hcr : cr l (bt re) (bt set) a b
  · obtain ⟨-, c2, c3, c4⟩ := id hcr
    rcases h with ⟨rfl, h2⟩ | ⟨c, e, h1, rfl, h2⟩
    · rw [if_pos ⟨c2, c3, by rw [hw]; exact (pos_nI (by omega)).mpr c4, Or.inl rfl⟩]
      refine Or.inr ⟨a, b, hcr, by rw [hw], fun a' b' q q2 => ?_⟩
      rcases q with q | ⟨rfl, rfl⟩
      · exact absurd q2 (h2 a' b' q)
      · exact Nat.le_refl _
    · have lce := hl c e
      by_cases hlt : l a b < l c e
      · rw [if_pos ⟨c2, c3, by rw [hw]; exact (pos_nI (by omega)).mpr c4, Or.inr (by rw [hw]; exact (nI_ltI (by omega) (by omega)).mpr hlt)⟩]
        refine Or.inr ⟨a, b, hcr, by rw [hw], fun a' b' q q2 => ?_⟩
        rcases q with q | ⟨rfl, rfl⟩
        · exact Nat.le_trans (Nat.le_of_lt hlt) (h2 a' b' q q2)
        · exact Nat.le_refl _
      · rw [if_neg (fun q => by
          rcases q.2.2.2 with z | z
          · exact nI_m6 (by omega) z
          · rw [hw] at z; exact hlt ((nI_ltI (by omega) (by omega)).mp z))]
        refine Or.inr ⟨c, e, h1, rfl, fun a' b' q q2 => ?_⟩
        rcases q with q | ⟨rfl, rfl⟩
        · exact h2 a' b' q q2
        · omega
  · rw [if_neg (fun q => hcr ⟨ha, q.1, q.2.1, by have := q.2.2.1; rw [hw] at this; exact (pos_nI (by omega)).mp this⟩)]
    refine scP_mono (fun a' b' q q2 => ?_) h
    rcases q with q | ⟨rfl, rfl⟩
    · exact q
    · exact absurd q2 hcr
theorem sc2_P {l : Nat → Nat → Nat} {w : Nat → Nat → Int32} {set re : Int32} {a n : Nat} {x : Int32 × Int32} {Q : Nat → Nat → Prop} (hl : ∀ a b, l a b ≤ 1000) (hw : ∀ b, b < n → w a b = nI (l a b)) (ha : bt re a = true) (h : scP l (bt re) (bt set) Q x) : ∀ k, k ≤ n → scP l (bt re) (bt set) (fun a' b' => Q a' b' ∨ (a' = a ∧ b' < k)) (sc2 w set re a x k)
  | 0, _ => scP_mono (fun a' b' q _ => q.elim id (fun q => absurd q.2 (Nat.not_lt_zero b'))) h
  | k + 1, hk => scP_mono (fun a' b' q _ => by
      rcases q with q | ⟨q1, q2⟩
      · exact Or.inl (Or.inl q)
      · by_cases e : b' = k
        · exact Or.inr ⟨q1, e⟩
        · exact Or.inl (Or.inr ⟨q1, by omega⟩)) (sc1_P hl (hw k (by omega)) ha (sc2_P hl hw ha h k (by omega)))
theorem sc3_P {l : Nat → Nat → Nat} {w : Nat → Nat → Int32} {set re : Int32} {n : Nat} (hl : ∀ a b, l a b ≤ 1000) (hw : ∀ a b, a < n → b < n → w a b = nI (l a b)) : ∀ k, k ≤ n → scP l (bt re) (bt set) (fun a' b' => a' < k ∧ b' < n) (sc3 w set re n k)
  | 0, _ => Or.inl ⟨rfl, fun a b q => absurd q.1 (Nat.not_lt_zero a)⟩
  | k + 1, hk => by
    have ih := sc3_P (set := set) (re := re) hl hw k (by omega)
    rw [sc3]
    cases hb : bt re k with
    | true =>
      rw [if_pos rfl]
      refine scP_mono (fun a' b' q _ => ?_) (sc2_P hl (fun b h => hw k b (by omega) h) hb ih n (Nat.le_refl n))
      by_cases e : a' = k
      · exact Or.inr ⟨e, q.2⟩
      · exact Or.inl ⟨by omega, q.2⟩
    | false =>
      rw [if_neg Bool.false_ne_true]
      refine scP_mono (fun a' b' q c => ?_) ih
      have : a' ≠ k := fun e => by
        have := c.1
        rw [e, hb] at this
        exact absurd this (by decide)
      exact ⟨by omega, q.2⟩
def mSt (w : Nat → Nat → Int32) (set : Int32) (n : Nat) (s : Int32 × Int32) : Int32 × Int32 := (s.1 ||| (nI 1 <<< ((sc3 w set s.1 n n).2 &&& 31)), s.2 + (sc3 w set s.1 n n).1)
theorem mtF_itr {w : Nat → Nat → Int32} {set : Int32} {n fi : Nat} : ∀ k, mtF w set n fi k = itr (mSt w set n) k (sh1 fi, nI 0)
  | 0 => rfl
  | k + 1 => by
    rw [mtF, mtF_itr k]
    rfl
theorem or_ins {re : Int32} {b : Nat} (hb : b < 32) : bt (re ||| (nI 1 <<< (nI b &&& 31))) = ins (bt re) b := by
  funext z
  rw [b_or, bt_sh hb]
  rfl
theorem model_run {l : Nat → Nat → Nat} {w : Nat → Nat → Int32} {set : Int32} {n : Nat} (hn : n ≤ 10) (hS : ∀ z, bt set z = true → z < n) (hl : ∀ a b, l a b ≤ 1000) (hw : ∀ a b, a < n → b < n → w a b = nI (l a b)) : ∀ (c : Nat) (re : Int32) (m : Nat), c + ct (bt re) n = ct (bt set) n → (∀ z, bt re z = true → bt set z = true) → m + 1000 * c ≤ 20000 → ∃ K, (∀ k, k < K → ¬ (itr (mSt w set n) k (re, nI m)).1 = set ∧ ¬ (sc3 w set (itr (mSt w set n) k (re, nI m)).1 n n).2 = (-1000000)) ∧ (((itr (mSt w set n) K (re, nI m)).1 = set ∧ ∃ t, gr (lF l) (bt set) t (bt re) ∧ (∀ e, e ∈ t → 0 < l e.1 e.2) ∧ (itr (mSt w set n) K (re, nI m)).2 = nI (m + cst (lF l) t) ∧ m + cst (lF l) t ≤ 20000) ∨ (¬ (itr (mSt w set n) K (re, nI m)).1 = set ∧ (sc3 w set (itr (mSt w set n) K (re, nI m)).1 n n).2 = (-1000000) ∧ ∃ V : Nat → Bool, (∀ z, bt re z = true → V z = true) ∧ (∃ y, bt set y = true ∧ V y = false) ∧ ∀ a b, V a = true → bt set b = true → V b = false → a < n → ¬ 0 < l a b))
  | 0, re, m, hc, hV, hm => by
    have hfull := ct_full (n := n) hV (by omega)
    have he : re = set := b_ext (fun i _ => by
      cases hs : bt set i with
      | true => exact hfull i (hS i hs) hs
      | false => exact bnt (fun q => by rw [hV i q] at hs; exact absurd hs (by decide)))
    refine ⟨0, fun k hk => absurd hk (Nat.not_lt_zero k), Or.inl ⟨he, [], fun y hy => hfull y (hS y hy) hy, (fun e he => by cases he), rfl, by rw [cst]; omega⟩⟩
  | c + 1, re, m, hc, hV, hm => by
    have hne : ¬ re = set := fun q => by rw [q] at hc; omega
    have hsc := sc3_P (set := set) (re := re) hl hw n (Nat.le_refl n)
    rcases hsc with ⟨h1, h2⟩ | ⟨a, b, ⟨h1, h2, h3, h4⟩, h5, h6⟩
    · have ex : ∃ y, bt set y = true ∧ bt re y = false := by
        apply Classical.byContradiction
        intro hn
        have := ct_mono (S := bt set) (T := bt re) n (fun z _ hz => by
          cases hv : bt re z with
          | true => rfl
          | false => exact absurd ⟨z, hz, hv⟩ hn)
        omega
      refine ⟨0, fun k hk => absurd hk (Nat.not_lt_zero k), Or.inr ⟨hne, ?_, bt re, fun z hz => hz, ex, fun a b q1 q2 q3 q4 q5 => h2 a b ⟨q4, hS b q2⟩ ⟨q1, q2, q3, q5⟩⟩⟩
      show (sc3 w set re n n).2 = (-1000000)
      rw [h1]
    · have hb := hS b h2
      have lab := hl a b
      have es : mSt w set n (re, nI m) = (re ||| (nI 1 <<< (nI b &&& 31)), nI (m + l a b)) := by
        unfold mSt
        show (re ||| (nI 1 <<< ((sc3 w set re n n).2 &&& 31)), nI m + (sc3 w set re n n).1) = _
        rw [h5]
        show (re ||| (nI 1 <<< (nI b &&& 31)), nI m + nI (l a b)) = _
        rw [nI_add]
      have ei := or_ins (re := re) (b := b) (by omega)
      obtain ⟨K, k1, k2⟩ := model_run hn hS hl hw c (re ||| (nI 1 <<< (nI b &&& 31))) (m + l a b) (by rw [ei, ct_ins h3, if_pos hb]; omega) (fun z hz => by
        rw [ei] at hz
        rcases ins_iff.mp hz with q | q
        · exact hV z q
        · rw [q]; exact h2) (by omega)
      refine ⟨K + 1, fun k hk => ?_, ?_⟩
      · cases k with
        | zero =>
          refine ⟨hne, ?_⟩
          show ¬ (sc3 w set re n n).2 = (-1000000)
          rw [h5]
          exact nI_m6 (by omega)
        | succ k =>
          rw [itr_s, es]
          exact k1 k (by omega)
      · rw [itr_s, es]
        rcases k2 with ⟨e1, t, t1, t2, t3, t4⟩ | ⟨e1, e2, V, v1, v2, v3⟩
        · have lf : lF l a b = l a b := if_pos h4
          have ec : m + l a b + cst (lF l) t = m + cst (lF l) ((a, b) :: t) := by
            rw [cst]
            show m + l a b + cst (lF l) t = m + (lF l a b + cst (lF l) t)
            omega
          refine Or.inl ⟨e1, (a, b) :: t, ⟨h1, h2, h3, fun b' y hb' hy hyV => ?_, by rw [← ei]; exact t1⟩, fun e he => ?_, by rw [t3, ec], by omega⟩
          · show lF l a b ≤ lF l b' y
            rw [lf]
            unfold lF
            by_cases q : 0 < l b' y
            · rw [if_pos q]
              by_cases q2 : b' < n
              · exact h6 b' y ⟨q2, hS y hy⟩ ⟨hb', hy, hyV, q⟩
              · exact absurd (hS b' (hV b' hb')) q2
            · rw [if_neg q]; omega
          · rcases List.mem_cons.mp he with q | q
            · rw [q]; exact h4
            · exact t2 e q
        · exact Or.inr ⟨e1, e2, V, fun z hz => v1 z (by rw [ei]; exact ins_iff.mpr (Or.inl hz)), v2, v3⟩
theorem model_tree {l : Nat → Nat → Nat} {w : Nat → Nat → Int32} {set : Int32} {n fi : Nat} (hn : n ≤ 10) (hS : ∀ z, bt set z = true → z < n) (hl : ∀ a b, l a b ≤ 1000) (hw : ∀ a b, a < n → b < n → w a b = nI (l a b)) (hf : bt set fi = true) : ∃ K, mtOK w set n fi K ∧ ((∃ t, gr (lF l) (bt set) t (one fi) ∧ (∀ e, e ∈ t → 0 < l e.1 e.2) ∧ mtV w set n fi K = nI (cst (lF l) t) ∧ cst (lF l) t ≤ 20000) ∨ (mtV w set n fi K = (-1000000) ∧ ∃ V : Nat → Bool, V fi = true ∧ (∃ y, bt set y = true ∧ V y = false) ∧ ∀ a b, V a = true → bt set b = true → V b = false → a < n → ¬ 0 < l a b)) := by
  have hfn := hS fi hf
  have e1 : bt (sh1 fi) = one fi := by
    funext z
    unfold sh1
    rw [bt_sh (by omega)]
    rfl
  have h1 : ∀ z, one fi z = true → bt set z = true := fun z hz => by rw [one_iff.mp hz]; exact hf
  have c1 := ct_one hfn
  have c2 := ct_mono n (fun z _ => h1 z)
  have c3 := ct_le (bt set) n
  obtain ⟨K, k1, k2⟩ := model_run hn hS hl hw (ct (bt set) n - 1) (sh1 fi) 0 (by rw [e1]; omega) (by rw [e1]; exact h1) (by omega)
  refine ⟨K, ⟨fun k hk => ?_, ?_⟩, ?_⟩
  · rw [mtF_itr]; exact k1 k hk
  · rw [mtF_itr]
    rcases k2 with ⟨q, -⟩ | ⟨-, q, -⟩
    · exact Or.inl q
    · exact Or.inr q
  · unfold mtV
    rw [mtF_itr]
    rcases k2 with ⟨q, t, t1, t2, t3, t4⟩ | ⟨q, -, V, v1, v2, v3⟩
    · rw [if_pos q, t3]
      rw [Nat.zero_add] at t4 ⊢
      exact Or.inl ⟨t, by rw [← e1]; exact t1, t2, rfl, t4⟩
    · rw [if_neg q]
      exact Or.inr ⟨rfl, V, v1 fi (by rw [e1]; exact one_iff.mpr rfl), v2, v3⟩
