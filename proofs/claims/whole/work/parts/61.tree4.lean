/-! ===== the two trees as they grow, the class's and the reference's ===== -/
def itr {α : Type} (f : α → α) : Nat → α → α
  | 0, x => x
  | k + 1, x => f (itr f k x)
theorem itr_s {α : Type} (f : α → α) (x : α) : ∀ k, itr f (k + 1) x = itr f k (f x)
  | 0 => rfl
  | k + 1 => by
    show f (itr f (k + 1) x) = f (itr f k (f x))
    rw [itr_s f x k]
theorem itr_stay {α : Type} {f : α → α} {x : α} (h : f x = x) : ∀ k, itr f k x = x
  | 0 => rfl
  | k + 1 => by
    show f (itr f k x) = x
    rw [itr_stay h k, h]
abbrev St3 : Type := Int32 × Int32 × (Nat → Int32)
def trS (fi n : Nat) (D : Nat → Nat → Int32) (s : St3) : St3 := if s.1 = 0 then s else (s.1 &&& (sh1 (neF fi s.2.2 s.1 n).1 ^^^ (-1)), s.2.1 + s.2.2 (neF fi s.2.2 s.1 n).1, fun z => imin (s.2.2 z) (nI 0 + D (neF fi s.2.2 s.1 n).1 z))
theorem trF_itr {fi n : Nat} {D : Nat → Nat → Int32} {left : Int32} : ∀ k, trF fi n D left k = itr (trS fi n D) k (left, nI 0, D fi)
  | 0 => rfl
  | k + 1 => by
    rw [trF, trF_itr k]
    rfl
theorem neF_spec {fi n : Nat} {g : Nat → Int32} {G : Nat → Nat} {left : Int32} (hg : ∀ z, z < n → g z = nI (G z) ∧ G z ≤ 1000000) : ∀ k, k ≤ n → ((∀ z, z < k → bt left z = false) ∧ neF fi g left k = (fi, nI 1000001)) ∨ ∃ x, x < k ∧ bt left x = true ∧ neF fi g left k = (x, nI (G x)) ∧ ∀ z, z < k → bt left z = true → G x ≤ G z
  | 0, _ => Or.inl ⟨fun z hz => absurd hz (Nat.not_lt_zero z), rfl⟩
  | k + 1, hk => by
    obtain ⟨e, b⟩ := hg k (by omega)
    rcases neF_spec hg k (by omega) with ⟨h1, h2⟩ | ⟨x, h1, h2, h3, h4⟩
    · rw [neF, h2]
      cases hb : bt left k with
      | true =>
        refine Or.inr ⟨k, Nat.lt_succ_self k, rfl.trans hb, ?_, fun z hz hz2 => ?_⟩
        · rw [if_pos ⟨rfl, by rw [e]; exact (nI_ltI (by omega) (by decide)).mpr (by omega)⟩, e]
        · by_cases q : z = k
          · rw [q]; exact Nat.le_refl _
          · rw [h1 z (by omega)] at hz2; exact absurd hz2 (by decide)
      | false =>
        refine Or.inl ⟨fun z hz => ?_, if_neg (fun q => absurd q.1 (by decide))⟩
        by_cases q : z = k
        · rw [q]; exact hb
        · exact h1 z (by omega)
    · obtain ⟨ex, bx⟩ := hg x (by omega)
      rw [neF, h3]
      by_cases hc : bt left k = true ∧ G k < G x
      · refine Or.inr ⟨k, Nat.lt_succ_self k, hc.1, ?_, fun z hz hz2 => ?_⟩
        · rw [if_pos ⟨hc.1, by rw [e]; exact (nI_ltI (by omega) (by omega)).mpr hc.2⟩, e]
        · by_cases q : z = k
          · rw [q]; exact Nat.le_refl _
          · have := h4 z (by omega) hz2
            omega
      · refine Or.inr ⟨x, by omega, h2, if_neg (fun q => hc ⟨q.1, by rw [e] at q; exact (nI_ltI (by omega) (by omega)).mp q.2⟩), fun z hz hz2 => ?_⟩
        by_cases q : z = k
        · subst q
          rcases Nat.lt_or_ge (G z) (G x) with w | w
          · exact absurd ⟨hz2, w⟩ hc
          · exact w
        · exact h4 z (by omega) hz2
theorem ct_full {V S : Nat → Bool} {n : Nat} (hV : ∀ z, V z = true → S z = true) (h : ct S n ≤ ct V n) : ∀ z, z < n → S z = true → V z = true := by
  intro z hz hs
  cases hv : V z with
  | true => rfl
  | false =>
    have h1 := ct_ins hv n
    have h2 := ct_mono (S := ins V z) (T := S) n (fun w _ hw => by
      rcases ins_iff.mp hw with q | q
      · exact hV w q
      · rw [q]; exact hs)
    rw [if_pos hz] at h1
    omega
theorem andn_iff {left : Int32} {x z : Nat} (hx : x < 32) : bt (left &&& (sh1 x ^^^ (-1))) z = true ↔ bt left z = true ∧ z ≠ x := by
  constructor
  · intro q
    rw [b_and, Bool.and_eq_true] at q
    obtain ⟨q1, q2⟩ := q
    rw [b_not (bt_lt q1)] at q2
    unfold sh1 at q2
    rw [bt_sh hx] at q2
    refine ⟨q1, fun w => ?_⟩
    rw [decide_eq_true w] at q2
    exact absurd q2 (by decide)
  · rintro ⟨h1, h2⟩
    rw [b_and, b_not (bt_lt h1), h1]
    unfold sh1
    rw [bt_sh hx, decide_eq_false h2]
    rfl
theorem class_run {fi n : Nat} {D : Nat → Nat → Int32} {N : Nat → Nat → Nat} {S : Nat → Bool} (hn : n ≤ 10) (hS : ∀ z, S z = true → z < n) (hN : ∀ a b, N a b ≤ 1000000) (hD : ∀ a b, a < n → b < n → D a b = nI (N a b)) : ∀ (c : Nat) (V : Nat → Bool) (left : Int32) (m : Nat) (g : Nat → Int32) (G : Nat → Nat), c + ct V n = ct S n → (∀ z, V z = true → S z = true) → (∀ z, bt left z = true ↔ S z = true ∧ V z = false) → (∀ z, z < n → g z = nI (G z) ∧ (∃ a, V a = true ∧ G z = N a z) ∧ ∀ a, V a = true → G z ≤ N a z) → m + 1000000 * c ≤ 20000000 → ∀ k, c ≤ k → ∃ t, gr N S t V ∧ (itr (trS fi n D) k (left, nI m, g)).2.1 = nI (m + cst N t) ∧ m + cst N t ≤ 20000000
  | 0, V, left, m, g, G, hc, hV, hl, hg, hm, k, _ => by
    have hfull := ct_full (n := n) hV (by omega)
    have h0 : left = 0 := x0_b.mpr (fun i => bnt (fun q => by
      obtain ⟨a, b⟩ := (hl i).mp q
      rw [hfull i (hS i a) a] at b
      exact absurd b (by decide)))
    refine ⟨[], fun y hy => hfull y (hS y hy) hy, ?_, hm⟩
    rw [itr_stay (f := trS fi n D) (x := (left, nI m, g)) (if_pos h0)]
    rfl
  | c + 1, V, left, m, g, G, hc, hV, hl, hg, hm, k, hk => by
    have ex : ∃ y, S y = true ∧ V y = false := by
      apply Classical.byContradiction
      intro hn
      have := ct_mono (S := S) (T := V) n (fun z _ hz => by
        cases hv : V z with
        | true => rfl
        | false => exact absurd ⟨z, hz, hv⟩ hn)
      omega
    obtain ⟨y, y1, y2⟩ := ex
    have yl := (hl y).mpr ⟨y1, y2⟩
    have hl0 : ¬ left = 0 := fun q => by rw [q, b_0] at yl; exact absurd yl (by decide)
    rcases neF_spec (fi := fi) (left := left) (fun z hz => ⟨(hg z hz).1, by
      obtain ⟨a, -, ha⟩ := (hg z hz).2.1
      rw [ha]; exact hN a z⟩) n (Nat.le_refl n) with ⟨h1, -⟩ | ⟨x, x1, x2, x3, x4⟩
    · rw [h1 y (hS y y1)] at yl; exact absurd yl (by decide)
    · obtain ⟨xS, xV⟩ := (hl x).mp x2
      obtain ⟨gx, ⟨a, aV, ga⟩, gmin⟩ := hg x x1
      have hb := hN a x
      obtain ⟨k, rfl⟩ : ∃ j, k = j + 1 := ⟨k - 1, by omega⟩
      obtain ⟨t, t1, t2, t3⟩ := class_run (fi := fi) hn hS hN hD c (ins V x) (left &&& (sh1 x ^^^ (-1))) (m + G x) (fun z => imin (g z) (nI 0 + D x z)) (fun z => min (G z) (N x z)) (by rw [ct_ins xV, if_pos x1]; omega) (fun z hz => by
        rcases ins_iff.mp hz with q | q
        · exact hV z q
        · rw [q]; exact xS) (fun z => by
        rw [andn_iff (by omega), hl z]
        constructor
        · rintro ⟨⟨q1, q2⟩, q3⟩
          refine ⟨q1, bnt (fun w => ?_)⟩
          rcases ins_iff.mp w with w | w
          · rw [q2] at w; exact absurd w (by decide)
          · exact q3 w
        · rintro ⟨q1, q2⟩
          exact ⟨⟨q1, (ins_f q2).1⟩, (ins_f q2).2⟩) (fun z hz => by
        obtain ⟨z1, ⟨b, b1, b2⟩, z3⟩ := hg z hz
        have c1 := hN b z
        have c2 := hN x z
        refine ⟨?_, ?_, fun a ha => ?_⟩
        · show imin (g z) (nI 0 + D x z) = nI (min (G z) (N x z))
          rw [z1, hD x z x1 hz, nI_add, Nat.zero_add, imin_nI (by omega) (by omega)]
        · rcases Nat.lt_or_ge (N x z) (G z) with q | q
          · exact ⟨x, ins_s, Nat.min_eq_right (Nat.le_of_lt q)⟩
          · exact ⟨b, ins_iff.mpr (Or.inl b1), (Nat.min_eq_left q).trans b2⟩
        · show min (G z) (N x z) ≤ N a z
          rcases ins_iff.mp ha with q | q
          · exact Nat.le_trans (Nat.min_le_left _ _) (z3 a q)
          · rw [q]; exact Nat.min_le_right _ _) (by omega) k (by omega)
      have es : trS fi n D (left, nI m, g) = (left &&& (sh1 x ^^^ (-1)), nI (m + G x), fun z => imin (g z) (nI 0 + D x z)) := by
        unfold trS
        show (if left = 0 then _ else (left &&& (sh1 (neF fi g left n).1 ^^^ (-1)), nI m + g (neF fi g left n).1, fun z => imin (g z) (nI 0 + D (neF fi g left n).1 z))) = _
        rw [if_neg hl0, x3]
        show (left &&& (sh1 x ^^^ (-1)), nI m + g x, fun z => imin (g z) (nI 0 + D x z)) = _
        rw [gx, nI_add]
      have ec : m + G x + cst N t = m + cst N ((a, x) :: t) := by
        rw [cst]
        show m + G x + cst N t = m + (N a x + cst N t)
        omega
      refine ⟨(a, x) :: t, ⟨aV, xS, xV, fun b w hb hw hwV => ?_, t1⟩, ?_, by omega⟩
      · show N a x ≤ N b w
        have q1 := x4 w (hS w hw) ((hl w).mpr ⟨hw, hwV⟩)
        have q2 := (hg w (hS w hw)).2.2 b hb
        omega
      · rw [itr_s, es, t2, ec]
theorem class_tree {fi n : Nat} {D : Nat → Nat → Int32} {N : Nat → Nat → Nat} {mem : Int32} (hn : n ≤ 10) (hS : ∀ z, bt mem z = true → z < n) (hN : ∀ a b, N a b ≤ 1000000) (hD : ∀ a b, a < n → b < n → D a b = nI (N a b)) (hf : bt mem fi = true) : ∃ t, gr N (bt mem) t (one fi) ∧ treeF fi n D mem = nI (cst N t) ∧ cst N t ≤ 20000000 := by
  have hfn := hS fi hf
  have h1 : ∀ z, one fi z = true → bt mem z = true := fun z hz => by rw [one_iff.mp hz]; exact hf
  have c1 := ct_one hfn
  have c2 := ct_mono n (fun z _ => h1 z)
  have c3 := ct_le (bt mem) n
  obtain ⟨t, t1, t2, t3⟩ := class_run (fi := fi) hn hS hN hD (ct (bt mem) n - 1) (one fi) (mem &&& (sh1 fi ^^^ (-1))) 0 (D fi) (N fi) (by omega) h1 (fun z => by
    rw [andn_iff (by omega)]
    constructor
    · rintro ⟨q1, q2⟩
      exact ⟨q1, decide_eq_false q2⟩
    · rintro ⟨q1, q2⟩
      exact ⟨q1, of_decide_eq_false q2⟩) (fun z hz => ⟨hD fi z hfn hz, ⟨fi, one_iff.mpr rfl, rfl⟩, fun a ha => by rw [one_iff.mp ha]; exact Nat.le_refl _⟩) (by omega) n (by omega)
  rw [Nat.zero_add] at t2 t3
  refine ⟨t, t1, ?_, t3⟩
  unfold treeF
  rw [trF_itr]
  exact t2
