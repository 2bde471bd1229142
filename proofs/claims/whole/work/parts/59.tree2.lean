/-! ===== trees: degrees; a tree between few ===== -/
def dg (x : Nat) : Ed → Nat
  | [] => 0
  | e :: t => ((if e.1 = x then 1 else 0) + if e.2 = x then 1 else 0) + dg x t
def sd (S : Nat → Bool) (E : Ed) : Nat → Nat
  | 0 => 0
  | n + 1 => sd S E n + if S n then dg n E else 0
theorem sd_nil (S : Nat → Bool) : ∀ n, sd S [] n = 0
  | 0 => rfl
  | n + 1 => by
    rw [sd, sd_nil S n]
    split <;> rfl
theorem sd_cons (S : Nat → Bool) (e : Nat × Nat) (t : Ed) : ∀ n, sd S (e :: t) n = (if S e.1 = true ∧ e.1 < n then 1 else 0) + (if S e.2 = true ∧ e.2 < n then 1 else 0) + sd S t n
  | 0 => by
    rw [if_neg (fun q => Nat.not_lt_zero _ q.2), if_neg (fun q => Nat.not_lt_zero _ q.2)]
    rfl
  | n + 1 => by
    rw [sd, sd, sd_cons S e t n, dg]
    have one : ∀ u, (if S u = true ∧ u < n + 1 then 1 else 0) = (if S u = true ∧ u < n then 1 else 0) + (if S n = true then (if u = n then 1 else 0) else 0) := by
      intro u
      by_cases h1 : u = n
      · subst h1
        rw [if_neg (show ¬ (S u = true ∧ u < u) from fun q => Nat.lt_irrefl _ q.2), if_pos (show u = u from rfl)]
        by_cases h2 : S u = true
        · rw [if_pos ⟨h2, Nat.lt_succ_self u⟩, if_pos h2]
        · rw [if_neg (fun q => h2 q.1), if_neg h2]
      · rw [if_neg h1]
        by_cases h2 : S u = true ∧ u < n
        · rw [if_pos h2, if_pos ⟨h2.1, by omega⟩]
          split <;> rfl
        · rw [if_neg h2, if_neg (fun q => h2 ⟨q.1, by omega⟩)]
          split <;> rfl
    rw [one e.1, one e.2]
    by_cases h : S n = true
    · rw [if_pos h, if_pos h, if_pos h, if_pos h]; omega
    · rw [if_neg h, if_neg h, if_neg h, if_neg h]; omega
theorem sd_eq {S : Nat → Bool} {n : Nat} (hS : ∀ z, S z = true → z < n) : ∀ E : Ed, inS S E → sd S E n = 2 * E.length
  | [], _ => by rw [sd_nil]; rfl
  | e :: t, h => by
    obtain ⟨h1, h2⟩ := h e (List.mem_cons.mpr (Or.inl rfl))
    rw [sd_cons, sd_eq hS t (fun g hg => h g (List.mem_cons.mpr (Or.inr hg))), if_pos ⟨h1, hS _ h1⟩, if_pos ⟨h2, hS _ h2⟩, List.length_cons]
    omega
theorem sd_ge {S J : Nat → Bool} {E : Ed} {n : Nat} (hJ : ∀ z, J z = true → S z = true) (h : ∀ z, z < n → S z = true → (if J z then 1 else 3) ≤ dg z E) : ∀ m, m ≤ n → 3 * ct S m ≤ sd S E m + 2 * ct J m
  | 0, _ => Nat.zero_le _
  | m + 1, hm => by
    have ih := sd_ge hJ h m (by omega)
    have hh := h m (by omega)
    have hj := hJ m
    rw [ct, ct, sd]
    cases hs : S m with
    | false =>
      have : J m = false := bnt (fun q => by rw [hj q] at hs; exact absurd hs (by decide))
      rw [this, if_neg Bool.false_ne_true, if_neg Bool.false_ne_true]
      omega
    | true =>
      have h2 := hh hs
      rw [if_pos rfl, if_pos rfl]
      cases hjm : J m with
      | true =>
        rw [hjm, if_pos rfl] at h2
        rw [if_pos rfl]
        omega
      | false =>
        rw [hjm, if_neg Bool.false_ne_true] at h2
        rw [if_neg Bool.false_ne_true]
        omega
theorem dg_0 {x : Nat} : ∀ {E : Ed}, dg x E = 0 → ∀ e, e ∈ E → e.1 ≠ x ∧ e.2 ≠ x
  | [], _, e, he => by cases he
  | g :: t, h, e, he => by
    rw [dg] at h
    rcases List.mem_cons.mp he with q | q
    · subst q
      refine ⟨fun q => ?_, fun q => ?_⟩
      · rw [if_pos q] at h; omega
      · rw [if_pos q] at h; omega
    · exact dg_0 (by omega) e q
theorem dg_r {E : Ed} {r z : Nat} (hzr : z ≠ r) (h : Cn E (one r) z) : 1 ≤ dg z E := by
  rcases Nat.eq_zero_or_pos (dg z E) with q | q
  · have h0 := dg_0 q
    exact absurd rfl (h (fun w => w ≠ z) (fun e he => ⟨fun _ => (h0 e he).2, fun _ => (h0 e he).1⟩) (fun a ha => by rw [one_iff.mp ha]; exact Ne.symm hzr))
  · exact q
theorem dg_rr {E : Ed} {r z : Nat} (hzr : z ≠ r) (h : Cn E (one r) z) : 1 ≤ dg r E := by
  rcases Nat.eq_zero_or_pos (dg r E) with q | q
  · have h0 := dg_0 q
    exact absurd (h (fun w => w = r) (fun e he => ⟨fun q => absurd q (h0 e he).1, fun q => absurd q (h0 e he).2⟩) (fun a ha => one_iff.mp ha)) hzr
  · exact q
/-- the neighbours of x -/
def nb (x : Nat) : Ed → List Nat
  | [] => []
  | e :: t => if e.1 = x then e.2 :: nb x t else if e.2 = x then e.1 :: nb x t else nb x t
/-- the edges that x is not on -/
def ot (x : Nat) : Ed → Ed
  | [] => []
  | e :: t => if e.1 = x then ot x t else if e.2 = x then ot x t else e :: ot x t
def smL (d : Nat → Nat → Nat) (x : Nat) : List Nat → Nat
  | [] => 0
  | y :: t => d x y + smL d x t
theorem ot_cst {d : Nat → Nat → Nat} (hd : ∀ a b, d a b = d b a) (x : Nat) : ∀ E : Ed, cst d E = cst d (ot x E) + smL d x (nb x E)
  | [] => rfl
  | e :: t => by
    have ih := ot_cst hd x t
    rw [cst, ot, nb]
    by_cases h1 : e.1 = x
    · rw [if_pos h1, if_pos h1, smL, ih, h1]; omega
    · rw [if_neg h1, if_neg h1]
      by_cases h2 : e.2 = x
      · rw [if_pos h2, if_pos h2, smL, ih, h2, hd e.1 x]; omega
      · rw [if_neg h2, if_neg h2, cst, ih]; omega
theorem nb_len {x : Nat} : ∀ E : Ed, (∀ e, e ∈ E → e.1 ≠ e.2) → (nb x E).length = dg x E
  | [], _ => rfl
  | e :: t, h => by
    have ih := nb_len (x := x) t (fun g hg => h g (List.mem_cons.mpr (Or.inr hg)))
    have hn := h e (List.mem_cons.mpr (Or.inl rfl))
    rw [nb, dg]
    by_cases h1 : e.1 = x
    · have h2 : e.2 ≠ x := fun q => hn (h1.trans q.symm)
      rw [if_pos h1, if_pos h1, if_neg h2, List.length_cons, ih]; omega
    · rw [if_neg h1, if_neg h1]
      by_cases h2 : e.2 = x
      · rw [if_pos h2, if_pos h2, List.length_cons, ih]; omega
      · rw [if_neg h2, if_neg h2, ih]; omega
theorem ot_mem {x : Nat} : ∀ {E : Ed} {e : Nat × Nat}, e ∈ ot x E → e ∈ E ∧ e.1 ≠ x ∧ e.2 ≠ x
  | [], e, h => by cases h
  | g :: t, e, h => by
    rw [ot] at h
    by_cases h1 : g.1 = x
    · rw [if_pos h1] at h
      obtain ⟨a, b⟩ := ot_mem h
      exact ⟨List.mem_cons.mpr (Or.inr a), b⟩
    · rw [if_neg h1] at h
      by_cases h2 : g.2 = x
      · rw [if_pos h2] at h
        obtain ⟨a, b⟩ := ot_mem h
        exact ⟨List.mem_cons.mpr (Or.inr a), b⟩
      · rw [if_neg h2] at h
        rcases List.mem_cons.mp h with q | q
        · rw [q]; exact ⟨List.mem_cons.mpr (Or.inl rfl), h1, h2⟩
        · obtain ⟨a, b⟩ := ot_mem q
          exact ⟨List.mem_cons.mpr (Or.inr a), b⟩
theorem nb_mem {x : Nat} : ∀ {E : Ed} {y : Nat}, y ∈ nb x E → (x, y) ∈ E ∨ (y, x) ∈ E
  | [], y, h => by cases h
  | g :: t, y, h => by
    rw [nb] at h
    have lift : (x, y) ∈ t ∨ (y, x) ∈ t → (x, y) ∈ g :: t ∨ (y, x) ∈ g :: t := fun q => q.elim (fun q => Or.inl (List.mem_cons.mpr (Or.inr q))) (fun q => Or.inr (List.mem_cons.mpr (Or.inr q)))
    by_cases h1 : g.1 = x
    · rw [if_pos h1] at h
      rcases List.mem_cons.mp h with q | q
      · exact Or.inl (List.mem_cons.mpr (Or.inl (by rw [q, ← h1])))
      · exact lift (nb_mem q)
    · rw [if_neg h1] at h
      by_cases h2 : g.2 = x
      · rw [if_pos h2] at h
        rcases List.mem_cons.mp h with q | q
        · exact Or.inr (List.mem_cons.mpr (Or.inl (by rw [q, ← h2])))
        · exact lift (nb_mem q)
      · rw [if_neg h2] at h
        exact lift (nb_mem h)
theorem nb_ot {x : Nat} : ∀ {E : Ed} {e : Nat × Nat}, e ∈ E → e ∈ ot x E ∨ (e.1 = x ∧ e.2 ∈ nb x E) ∨ (e.2 = x ∧ e.1 ∈ nb x E)
  | [], e, h => by cases h
  | g :: t, e, h => by
    rw [ot, nb]
    rcases List.mem_cons.mp h with q | q
    · subst q
      by_cases h1 : e.1 = x
      · rw [if_pos h1, if_pos h1]; exact Or.inr (Or.inl ⟨h1, List.mem_cons.mpr (Or.inl rfl)⟩)
      · rw [if_neg h1, if_neg h1]
        by_cases h2 : e.2 = x
        · rw [if_pos h2, if_pos h2]; exact Or.inr (Or.inr ⟨h2, List.mem_cons.mpr (Or.inl rfl)⟩)
        · rw [if_neg h2]; exact Or.inl (List.mem_cons.mpr (Or.inl rfl))
    · have ih := nb_ot (x := x) q
      by_cases h1 : g.1 = x
      · rw [if_pos h1, if_pos h1]
        rcases ih with a | ⟨a, b⟩ | ⟨a, b⟩
        · exact Or.inl a
        · exact Or.inr (Or.inl ⟨a, List.mem_cons.mpr (Or.inr b)⟩)
        · exact Or.inr (Or.inr ⟨a, List.mem_cons.mpr (Or.inr b)⟩)
      · rw [if_neg h1, if_neg h1]
        by_cases h2 : g.2 = x
        · rw [if_pos h2, if_pos h2]
          rcases ih with a | ⟨a, b⟩ | ⟨a, b⟩
          · exact Or.inl a
          · exact Or.inr (Or.inl ⟨a, List.mem_cons.mpr (Or.inr b)⟩)
          · exact Or.inr (Or.inr ⟨a, List.mem_cons.mpr (Or.inr b)⟩)
        · rw [if_neg h2, if_neg h2]
          rcases ih with a | a
          · exact Or.inl (List.mem_cons.mpr (Or.inr a))
          · exact Or.inr a
/-- without x -/
def rmv (S : Nat → Bool) (x : Nat) : Nat → Bool := fun z => S z && decide (z ≠ x)
theorem rmv_iff {S : Nat → Bool} {x z : Nat} : rmv S x z = true ↔ S z = true ∧ z ≠ x := by
  unfold rmv
  rw [Bool.and_eq_true, decide_eq_true_iff]
theorem ct_rmv {S : Nat → Bool} {x n : Nat} (hx : S x = true) (hn : x < n) : ct S n = ct (rmv S x) n + 1 := by
  have e : ∀ z, z < n → S z = ins (rmv S x) x z := fun z _ => by
    cases h : S z with
    | true =>
      by_cases q : z = x
      · exact (ins_iff.mpr (Or.inr q)).symm
      · exact (ins_iff.mpr (Or.inl (rmv_iff.mpr ⟨h, q⟩))).symm
    | false =>
      refine (bnt (fun q => ?_)).symm
      rcases ins_iff.mp q with q | q
      · rw [(rmv_iff.mp q).1] at h; exact absurd h (by decide)
      · rw [q, hx] at h; exact absurd h (by decide)
  rw [ct_congr n e, ct_ins (bnt (fun q => (rmv_iff.mp q).2 rfl)), if_pos hn]
/-- a site on two ways at most is left out, at no cost -/
theorem red {d : Nat → Nat → Nat} {S : Nat → Bool} {E : Ed} {r x : Nat} (hd : ∀ a b, d a b = d b a) (htri : ∀ a b, S a = true → S b = true → d a b ≤ d a x + d x b) (hE : inS S E) (hns : ∀ e, e ∈ E → e.1 ≠ e.2) (hc : ∀ z, S z = true → Cn E (one r) z) (hxr : x ≠ r) (h2 : dg x E ≤ 2) : ∃ E' : Ed, inS (rmv S x) E' ∧ (∀ z, rmv S x z = true → Cn E' (one r) z) ∧ cst d E' ≤ cst d E := by
  have nbS : ∀ y, y ∈ nb x E → rmv S x y = true := fun y hy => by
    rcases nb_mem hy with q | q
    · exact rmv_iff.mpr ⟨(hE _ q).2, fun e => hns _ q e.symm⟩
    · exact rmv_iff.mpr ⟨(hE _ q).1, hns _ q⟩
  have otS : inS (rmv S x) (ot x E) := fun e he => by
    obtain ⟨a, b1, b2⟩ := ot_mem he
    exact ⟨rmv_iff.mpr ⟨(hE _ a).1, b1⟩, rmv_iff.mpr ⟨(hE _ a).2, b2⟩⟩
  have ec := ot_cst hd x E
  have el := nb_len (x := x) E hns
  have main : ∀ E' : Ed, (∀ e, e ∈ ot x E → e ∈ E') → (∀ C : Nat → Prop, clo E' C → ∃ Cx : Prop, ∀ y, y ∈ nb x E → (C y ↔ Cx)) → ∀ z, rmv S x z = true → Cn E' (one r) z := by
    intro E' h1 h3 z hz C hC hr
    obtain ⟨Cx, hx⟩ := h3 C hC
    obtain ⟨zs, zx⟩ := rmv_iff.mp hz
    have key := hc z zs (fun w => (w = x ∧ Cx) ∨ (w ≠ x ∧ C w)) (fun e he => by
      rcases nb_ot (x := x) he with q | ⟨q, q2⟩ | ⟨q, q2⟩
      · obtain ⟨-, b1, b2⟩ := ot_mem q
        have := hC e (h1 e q)
        constructor
        · rintro (⟨a, -⟩ | ⟨-, a⟩)
          · exact absurd a b1
          · exact Or.inr ⟨b2, this.mp a⟩
        · rintro (⟨a, -⟩ | ⟨-, a⟩)
          · exact absurd a b2
          · exact Or.inr ⟨b1, this.mpr a⟩
      · have n2 := (rmv_iff.mp (nbS _ q2)).2
        constructor
        · rintro (⟨-, a⟩ | ⟨a, -⟩)
          · exact Or.inr ⟨n2, (hx _ q2).mpr a⟩
          · exact absurd q a
        · rintro (⟨a, -⟩ | ⟨-, a⟩)
          · exact absurd a n2
          · exact Or.inl ⟨q, (hx _ q2).mp a⟩
      · have n2 := (rmv_iff.mp (nbS _ q2)).2
        constructor
        · rintro (⟨a, -⟩ | ⟨-, a⟩)
          · exact absurd a n2
          · exact Or.inl ⟨q, (hx _ q2).mp a⟩
        · rintro (⟨-, a⟩ | ⟨a, -⟩)
          · exact Or.inr ⟨n2, (hx _ q2).mpr a⟩
          · exact absurd q a) (fun a ha => Or.inr ⟨by rw [one_iff.mp ha]; exact Ne.symm hxr, hr a ha⟩)
    rcases key with ⟨a, -⟩ | ⟨-, a⟩
    · exact absurd a zx
    · exact a
  match hnb : nb x E with
  | [] =>
    refine ⟨ot x E, otS, main _ (fun e he => he) (fun C _ => ⟨True, fun y hy => by rw [hnb] at hy; cases hy⟩), by omega⟩
  | [y] =>
    refine ⟨ot x E, otS, main _ (fun e he => he) (fun C _ => ⟨C y, fun w hw => by rw [hnb] at hw; rw [List.mem_singleton.mp hw]⟩), by omega⟩
  | [y, y2] =>
    have m1 : y ∈ nb x E := by rw [hnb]; exact List.mem_cons.mpr (Or.inl rfl)
    have m2 : y2 ∈ nb x E := by rw [hnb]; exact List.mem_cons.mpr (Or.inr (List.mem_cons.mpr (Or.inl rfl)))
    refine ⟨(y, y2) :: ot x E, fun e he => ?_, main _ (fun e he => List.mem_cons.mpr (Or.inr he)) (fun C hC => ⟨C y, fun w hw => ?_⟩), ?_⟩
    · rcases List.mem_cons.mp he with q | q
      · rw [q]; exact ⟨nbS _ m1, nbS _ m2⟩
      · exact otS e q
    · rw [hnb] at hw
      rcases List.mem_cons.mp hw with q | q
      · rw [q]
      · rw [List.mem_singleton.mp q]
        exact (hC (y, y2) (List.mem_cons.mpr (Or.inl rfl))).symm
    · rw [ec, hnb, cst, smL, smL, smL]
      have := htri y y2 (rmv_iff.mp (nbS _ m1)).1 (rmv_iff.mp (nbS _ m2)).1
      rw [hd y x] at this
      show d y y2 + cst d (ot x E) ≤ _
      omega
  | y :: y2 :: y3 :: l =>
    rw [hnb] at el
    simp only [List.length_cons] at el
    omega
theorem steiner {d : Nat → Nat → Nat} {J : Nat → Bool} {r q n : Nat} (hd : ∀ a b, d a b = d b a) (htri : ∀ a b c, a < n → b < n → c < n → d a b ≤ d a c + d c b) (hr : J r = true) (hq : J q = true) (hqr : q ≠ r) (hG : ∀ S : Nat → Bool, S r = true → (∀ z, S z = true → z < n) → ∃ t, gr d S t (one r)) : ∀ (N : Nat) (S : Nat → Bool), (∀ z, J z = true → S z = true) → (∀ z, S z = true → z < n) → ct S n ≤ N → ∀ t, gr d S t (one r) → ∃ (S' : Nat → Bool) (t' : Ed), (∀ z, J z = true → S' z = true) ∧ (∀ z, S' z = true → z < n) ∧ gr d S' t' (one r) ∧ cst d t' ≤ cst d t ∧ ct S' n + 2 ≤ 2 * ct J n
  | N, S, hJ, hS, hN, t, ht => by
    by_cases hs : ct S n + 2 ≤ 2 * ct J n
    · exact ⟨S, t, hJ, hS, ht, Nat.le_refl _, hs⟩
    · have hrS : S r = true := hJ r hr
      have h1S : ∀ z, one r z = true → S z = true := fun z hz => by rw [one_iff.mp hz]; exact hrS
      obtain ⟨t1, t2, t3⟩ := gr_tree t (one r) ht h1S
      have tl := gr_len hS t (one r) ht h1S
      rw [ct_one (hS r hrS)] at tl
      have ex : ∃ x, S x = true ∧ J x = false ∧ dg x t ≤ 2 := by
        apply Classical.byContradiction
        intro hn
        have := sd_ge (E := t) (n := n) hJ (fun z hz hzS => by
          cases hj : J z with
          | true =>
            rw [if_pos rfl]
            by_cases e : z = r
            · rw [e]; exact dg_rr hqr (t2 q (hJ q hq))
            · exact dg_r e (t2 z hzS)
          | false =>
            rw [if_neg Bool.false_ne_true]
            rcases Nat.lt_or_ge 2 (dg z t) with a | a
            · exact a
            · exact absurd ⟨z, hzS, hj, a⟩ hn) n (Nat.le_refl n)
        rw [sd_eq hS t t1] at this
        omega
      obtain ⟨x, x1, x2, x3⟩ := ex
      have hxr : x ≠ r := fun e => by rw [e, hr] at x2; exact absurd x2 (by decide)
      obtain ⟨E', e1, e2, e3⟩ := red hd (fun a b ha hb => htri a b x (hS a ha) (hS b hb) (hS x x1)) t1 t3 t2 hxr x3
      have hc := ct_rmv x1 (hS x x1)
      have sr : rmv S x r = true := rmv_iff.mpr ⟨hrS, Ne.symm hxr⟩
      have sn : ∀ z, rmv S x z = true → z < n := fun z hz => hS z (rmv_iff.mp hz).1
      obtain ⟨t', ht'⟩ := hG (rmv S x) sr sn
      have ho := gr_opt hd t' (one r) ht' E' e1 e2
      match N, hN with
      | 0, hN => omega
      | N + 1, hN =>
        obtain ⟨S2, u, a1, a2, a3, a4, a5⟩ := steiner hd htri hr hq hqr hG N (rmv S x) (fun z hz => rmv_iff.mpr ⟨hJ z hz, fun e => by rw [e, x2] at hz; exact absurd hz (by decide)⟩) sn (by omega) t' ht'
        exact ⟨S2, u, a1, a2, a3, by omega, a5⟩
