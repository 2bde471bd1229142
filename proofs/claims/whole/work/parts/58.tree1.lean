/-! ===== trees: cuts, costs, the greedy tree is the least ===== -/
abbrev Ed : Type := List (Nat × Nat)
def cst (d : Nat → Nat → Nat) : Ed → Nat
  | [] => 0
  | e :: t => d e.1 e.2 + cst d t
theorem cst_app (d : Nat → Nat → Nat) : ∀ s t : Ed, cst d (s ++ t) = cst d s + cst d t
  | [], t => by rw [List.nil_append, cst, Nat.zero_add]
  | e :: s, t => by rw [List.cons_append, cst, cst, cst_app d s t, Nat.add_assoc]
/-- what no edge leads out of -/
def clo (E : Ed) (C : Nat → Prop) : Prop := ∀ e, e ∈ E → (C e.1 ↔ C e.2)
def Cn (E : Ed) (V : Nat → Bool) (z : Nat) : Prop := ∀ C : Nat → Prop, clo E C → (∀ a, V a = true → C a) → C z
def inS (S : Nat → Bool) (E : Ed) : Prop := ∀ e, e ∈ E → S e.1 = true ∧ S e.2 = true
def ins (V : Nat → Bool) (x : Nat) : Nat → Bool := fun z => V z || decide (z = x)
theorem ins_iff {V : Nat → Bool} {x z : Nat} : ins V x z = true ↔ V z = true ∨ z = x := by
  unfold ins
  rw [Bool.or_eq_true, decide_eq_true_iff]
theorem ins_s {V : Nat → Bool} {x : Nat} : ins V x x = true := ins_iff.mpr (Or.inr rfl)
theorem ins_f {V : Nat → Bool} {x z : Nat} (h : ins V x z = false) : V z = false ∧ z ≠ x := by
  unfold ins at h
  rw [Bool.or_eq_false_iff] at h
  exact ⟨h.1, of_decide_eq_false h.2⟩
/-- a tree that grows by a least edge each time -/
def gr (d : Nat → Nat → Nat) (S : Nat → Bool) : Ed → (Nat → Bool) → Prop
  | [], V => ∀ y, S y = true → V y = true
  | e :: t, V => V e.1 = true ∧ S e.2 = true ∧ V e.2 = false ∧ (∀ b y, V b = true → S y = true → V y = false → d e.1 e.2 ≤ d b y) ∧ gr d S t (ins V e.2)
theorem bnt {b : Bool} (h : ¬ b = true) : b = false := by cases b <;> simp_all
theorem cut_at {E : Ed} {f : Nat × Nat} : f ∈ E → ∃ E1 E2, E = E1 ++ f :: E2 := by
  induction E with
  | nil => intro h; cases h
  | cons e t ih =>
    intro h
    rcases List.mem_cons.mp h with q | q
    · exact ⟨[], t, by rw [q]; rfl⟩
    · obtain ⟨E1, E2, h2⟩ := ih q
      exact ⟨e :: E1, E2, by rw [h2]; rfl⟩
theorem cross {E : Ed} {V : Nat → Bool} {x : Nat} (hx : V x = false) (hc : Cn E V x) : ∃ E1 f E2, E = E1 ++ f :: E2 ∧ ((V f.1 = true ∧ V f.2 = false) ∨ (V f.2 = true ∧ V f.1 = false)) ∧ ∀ z, Cn E V z → Cn (E1 ++ E2) (ins V x) z := by
  let C1 : Nat → Prop := fun z => ∀ C : Nat → Prop, (∀ e, e ∈ E → V e.1 = false → V e.2 = false → (C e.1 ↔ C e.2)) → C x → C z
  have c1x : C1 x := fun C _ h => h
  have c1V : ∀ z, C1 z → V z = false := fun z h => h (fun z => V z = false) (fun e _ h1 h2 => ⟨fun _ => h2, fun _ => h1⟩) hx
  have c1e : ∀ e, e ∈ E → V e.1 = false → V e.2 = false → (C1 e.1 ↔ C1 e.2) := fun e he h1 h2 => ⟨fun h C hC hCx => (hC e he h1 h2).mp (h C hC hCx), fun h C hC hCx => (hC e he h1 h2).mpr (h C hC hCx)⟩
  have ex : ∃ f, f ∈ E ∧ ((V f.1 = true ∧ C1 f.2) ∨ (V f.2 = true ∧ C1 f.1)) := by
    apply Classical.byContradiction
    intro hn
    have hn2 : ∀ f, f ∈ E → ¬ (V f.1 = true ∧ C1 f.2) ∧ ¬ (V f.2 = true ∧ C1 f.1) := fun f hf => ⟨fun q => hn ⟨f, hf, Or.inl q⟩, fun q => hn ⟨f, hf, Or.inr q⟩⟩
    refine hc (fun z => ¬ C1 z) (fun e he => ?_) (fun a ha q => by rw [c1V a q] at ha; exact absurd ha (by decide)) c1x
    obtain ⟨n1, n2⟩ := hn2 e he
    cases h1 : V e.1 with
    | true =>
      have z1 : ¬ C1 e.1 := fun q => by rw [c1V _ q] at h1; exact absurd h1 (by decide)
      exact ⟨fun _ q => n1 ⟨h1, q⟩, fun _ => z1⟩
    | false =>
      cases h2 : V e.2 with
      | true =>
        have z2 : ¬ C1 e.2 := fun q => by rw [c1V _ q] at h2; exact absurd h2 (by decide)
        exact ⟨fun _ => z2, fun _ q => n2 ⟨h2, q⟩⟩
      | false => exact not_congr (c1e e he h1 h2)
  obtain ⟨f, hf, hq⟩ := ex
  obtain ⟨E1, E2, rfl⟩ := cut_at hf
  refine ⟨E1, f, E2, rfl, ?_, fun z hz C hC hV => ?_⟩
  · rcases hq with ⟨h1, h2⟩ | ⟨h1, h2⟩
    · exact Or.inl ⟨h1, c1V _ h2⟩
    · exact Or.inr ⟨h1, c1V _ h2⟩
  · have old : ∀ e, e ∈ E1 ++ f :: E2 → e = f ∨ e ∈ E1 ++ E2 := fun e he => by
      rcases List.mem_append.mp he with q | q
      · exact Or.inr (List.mem_append.mpr (Or.inl q))
      · rcases List.mem_cons.mp q with q | q
        · exact Or.inl q
        · exact Or.inr (List.mem_append.mpr (Or.inr q))
    have cx : C x := hV x ins_s
    have c1C : ∀ y, C1 y → C y := fun y hy => hy C (fun e he h1 h2 => by
      rcases old e he with q | q
      · subst q
        rcases hq with ⟨a1, a2⟩ | ⟨a1, a2⟩
        · rw [h1] at a1; exact absurd a1 (by decide)
        · rw [h2] at a1; exact absurd a1 (by decide)
      · exact hC e q) cx
    refine hz C (fun e he => ?_) (fun a ha => hV a (ins_iff.mpr (Or.inl ha)))
    rcases old e he with q | q
    · subst q
      rcases hq with ⟨a1, a2⟩ | ⟨a1, a2⟩
      · exact ⟨fun _ => c1C _ a2, fun _ => hV _ (ins_iff.mpr (Or.inl a1))⟩
      · exact ⟨fun _ => hV _ (ins_iff.mpr (Or.inl a1)), fun _ => c1C _ a2⟩
    · exact hC e q
theorem gr_opt {d : Nat → Nat → Nat} {S : Nat → Bool} (hd : ∀ a b, d a b = d b a) : ∀ (t : Ed) (V : Nat → Bool), gr d S t V → ∀ E : Ed, inS S E → (∀ z, S z = true → Cn E V z) → cst d t ≤ cst d E
  | [], V, _, E, _, _ => Nat.zero_le _
  | e :: t, V, ⟨h1, h2, h3, h4, h5⟩, E, hE, hc => by
    obtain ⟨E1, f, E2, rfl, hf, hz⟩ := cross h3 (hc _ h2)
    obtain ⟨s1, s2⟩ := hE f (List.mem_append.mpr (Or.inr (List.mem_cons.mpr (Or.inl rfl))))
    have ih := gr_opt hd t (ins V e.2) h5 (E1 ++ E2) (fun g hg => hE g (by
      rcases List.mem_append.mp hg with q | q
      · exact List.mem_append.mpr (Or.inl q)
      · exact List.mem_append.mpr (Or.inr (List.mem_cons.mpr (Or.inr q))))) (fun z hz2 => hz z (hc z hz2))
    have hle : d e.1 e.2 ≤ d f.1 f.2 := by
      rcases hf with ⟨a1, a2⟩ | ⟨a1, a2⟩
      · exact h4 _ _ a1 s2 a2
      · rw [hd f.1 f.2]; exact h4 _ _ a1 s1 a2
    rw [cst_app] at ih
    rw [cst_app, cst, cst]
    omega
theorem gr_tree {d : Nat → Nat → Nat} {S : Nat → Bool} : ∀ (t : Ed) (V : Nat → Bool), gr d S t V → (∀ z, V z = true → S z = true) → inS S t ∧ (∀ z, S z = true → Cn t V z) ∧ ∀ e, e ∈ t → e.1 ≠ e.2
  | [], V, h, hV => ⟨fun e he => (by cases he), fun z hz C _ hC => hC z (h z hz), fun e he => by cases he⟩
  | e :: t, V, ⟨h1, h2, h3, h4, h5⟩, hV => by
    obtain ⟨i1, i2, i3⟩ := gr_tree t (ins V e.2) h5 (fun z hz => by
      rcases ins_iff.mp hz with q | q
      · exact hV z q
      · rw [q]; exact h2)
    refine ⟨fun g hg => ?_, fun z hz C hC hCV => ?_, fun g hg => ?_⟩
    · rcases List.mem_cons.mp hg with q | q
      · rw [q]; exact ⟨hV _ h1, h2⟩
      · exact i1 g q
    · refine i2 z hz C (fun g hg => hC g (List.mem_cons.mpr (Or.inr hg))) (fun a ha => ?_)
      rcases ins_iff.mp ha with q | q
      · exact hCV a q
      · rw [q]; exact (hC e (List.mem_cons.mpr (Or.inl rfl))).mp (hCV _ h1)
    · rcases List.mem_cons.mp hg with q | q
      · rw [q]; intro q2; rw [q2, h3] at h1; exact absurd h1 (by decide)
      · exact i3 g q
/-- how many there are -/
def ct (S : Nat → Bool) : Nat → Nat
  | 0 => 0
  | n + 1 => ct S n + if S n then 1 else 0
theorem ct_congr {S T : Nat → Bool} : ∀ n, (∀ z, z < n → S z = T z) → ct S n = ct T n
  | 0, _ => rfl
  | n + 1, h => by rw [ct, ct, ct_congr n (fun z hz => h z (by omega)), h n (by omega)]
theorem ct_ins {V : Nat → Bool} {x : Nat} (hx : V x = false) : ∀ n, ct (ins V x) n = ct V n + if x < n then 1 else 0
  | 0 => rfl
  | n + 1 => by
    rw [ct, ct, ct_ins hx n]
    by_cases h : n = x
    · subst h
      rw [ins_s, hx, if_pos rfl, if_neg (Nat.lt_irrefl n), if_neg Bool.false_ne_true, if_pos (Nat.lt_succ_self n)]
    · have e : ins V x n = V n := by
        unfold ins
        rw [decide_eq_false h, Bool.or_false]
      rw [e]
      by_cases h2 : x < n
      · rw [if_pos h2, if_pos (show x < n + 1 by omega)]; omega
      · rw [if_neg h2, if_neg (show ¬ x < n + 1 by omega), Nat.add_zero, Nat.add_zero]
theorem ct_le (S : Nat → Bool) : ∀ n, ct S n ≤ n
  | 0 => Nat.le_refl _
  | n + 1 => by
    have := ct_le S n
    rw [ct]
    split <;> omega
theorem ct_mono {S T : Nat → Bool} : ∀ n, (∀ z, z < n → S z = true → T z = true) → ct S n ≤ ct T n
  | 0, _ => Nat.le_refl _
  | n + 1, h => by
    have := ct_mono n (fun z hz => h z (by omega))
    have h2 := h n (Nat.lt_succ_self n)
    rw [ct, ct]
    cases hs : S n with
    | false => rw [if_neg Bool.false_ne_true]; omega
    | true => rw [if_pos rfl, h2 hs, if_pos rfl]; omega
def one (r : Nat) : Nat → Bool := fun z => decide (z = r)
theorem one_iff {r z : Nat} : one r z = true ↔ z = r := decide_eq_true_iff
theorem ct_none {S : Nat → Bool} : ∀ n, (∀ z, z < n → S z = false) → ct S n = 0
  | 0, _ => rfl
  | n + 1, h => by rw [ct, ct_none n (fun z hz => h z (by omega)), h n (by omega), if_neg Bool.false_ne_true]
theorem ct_one {r n : Nat} (h : r < n) : ct (one r) n = 1 := by
  have e : one r = ins (fun _ => false) r := by
    funext z
    unfold one ins
    rw [Bool.false_or]
  rw [e, ct_ins rfl, ct_none n (fun _ _ => rfl), if_pos h]
theorem gr_len {d : Nat → Nat → Nat} {S : Nat → Bool} {n : Nat} (hS : ∀ z, S z = true → z < n) : ∀ (t : Ed) (V : Nat → Bool), gr d S t V → (∀ z, V z = true → S z = true) → t.length + ct V n = ct S n
  | [], V, h, hV => by
    rw [List.length_nil, Nat.zero_add]
    refine ct_congr n (fun z _ => ?_)
    cases h1 : S z with
    | true => exact h z h1
    | false =>
      cases h2 : V z with
      | true => exact absurd ((hV z h2).symm.trans h1) (by decide)
      | false => rfl
  | e :: t, V, ⟨h1, h2, h3, h4, h5⟩, hV => by
    have ih := gr_len hS t (ins V e.2) h5 (fun z hz => by
      rcases ins_iff.mp hz with q | q
      · exact hV z q
      · rw [q]; exact h2)
    rw [ct_ins h3, if_pos (hS _ h2)] at ih
    rw [List.length_cons]
    omega
/-- connected from one is connected from another -/
theorem Cn_root {E : Ed} {S : Nat → Bool} {r q : Nat} (h : ∀ z, S z = true → Cn E (one r) z) (hr : S q = true) : ∀ z, S z = true → Cn E (one q) z := by
  intro z hz C hC hq
  have cq : C q := hq q (one_iff.mpr rfl)
  have cr : C r := by
    apply Classical.byContradiction
    intro hn
    exact h q hr (fun w => ¬ C w) (fun e he => not_congr (hC e he)) (fun a ha => by rw [one_iff.mp ha]; exact hn) cq
  exact h z hz C hC (fun a ha => by rw [one_iff.mp ha]; exact cr)
