/-! ===== the least of SITES: the same number ===== -/
/-- what a set's tree comes to, the reference's -/
def RM (l : Nat → Nat → Nat) (w : Nat → Nat → Int32) (n m f k : Nat) : Prop := (∃ t, gr (lF l) (bt (nI m)) t (one f) ∧ (∀ e, e ∈ t → 0 < l e.1 e.2) ∧ mtV w (nI m) n f k = nI (cst (lF l) t) ∧ cst (lF l) t ≤ 20000) ∨ (mtV w (nI m) n f k = (-1000000) ∧ ∃ V : Nat → Bool, V f = true ∧ (∃ y, bt (nI m) y = true ∧ V y = false) ∧ ∀ a b, V a = true → bt (nI m) b = true → V b = false → a < n → ¬ 0 < l a b)
theorem RM_ex {l : Nat → Nat → Nat} {w : Nat → Nat → Int32} {n : Nat} (hn : n ≤ 10) (hl : ∀ a b, l a b ≤ 1000) (hw : ∀ a b, a < n → b < n → w a b = nI (l a b)) : ∃ F K : Nat → Nat, ∀ m, 1 ≤ m → m < 2 ^ n → ((∀ j, j < F m → bt (nI m) j = false) ∧ bt (nI m) (F m) = true ∧ F m < n ∧ mtOK w (nI m) n (F m) (K m)) ∧ RM l w n m (F m) (K m) := by
  have h1024 : 2 ^ n ≤ 1024 := Nat.pow_le_pow_right (n := 2) (by decide) hn
  have h : ∀ m, ∃ p : Nat × Nat, 1 ≤ m → m < 2 ^ n → ((∀ j, j < p.1 → bt (nI m) j = false) ∧ bt (nI m) p.1 = true ∧ p.1 < n ∧ mtOK w (nI m) n p.1 p.2) ∧ RM l w n m p.1 p.2 := by
    intro m
    by_cases hm : 1 ≤ m ∧ m < 2 ^ n
    · obtain ⟨i, hi⟩ := some_bit hm.1 (by omega)
      obtain ⟨f, f1, f2⟩ := low i hi
      have hS : ∀ z, bt (nI m) z = true → z < n := fun z hz => mbits hn hm.2 hz
      obtain ⟨K, k1, k2⟩ := model_tree hn hS hl hw f1
      exact ⟨(f, K), fun _ _ => ⟨⟨f2, f1, hS f f1, k1⟩, k2⟩⟩
    · exact ⟨(0, 0), fun a b => absurd ⟨a, b⟩ hm⟩
  obtain ⟨p, hp⟩ := Classical.axiomOfChoice h
  exact ⟨fun m => (p m).1, fun m => (p m).2, hp⟩
theorem RM_U {l : Nat → Nat → Nat} {w : Nat → Nat → Int32} {n m f k : Nat} (h : RM l w n m f k) : mtV w (nI m) n f k = (-1000000) ∨ ∃ u, u ≤ 20000 ∧ mtV w (nI m) n f k = nI u := by
  rcases h with ⟨t, -, -, h1, h2⟩ | ⟨h1, -⟩
  · exact Or.inr ⟨_, h2, h1⟩
  · exact Or.inl h1
/-- a set that holds what is joined, its tree: the class finds none longer -/
theorem claim1 {l : Nat → Nat → Nat} {w : Nat → Nat → Int32} {n fi c : Nat} {D : Nat → Nat → Int32} {jo : Int32} (hn : n ≤ 10) (hl : ∀ a b, l a b ≤ 1000) (hsy : ∀ a b, l a b = l b a) (hD : ∀ a b, a < n → b < n → D a b = nI (NN l n a b)) (hJ : ∀ z, bt jo z = true → z < n) (hf : bt jo fi = true) (hc : ct (bt jo) n = c) (hc2 : 2 ≤ c) {m f k u : Nat} (hm : m < 2 ^ n) (hs : sub2 jo m) (hff : bt (nI m) f = true) (h : RM l w n m f k) (hu : u ≤ 20000) (hv : mtV w (nI m) n f k = nI u) : ∃ m' t', m' < 2 ^ n ∧ val jo (nI (c - 2)) m' ∧ treeF fi n D (jo ||| nI m') = nI (cst (NN l n) t') ∧ cst (NN l n) t' ≤ u := by
  have h1024 : 2 ^ n ≤ 1024 := Nat.pow_le_pow_right (n := 2) (by decide) hn
  have hNs := NN_sym hsy n
  have hNf := NN_far hl n
  have hs2 := sub2_iff.mp hs
  rcases h with ⟨t, t1, t2, t3, t4⟩ | ⟨h1, -⟩
  · have eu : cst (lF l) t = u := nI_ij (by omega) (by omega) (t3.symm.trans hv)
    have hSn : ∀ z, bt (nI m) z = true → z < n := fun z hz => mbits hn hm hz
    have hG : ∀ S : Nat → Bool, S fi = true → (∀ z, S z = true → z < n) → ∃ t, gr (NN l n) S t (one fi) := fun S h1 h2 => by
      obtain ⟨s, s1, s2⟩ := bitsOf hn S h2
      obtain ⟨t, q1, -⟩ := class_tree (mem := nI s) (fi := fi) hn (fun z hz => mbits hn s1 hz) hNf hD (by rw [s2]; exact h1)
      rw [s2] at q1
      exact ⟨t, q1⟩
    obtain ⟨g1, g2, -⟩ := gr_tree t (one f) t1 (fun z hz => by rw [one_iff.mp hz]; exact hff)
    obtain ⟨t0, q0⟩ := hG (bt (nI m)) (hs2 fi hf) hSn
    have o1 := gr_opt hNs t0 (one fi) q0 t g1 (Cn_root g2 (hs2 fi hf))
    have o2 : cst (NN l n) t ≤ cst (lF l) t := cst_mono t (fun e _ => Nat.le_trans (NN_le l n e.1 e.2) (fi0_le l e.1 e.2))
    have ex : ∃ q, bt jo q = true ∧ q ≠ fi := by
      apply Classical.byContradiction
      intro hno
      have := ct_mono (S := bt jo) (T := one fi) n (fun z _ hz => by
        apply one_iff.mpr
        apply Classical.byContradiction
        intro q
        exact hno ⟨z, hz, q⟩)
      rw [ct_one (hJ fi hf)] at this
      omega
    obtain ⟨q, q1, q2⟩ := ex
    obtain ⟨S', t', a1, a2, a3, a4, a5⟩ := steiner (d := NN l n) (n := n) hNs (fun a b c _ _ hcn => NN_tri l n c hcn a b) hf q1 q2 hG (ct (bt (nI m)) n) (bt (nI m)) hs2 hSn (Nat.le_refl _) t0 q0
    obtain ⟨m', b1, b2⟩ := bitsOf hn (fun z => S' z && !bt jo z) (fun z hz => a2 z (by
      rw [Bool.and_eq_true] at hz
      exact hz.1))
    have eS : bt (jo ||| nI m') = S' := by
      funext z
      rw [b_or, b2]
      cases hj : bt jo z with
      | true => rw [a1 z hj]; rfl
      | false => simp [hj]
    have ecd := ct_diff (S := S') (J := bt jo) n (fun z _ => a1 z)
    have hv' : val jo (nI (c - 2)) m' := by
      refine ⟨and_0.mpr (fun i hi => ?_), ?_⟩
      · rw [b2, Bool.and_eq_true] at hi
        cases hj : bt jo i with
        | true => rw [hj] at hi; exact absurd hi.2 (by decide)
        | false => rfl
      · have b3 := ct_le (bt (nI m')) n
        have b4 := ct_le (bt jo) n
        rw [bc_ct hn b1]
        refine (nI_leI (by omega) (by omega)).mpr ?_
        rw [b2]
        omega
    have hfS : bt (jo ||| nI m') fi = true := by rw [eS]; exact a1 fi hf
    obtain ⟨t2', c1, c2, -⟩ := class_tree (mem := jo ||| nI m') (fi := fi) (D := D) hn (fun z hz => a2 z (by rw [← eS]; exact hz)) hNf hD hfS
    rw [eS] at c1
    obtain ⟨d1, d2, -⟩ := gr_tree t' (one fi) a3 (fun z hz => by rw [one_iff.mp hz]; exact a1 fi hf)
    have o3 := gr_opt hNs t2' (one fi) c1 t' d1 d2
    exact ⟨m', t2', b1, hv', c2, by omega⟩
  · rw [h1] at hv; exact absurd hv.symm (nI_m6 (by omega))
/-- a tree of the class's: the reference finds none longer -/
theorem claim2 {l : Nat → Nat → Nat} {w : Nat → Nat → Int32} {n fi : Nat} {jo : Int32} {F K : Nat → Nat} (hn : n ≤ 10) (hsy : ∀ a b, l a b = l b a) (hf : bt jo fi = true) (hR : ∀ m, 1 ≤ m → m < 2 ^ n → bt (nI m) (F m) = true ∧ RM l w n m (F m) (K m)) {S : Nat → Bool} (hS : ∀ z, S z = true → z < n) (hJS : ∀ z, bt jo z = true → S z = true) {t : Ed} (ht : gr (NN l n) S t (one fi)) (hlt : cst (NN l n) t < 1000000) : ∃ m u, 1 ≤ m ∧ m < 2 ^ n ∧ sub2 jo m ∧ mtV w (nI m) n (F m) (K m) = nI u ∧ u ≤ 20000 ∧ u ≤ cst (NN l n) t := by
  have h1024 : 2 ^ n ≤ 1024 := Nat.pow_le_pow_right (n := 2) (by decide) hn
  obtain ⟨g1, g2, -⟩ := gr_tree t (one fi) ht (fun z hz => by rw [one_iff.mp hz]; exact hJS fi hf)
  obtain ⟨P, p1, p2, p3⟩ := walked t (fun e he => ⟨hS _ (g1 e he).1, hS _ (g1 e he).2⟩) hlt
  let M : Nat → Bool := fun z => S z || P.any (fun e => decide (e.1 = z) || decide (e.2 = z))
  have hM : ∀ z, M z = true ↔ S z = true ∨ ∃ e, e ∈ P ∧ (e.1 = z ∨ e.2 = z) := fun z => by
    show (S z || P.any (fun e => decide (e.1 = z) || decide (e.2 = z))) = true ↔ _
    rw [Bool.or_eq_true, List.any_eq_true]
    simp only [Bool.or_eq_true, decide_eq_true_iff]
  obtain ⟨m, m1, m2⟩ := bitsOf hn M (fun z hz => by
    rcases (hM z).mp hz with q | ⟨e, e1, e2⟩
    · exact hS z q
    · rcases e2 with e2 | e2
      · rw [← e2]; exact (p1 e e1).2.1
      · rw [← e2]; exact (p1 e e1).2.2)
  have hfM : bt (nI m) fi = true := by rw [m2]; exact (hM fi).mpr (Or.inl (hJS fi hf))
  have hm1 : 1 ≤ m := by
    rcases Nat.eq_zero_or_pos m with q | q
    · rw [q, nI_0, b_0] at hfM; exact absurd hfM (by decide)
    · exact q
  have hs : sub2 jo m := sub2_iff.mpr (fun i hi => by rw [m2]; exact (hM i).mpr (Or.inl (hJS i hi)))
  obtain ⟨hF, hRm⟩ := hR m hm1 m1
  have conn : ∀ z, bt (nI m) z = true → Cn P (one fi) z := fun z hz C hC hr => by
    obtain ⟨x1, x2⟩ := p3 C hC
    have xS : ∀ y, S y = true → C y := fun y hy => g2 y hy C x1 hr
    rw [m2] at hz
    rcases (hM z).mp hz with q | ⟨e, e1, e2⟩
    · exact xS z q
    · obtain ⟨f, f1, f2⟩ := x2 e e1
      have ce : C e.1 := f2.mpr (xS _ (g1 f f1).1)
      rcases e2 with e2 | e2
      · rw [← e2]; exact ce
      · rw [← e2]; exact (hC e e1).mp ce
  have conn2 := Cn_root conn hF
  have inM : inS (bt (nI m)) P := fun e he => by
    rw [m2]
    exact ⟨(hM _).mpr (Or.inr ⟨e, he, Or.inl rfl⟩), (hM _).mpr (Or.inr ⟨e, he, Or.inr rfl⟩)⟩
  rcases hRm with ⟨t2, t21, -, t23, t24⟩ | ⟨-, V, v1, ⟨y, y1, y2⟩, v3⟩
  · have o := gr_opt (lF_sym hsy) t2 (one (F m)) t21 P inM conn2
    exact ⟨m, _, hm1, m1, hs, t23, t24, by omega⟩
  · have := conn2 y y1 (fun z => V z = true) (fun e he => by
      obtain ⟨i1, i2⟩ := inM e he
      obtain ⟨l1, l2, l3⟩ := p1 e he
      constructor
      · intro q
        cases hv : V e.2 with
        | true => exact hv
        | false => exact absurd l1 (v3 e.1 e.2 q i2 hv l2)
      · intro q
        cases hv : V e.1 with
        | true => exact hv
        | false => exact absurd (by rw [hsy]; exact l1) (v3 e.2 e.1 q i1 hv l3)) (fun a ha => by rw [one_iff.mp ha]; exact v1)
    rw [y2] at this
    exact absurd this (by decide)
theorem least_sites {l : Nat → Nat → Nat} {w : Nat → Nat → Int32} {n fi c : Nat} {D : Nat → Nat → Int32} {jo : Int32} {F K : Nat → Nat} (hn : n ≤ 10) (hl : ∀ a b, l a b ≤ 1000) (hsy : ∀ a b, l a b = l b a) (hD : ∀ a b, a < n → b < n → D a b = nI (NN l n a b)) (hJ : ∀ z, bt jo z = true → z < n) (hf : bt jo fi = true) (hc : ct (bt jo) n = c) (hc2 : 2 ≤ c) (hR : ∀ m, 1 ≤ m → m < 2 ^ n → bt (nI m) (F m) = true ∧ RM l w n m (F m) (K m)) : (if blF fi n D jo (nI (c - 2)) (2 ^ n) < nI 1000000 then blF fi n D jo (nI (c - 2)) (2 ^ n) else (-1000000)) = mbF w jo n F K (2 ^ n) := by
  have h1 : 1 ≤ 2 ^ n := Nat.one_le_two_pow
  have hNf := NN_far hl n
  have hT : ∀ m, m < 2 ^ n → val jo (nI (c - 2)) m → ∃ t, gr (NN l n) (bt (jo ||| nI m)) t (one fi) ∧ treeF fi n D (jo ||| nI m) = nI (cst (NN l n) t) ∧ cst (NN l n) t ≤ 20000000 := fun m hm _ => class_tree hn (fun z hz => by
    rw [b_or, Bool.or_eq_true] at hz
    rcases hz with q | q
    · exact hJ z q
    · exact mbits hn hm q) hNf hD (by rw [b_or, hf]; rfl)
  obtain ⟨B, b1, b2, b3, b4⟩ := blF_spec (fi := fi) (n := n) (D := D) (jo := jo) (most := nI (c - 2)) (T := fun m => tn (treeF fi n D (jo ||| nI m))) (R := 2 ^ n) (fun m hm hv => by
    obtain ⟨t, -, t2, t3⟩ := hT m hm hv
    show _ = nI (tn (treeF fi n D (jo ||| nI m))) ∧ tn (treeF fi n D (jo ||| nI m)) ≤ 20000000
    rw [t2, tn_nI (by omega)]
    exact ⟨rfl, t3⟩) (2 ^ n) (Nat.le_refl _)
  have ms := mbF_spec (w := w) (jo := jo) (n := n) (R := 2 ^ n) (F := F) (K := K) (fun m m1 m2 => RM_U (hR m m1 m2).2) (2 ^ n - 1) (by omega)
  rw [show 2 ^ n - 1 + 1 = 2 ^ n by omega] at ms
  have up : B < 1000000 → ∃ m u, 1 ≤ m ∧ m < 2 ^ n ∧ sub2 jo m ∧ mtV w (nI m) n (F m) (K m) = nI u ∧ u ≤ 20000 ∧ u ≤ B := fun hB => by
    rcases b3 with z | ⟨m, z1, z2, z3⟩
    · omega
    · obtain ⟨t, t1, t2, t3⟩ := hT m z1 z2
      have z3' : tn (treeF fi n D (jo ||| nI m)) = B := z3
      rw [t2, tn_nI (by omega)] at z3'
      obtain ⟨m', u, q1, q2, q3, q4, q5, q6⟩ := claim2 (w := w) (F := F) (K := K) hn hsy hf hR (fun z hz => by
        rw [b_or, Bool.or_eq_true] at hz
        rcases hz with q | q
        · exact hJ z q
        · exact mbits hn z1 q) (fun z hz => by rw [b_or, hz]; rfl) t1 (by omega)
      exact ⟨m', u, q1, q2, q3, q4, q5, by omega⟩
  rw [b2]
  rcases ms with ⟨i1, i2⟩ | ⟨W, w1, w2, ⟨m, a1, a2, a3, a4⟩, w4⟩
  · have : ¬ B < 1000000 := fun hB => by
      obtain ⟨m, u, q1, q2, q3, q4, q5, -⟩ := up hB
      rw [i2 m q1 q2 q3] at q4
      exact nI_m6 (by omega) q4.symm
    rw [if_neg (fun q => this ((nI_ltI (by omega) (by decide)).mp q)), i1]
  · obtain ⟨m', t', c1, c2, c3, c4⟩ := claim1 (D := D) hn hl hsy hD hJ hf hc hc2 a2 a3 (hR m a1 a2).1 (hR m a1 a2).2 w1 a4
    have hB := b4 m' c1 c2
    have hB' : B ≤ tn (treeF fi n D (jo ||| nI m')) := hB
    rw [c3, tn_nI (by omega)] at hB'
    obtain ⟨m2, u, q1, q2, q3, q4, q5, q6⟩ := up (by omega)
    have := w4 m2 q1 q2 q3 u q5 q4
    rw [if_pos ((nI_ltI (by omega) (by decide)).mpr (by omega)), w2]
    congr 1
    omega
theorem least_one {l : Nat → Nat → Nat} {w : Nat → Nat → Int32} {n : Nat} {jo : Int32} {F K : Nat → Nat} (hn : n ≤ 10) (hJ : ∀ z, bt jo z = true → z < n) (hc : ct (bt jo) n = 1) (hR : ∀ m, 1 ≤ m → m < 2 ^ n → bt (nI m) (F m) = true ∧ RM l w n m (F m) (K m)) : mbF w jo n F K (2 ^ n) = nI 0 := by
  have h1 : 1 ≤ 2 ^ n := Nat.one_le_two_pow
  have ms := mbF_spec (w := w) (jo := jo) (n := n) (R := 2 ^ n) (F := F) (K := K) (fun m m1 m2 => RM_U (hR m m1 m2).2) (2 ^ n - 1) (by omega)
  rw [show 2 ^ n - 1 + 1 = 2 ^ n by omega] at ms
  obtain ⟨m, m1, m2⟩ := bitsOf hn (bt jo) hJ
  have hm1 : 1 ≤ m := by
    rcases Nat.eq_zero_or_pos m with q | q
    · have : ct (bt jo) n = 0 := ct_none n (fun z _ => by rw [← m2, q, nI_0, b_0])
      omega
    · exact q
  have hs : sub2 jo m := sub2_iff.mpr (fun i hi => by rw [m2]; exact hi)
  obtain ⟨hF, hRm⟩ := hR m hm1 m1
  have hSn : ∀ z, bt (nI m) z = true → z < n := fun z hz => mbits hn m1 hz
  have h1S : ∀ z, one (F m) z = true → bt (nI m) z = true := fun z hz => by rw [one_iff.mp hz]; exact hF
  have c1 := ct_one (hSn _ hF)
  rw [← m2] at hc
  have hv : mtV w (nI m) n (F m) (K m) = nI 0 := by
    rcases hRm with ⟨t, t1, -, t3, -⟩ | ⟨-, V, v1, ⟨y, y1, y2⟩, -⟩
    · have tl := gr_len hSn t (one (F m)) t1 h1S
      have : t = [] := List.eq_nil_of_length_eq_zero (by omega)
      rw [t3, this]
      rfl
    · have := ct_full h1S (by omega) y (hSn y y1) y1
      rw [one_iff.mp this, v1] at y2
      exact absurd y2 (by decide)
  rcases ms with ⟨-, i2⟩ | ⟨W, w1, w2, -, w4⟩
  · rw [i2 m hm1 m1 hs] at hv
    exact absurd hv.symm (nI_m6 (by decide))
  · have := w4 m hm1 m1 hs 0 (by decide) hv
    rw [w2, show W = 0 by omega]
