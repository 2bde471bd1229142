/-! ===== prices below the best, the best below what is paid, that below the share of the prices ===== -/
theorem bst_spec {c th : Nat → Int32} {dem : Int32} {n : Nat} {X : Nat → Nat} (hc : ∀ k, k < n → c k = nI (X k)) (hX : ∀ S, smN X S n ≤ 10000) : ∀ M, ∃ B : Nat, B ≤ 1000000 ∧ bstF c th dem n M = nI B ∧ (∀ s, s < M → fea th dem n s → B ≤ smN X (fun j => bt (nI s) j) n) ∧ (B = 1000000 ∨ ∃ s, s < M ∧ fea th dem n s ∧ smN X (fun j => bt (nI s) j) n = B)
  | 0 => ⟨1000000, Nat.le_refl _, rfl, fun s h => absurd h (Nat.not_lt_zero s), Or.inl rfl⟩
  | M + 1 => by
    obtain ⟨B, b1, b2, b3, b4⟩ := bst_spec (th := th) (dem := dem) hc hX M
    have hs := sumf_N (s := M) hc n (Nat.le_refl n)
    have hx := hX (fun j => bt (nI M) j)
    rw [bstF, hs, b2]
    by_cases hf : fea th dem n M
    · by_cases hl : smN X (fun j => bt (nI M) j) n < B
      · rw [if_pos ⟨fea_iff.mpr hf, (nI_ltI (by omega) (by omega)).mpr hl⟩]
        refine ⟨_, by omega, rfl, fun s h1 h2 => ?_, Or.inr ⟨M, by omega, hf, rfl⟩⟩
        by_cases q : s = M
        · subst q; exact Nat.le_refl _
        · have := b3 s (by omega) h2
          omega
      · rw [if_neg (fun q => hl ((nI_ltI (by omega) (by omega)).mp q.2))]
        refine ⟨B, b1, rfl, fun s h1 h2 => ?_, ?_⟩
        · by_cases q : s = M
          · subst q; omega
          · exact b3 s (by omega) h2
        · rcases b4 with q | ⟨s, s1, s2, s3⟩
          · exact Or.inl q
          · exact Or.inr ⟨s, by omega, s2, s3⟩
    · rw [if_neg (fun q => hf (fea_iff.mp q.1))]
      refine ⟨B, b1, rfl, fun s h1 h2 => ?_, ?_⟩
      · by_cases q : s = M
        · subst q; exact absurd h2 hf
        · exact b3 s (by omega) h2
      · rcases b4 with q | ⟨s, s1, s2, s3⟩
        · exact Or.inl q
        · exact Or.inr ⟨s, by omega, s2, s3⟩
def sgN (f : Nat → Nat) : Nat → Nat
  | 0 => 0
  | m + 1 => sgN f m + f m
theorem sgN_cg {f g : Nat → Nat} : ∀ m, (∀ i, i < m → f i = g i) → sgN f m = sgN g m
  | 0, _ => rfl
  | m + 1, h => by rw [sgN, sgN, sgN_cg m (fun i hi => h i (by omega)), h m (by omega)]
theorem sgN_le {f g : Nat → Nat} : ∀ m, (∀ i, i < m → f i ≤ g i) → sgN f m ≤ sgN g m
  | 0, _ => Nat.le_refl _
  | m + 1, h => by
    have h1 := sgN_le m (fun i hi => h i (by omega))
    have h2 := h m (by omega)
    rw [sgN, sgN]
    omega
theorem sgN_add {f g : Nat → Nat} : ∀ m, sgN (fun i => f i + g i) m = sgN f m + sgN g m
  | 0 => rfl
  | m + 1 => by rw [sgN, sgN, sgN, sgN_add m]; omega
theorem sgN_mul {f : Nat → Nat} {c : Nat} : ∀ m, sgN (fun i => f i * c) m = c * sgN f m
  | 0 => rfl
  | m + 1 => by rw [sgN, sgN, sgN_mul m, Nat.mul_add, Nat.mul_comm (f m) c]
theorem sgN_0 : ∀ m, sgN (fun _ => 0) m = 0
  | 0 => rfl
  | m + 1 => by rw [sgN, sgN_0 m]
theorem sgN_bd {f : Nat → Nat} {b : Nat} : ∀ m, (∀ i, i < m → f i ≤ b) → sgN f m ≤ b * m
  | 0, _ => Nat.zero_le _
  | m + 1, h => by
    have h1 := sgN_bd m (fun i hi => h i (by omega))
    have h2 := h m (by omega)
    rw [sgN, Nat.mul_succ]
    omega
theorem pf_sm {b : Int32} {pr : Nat → Int32} {p : Nat → Nat} (hp : ∀ i, i < 12 → pr i = nI (p i)) : ∀ m, m ≤ 12 → pf b pr m = nI (sgN (fun i => if bt b i then p i else 0) m)
  | 0, _ => rfl
  | m + 1, h => by
    rw [pf, pf_sm hp m (by omega), sgN, hp m (by omega)]
    by_cases q : bt b m = true
    · rw [if_pos q, if_pos q, nI_add]
    · rw [if_neg q, if_neg q, Nat.add_zero]
/-- of the sets S among the first k, how many have i -/
def ctN (S : Nat → Bool) (th : Nat → Int32) (i : Nat) : Nat → Nat
  | 0 => 0
  | k + 1 => ctN S th i k + (if S k = true ∧ bt (th k) i = true then 1 else 0)
theorem ctN_le {S : Nat → Bool} {th : Nat → Int32} {i : Nat} : ∀ k, ctN S th i k ≤ havf th i k
  | 0 => Nat.le_refl _
  | k + 1 => by
    have := ctN_le (S := S) (th := th) (i := i) k
    rw [ctN, havf]
    by_cases q : bt (th k) i = true
    · rw [if_pos q]
      split <;> omega
    · rw [if_neg q, if_neg (fun z => q z.2)]
      exact this
theorem ctN_pos {S : Nat → Bool} {th : Nat → Int32} {i j : Nat} (h1 : S j = true) (h2 : bt (th j) i = true) : ∀ k, j < k → 1 ≤ ctN S th i k
  | 0, h => absurd h (Nat.not_lt_zero j)
  | k + 1, h => by
    rw [ctN]
    by_cases q : j = k
    · subst q
      rw [if_pos ⟨h1, h2⟩]
      omega
    · have := ctN_pos h1 h2 k (by omega)
      omega
theorem smN_ex {p F : Nat → Nat} {S : Nat → Bool} {th : Nat → Int32} : ∀ n, (∀ k, k < n → F k = sgN (fun i => if bt (th k) i then p i else 0) 12) → smN F S n = sgN (fun i => p i * ctN S th i n) 12
  | 0, _ => by
    rw [smN]
    exact (sgN_0 12).symm.trans (sgN_cg 12 (fun i _ => by rw [ctN, Nat.mul_zero]))
  | n + 1, h => by
    rw [smN, smN_ex n (fun k hk => h k (by omega))]
    have e : sgN (fun i => p i * ctN S th i (n + 1)) 12 = sgN (fun i => p i * ctN S th i n) 12 + sgN (fun i => p i * (if S n = true ∧ bt (th n) i = true then 1 else 0)) 12 := by
      rw [← sgN_add]
      exact sgN_cg 12 (fun i _ => by rw [ctN, Nat.mul_add])
    rw [e]
    congr 1
    cases hs : S n with
    | false =>
      rw [if_neg Bool.false_ne_true]
      exact (sgN_0 12).symm.trans (sgN_cg 12 (fun i _ => by rw [if_neg (fun z => Bool.false_ne_true z.1), Nat.mul_zero]))
    | true =>
      rw [if_pos rfl, h n (by omega)]
      refine sgN_cg 12 (fun i _ => ?_)
      by_cases q : bt (th n) i = true
      · rw [if_pos q, if_pos ⟨rfl, q⟩, Nat.mul_one]
      · rw [if_neg q, if_neg (fun z => q z.2), Nat.mul_zero]
theorem smN_mono {X Y : Nat → Nat} {S : Nat → Bool} : ∀ n, (∀ k, k < n → S k = true → X k ≤ Y k) → smN X S n ≤ smN Y S n
  | 0, _ => Nat.le_refl _
  | n + 1, h => by
    have h1 := smN_mono n (fun k hk => h k (by omega))
    rw [smN, smN]
    by_cases q : S n = true
    · have := h n (by omega) q
      rw [if_pos q, if_pos q]
      omega
    · rw [if_neg q, if_neg q]
      omega
theorem sharf_ok {dem : Int32} {th : Nat → Int32} {n : Nat} (hn : n ≤ 10) : ∀ m, ∃ s : Nat, s ≤ 10 ∧ sharf dem th n m = nI s ∧ ∀ i, i < m → bt dem i = true → havf th i n ≤ s
  | 0 => ⟨0, by omega, rfl, fun i h => absurd h (Nat.not_lt_zero i)⟩
  | m + 1 => by
    obtain ⟨s, h1, h2, h3⟩ := sharf_ok (dem := dem) (th := th) hn m
    have hv := havf_le th m n
    rw [sharf, h2]
    by_cases q : bt dem m = true
    · rw [if_pos q, imax_nI (by omega) (by omega)]
      refine ⟨max s (havf th m n), by omega, rfl, fun i hi hd => ?_⟩
      by_cases e : i = m
      · subst e; omega
      · have := h3 i (by omega) hd
        omega
    · rw [if_neg q]
      refine ⟨s, h1, rfl, fun i hi hd => ?_⟩
      by_cases e : i = m
      · subst e; exact absurd hd q
      · exact h3 i (by omega) hd
theorem nI_inj {a b : Nat} (ha : a < 2 ^ 31) (hb : b < 2 ^ 31) (h : nI a = nI b) : a = b := by
  have e := congrArg tn h
  rwa [tn_nI ha, tn_nI hb] at e
theorem opt_ok {L : Nat} {xs : Nat → Int32} {σ : Mem} {N P : Nat} {dem bo : Int32} (h : LI L xs σ N dem bo P) : ∃ B A Sh : Nat, bstF (cF L xs) (thF L xs) dem N (2 ^ N) = nI B ∧ lff (σ 17) (σ 18) N N dem = nI B ∧ pf (nI 4095) (σ 53) 12 = nI A ∧ sharf dem (thF L xs) N 12 = nI Sh ∧ P ≤ Sh * A ∧ A ≤ B ∧ B ≤ P ∧ A ≤ 12000 ∧ Sh ≤ 10 ∧ P ≤ 400 := by
  have hfill := fun k hk => h.fill (k := k) hk
  obtain ⟨⟨n1, n2, n3⟩, hc, hs, ⟨d1, d2, d3⟩, hpr, htr, ha, hb, hP, hpn⟩ := h
  -- prices
  have hp : ∃ p : Nat → Nat, ∀ i, i < 12 → p i ≤ 1000 ∧ σ 53 i = nI (p i) := by
    refine ⟨fun i => tn (σ 53 i), fun i hi => ?_⟩
    obtain ⟨q, q1, q2⟩ := hpn i hi
    show tn (σ 53 i) ≤ 1000 ∧ σ 53 i = nI (tn (σ 53 i))
    rw [hpr i hi, q2, tn_nI (by omega)]
    exact ⟨q1, rfl⟩
  obtain ⟨p, hp⟩ := hp
  have hp0 : ∀ i, i < 12 → bt dem i = false → p i = 0 := by
    intro i hi hd
    have e := hs.2.2.1 i hi hd
    rw [← hpr i hi, (hp i hi).2] at e
    exact nI_inj (by have := (hp i hi).1; omega) (by decide) e
  -- filled
  have hF : ∀ k, pf (thF L xs k) (σ 53) 12 = nI (sgN (fun i => if bt (thF L xs k) i then p i else 0) 12) := fun k => pf_sm (fun i hi => (hp i hi).2) 12 (Nat.le_refl 12)
  have hFb : ∀ k, sgN (fun i => if bt (thF L xs k) i then p i else 0) 12 ≤ 1000 * 12 := fun k => sgN_bd 12 (fun i hi => by
    have := (hp i hi).1
    split <;> omega)
  have hFc : ∀ k, k < N → sgN (fun i => if bt (thF L xs k) i then p i else 0) 12 ≤ coN L xs k ∧ (bt bo k = true → sgN (fun i => if bt (thF L xs k) i then p i else 0) 12 = coN L xs k) := by
    intro k hk
    obtain ⟨y, y1, y2, y3⟩ := hfill k hk
    have hcl := coN_le (L := L) (xs := xs) (k := k)
    rw [hF] at y1
    have e := nI_inj (by have := hFb k; omega) (by omega) y1
    exact ⟨by omega, fun q => by have := y3 q; omega⟩
  have hA : pf (nI 4095) (σ 53) 12 = nI (sgN p 12) := by
    rw [pf_sm (fun i hi => (hp i hi).2) 12 (Nat.le_refl 12)]
    exact congrArg nI (sgN_cg 12 (fun i hi => by rw [b_4095, decide_eq_true hi, if_pos rfl]))
  have hAb : sgN p 12 ≤ 1000 * 12 := sgN_bd 12 (fun i hi => (hp i hi).1)
  obtain ⟨Sh, s1, s2, s3⟩ := sharf_ok (dem := dem) (th := thF L xs) (n := N) (by omega) 12
  have hC : ∀ S, smN (coN L xs) S N ≤ 40 * N := fun S => smN_le N (fun k _ => coN_le.2)
  have hPb : P ≤ 400 := by rw [hP]; have := hC (fun k => bt bo k); omega
  -- what is paid, by the prices
  have hex := fun S => smN_ex (p := p) (F := fun k => sgN (fun i => if bt (thF L xs k) i then p i else 0) 12) (S := S) (th := thF L xs) N (fun k _ => rfl)
  have I1 : P ≤ Sh * sgN p 12 := by
    have e1 : P ≤ smN (fun k => sgN (fun i => if bt (thF L xs k) i then p i else 0) 12) (fun k => bt bo k) N := by
      rw [hP]
      exact smN_mono N (fun k hk hbk => by
        show coN L xs k ≤ _
        rw [(hFc k hk).2 hbk]
        exact Nat.le_refl _)
    refine Nat.le_trans e1 ?_
    rw [hex, ← sgN_mul]
    refine sgN_le 12 (fun i hi => ?_)
    cases hd : bt dem i with
    | false =>
      rw [hp0 i hi hd, Nat.zero_mul, Nat.zero_mul]
      exact Nat.le_refl _
    | true => exact Nat.mul_le_mul_left _ (Nat.le_trans (ctN_le N) (s3 i hi hd))
  have I2 : ∀ S : Nat → Bool, (∀ i, bt dem i = true → ∃ k, k < N ∧ S k = true ∧ bt (thF L xs k) i = true) → sgN p 12 ≤ smN (coN L xs) S N := by
    intro S hS
    have e1 : smN (fun k => sgN (fun i => if bt (thF L xs k) i then p i else 0) 12) S N ≤ smN (coN L xs) S N := smN_mono N (fun k hk _ => (hFc k hk).1)
    refine Nat.le_trans ?_ e1
    rw [hex]
    refine sgN_le 12 (fun i hi => ?_)
    cases hd : bt dem i with
    | false => rw [hp0 i hi hd]; exact Nat.zero_le _
    | true =>
      obtain ⟨k, k1, k2, k3⟩ := hS i hd
      exact Nat.le_mul_of_pos_right _ (ctN_pos k2 k3 N k1)
  -- the best
  have hcF : ∀ k, k < N → cF L xs k = nI (coN L xs k) := fun k _ => rfl
  obtain ⟨B, b1, b2, b3, b4⟩ := bst_spec (c := cF L xs) (th := thF L xs) (dem := dem) hcF (fun S => by have := hC S; omega) (2 ^ N)
  have hpow : 2 ^ N ≤ 512 := Nat.pow_le_pow_right (n := 2) (by decide) n2
  have msk : ∀ S : Nat → Bool, (∀ i, bt dem i = true → ∃ k, k < N ∧ S k = true ∧ bt (thF L xs k) i = true) → B ≤ smN (coN L xs) S N := by
    intro S hS
    obtain ⟨s, t1, t2⟩ := ofS S N
    have hb9 : ∀ k, k < N → bt (nI s) k = S k := fun k hk => by rw [bt_nI (by omega)]; exact t2 k hk
    have hf : fea (thF L xs) dem N s := fun i hi => by
      obtain ⟨k, k1, k2, k3⟩ := hS i hi
      exact ⟨k, k1, by rw [hb9 k k1]; exact k2, k3⟩
    have := b3 s t1 hf
    rwa [smN_congr (S' := S) N hb9] at this
  have hbF : ∀ i, bt dem i = true → ∃ k, k < N ∧ bt bo k = true ∧ bt (thF L xs k) i = true := fun i hi => by
    obtain ⟨k, k1, k2, k3⟩ := hb i hi
    exact ⟨k, k1, k2, by rw [(hc k k1).2] at k3; exact k3⟩
  have I3 : B ≤ P := by
    rw [hP]
    exact msk (fun k => bt bo k) hbF
  have hat : ∃ s, s < 2 ^ N ∧ fea (thF L xs) dem N s ∧ smN (coN L xs) (fun j => bt (nI s) j) N = B := by
    rcases b4 with q | q
    · exfalso; omega
    · exact q
  obtain ⟨s0, u1, u2, u3⟩ := hat
  have I2B : sgN p 12 ≤ B := by
    rw [← u3]
    exact I2 _ u2
  -- the class's least
  have hc17 : ∀ k, k < N → σ 17 k = nI (coN L xs k) ∧ coN L xs k ≤ 1000 := fun k hk => ⟨(hc k hk).1, by have := coN_le (L := L) (xs := xs) (k := k); omega⟩
  obtain ⟨V, v1, v2, v3, v4⟩ := lff_spec (th := σ 18) hc17 (by omega) N (Nat.le_refl N) dem
  have csm : ∀ S, csN (coN L xs) S N N = smN (coN L xs) S N := fun S => by
    have := cs_sm (coN L xs) S N N (Nat.le_refl N)
    rw [Nat.sub_self, smN, Nat.add_zero] at this
    exact this
  have cv : ∀ S : Nat → Bool, (∀ i, bt dem i = true → ∃ k, k < N ∧ S k = true ∧ bt (thF L xs k) i = true) ↔ cvS (σ 18) S N N dem := by
    intro S
    constructor
    · intro q i hi
      obtain ⟨k, k1, k2, k3⟩ := q i hi
      exact ⟨k, by omega, k1, k2, by rw [(hc k k1).2]; exact k3⟩
    · intro q i hi
      obtain ⟨k, k0, k1, k2, k3⟩ := q i hi
      exact ⟨k, k1, k2, by rw [(hc k k1).2] at k3; exact k3⟩
  have hVB : V ≤ B := by
    have := v3 _ ((cv _).mp u2)
    rwa [csm, u3] at this
  have hBV : B ≤ V := by
    rcases v4 with q | ⟨S, q1, q2⟩
    · omega
    · rw [csm] at q2
      rw [← q2]
      exact msk S ((cv S).mpr q1)
  have eV : V = B := by omega
  exact ⟨B, sgN p 12, Sh, b2, by rw [v2, eV], hA, s2, I1, I2B, I3, by omega, s1, hPb⟩
