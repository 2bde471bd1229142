/-! ===== a CALL: the class's weights behind all rounds; the next on the row ===== -/
theorem ws_inv {w : Nat → Int32} {ll : Nat → Nat → Int32} {ω : Nat → Nat} {l : Nat → Nat → Nat} {on : Int32} {n r : Nat} {p q : Nat → Nat} (hB : BE l on n p q) (hl : ∀ a b, l a b ≤ 1000) (hll : ∀ a b, a < n → b < n → ll a b = nI (l a b)) (hw : ∀ b, b < n → w b = nI (ω b)) (hω : ∀ b, b < n → dW p q b ≤ ω b ∧ ω b ≤ 1000000) (hr : ∀ b, b < n → p b < 100000 → q b ≤ r → ω b = dW p q b) : ∀ k, k ≤ n → ∃ ω' : Nat → Nat, (∀ b, b < n → wsF ll n w k b = nI (ω' b)) ∧ (∀ b, b < n → dW p q b ≤ ω' b ∧ ω' b ≤ ω b) ∧ ∀ b, b < k → p b < 100000 → q b ≤ r + 1 → ω' b = dW p q b
  | 0, _ => ⟨ω, hw, fun b hb => ⟨(hω b hb).1, Nat.le_refl _⟩, fun b hb => absurd hb (Nat.not_lt_zero b)⟩
  | k + 1, hk => by
    obtain ⟨ω', i1, i2, i3⟩ := ws_inv hB hl hll hw hω hr k (by omega)
    have hkn : k < n := by omega
    have hω' : ∀ b, b < n → ω' b ≤ 1000000 := fun b hb => Nat.le_trans (i2 b hb).2 (hω b hb).2
    have ek := lw_N (ll := ll) i1 hω' hl hll hkn n (Nat.le_refl n)
    have g1 := lwN_le (ω := ω') (l := l) (s := k) n
    have g2 := lwN_ge (ω := ω') (l := l) (s := k) (n := n) (d := dW p q k) (i2 k hkn).1 (fun c hc hp => Nat.le_trans (dW_st hB hkn hc hp) (Nat.add_le_add_right (i2 c hc).1 _)) n (Nat.le_refl n)
    refine ⟨updN ω' k (lwN ω' l k n), fun b hb => ?_, fun b hb => ?_, fun b hb hp hq => ?_⟩
    · rw [wsF]
      by_cases e : b = k
      · rw [e, upd_s, updN_s, ek]
      · rw [upd_n e, updN_n e]; exact i1 b hb
    · by_cases e : b = k
      · rw [e, updN_s]
        exact ⟨g2, Nat.le_trans g1 (i2 k hkn).2⟩
      · rw [updN_n e]; exact i2 b hb
    · by_cases e : b = k
      · subst e
        rw [updN_s]
        apply Nat.le_antisymm _ g2
        rcases Nat.lt_or_ge r (q b) with z | z
        · have hon : bt on b = false := bnt (fun w => by have := (hB.1 b hkn w).2; omega)
          obtain ⟨c, c1, c2, c3, c4, c5⟩ := hB.2.2.2 b hkn hon hp
          have h1 := lwN_c (ω := ω') c2 n c1
          have h2 := (i2 c c1).2
          rw [hr c c1 c3 (by omega)] at h2
          have e1 : dW p q b = 16 * p b + q b := if_pos hp
          have e2 : dW p q c = 16 * p c + q c := if_pos c3
          omega
        · have := hr b hkn hp z
          have := (i2 b hkn).2
          omega
      · rw [updN_n e]; exact i3 b (by omega) hp hq
theorem iwF_at {re : Int32} {o : Nat → Int32} {b : Nat} : ∀ k, b < k → iwF re o k b = if bt re b then nI 0 else nI 1000000
  | 0, h => absurd h (Nat.not_lt_zero b)
  | k + 1, h => by
    rw [iwF]
    by_cases e : b = k
    · rw [e, upd_s]
    · rw [upd_n e, iwF_at k (by omega)]
theorem wr_inv {ll : Nat → Nat → Int32} {l : Nat → Nat → Nat} {on : Int32} {o : Nat → Int32} {n : Nat} {p q : Nat → Nat} (hB : BE l on n p q) (hl : ∀ a b, l a b ≤ 1000) (hll : ∀ a b, a < n → b < n → ll a b = nI (l a b)) : ∀ r, ∃ ω : Nat → Nat, (∀ b, b < n → wrF ll n (iwF on o n) r b = nI (ω b)) ∧ (∀ b, b < n → dW p q b ≤ ω b ∧ ω b ≤ 1000000) ∧ ∀ b, b < n → p b < 100000 → q b ≤ r → ω b = dW p q b
  | 0 => by
    refine ⟨fun b => if bt on b then 0 else 1000000, fun b hb => ?_, fun b hb => ?_, fun b hb hp hq => ?_⟩
    · rw [wrF, iwF_at n hb]
      show (if bt on b then nI 0 else nI 1000000) = nI (if bt on b then 0 else 1000000)
      cases bt on b with
      | true => rfl
      | false => rfl
    · show dW p q b ≤ (if bt on b then 0 else 1000000) ∧ (if bt on b then 0 else 1000000) ≤ 1000000
      cases ho : bt on b with
      | true =>
        obtain ⟨o1, o2⟩ := hB.1 b hb ho
        have : dW p q b = 16 * p b + q b := if_pos (by omega)
        rw [if_pos rfl]
        omega
      | false =>
        rw [if_neg Bool.false_ne_true]
        exact ⟨dW_le hB hb, Nat.le_refl _⟩
    · show (if bt on b then 0 else 1000000) = dW p q b
      cases ho : bt on b with
      | true =>
        obtain ⟨o1, o2⟩ := hB.1 b hb ho
        have : dW p q b = 16 * p b + q b := if_pos (by omega)
        rw [if_pos rfl]
        omega
      | false =>
        obtain ⟨c, -, -, -, -, c5⟩ := hB.2.2.2 b hb ho hp
        omega
  | r + 1 => by
    obtain ⟨ω, i1, i2, i3⟩ := wr_inv (o := o) hB hl hll r
    obtain ⟨ω', j1, j2, j3⟩ := ws_inv hB hl hll i1 i2 i3 n (Nat.le_refl n)
    exact ⟨ω', j1, fun b hb => ⟨(j2 b hb).1, Nat.le_trans (j2 b hb).2 (i2 b hb).2⟩, j3⟩
theorem wt_at {σ : Mem} {l : Nat → Nat → Nat} {n : Nat} {p q : Nat → Nat} (hB : BE l (σ 4 9) n p q) (hl : ∀ a b, l a b ≤ 1000) (hll : ∀ a b, a < n → b < n → ln σ a b = nI (l a b)) : ∀ b, b < n → wtF σ n b = nI (dW p q b) := by
  intro b hb
  obtain ⟨ω, i1, i2, i3⟩ := wr_inv (o := σ 38) hB hl hll n
  unfold wtF
  rw [i1 b hb]
  congr 1
  by_cases hp : p b < 100000
  · exact i3 b hb hp (by have := (hB.2.1 b hb).2 hp; omega)
  · have := i2 b hb
    have e : dW p q b = 1000000 := if_neg hp
    omega
/-- the step on a nearest row -/
def good (l : Nat → Nat → Nat) (p q : Nat → Nat) (b c : Nat) : Prop := 0 < l b c ∧ p c < 100000 ∧ p c + l b c = p b ∧ q c + 1 = q b
theorem nx_spec {w2 : Nat → Int32} {ll w : Nat → Nat → Int32} {f s : Nat → Int32} {l : Nat → Nat → Nat} {on : Int32} {n b : Nat} {p q : Nat → Nat} (hB : BE l on n p q) (hl : ∀ a b, l a b ≤ 1000) (hll : ∀ a b, a < n → b < n → ll a b = nI (l a b)) (hw : ∀ a b, a < n → b < n → w a b = nI (l a b)) (hw2 : ∀ b, b < n → w2 b = nI (dW p q b)) (hf : ∀ b, b < n → f b = fI (p b) ∧ s b = nI (q b)) (hb : b < n) (hp : p b < 100000) : ∀ m, m ≤ n → (nof w2 ll n b m = b ∧ nxF w f s n b m = (-1000000) ∧ ∀ c, n - m ≤ c → c < n → ¬ good l p q b c) ∨ ∃ c, c < n ∧ good l p q b c ∧ nof w2 ll n b m = c ∧ nxF w f s n b m = nI c
  | 0, _ => Or.inl ⟨rfl, rfl, fun c h1 h2 => by omega⟩
  | m + 1, hm => by
    have ih := nx_spec hB hl hll hw hw2 hf hb hp m (by omega)
    have ei : n - 1 - m = n - (m + 1) := by omega
    rw [nof, nxF, ei]
    generalize hc : n - (m + 1) = c
    have hcn : c < n := by omega
    have lbc := hl b c
    have b2 := (hB.2.1 b hb).2 hp
    have eb : dW p q b = 16 * p b + q b := if_pos hp
    have dc := dW_le hB hcn
    have k1 : (0 < ll b c ∧ w2 c + wof ll b c = w2 b) ↔ good l p q b c := by
      rw [hll b c hb hcn, pos_nI (by omega), hw2 c hcn, hw2 b hb, wof_N (hll b c hb hcn), nI_add, eb]
      constructor
      · rintro ⟨h1, h2⟩
        have h2 := nI_ij (by omega) (by omega) h2
        by_cases hpc : p c < 100000
        · have ec : dW p q c = 16 * p c + q c := if_pos hpc
          have c2 := (hB.2.1 c hcn).2 hpc
          exact ⟨h1, hpc, by omega, by omega⟩
        · have ec : dW p q c = 1000000 := if_neg hpc
          omega
      · rintro ⟨h1, h2, h3, h4⟩
        have ec : dW p q c = 16 * p c + q c := if_pos h2
        refine ⟨h1, ?_⟩
        congr 1
        omega
    have k2 : (0 < w b c ∧ ¬ f c = (-1000000) ∧ f c + w b c = f b ∧ s c + nI 1 = s b) ↔ good l p q b c := by
      obtain ⟨f1, s1⟩ := hf b hb
      obtain ⟨f2, s2⟩ := hf c hcn
      rw [hw b c hb hcn, pos_nI (by omega), f1, s1, f2, s2, nI_add, fI_f hp]
      constructor
      · rintro ⟨h1, h2, h3, h4⟩
        have hpc : p c < 100000 := by
          rcases Nat.lt_or_ge (p c) 100000 with z | z
          · exact z
          · exact absurd (fI_n (by omega)) h2
        have c2 := (hB.2.1 c hcn).2 hpc
        rw [fI_f hpc, nI_add] at h3
        exact ⟨h1, hpc, nI_ij (by omega) (by omega) h3, nI_ij (by omega) (by omega) h4⟩
      · rintro ⟨h1, h2, h3, h4⟩
        exact ⟨h1, fI_ne h2, by rw [fI_f h2, nI_add, h3], by rw [h4]⟩
    by_cases hg : good l p q b c
    · rw [if_pos (k1.mpr hg), if_pos (k2.mpr hg)]
      exact Or.inr ⟨c, hcn, hg, rfl, rfl⟩
    · rw [if_neg (mt k1.mp hg), if_neg (mt k2.mp hg)]
      rcases ih with ⟨i1, i2, i3⟩ | i
      · refine Or.inl ⟨i1, i2, fun c' h1 h2 => ?_⟩
        by_cases e : c' = c
        · rw [e]; exact hg
        · exact i3 c' (by omega) h2
      · exact Or.inr i
/-- the whole row, step by step -/
theorem row_spec {w2 : Nat → Int32} {ll w : Nat → Nat → Int32} {f s : Nat → Int32} {l : Nat → Nat → Nat} {on : Int32} {n a : Nat} {p q : Nat → Nat} (hB : BE l on n p q) (hl : ∀ a b, l a b ≤ 1000) (hll : ∀ a b, a < n → b < n → ll a b = nI (l a b)) (hw : ∀ a b, a < n → b < n → w a b = nI (l a b)) (hw2 : ∀ b, b < n → w2 b = nI (dW p q b)) (hf : ∀ b, b < n → f b = fI (p b) ∧ s b = nI (q b)) (ha : a < n) (hp : p a < 100000) : ∀ k, k ≤ q a → brA w2 ll n a k < n ∧ p (brA w2 ll n a k) < 100000 ∧ q (brA w2 ll n a k) + k = q a ∧ brC w2 ll n a k = nI (p a - p (brA w2 ll n a k)) ∧ p (brA w2 ll n a k) ≤ p a ∧ (k < q a → bt on (brA w2 ll n a k) = false ∧ 0 < w2 (brA w2 ll n a k) ∧ nof w2 ll n (brA w2 ll n a k) n = brA w2 ll n a (k + 1) ∧ nxF w f s n (brA w2 ll n a k) n = nI (brA w2 ll n a (k + 1)))
  | k, hk => by
    have step : ∀ b, b < n → p b < 100000 → 0 < q b → bt on b = false ∧ 0 < w2 b ∧ ∃ c, c < n ∧ good l p q b c ∧ nof w2 ll n b n = c ∧ nxF w f s n b n = nI c := fun b hb hpb hq => by
      have hon : bt on b = false := bnt (fun z => by have := (hB.1 b hb z).2; omega)
      have eb : dW p q b = 16 * p b + q b := if_pos hpb
      have b2 := (hB.2.1 b hb).2 hpb
      refine ⟨hon, by rw [hw2 b hb]; exact (pos_nI (by omega)).mpr (by omega), ?_⟩
      rcases nx_spec hB hl hll hw hw2 hf hb hpb n (Nat.le_refl n) with ⟨-, -, i3⟩ | i
      · obtain ⟨c, c1, c2, c3, c4, c5⟩ := hB.2.2.2 b hb hon hpb
        exact absurd ⟨c2, c3, c4, c5⟩ (i3 c (by omega) c1)
      · exact i
    have base : brA w2 ll n a k < n ∧ p (brA w2 ll n a k) < 100000 ∧ q (brA w2 ll n a k) + k = q a ∧ brC w2 ll n a k = nI (p a - p (brA w2 ll n a k)) ∧ p (brA w2 ll n a k) ≤ p a := by
      match k, hk with
      | 0, _ => exact ⟨ha, hp, rfl, by show nI 0 = nI (p a - p a); rw [Nat.sub_self], Nat.le_refl _⟩
      | k + 1, hk =>
        obtain ⟨i1, i2, i3, i4, i5, -⟩ := row_spec (on := on) (w := w) (f := f) (s := s) hB hl hll hw hw2 hf ha hp k (by omega)
        obtain ⟨s1, s2, c, c1, ⟨g1, g2, g3, g4⟩, c3, c4⟩ := step _ i1 i2 (by omega)
        have eA : brA w2 ll n a (k + 1) = c := by rw [brA, if_pos s2, c3]
        have eC : brC w2 ll n a (k + 1) = nI (p a - p c) := by
          rw [brC, if_pos s2, c3, i4, hll _ _ i1 c1, nI_add]
          congr 1
          omega
        rw [eA, eC]
        exact ⟨c1, g2, by omega, rfl, by omega⟩
    obtain ⟨b1, b2, b3, b4, b5⟩ := base
    refine ⟨b1, b2, b3, b4, b5, fun hlt => ?_⟩
    obtain ⟨s1, s2, c, c1, -, c3, c4⟩ := step _ b1 b2 (by omega)
    have eA : brA w2 ll n a (k + 1) = c := by rw [brA, if_pos s2, c3]
    rw [eA]
    exact ⟨s1, s2, c3, c4⟩
