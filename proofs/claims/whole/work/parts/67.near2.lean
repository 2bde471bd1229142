/-! ===== a CALL: how things stand, the class's weights ===== -/
/-- the nearest rows: p how long, q how many WAYS -/
def BE (l : Nat → Nat → Nat) (on : Int32) (n : Nat) (p q : Nat → Nat) : Prop :=
  (∀ b, b < n → bt on b = true → p b = 0 ∧ q b = 0) ∧
  (∀ b, b < n → p b ≤ 100000 ∧ (p b < 100000 → p b ≤ 10000 ∧ q b ≤ 9 ∧ q b + 1 ≤ n)) ∧
  (∀ b c, b < n → c < n → bt on b = false → 0 < l b c → p c < 100000 → p b < p c + l b c ∨ (p b = p c + l b c ∧ q b ≤ q c + 1)) ∧
  (∀ b, b < n → bt on b = false → p b < 100000 → ∃ c, c < n ∧ 0 < l b c ∧ p c < 100000 ∧ p c + l b c = p b ∧ q c + 1 = q b)
theorem q_cnt {l : Nat → Nat → Nat} {on : Int32} {n : Nat} {p q : Nat → Nat} (h1 : ∀ b, b < n → bt on b = true → p b = 0 ∧ q b = 0) (h4 : ∀ b, b < n → bt on b = false → p b < 100000 → ∃ c, c < n ∧ 0 < l b c ∧ p c < 100000 ∧ p c + l b c = p b ∧ q c + 1 = q b) (v : Nat) : ∀ b, b < n → p b = v → v < 100000 → q b + 1 ≤ ct (fun z => decide (p z ≤ v)) n := by
  intro b hb hv hlt
  cases hon : bt on b with
  | true =>
    have := ct_mono (S := one b) (T := fun z => decide (p z ≤ v)) n (fun z _ hz => decide_eq_true (by rw [one_iff.mp hz, hv]; exact Nat.le_refl _))
    rw [ct_one hb] at this
    rw [(h1 b hb hon).2]
    exact this
  | false =>
    obtain ⟨c, c1, c2, c3, c4, c5⟩ := h4 b hb hon (by omega)
    have ih := q_cnt h1 h4 (p c) c c1 rfl c3
    have e := ct_ins (V := fun z => decide (p z ≤ p c)) (x := b) (decide_eq_false (by omega)) n
    have m := ct_mono (S := ins (fun z => decide (p z ≤ p c)) b) (T := fun z => decide (p z ≤ v)) n (fun z _ hz => decide_eq_true (by
      rcases ins_iff.mp hz with q | q
      · have := of_decide_eq_true q
        omega
      · rw [q]; omega))
    rw [if_pos hb] at e
    omega
termination_by v
decreasing_by omega
theorem Zp_BE {l : Nat → Nat → Nat} {on : Int32} {n : Nat} {p q : Nat → Nat} (hn : n ≤ 10) (hz : Zp l on n p q) (hs : ∀ b, b < n → bt on b = false → ∀ c, c < n → stb l p q b c) : BE l on n p q := by
  obtain ⟨z1, z2, z3⟩ := hz
  have h4 : ∀ b, b < n → bt on b = false → p b < 100000 → ∃ c, c < n ∧ 0 < l b c ∧ p c < 100000 ∧ p c + l b c = p b ∧ q c + 1 = q b := fun b hb ho hp => by
    obtain ⟨c, c1, c2, c3, c4⟩ := z3 b hb ho hp
    obtain ⟨s1, s2⟩ := hs b hb ho c c1 c2 c3
    refine ⟨c, c1, c2, c3, ?_, ?_⟩
    · omega
    · rcases c4 with c4 | ⟨c4, c5⟩
      · exact absurd c4 s1
      · rcases Nat.lt_or_ge (q c + 1) (q b) with w | w
        · exact absurd ⟨c4, w⟩ s2
        · omega
  refine ⟨z1, fun b hb => ⟨(z2 b hb).1, fun hp => ?_⟩, fun b c hb hc ho hl hp => ?_, h4⟩
  · have a1 := (z2 b hb).2 hp
    have a2 := cf_le p n
    have a3 := q_cnt z1 h4 (p b) b hb rfl hp
    have a4 := ct_le (fun z => decide (p z ≤ p b)) n
    exact ⟨by omega, by omega, by omega⟩
  · obtain ⟨s1, s2⟩ := hs b hb ho c hc hl hp
    rcases Nat.lt_or_ge (p b) (p c + l b c) with w | w
    · exact Or.inl w
    · have e : p c + l b c = p b := by omega
      refine Or.inr ⟨e.symm, ?_⟩
      rcases Nat.lt_or_ge (q c + 1) (q b) with w2 | w2
      · exact absurd ⟨e, w2⟩ s2
      · exact w2
theorem ifF_at {on : Int32} {o : Nat → Int32} {b : Nat} : ∀ k, b < k → ifF on o k b = if bt on b then nI 0 else (-1000000)
  | 0, h => absurd h (Nat.not_lt_zero b)
  | k + 1, h => by
    rw [ifF]
    by_cases e : b = k
    · rw [e, upd_s]
    · rw [upd_n e, ifF_at k (by omega)]
/-- the reference's looking, from its start to its end -/
theorem looked {σ : Mem} {l : Nat → Nat → Nat} {n : Nat} (hn : n ≤ 10) (hl : ∀ a b, l a b ≤ 1000) (hli : ∀ a b, 0 < l a b → a ≠ b) (hw : ∀ a b, a < n → b < n → wy σ a b = nI (l a b)) : ∃ (R : Nat) (p q : Nat → Nat), (∀ r, r < R → (cRF σ n r).2.2 = true) ∧ (cRF σ n R).2.2 = false ∧ BE l (σ 52 25) n p q ∧ Zr n (cRF σ n R) p q := by
  have z0 : Zp l (σ 52 25) n (fun b => if bt (σ 52 25) b then 0 else 100000) (fun _ => 0) := by
    refine ⟨fun b _ ho => ⟨by show (if bt (σ 52 25) b then 0 else 100000) = 0; rw [ho, if_pos rfl], rfl⟩, fun b _ => ?_, fun b _ ho hp => ?_⟩
    · show (if bt (σ 52 25) b then 0 else 100000) ≤ 100000 ∧ ((if bt (σ 52 25) b then 0 else 100000) < 100000 → 0 ≤ (if bt (σ 52 25) b then 0 else 100000) ∧ (if bt (σ 52 25) b then 0 else 100000) ≤ _)
      cases bt (σ 52 25) b with
      | true => rw [if_pos rfl]; exact ⟨by omega, fun _ => ⟨Nat.le_refl _, Nat.zero_le _⟩⟩
      | false => rw [if_neg Bool.false_ne_true]; exact ⟨Nat.le_refl _, fun h => absurd h (by omega)⟩
    · have hp : (if bt (σ 52 25) b then 0 else 100000) < 100000 := hp
      rw [ho, if_neg Bool.false_ne_true] at hp
      omega
  have r0 : Zr n (c0F σ n) (fun b => if bt (σ 52 25) b then 0 else 100000) (fun _ => 0) := fun b hb => by
    refine ⟨?_, clrf_lt hb⟩
    show ifF (σ 52 25) (σ 67) n b = fI (if bt (σ 52 25) b then 0 else 100000)
    rw [ifF_at n hb]
    cases bt (σ 52 25) b with
    | true => rw [if_pos rfl, if_pos rfl]; rfl
    | false => rw [if_neg Bool.false_ne_true, if_neg Bool.false_ne_true]; rfl
  obtain ⟨R, p, q, u1, u2, u3, u4, u5⟩ := rd_end hn hl hli hw _ (c0F σ n) _ _ z0 r0 rfl (Nat.le_refl _)
  refine ⟨R, p, q, fun r hr => ?_, ?_, Zp_BE hn u3 u5, ?_⟩
  · unfold cRF; rw [rdF_itr]; exact u1 r hr
  · unfold cRF; rw [rdF_itr]; exact u2
  · unfold cRF; rw [rdF_itr]; exact u4
/-! the class's weights -/
def dW (p q : Nat → Nat) (b : Nat) : Nat := if p b < 100000 then 16 * p b + q b else 1000000
def lwN (ω : Nat → Nat) (l : Nat → Nat → Nat) (s : Nat) : Nat → Nat
  | 0 => ω s
  | k + 1 => if 0 < l s k then min (lwN ω l s k) (ω k + (l s k * 16 + 1)) else lwN ω l s k
theorem wof_N {ll : Nat → Nat → Int32} {a b x : Nat} (h : ll a b = nI x) : wof ll a b = nI (x * 16 + 1) := by
  unfold wof
  rw [h, ← nI_add, show nI (x * 16) = nI x * nI 16 from Int32.ofNat_mul x 16]
theorem lwN_le {ω : Nat → Nat} {l : Nat → Nat → Nat} {s : Nat} : ∀ k, lwN ω l s k ≤ ω s
  | 0 => Nat.le_refl _
  | k + 1 => by
    have := lwN_le (ω := ω) (l := l) (s := s) k
    rw [lwN]
    split <;> omega
theorem lwN_c {ω : Nat → Nat} {l : Nat → Nat → Nat} {s c : Nat} (hp : 0 < l s c) : ∀ k, c < k → lwN ω l s k ≤ ω c + (l s c * 16 + 1)
  | 0, h => absurd h (Nat.not_lt_zero c)
  | k + 1, h => by
    rw [lwN]
    by_cases e : c = k
    · subst e
      rw [if_pos hp]
      exact Nat.min_le_right _ _
    · have := lwN_c (ω := ω) hp k (by omega)
      split <;> omega
theorem lwN_ge {ω : Nat → Nat} {l : Nat → Nat → Nat} {s n d : Nat} (h0 : d ≤ ω s) (h : ∀ c, c < n → 0 < l s c → d ≤ ω c + (l s c * 16 + 1)) : ∀ k, k ≤ n → d ≤ lwN ω l s k
  | 0, _ => h0
  | k + 1, hk => by
    have := lwN_ge h0 h k (by omega)
    rw [lwN]
    by_cases e : 0 < l s k
    · have := h k (by omega) e
      rw [if_pos e]
      omega
    · rw [if_neg e]; exact this
theorem lw_N {w : Nat → Int32} {ll : Nat → Nat → Int32} {ω : Nat → Nat} {l : Nat → Nat → Nat} {n s : Nat} (hw : ∀ b, b < n → w b = nI (ω b)) (hω : ∀ b, b < n → ω b ≤ 1000000) (hl : ∀ a b, l a b ≤ 1000) (hll : ∀ a b, a < n → b < n → ll a b = nI (l a b)) (hs : s < n) : ∀ k, k ≤ n → lwF w ll s k = nI (lwN ω l s k)
  | 0, _ => hw s hs
  | k + 1, hk => by
    have a1 := hl s k
    have a2 := hω k (by omega)
    have a3 := hω s hs
    have a4 := lwN_le (ω := ω) (l := l) (s := s) k
    rw [lwF, lwN, lw_N hw hω hl hll hs k (by omega), hw k (by omega), wof_N (hll s k hs (by omega)), hll s k hs (by omega), nI_add]
    by_cases h : 0 < l s k
    · rw [if_pos ((pos_nI (by omega)).mpr h), if_pos h, imin_nI (by omega) (by omega)]
    · rw [if_neg (mt (pos_nI (by omega)).mp h), if_neg h]
theorem dW_le {l : Nat → Nat → Nat} {on : Int32} {n b : Nat} {p q : Nat → Nat} (h : BE l on n p q) (hb : b < n) : dW p q b ≤ 1000000 := by
  obtain ⟨-, h2, -, -⟩ := h
  have := (h2 b hb).2
  unfold dW
  split
  · rename_i z
    have := this z
    omega
  · omega
theorem dW_st {l : Nat → Nat → Nat} {on : Int32} {n b c : Nat} {p q : Nat → Nat} (h : BE l on n p q) (hb : b < n) (hc : c < n) (hp : 0 < l b c) : dW p q b ≤ dW p q c + (l b c * 16 + 1) := by
  have h0 := dW_le h hb
  obtain ⟨h1, h2, h3, -⟩ := h
  by_cases hpc : p c < 100000
  · have c2 := (h2 c hc).2 hpc
    have ec : dW p q c = 16 * p c + q c := if_pos hpc
    rw [ec]
    cases ho : bt on b with
    | true =>
      obtain ⟨o1, o2⟩ := h1 b hb ho
      have : dW p q b = 16 * p b + q b := if_pos (by omega)
      omega
    | false =>
      rcases Nat.lt_or_ge (p b) 100000 with w | w
      · have b2 := (h2 b hb).2 w
        have eb : dW p q b = 16 * p b + q b := if_pos w
        rw [eb]
        rcases h3 b c hb hc ho hp hpc with z | ⟨z, z2⟩
        · omega
        · omega
      · rcases h3 b c hb hc ho hp hpc with z | ⟨z, z2⟩
        · have : dW p q b = 1000000 := if_neg (by omega)
          have := (h2 b hb).1
          have e0 : p b = 100000 := by omega
          have l0 : l b c < 100000 ∨ 100000 ≤ l b c := by omega
          rcases l0 with l0 | l0
          · omega
          · omega
        · omega
  · have ec : dW p q c = 1000000 := if_neg hpc
    omega
