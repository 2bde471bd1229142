/-! ===== the nearest distances: no longer than by any third, and each is walked ===== -/
def lF (l : Nat → Nat → Nat) (a b : Nat) : Nat := if 0 < l a b then l a b else 1000000
def fi0 (l : Nat → Nat → Nat) (a b : Nat) : Nat := if a = b then 0 else lF l a b
def NN (l : Nat → Nat → Nat) : Nat → Nat → Nat → Nat
  | 0 => fi0 l
  | o + 1 => fun a b => min (NN l o a b) (NN l o a o + NN l o o b)
theorem NN_s (l : Nat → Nat → Nat) (o a b : Nat) : NN l (o + 1) a b = min (NN l o a b) (NN l o a o + NN l o o b) := rfl
theorem NN_d (l : Nat → Nat → Nat) (a : Nat) : ∀ o, NN l o a a = 0
  | 0 => if_pos rfl
  | o + 1 => by rw [NN_s, NN_d l a o, Nat.zero_min]
theorem lF_sym {l : Nat → Nat → Nat} (hl : ∀ a b, l a b = l b a) (a b : Nat) : lF l a b = lF l b a := by unfold lF; rw [hl a b]
theorem NN_sym {l : Nat → Nat → Nat} (hl : ∀ a b, l a b = l b a) : ∀ o a b, NN l o a b = NN l o b a
  | 0, a, b => by
    show fi0 l a b = fi0 l b a
    unfold fi0
    by_cases h : a = b
    · rw [if_pos h, if_pos h.symm]
    · rw [if_neg h, if_neg (Ne.symm h), lF_sym hl]
  | o + 1, a, b => by rw [NN_s, NN_s, NN_sym hl o a b, NN_sym hl o a o, NN_sym hl o o b, Nat.add_comm]
theorem NN_le (l : Nat → Nat → Nat) : ∀ o a b, NN l o a b ≤ fi0 l a b
  | 0, a, b => Nat.le_refl _
  | o + 1, a, b => by
    have := NN_le l o a b
    rw [NN_s]
    omega
theorem lF_le {l : Nat → Nat → Nat} (hl : ∀ a b, l a b ≤ 1000) (a b : Nat) : lF l a b ≤ 1000000 := by
  have := hl a b
  unfold lF
  split <;> omega
theorem fi0_le (l : Nat → Nat → Nat) (a b : Nat) : fi0 l a b ≤ lF l a b := by
  unfold fi0
  split <;> omega
theorem NN_far {l : Nat → Nat → Nat} (hl : ∀ a b, l a b ≤ 1000) (o a b : Nat) : NN l o a b ≤ 1000000 := Nat.le_trans (NN_le l o a b) (Nat.le_trans (fi0_le l a b) (lF_le hl a b))
theorem NN_tri (l : Nat → Nat → Nat) : ∀ o c, c < o → ∀ a b, NN l o a b ≤ NN l o a c + NN l o c b
  | 0, c, h, _, _ => absurd h (Nat.not_lt_zero c)
  | o + 1, c, h, a, b => by
    have d0 := NN_d l o o
    rw [NN_s, NN_s, NN_s]
    by_cases e : c = o
    · subst e
      omega
    · have ih := NN_tri l o c (by omega)
      have i1 := ih a b
      have i2 := ih o b
      have i3 := ih a o
      omega
/-- ways from a to b, v long at most -/
def wk (l : Nat → Nat → Nat) (n a b v : Nat) : Prop := ∃ P : Ed, (∀ e, e ∈ P → 0 < l e.1 e.2 ∧ e.1 < n ∧ e.2 < n) ∧ cst (lF l) P ≤ v ∧ ∀ C : Nat → Prop, clo P C → (C a ↔ C b) ∧ ∀ e, e ∈ P → (C e.1 ↔ C a)
theorem clo_app {E1 E2 : Ed} {C : Nat → Prop} (h : clo (E1 ++ E2) C) : clo E1 C ∧ clo E2 C := ⟨fun e he => h e (List.mem_append.mpr (Or.inl he)), fun e he => h e (List.mem_append.mpr (Or.inr he))⟩
theorem NN_wk {l : Nat → Nat → Nat} {n : Nat} : ∀ o, o ≤ n → ∀ a b, a < n → b < n → NN l o a b < 1000000 → wk l n a b (NN l o a b)
  | 0, _, a, b, ha, hb, h => by
    have h0 : fi0 l a b < 1000000 := h
    by_cases e : a = b
    · subst e
      exact ⟨[], (fun e he => by cases he), Nat.zero_le _, fun C _ => ⟨Iff.rfl, fun e he => by cases he⟩⟩
    · unfold fi0 at h0
      rw [if_neg e] at h0
      have hp : 0 < l a b := by
        rcases Nat.eq_zero_or_pos (l a b) with q | q
        · unfold lF at h0
          rw [if_neg (by omega)] at h0
          omega
        · exact q
      refine ⟨[(a, b)], fun e he => ?_, ?_, fun C hC => ⟨hC (a, b) (List.mem_cons.mpr (Or.inl rfl)), fun e he => ?_⟩⟩
      · rw [List.mem_singleton.mp he]
        exact ⟨hp, ha, hb⟩
      · show lF l a b + 0 ≤ fi0 l a b
        unfold fi0
        rw [if_neg e]
        omega
      · rw [List.mem_singleton.mp he]
  | o + 1, ho, a, b, ha, hb, h => by
    rw [NN_s] at h ⊢
    rcases Nat.lt_or_ge (NN l o a o + NN l o o b) (NN l o a b) with q | q
    · rw [Nat.min_eq_right (Nat.le_of_lt q)] at h ⊢
      obtain ⟨P1, a1, a2, a3⟩ := NN_wk (l := l) (n := n) o (by omega) a o ha (by omega) (by omega)
      obtain ⟨P2, b1, b2, b3⟩ := NN_wk (l := l) (n := n) o (by omega) o b (by omega) hb (by omega)
      refine ⟨P1 ++ P2, fun e he => ?_, ?_, fun C hC => ?_⟩
      · rcases List.mem_append.mp he with z | z
        · exact a1 e z
        · exact b1 e z
      · rw [cst_app]; omega
      · obtain ⟨c1, c2⟩ := clo_app hC
        obtain ⟨x1, x2⟩ := a3 C c1
        obtain ⟨y1, y2⟩ := b3 C c2
        refine ⟨x1.trans y1, fun e he => ?_⟩
        rcases List.mem_append.mp he with z | z
        · exact x2 e z
        · exact (y2 e z).trans x1.symm
    · rw [Nat.min_eq_left q] at h ⊢
      exact NN_wk o (by omega) a b ha hb h
/-- a tree of distances, walked -/
theorem walked {l : Nat → Nat → Nat} {n : Nat} : ∀ E : Ed, (∀ e, e ∈ E → e.1 < n ∧ e.2 < n) → cst (NN l n) E < 1000000 → ∃ P : Ed, (∀ e, e ∈ P → 0 < l e.1 e.2 ∧ e.1 < n ∧ e.2 < n) ∧ cst (lF l) P ≤ cst (NN l n) E ∧ ∀ C : Nat → Prop, clo P C → clo E C ∧ ∀ e, e ∈ P → ∃ f, f ∈ E ∧ (C e.1 ↔ C f.1)
  | [], _, _ => ⟨[], (fun e he => by cases he), Nat.le_refl _, fun C _ => ⟨fun e he => (by cases he), fun e he => by cases he⟩⟩
  | g :: t, hE, h => by
    rw [cst] at h
    obtain ⟨g1, g2⟩ := hE g (List.mem_cons.mpr (Or.inl rfl))
    obtain ⟨P1, a1, a2, a3⟩ := NN_wk (l := l) n (Nat.le_refl n) g.1 g.2 g1 g2 (by omega)
    obtain ⟨P2, b1, b2, b3⟩ := walked (l := l) (n := n) t (fun e he => hE e (List.mem_cons.mpr (Or.inr he))) (by omega)
    refine ⟨P1 ++ P2, fun e he => ?_, ?_, fun C hC => ?_⟩
    · rcases List.mem_append.mp he with z | z
      · exact a1 e z
      · exact b1 e z
    · rw [cst_app, cst]; omega
    · obtain ⟨c1, c2⟩ := clo_app hC
      obtain ⟨x1, x2⟩ := a3 C c1
      obtain ⟨y1, y2⟩ := b3 C c2
      refine ⟨fun e he => ?_, fun e he => ?_⟩
      · rcases List.mem_cons.mp he with z | z
        · rw [z]; exact x1
        · exact y1 e z
      · rcases List.mem_append.mp he with z | z
        · exact ⟨g, List.mem_cons.mpr (Or.inl rfl), x2 e z⟩
        · obtain ⟨f, f1, f2⟩ := y2 e z
          exact ⟨f, List.mem_cons.mpr (Or.inr f1), f2⟩
theorem cst_mono {d d' : Nat → Nat → Nat} : ∀ E : Ed, (∀ e, e ∈ E → d e.1 e.2 ≤ d' e.1 e.2) → cst d E ≤ cst d' E
  | [], _ => Nat.le_refl _
  | e :: t, h => by
    have h1 := h e (List.mem_cons.mpr (Or.inl rfl))
    have h2 := cst_mono t (fun g hg => h g (List.mem_cons.mpr (Or.inr hg)))
    rw [cst, cst]
    omega
/-! the class's matrix -/
theorem pos_nI {x : Nat} (h : x < 2 ^ 31) : (0 : Int32) < nI x ↔ 0 < x := by
  rw [← nI_0]
  exact nI_ltI (by decide) h
theorem fiR_at {ll : Nat → Nat → Int32} {a b : Nat} {o : Nat → Int32} : ∀ k, b < k → fiR ll a o k b = if 0 < ll a b then ll a b else nI 1000000
  | 0, h => absurd h (Nat.not_lt_zero b)
  | k + 1, h => by
    rw [fiR]
    by_cases e : b = k
    · rw [e, upd_s]
    · rw [upd_n e, fiR_at k (by omega)]
theorem fiD_at {ll : Nat → Nat → Int32} {l : Nat → Nat → Nat} {n : Nat} {D : Nat → Nat → Int32} (hll : ∀ a b, a < n → b < n → ll a b = nI (l a b)) (hl : ∀ a b, l a b ≤ 1000) : ∀ k, k ≤ n → ∀ a b, a < k → b < n → fiD ll n D k a b = nI (fi0 l a b)
  | 0, _, a, _, h, _ => absurd h (Nat.not_lt_zero a)
  | k + 1, hk, a, b, h, hb => by
    rw [fiD, updM_at]
    by_cases e : a = k
    · subst e
      rw [if_pos rfl]
      unfold fi0
      by_cases e2 : b = a
      · rw [e2, upd_s, if_pos rfl]
      · have := hl a b
        rw [upd_n e2, fiR_at n hb, if_neg (Ne.symm e2), hll a b (by omega) hb]
        unfold lF
        by_cases h0 : 0 < l a b
        · rw [if_pos ((pos_nI (by omega)).mpr h0), if_pos h0]
        · rw [if_neg (mt (pos_nI (by omega)).mp h0), if_neg h0]
    · rw [if_neg e]
      exact fiD_at hll hl k (by omega) a b (by omega) hb
theorem foA_at {n o : Nat} {D : Nat → Nat → Int32} {N : Nat → Nat → Nat} (ho : o < n) (hN : ∀ a b, N a b ≤ 1000000) (h0 : N o o = 0) (hD : ∀ a b, a < n → b < n → D a b = nI (N a b)) : ∀ k, k ≤ n → ∀ a b, a < n → b < n → foA n o D k a b = nI (if a < k then min (N a b) (N a o + N o b) else N a b)
  | 0, _, a, b, ha, hb => by rw [foA, hD a b ha hb, if_neg (Nat.not_lt_zero a)]
  | k + 1, hk, a, b, ha, hb => by
    have ih := foA_at ho hN h0 hD k (by omega)
    rw [foA, updM_at]
    by_cases e : a = k
    · subst e
      have b1 := hN a b
      have b2 := hN a o
      have b3 := hN o b
      have ro : foA n o D a o b = nI (N o b) := by
        rw [ih o b ho hb, h0]
        congr 1
        split <;> omega
      rw [if_pos rfl, shF_lo _ _ _ n b hb, ih a b ha hb, ih a o ha ho, ro, if_neg (Nat.lt_irrefl a), if_neg (Nat.lt_irrefl a), nI_add, imin_nI (by omega) (by omega), if_pos (Nat.lt_succ_self a)]
    · rw [if_neg e, ih a b ha hb]
      congr 1
      by_cases h : a < k
      · rw [if_pos h, if_pos (by omega)]
      · rw [if_neg h, if_neg (by omega)]
theorem foO_at {l : Nat → Nat → Nat} {n : Nat} {D : Nat → Nat → Int32} (hl : ∀ a b, l a b ≤ 1000) (hD : ∀ a b, a < n → b < n → D a b = nI (fi0 l a b)) : ∀ o, o ≤ n → ∀ a b, a < n → b < n → foO n D o a b = nI (NN l o a b)
  | 0, _, a, b, ha, hb => hD a b ha hb
  | o + 1, ho, a, b, ha, hb => by
    rw [foO, foA_at (N := NN l o) (show o < n by omega) (fun a b => NN_far hl o a b) (NN_d l o o) (foO_at hl hD o (by omega)) n (Nat.le_refl n) a b ha hb, if_pos ha]
    rfl
theorem near_at {σ : Mem} {l : Nat → Nat → Nat} {n : Nat} (hl : ∀ a b, l a b ≤ 1000) (hll : ∀ a b, a < n → b < n → ln σ a b = nI (l a b)) : ∀ a b, a < n → b < n → nearF σ n a b = nI (NN l n a b) := fun a b ha hb => foO_at hl (fun a b ha hb => fiD_at hll hl n (Nat.le_refl n) a b ha hb) n (Nat.le_refl n) a b ha hb
