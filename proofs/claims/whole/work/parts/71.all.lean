/-! ===== count; every pair of calls keeps what holds; it holds at the start ===== -/
theorem pres_L {sz la : Nat → Int32} : ∀ k, (∀ s, s < k → (sz s = (-1) ∧ la s = (-1)) ∨ ∃ m j : Nat, m < 2 ^ 31 ∧ j < 2 ^ 31 ∧ sz s = nI m ∧ la s = nI j) → presf sz k = cntL la k
  | 0, _ => rfl
  | k + 1, h => by
    have ih := pres_L k (fun s hs => h s (by omega))
    rw [presf, cntL, ih]
    rcases h k (Nat.lt_succ_self k) with ⟨h1, h2⟩ | ⟨m, j, h1, h2, h3, h4⟩
    · rw [if_pos h1, if_pos (by rw [h2]; decide)]
    · rw [if_neg (by rw [h3]; exact nI_ne1 h1), if_neg (by rw [h4]; exact nI_pos h2)]
theorem t_count (w : Int32) (σ : Mem) (gs : GS σ) (gt : GT σ) (gl : GL σ) (gw : GW σ) : Pair yX5_count cX5_count 2 5 [.ref 0, .int w] yX6_count cX6_count 4 2 [.ref 52, .int w] σ (frAll σ) := by
  obtain ⟨n, hn10, h1, h2, h3, h4, h5, h6, h7, h8, hs⟩ := gt
  obtain ⟨nL, D, L, -, -, e1, e2, -⟩ := gl
  obtain ⟨nW, l, ⟨-, g1a, g1b⟩, -, -, ⟨W, w1, w2⟩, -⟩ := gw
  have e : cntM σ n = cntC σ n := by
    funext k
    match k with
    | 0 =>
      show nI (cntL (σ 53) 8) = nI (presf (σ 16) 8)
      rw [pres_L 8 (fun s hs => by
        rcases gs s hs with ⟨a, b, -⟩ | ⟨j, m, hj, hm, -, b, c, -⟩
        · exact Or.inl ⟨a, b⟩
        · exact Or.inr ⟨m, j, by omega, by omega, c, b⟩)]
    | 1 => exact h2.trans h1.symm
    | 2 =>
      show nI (popn (σ 52 8) 12) = bcF (σ 2 6)
      obtain ⟨m, m1, m2⟩ := bits_nI (x := σ 2 6) (N := 10) (by decide) (fun i hi => by have := hs.2.2.2.2.2.1 i hi; omega)
      rw [h6, m2, bcF_pop m (by omega)]
    | 3 =>
      show nI (nearf (σ 52 8) (σ 56) (σ 57) (σ 58) n) = nI (nearf (σ 2 6) (σ 17) (σ 18) (σ 19) n)
      rw [h6, h3, h4, h5]
    | 4 => exact e2.trans e1.symm
    | 5 => exact g1b.trans g1a.symm
    | k + 6 =>
      show nI (cntG (σ 65) 100 / 2) = σ 4 6
      rw [w1, w2, Nat.mul_div_cancel_left W (by decide)]
  refine ⟨_, _, _, c_count n w σ h1 hn10, ?_, fr_m0 σ⟩
  rw [← e]
  exact c_mcount n w σ h2 hn10
def Inv (σ : Mem) : Prop := GS σ ∧ GT σ ∧ GL σ ∧ GW σ ∧ GA σ
theorem Pair.mono {yc : MethodName} {cc : ByteArray} {mxc dc : Nat} {ac : List Value} {ym : MethodName} {cm : ByteArray} {mxm dm : Nat} {am : List Value} {σ : Mem} {K K' : Mem → Prop} (h : Pair yc cc mxc dc ac ym cm mxm dm am σ K) (hk : ∀ τ, K τ → K' τ) : Pair yc cc mxc dc ac ym cm mxm dm am σ K' := by
  obtain ⟨v, σ1, σ2, a, b, c⟩ := h
  exact ⟨v, σ1, σ2, a, b, hk _ c⟩
theorem Inv.all {σ τ : Mem} (g : Inv σ) (h : frAll σ τ) : Inv τ := ⟨g.1.fr h.1, g.2.1.fr h.2.1, g.2.2.1.fr h.2.2.1, g.2.2.2.1.fr h.2.2.2.1, g.2.2.2.2.fr h.2.2.2.2⟩
theorem all24 : All24 Inv := by
  refine ⟨?_, ?_, ?_, ?_, ?_, ?_, ?_, ?_, ?_, ?_, ?_, ?_, ?_, ?_, ?_, ?_, ?_, ?_, ?_, ?_, ?_, ?_, ?_, ?_⟩
  · exact fun a b c => Pair.st fun σ g => (t_sheet a b c σ g.1 g.2.2.2.2).mono fun τ h => ⟨h.1, g.2.1.fr h.2.2.1, g.2.2.1.fr h.2.2.2.1, g.2.2.2.1.fr h.2.2.2.2, h.2.1⟩
  · exact fun a b c => Pair.st fun σ g => (t_setS a b c σ g.1 g.2.2.2.2).mono fun τ h => ⟨h.1, g.2.1.fr h.2.2.1, g.2.2.1.fr h.2.2.2.1, g.2.2.2.1.fr h.2.2.2.2, h.2.1⟩
  · exact fun a b c d e => Pair.st fun σ g => (t_copy a b c d e σ g.1 g.2.2.2.2).mono fun τ h => ⟨h.1, g.2.1.fr h.2.2.1, g.2.2.1.fr h.2.2.2.1, g.2.2.2.1.fr h.2.2.2.2, h.2.1⟩
  · exact fun a => Pair.st fun σ g => (t_drop a σ g.1 g.2.2.2.2).mono fun τ h => ⟨h.1, g.2.1.fr h.2.2.1, g.2.2.1.fr h.2.2.2.1, g.2.2.2.1.fr h.2.2.2.2, h.2.1⟩
  · exact fun a b => Pair.st fun σ g => (t_offer a b σ g.2.1).mono fun τ h => ⟨g.1.fr h.2.1, h.1, g.2.2.1.fr h.2.2.1, g.2.2.2.1.fr h.2.2.2.1, g.2.2.2.2.fr h.2.2.2.2⟩
  · exact fun a => Pair.st fun σ g => (t_demand a σ g.2.1).mono fun τ h => ⟨g.1.fr h.2.1, h.1, g.2.2.1.fr h.2.2.1, g.2.2.2.1.fr h.2.2.2.1, g.2.2.2.2.fr h.2.2.2.2⟩
  · exact fun a b c => Pair.st fun σ g => (t_demands a b c σ g.1 g.2.1 g.2.2.2.2).mono fun τ h => ⟨h.1, h.2.1, g.2.2.1.fr h.2.2.2.1, g.2.2.2.1.fr h.2.2.2.2, h.2.2.1⟩
  · exact fun a => Pair.st fun σ g => (t_covers a σ g.2.1).mono fun τ h => g.all h
  · exact fun a b => Pair.st fun σ g => (t_told a b σ g.2.1).mono fun τ h => g.all h
  · exact fun a => Pair.st fun σ g => (t_price a σ g.2.1).mono fun τ h => g.all h
  · exact fun a b => Pair.st fun σ g => (t_lease a b σ g.2.2.1).mono fun τ h => ⟨g.1.fr h.2.1, g.2.1.fr h.2.2.1, h.1, g.2.2.2.1.fr h.2.2.2.1, g.2.2.2.2.fr h.2.2.2.2⟩
  · exact fun a => Pair.st fun σ g => (t_day a σ g.2.2.1).mono fun τ h => ⟨g.1.fr h.2.1, g.2.1.fr h.2.2.1, h.1, g.2.2.2.1.fr h.2.2.2.1, g.2.2.2.2.fr h.2.2.2.2⟩
  · exact fun a => Pair.st fun σ g => (t_leases a σ g.2.2.1).mono fun τ h => g.all h
  · exact fun a => Pair.st fun σ g => (t_covered a σ g.2.2.1).mono fun τ h => g.all h
  · exact Pair.st fun σ g => (t_site σ g.2.2.2.1).mono fun τ h => ⟨g.1.fr h.2.1, g.2.1.fr h.2.2.1, g.2.2.1.fr h.2.2.2.1, h.1, g.2.2.2.2.fr h.2.2.2.2⟩
  · exact fun a b c => Pair.st fun σ g => (t_way a b c σ g.2.2.2.1).mono fun τ h => ⟨g.1.fr h.2.1, g.2.1.fr h.2.2.1, g.2.2.1.fr h.2.2.2.1, h.1, g.2.2.2.2.fr h.2.2.2.2⟩
  · exact fun a => Pair.st fun σ g => (t_call a σ g.2.2.2.1).mono fun τ h => ⟨g.1.fr h.2.1, g.2.1.fr h.2.2.1, g.2.2.1.fr h.2.2.2.1, h.1, g.2.2.2.2.fr h.2.2.2.2⟩
  · intro a σ g
    obtain ⟨P1, h1, h2⟩ := t_joins a σ g.2.2.2.1
    refine ⟨P1, h1, fun r σ1 hr => ?_⟩
    obtain ⟨v, hv, P2, h3, h4⟩ := h2 r σ1 hr
    exact ⟨v, hv, P2, h3, fun r2 σ2 hr2 => ⟨(h4 r2 σ2 hr2).1, g.all (h4 r2 σ2 hr2).2⟩⟩
  · exact fun a => Pair.st fun σ g => (t_kind a σ g.2.1).mono fun τ h => g.all h
  · exact fun a b => Pair.st fun σ g => (t_as a b σ g.2.1 g.2.2.2.2).mono fun τ h => ⟨g.1.fr h.1.1, g.2.1.fr h.1.2.1, g.2.2.1.fr h.1.2.2.1, g.2.2.2.1.fr h.1.2.2.2, h.2⟩
  · exact fun a b => Pair.st fun σ g => (t_ask a b σ g.2.1 g.2.2.2.2).mono fun τ h => ⟨g.1.fr h.1.1, g.2.1.fr h.1.2.1, g.2.2.1.fr h.1.2.2.1, g.2.2.2.1.fr h.1.2.2.2, h.2⟩
  · exact fun a => Pair.st fun σ g => (t_trace a σ g.2.2.2.2).mono fun τ h => g.all h
  · exact fun a => Pair.st fun σ g => (t_count a σ g.1 g.2.1 g.2.2.1 g.2.2.2.1).mono fun τ h => g.all h
  · exact Pair.st fun σ g => (t_status σ g.2.2.2.2).mono fun τ h => g.all h
theorem s0 {q : Nat} (h : q ≠ 16 ∧ q ≠ 53 ∧ q ≠ 3 ∧ q ≠ 52) : σ0 q = fun _ => 0 := by
  unfold σ0
  rw [if_neg h.1, if_neg h.2.1, if_neg h.2.2.1, if_neg h.2.2.2]
theorem s52 {j : Nat} (h : j ≠ 18) : σ0 52 j = 0 := by
  show (if j = 18 then (-1) else 0) = (0 : Int32)
  rw [if_neg h]
theorem s3 {j : Nat} (h : j ≠ 7) : σ0 3 j = 0 := by
  show (if j = 7 then (-1) else 0) = (0 : Int32)
  rw [if_neg h]
theorem cntZ_0 : ∀ N, cntZ (fun _ => 0) N = 0
  | 0 => rfl
  | N + 1 => by rw [cntZ, if_pos rfl, cntZ_0 N]
theorem cntG_0 : ∀ N, cntG (fun _ => 0) N = 0
  | 0 => rfl
  | N + 1 => by rw [cntG, if_pos (by decide), cntG_0 N]
theorem inv0 : Inv σ0 := by
  refine ⟨?_, ?_, ?_, ?_, ?_⟩
  · intro s hs
    refine Or.inl ⟨?_, ?_, 0, by decide, ?_⟩
    · rcases (show s = 0 ∨ s = 1 ∨ s = 2 ∨ s = 3 ∨ s = 4 ∨ s = 5 ∨ s = 6 ∨ s = 7 by omega) with rfl | rfl | rfl | rfl | rfl | rfl | rfl | rfl <;> rfl
    · rcases (show s = 0 ∨ s = 1 ∨ s = 2 ∨ s = 3 ∨ s = 4 ∨ s = 5 ∨ s = 6 ∨ s = 7 by omega) with rfl | rfl | rfl | rfl | rfl | rfl | rfl | rfl <;> rfl
    · rw [s0 (by decide), nI_0]
  · refine ⟨0, by decide, ?_, ?_, ?_, ?_, ?_, ?_, ?_, ?_, ?_⟩
    · rw [s0 (by decide), nI_0]
    · rw [s52 (by decide), nI_0]
    · rw [s0 (by decide), s0 (by decide)]
    · rw [s0 (by decide), s0 (by decide)]
    · rw [s0 (by decide), s0 (by decide)]
    · rw [s52 (by decide), s0 (by decide)]
    · rw [s52 (by decide), s0 (by decide)]
    · rw [s52 (by decide), s0 (by decide)]
    · rw [s0 (q := 2) (by decide), s0 (q := 17) (by decide), s0 (q := 18) (by decide), s0 (q := 19) (by decide)]
      refine ⟨fun k hk => absurd hk (Nat.not_lt_zero k), fun k => ⟨0, by decide, nI_0.symm⟩, fun t _ _ => nI_0.symm, fun t _ => ⟨fun h => absurd (h.symm.trans (b_0 t)) (by decide), fun ⟨k, h, _⟩ => absurd h (Nat.not_lt_zero k)⟩, fun t h => absurd (h.symm.trans (b_0 t)) (by decide), fun k h => absurd (h.symm.trans (b_0 k)) (by decide), fun t _ => ⟨fun h => absurd (h.symm.trans (b_0 t)) (by decide), fun ⟨k, h, _⟩ => absurd h (Nat.not_lt_zero k)⟩⟩
  · refine ⟨0, 0, fun _ => 1, by decide, ⟨by decide, fun _ => rfl⟩, ?_, ?_, ?_, ?_, ?_, ?_, ?_, ?_, ?_, fun k hk => absurd hk (Nat.not_lt_zero k), ?_⟩
    · rw [s3 (by decide), nI_0]
    · rw [s52 (by decide), nI_0]
    · rw [s0 (by decide), s0 (by decide)]
    · rw [s0 (by decide), s0 (by decide)]
    · rw [s0 (by decide), s0 (by decide)]
    · rw [s0 (by decide), s0 (by decide)]
    · show (-1 : Int32) = nI 0 - nI 1
      decide +kernel
    · show (-1 : Int32) = nI 0 - nI 1
      decide +kernel
    · rw [s52 (by decide), s3 (by decide)]
    · rw [s0 (q := 21) (by decide), s0 (q := 22) (by decide), s0 (q := 23) (by decide), s0 (q := 24) (by decide), s0 (q := 63) (by decide), s3 (by decide), s3 (by decide)]
      refine ⟨fun k hk => absurd hk (Nat.not_lt_zero _), fun k hk => absurd hk (Nat.not_lt_zero k), fun d _ => ⟨nI_0.symm, nI_0.symm⟩, fun h => absurd h (Nat.lt_irrefl 0), ?_, fun k f _ _ => ⟨fun h => absurd (h.symm.trans (b_0 k)) (by decide), fun h => absurd rfl h⟩, ?_⟩
      · rw [cntZ_0, nI_0]
      · rw [cntZ_0, nI_0]
  · refine ⟨0, fun _ _ => 0, ⟨by decide, ?_, ?_⟩, ⟨fun _ _ => Nat.zero_le _, fun _ _ => rfl, fun a b h => absurd h (Nat.lt_irrefl 0)⟩, fun a b ha hb => ⟨?_, ?_⟩, ⟨0, ?_, ?_⟩, ⟨?_, ?_, ?_⟩, ?_, ?_, ⟨0, ?_, ?_⟩, ?_⟩
    · rw [s0 (by decide), nI_0]
    · rw [s52 (by decide), nI_0]
    · rw [s0 (by omega), nI_0]
    · rw [s0 (by decide), nI_0]
    · rw [s0 (by decide), nI_0]
    · rw [s0 (by decide), cntG_0]
    · rw [s52 (by decide), s0 (by decide)]
    · rw [s52 (by decide), s0 (by decide)]
    · rw [s52 (by decide), s0 (by decide)]
    · rw [s0 (q := 37) (by decide), s0 (q := 66) (by decide)]
      exact fun a b _ _ => ⟨fun h => absurd (h.symm.trans (b_0 b)) (by decide), fun h => absurd rfl h⟩
    · rw [s0 (q := 66) (by decide)]
      exact fun a b _ _ h => absurd rfl h
    · rw [s0 (by decide), nI_0]
    · rw [s0 (by decide), cntZ_0]
    · rw [s0 (q := 4) (by decide)]
      exact ⟨fun i h => h, fun i h => absurd (h.symm.trans (b_0 i)) (by decide), fun _ => rfl, fun h => absurd rfl h⟩
  · refine ⟨0, by decide, ?_, ?_, ?_, ?_⟩
    · rw [s0 (by decide), nI_0]
    · rw [s52 (by decide), nI_0]
    · rw [s0 (by decide), s0 (by decide)]
    · rw [s52 (by decide), s0 (by decide)]
