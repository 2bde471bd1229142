/-! ===== from the entry to the end ===== -/
def R_law : String := "BuyAsAskedLaw"
def lw_P (b : Addr) (xs : List Int32) (args : Array Value) (s : State) : Prop := args = #[.ref b] ∧ s.IntsAt b xs ∧ xs.length ≤ 260 ∧ (Jvm.Cond.and given_1 narrow_1).before args s = true
def lw_Q (_ : Array Value) (s : State) (o : Outcome) (t : State) : Prop := o = .returned (some (.int 1)) ∧ Framed s o t [] 600000 7302250
def lw_Z (below : List Frame) (a : Array Value) (s : State) : State → Prop := fun t => ∃ o, t.status = .running ∧ Ended t below o ∧ lw_Q a s o t
/-- the law's own end, with 1 on the stack, nothing written that was there before, its room as the claim has it -/
theorem lw_ret {p : Program} {l : Launch} {e : Env} {s : State} {m : MethodId} {below : List Frame} {meth : Method} {c : Code} {b : Nat} (hx : p.tables.exec = Jvm.exec) (hb : c.code = code) (hr : meth.sig.returnType = ret) (hlocks : meth.locks = false) {pc : Nat} {H : Heap} {ls : Array Slot} (hdg : decode code pc = .ok (.ireturn, 1)) : W p l e room_1 s m #[Value.ref b] below meth c H [] 600000 7302250 (lw_Z below #[Value.ref b] s) (F0 m pc ls [.int 1]) := by
  intro T hT X
  obtain ⟨fs, hret, hrun, hended, hW, hframe⟩ := X.leave (v := some (.int 1)) (hlocks := hlocks) (fun h => by rw [hr] at h; cases h)
  have hmeth' : T.vm.method? m = some meth := X.method'
  refine ⟨T.setFrames fs, ?_, .returned (some (.int 1)), hrun, hended, rfl, ⟨_, rfl⟩, hW, hframe⟩
  jvm_step X.here [X.here.top, hx, hb, hdg, hmeth', hr, ret, narrow_b1]
  (try refine ⟨rfl, ?_⟩); (try refine ⟨rfl, ?_⟩)
  first | (intro acts; rw [hret _ acts rfl rfl rfl]) | rw [hret _ _ rfl rfl rfl]
  exact Steps.refl _
/-- what holds at the law's entry: the machine, the code, the tables' words (any of lw_tbl by 'hts w (by decide +kernel)'), the script of L ints xs at the cell b, what the Statement gives of the start (any of its parts by flat_of_before) -/
def lw_At (p : Program) (s : State) (m : MethodId) (meth : Method) (c : Code) (b L : Nat) (xs : Nat → Int32) : Prop :=
  p.tables.exec = Jvm.exec ∧ c.code = code ∧ meth.sig.returnType = ret ∧ c.maxLocals = 15 ∧ s.vm.findClass R_law = some m.cls ∧ (∀ w ∈ lw_tbl, w.before #[Value.ref b] s = true) ∧ va_X b L xs s s.heap ∧ b < s.heap.size ∧ meth.locks = false ∧ (Jvm.Cond.and given_1 narrow_1).before #[Value.ref b] s = true
theorem N_astore {X : NC} {own : String} {cc : ByteArray} {nL cells slots pc : Nat} {ls : List (Nat × Value)} {st : List Value} {ws : va_W} {k : Fin 4} {i : Nat} {x : Nat} {ls' : List (Nat × Value)} (hX : Nok X own cc nL) (hd : decode cc pc = .ok (.astore_n k, 1)) (hi : (k : Nat) = i) (hn : i < nL) (he : (i, Value.ref x) :: ls.filter (fun q => !(q.1 == i) && !(q.1 + 1 == i && q.2.category == 2)) = ls') (kk : Nw X nL cells slots (pc + 1) ls' st ws) : Nw X nL cells slots pc ls (.ref x :: st) ws := by
  obtain ⟨p, l, e, R, s, m, args, below, meth, c, Q, A, D, cs, H0⟩ := X
  intro H locs lsA hP hD hS hl
  exact lv_astore_n hX.1 hX.2.1 hd hi hl hn he (fun ls9 h9 => kk H locs ls9 hP hD hS h9)
/-- the memory at the start -/
def σ0 : Mem := fun p => if p = 16 then lnf 8 else if p = 3 then (fun j => if j = 7 then (-1) else 0) else fun _ => 0
theorem SI_0 (L : Nat) (xs : Nat → Int32) : SI L xs σ0 0 := by
  have z : ∀ q, q ≠ 16 → q ≠ 3 → σ0 q = fun _ => 0 := fun q a b => by unfold σ0; rw [if_neg a, if_neg b]
  unfold SI
  rw [z 2 (by decide) (by decide), z 5 (by decide) (by decide), z 17 (by decide) (by decide), z 18 (by decide) (by decide), z 19 (by decide) (by decide)]
  refine ⟨nI_0.symm, fun j hj => absurd hj (Nat.not_lt_zero j), ⟨fun k hk => absurd hk (Nat.not_lt_zero k), fun k => ⟨0, by omega, nI_0.symm⟩, fun t _ _ => nI_0.symm, fun t _ => ⟨fun q => ?_, fun ⟨k, hk, _⟩ => absurd hk (Nat.not_lt_zero k)⟩, fun t q => ?_, fun k q => ?_, fun t _ => ⟨fun q => ?_, fun ⟨k, hk, _⟩ => absurd hk (Nat.not_lt_zero k)⟩⟩, rfl, rfl, rfl, rfl⟩
  all_goals (rw [b_0] at q; exact absurd q (by decide))
/-- the world behind the constructor, in the order of the places -/
def wsL (qb : Nat) (q5_a : Nat) (q9_9_a : Nat) (r9_9_a : Nat → Nat) (q19_9_a : Nat) (q27_9_a : Nat) (q16_a : Nat) (q7_20_a : Nat) (q15_20_a : Nat) (q23_20_a : Nat) (q27_a : Nat) (q6_31_a : Nat) (q13_31_a : Nat) (q22_31_a : Nat) (q31_31_a : Nat) (q40_31_a : Nat) (q47_31_a : Nat) (q38_a : Nat) (q9_42_a : Nat) (r9_42_a : Nat → Nat) (q19_42_a : Nat) (q27_42_a : Nat) (q37_42_a : Nat) (r37_42_a : Nat → Nat) (q47_42_a : Nat) (q49_a : Nat) (q7_53_a : Nat) (cs : Nat → ClassId) : va_W := [(qb, .inr (5, [.ref q5_a, .ref q16_a, .ref q27_a, .ref q38_a, .ref q49_a, .int (nI 0)])), (q5_a, .inr (3, [.ref q9_9_a, .ref q19_9_a, .ref q27_9_a])), (q16_a, .inr (2, [.ref q7_20_a, .ref q15_20_a, .ref q23_20_a, .int 0, .int 0, .int 0, .int 0, .int 0, .int 0])), (q27_a, .inr (1, [.ref q6_31_a, .ref q13_31_a, .ref q22_31_a, .ref q31_31_a, .ref q40_31_a, .ref q47_31_a, .int 0, .int (-1), .int 0, .int 0, .int 0])), (q38_a, .inr (4, [.ref q9_42_a, .ref q19_42_a, .ref q27_42_a, .ref q37_42_a, .ref q47_42_a, .int 0, .int 0, .int 0, .int 0, .int 0, .int 0, .int 0])), (q49_a, .inr (0, [.ref q7_53_a, .int 0])), (q9_9_a, outr cs r9_9_a 8), (r9_9_a 0, .inl (cs 0, 60, .inl (fun _ => 0))), (r9_9_a 1, .inl (cs 0, 60, .inl (fun _ => 0))), (r9_9_a 2, .inl (cs 0, 60, .inl (fun _ => 0))), (r9_9_a 3, .inl (cs 0, 60, .inl (fun _ => 0))), (r9_9_a 4, .inl (cs 0, 60, .inl (fun _ => 0))), (r9_9_a 5, .inl (cs 0, 60, .inl (fun _ => 0))), (r9_9_a 6, .inl (cs 0, 60, .inl (fun _ => 0))), (r9_9_a 7, .inl (cs 0, 60, .inl (fun _ => 0))), (q19_9_a, .inl (cs 0, 8, .inl (fun _ => 0))), (q27_9_a, .inl (cs 0, 8, .inl (lnf 8))), (q7_20_a, .inl (cs 0, 10, .inl (fun _ => 0))), (q15_20_a, .inl (cs 0, 10, .inl (fun _ => 0))), (q23_20_a, .inl (cs 0, 12, .inl (fun _ => 0))), (q6_31_a, .inl (cs 0, 4, .inl (fun _ => 0))), (q13_31_a, .inl (cs 0, 4, .inl (fun _ => 0))), (q22_31_a, .inl (cs 0, 128, .inl (fun _ => 0))), (q31_31_a, .inl (cs 1, 128, .inl (fun _ => 0))), (q40_31_a, .inl (cs 0, 128, .inl (fun _ => 0))), (q47_31_a, .inl (cs 0, 5, .inl (fun _ => 0))), (q9_42_a, outr cs r9_42_a 10), (r9_42_a 0, .inl (cs 0, 10, .inl (fun _ => 0))), (r9_42_a 1, .inl (cs 0, 10, .inl (fun _ => 0))), (r9_42_a 2, .inl (cs 0, 10, .inl (fun _ => 0))), (r9_42_a 3, .inl (cs 0, 10, .inl (fun _ => 0))), (r9_42_a 4, .inl (cs 0, 10, .inl (fun _ => 0))), (r9_42_a 5, .inl (cs 0, 10, .inl (fun _ => 0))), (r9_42_a 6, .inl (cs 0, 10, .inl (fun _ => 0))), (r9_42_a 7, .inl (cs 0, 10, .inl (fun _ => 0))), (r9_42_a 8, .inl (cs 0, 10, .inl (fun _ => 0))), (r9_42_a 9, .inl (cs 0, 10, .inl (fun _ => 0))), (q19_42_a, .inl (cs 0, 10, .inl (fun _ => 0))), (q27_42_a, .inl (cs 0, 10, .inl (fun _ => 0))), (q37_42_a, outr cs r37_42_a 10), (r37_42_a 0, .inl (cs 0, 10, .inl (fun _ => 0))), (r37_42_a 1, .inl (cs 0, 10, .inl (fun _ => 0))), (r37_42_a 2, .inl (cs 0, 10, .inl (fun _ => 0))), (r37_42_a 3, .inl (cs 0, 10, .inl (fun _ => 0))), (r37_42_a 4, .inl (cs 0, 10, .inl (fun _ => 0))), (r37_42_a 5, .inl (cs 0, 10, .inl (fun _ => 0))), (r37_42_a 6, .inl (cs 0, 10, .inl (fun _ => 0))), (r37_42_a 7, .inl (cs 0, 10, .inl (fun _ => 0))), (r37_42_a 8, .inl (cs 0, 10, .inl (fun _ => 0))), (r37_42_a 9, .inl (cs 0, 10, .inl (fun _ => 0))), (q47_42_a, .inl (cs 0, 10, .inl (fun _ => 0))), (q7_53_a, .inl (cs 0, 16, .inl (fun _ => 0)))]
def adL (qb : Nat) (q5_a : Nat) (q9_9_a : Nat) (r9_9_a : Nat → Nat) (q19_9_a : Nat) (q27_9_a : Nat) (q16_a : Nat) (q7_20_a : Nat) (q15_20_a : Nat) (q23_20_a : Nat) (q27_a : Nat) (q6_31_a : Nat) (q13_31_a : Nat) (q22_31_a : Nat) (q31_31_a : Nat) (q40_31_a : Nat) (q47_31_a : Nat) (q38_a : Nat) (q9_42_a : Nat) (r9_42_a : Nat → Nat) (q19_42_a : Nat) (q27_42_a : Nat) (q37_42_a : Nat) (r37_42_a : Nat → Nat) (q47_42_a : Nat) (q49_a : Nat) (q7_53_a : Nat) (b : Nat) : List Nat := [qb, q5_a, q16_a, q27_a, q38_a, q49_a, q9_9_a, r9_9_a 0, r9_9_a 1, r9_9_a 2, r9_9_a 3, r9_9_a 4, r9_9_a 5, r9_9_a 6, r9_9_a 7, q19_9_a, q27_9_a, q7_20_a, q15_20_a, q23_20_a, q6_31_a, q13_31_a, q22_31_a, q31_31_a, q40_31_a, q47_31_a, q9_42_a, r9_42_a 0, r9_42_a 1, r9_42_a 2, r9_42_a 3, r9_42_a 4, r9_42_a 5, r9_42_a 6, r9_42_a 7, r9_42_a 8, r9_42_a 9, q19_42_a, q27_42_a, q37_42_a, r37_42_a 0, r37_42_a 1, r37_42_a 2, r37_42_a 3, r37_42_a 4, r37_42_a 5, r37_42_a 6, r37_42_a 7, r37_42_a 8, r37_42_a 9, q47_42_a, q7_53_a, b]
theorem outr_ext {D : va_G} {cs : Nat → ClassId} {H : Heap} {q N : Nat} {r g : Nat → Nat} (hg : ∀ i, i < N → g i = r i) (h : va_at D vwCl (q, outr cs r N) H) : va_at D vwCl (q, .inl (cs 2, (N, .inr (.inr (.inr (.inr (fun j => some (g j)))))))) H := by
  refine (show H[q]? = some (vp_cell (cs 2) (N, .inr (.inr (.inr (.inr (fun i => if i < N then some (r i) else none)))))) from h).trans (congrArg some ?_)
  rw [vp_cell_q, vp_cell_q]
  exact arrV_ext (fun j hj => by show va_rf (if j < N then some (r j) else none) = va_rf (some (g j)); rw [if_pos hj, hg j hj])
set_option maxRecDepth 100000 in
set_option maxHeartbeats 8000000 in
theorem wsL_wl {D : va_G} {A : Nat → Prop} {H : Heap} (qb : Nat) (q5_a : Nat) (q9_9_a : Nat) (r9_9_a : Nat → Nat) (q19_9_a : Nat) (q27_9_a : Nat) (q16_a : Nat) (q7_20_a : Nat) (q15_20_a : Nat) (q23_20_a : Nat) (q27_a : Nat) (q6_31_a : Nat) (q13_31_a : Nat) (q22_31_a : Nat) (q31_31_a : Nat) (q40_31_a : Nat) (q47_31_a : Nat) (q38_a : Nat) (q9_42_a : Nat) (r9_42_a : Nat → Nat) (q19_42_a : Nat) (q27_42_a : Nat) (q37_42_a : Nat) (r37_42_a : Nat → Nat) (q47_42_a : Nat) (q49_a : Nat) (q7_53_a : Nat) (cs : Nat → ClassId) (b : Nat) (hP : va_P D vwCl (wsL qb q5_a q9_9_a r9_9_a q19_9_a q27_9_a q16_a q7_20_a q15_20_a q23_20_a q27_a q6_31_a q13_31_a q22_31_a q31_31_a q40_31_a q47_31_a q38_a q9_42_a r9_42_a q19_42_a q27_42_a q37_42_a r37_42_a q47_42_a q49_a q7_53_a cs) H) (hD : va_D A (wsL qb q5_a q9_9_a r9_9_a q19_9_a q27_9_a q16_a q7_20_a q15_20_a q23_20_a q27_a q6_31_a q13_31_a q22_31_a q31_31_a q40_31_a q47_31_a q38_a q9_42_a r9_42_a q19_42_a q27_42_a q37_42_a r37_42_a q47_42_a q49_a q7_53_a cs)) : va_P D vwCl (wl (fun i => (adL qb q5_a q9_9_a r9_9_a q19_9_a q27_9_a q16_a q7_20_a q15_20_a q23_20_a q27_a q6_31_a q13_31_a q22_31_a q31_31_a q40_31_a q47_31_a q38_a q9_42_a r9_42_a q19_42_a q27_42_a q37_42_a r37_42_a q47_42_a q49_a q7_53_a b).getD i 0) cs σ0 0 shp) H ∧ (∀ i j : Nat, i < 52 → j < 52 → (adL qb q5_a q9_9_a r9_9_a q19_9_a q27_9_a q16_a q7_20_a q15_20_a q23_20_a q27_a q6_31_a q13_31_a q22_31_a q31_31_a q40_31_a q47_31_a q38_a q9_42_a r9_42_a q19_42_a q27_42_a q37_42_a r37_42_a q47_42_a q49_a q7_53_a b).getD i 0 = (adL qb q5_a q9_9_a r9_9_a q19_9_a q27_9_a q16_a q7_20_a q15_20_a q23_20_a q27_a q6_31_a q13_31_a q22_31_a q31_31_a q40_31_a q47_31_a q38_a q9_42_a r9_42_a q19_42_a q27_42_a q37_42_a r37_42_a q47_42_a q49_a q7_53_a b).getD j 0 → i = j) ∧ (∀ i : Nat, i < 52 → A ((adL qb q5_a q9_9_a r9_9_a q19_9_a q27_9_a q16_a q7_20_a q15_20_a q23_20_a q27_a q6_31_a q13_31_a q22_31_a q31_31_a q40_31_a q47_31_a q38_a q9_42_a r9_42_a q19_42_a q27_42_a q37_42_a r37_42_a q47_42_a q49_a q7_53_a b).getD i 0)) := by
  have o6 := outr_ext (g := fun j => (adL qb q5_a q9_9_a r9_9_a q19_9_a q27_9_a q16_a q7_20_a q15_20_a q23_20_a q27_a q6_31_a q13_31_a q22_31_a q31_31_a q40_31_a q47_31_a q38_a q9_42_a r9_42_a q19_42_a q27_42_a q37_42_a r37_42_a q47_42_a q49_a q7_53_a b).getD (7 + j) 0) (fun i hi => by rcases (show i = 0 ∨ i = 1 ∨ i = 2 ∨ i = 3 ∨ i = 4 ∨ i = 5 ∨ i = 6 ∨ i = 7 by omega) with rfl | rfl | rfl | rfl | rfl | rfl | rfl | rfl <;> rfl) (hP 6 _ rfl)
  have o26 := outr_ext (g := fun j => (adL qb q5_a q9_9_a r9_9_a q19_9_a q27_9_a q16_a q7_20_a q15_20_a q23_20_a q27_a q6_31_a q13_31_a q22_31_a q31_31_a q40_31_a q47_31_a q38_a q9_42_a r9_42_a q19_42_a q27_42_a q37_42_a r37_42_a q47_42_a q49_a q7_53_a b).getD (27 + j) 0) (fun i hi => by rcases (show i = 0 ∨ i = 1 ∨ i = 2 ∨ i = 3 ∨ i = 4 ∨ i = 5 ∨ i = 6 ∨ i = 7 ∨ i = 8 ∨ i = 9 by omega) with rfl | rfl | rfl | rfl | rfl | rfl | rfl | rfl | rfl | rfl <;> rfl) (hP 26 _ rfl)
  have o39 := outr_ext (g := fun j => (adL qb q5_a q9_9_a r9_9_a q19_9_a q27_9_a q16_a q7_20_a q15_20_a q23_20_a q27_a q6_31_a q13_31_a q22_31_a q31_31_a q40_31_a q47_31_a q38_a q9_42_a r9_42_a q19_42_a q27_42_a q37_42_a r37_42_a q47_42_a q49_a q7_53_a b).getD (40 + j) 0) (fun i hi => by rcases (show i = 0 ∨ i = 1 ∨ i = 2 ∨ i = 3 ∨ i = 4 ∨ i = 5 ∨ i = 6 ∨ i = 7 ∨ i = 8 ∨ i = 9 by omega) with rfl | rfl | rfl | rfl | rfl | rfl | rfl | rfl | rfl | rfl <;> rfl) (hP 39 _ rfl)
  have s6 := va_P.set hP hD (p := 6) rfl o6 (fun _ _ => rfl)
  have d6 := va_D.set hD (p := 6) (e := .inl (cs 2, (8, .inr (.inr (.inr (.inr (fun j => some ((adL qb q5_a q9_9_a r9_9_a q19_9_a q27_9_a q16_a q7_20_a q15_20_a q23_20_a q27_a q6_31_a q13_31_a q22_31_a q31_31_a q40_31_a q47_31_a q38_a q9_42_a r9_42_a q19_42_a q27_42_a q37_42_a r37_42_a q47_42_a q49_a q7_53_a b).getD (7 + j) 0)))))))) rfl
  have s26 := va_P.set s6 d6 (p := 26) rfl o26 (fun _ _ => rfl)
  have d26 := va_D.set d6 (p := 26) (e := .inl (cs 2, (10, .inr (.inr (.inr (.inr (fun j => some ((adL qb q5_a q9_9_a r9_9_a q19_9_a q27_9_a q16_a q7_20_a q15_20_a q23_20_a q27_a q6_31_a q13_31_a q22_31_a q31_31_a q40_31_a q47_31_a q38_a q9_42_a r9_42_a q19_42_a q27_42_a q37_42_a r37_42_a q47_42_a q49_a q7_53_a b).getD (27 + j) 0)))))))) rfl
  have s39 := va_P.set s26 d26 (p := 39) rfl o39 (fun _ _ => rfl)
  have d39 := va_D.set d26 (p := 39) (e := .inl (cs 2, (10, .inr (.inr (.inr (.inr (fun j => some ((adL qb q5_a q9_9_a r9_9_a q19_9_a q27_9_a q16_a q7_20_a q15_20_a q23_20_a q27_a q6_31_a q13_31_a q22_31_a q31_31_a q40_31_a q47_31_a q38_a q9_42_a r9_42_a q19_42_a q27_42_a q37_42_a r37_42_a q47_42_a q49_a q7_53_a b).getD (40 + j) 0)))))))) rfl
  refine ⟨s39, fun i j hi hj e => ?_, fun i hi => ?_⟩
  · have key : ∀ i : Nat, i < 52 → ∃ x : va_E, (wsL qb q5_a q9_9_a r9_9_a q19_9_a q27_9_a q16_a q7_20_a q15_20_a q23_20_a q27_a q6_31_a q13_31_a q22_31_a q31_31_a q40_31_a q47_31_a q38_a q9_42_a r9_42_a q19_42_a q27_42_a q37_42_a r37_42_a q47_42_a q49_a q7_53_a cs)[i]? = some ((adL qb q5_a q9_9_a r9_9_a q19_9_a q27_9_a q16_a q7_20_a q15_20_a q23_20_a q27_a q6_31_a q13_31_a q22_31_a q31_31_a q40_31_a q47_31_a q38_a q9_42_a r9_42_a q19_42_a q27_42_a q37_42_a r37_42_a q47_42_a q49_a q7_53_a b).getD i 0, x) := fun i hi => by
      rcases (show i = 0 ∨ i = 1 ∨ i = 2 ∨ i = 3 ∨ i = 4 ∨ i = 5 ∨ i = 6 ∨ i = 7 ∨ i = 8 ∨ i = 9 ∨ i = 10 ∨ i = 11 ∨ i = 12 ∨ i = 13 ∨ i = 14 ∨ i = 15 ∨ i = 16 ∨ i = 17 ∨ i = 18 ∨ i = 19 ∨ i = 20 ∨ i = 21 ∨ i = 22 ∨ i = 23 ∨ i = 24 ∨ i = 25 ∨ i = 26 ∨ i = 27 ∨ i = 28 ∨ i = 29 ∨ i = 30 ∨ i = 31 ∨ i = 32 ∨ i = 33 ∨ i = 34 ∨ i = 35 ∨ i = 36 ∨ i = 37 ∨ i = 38 ∨ i = 39 ∨ i = 40 ∨ i = 41 ∨ i = 42 ∨ i = 43 ∨ i = 44 ∨ i = 45 ∨ i = 46 ∨ i = 47 ∨ i = 48 ∨ i = 49 ∨ i = 50 ∨ i = 51 by omega) with rfl | rfl | rfl | rfl | rfl | rfl | rfl | rfl | rfl | rfl | rfl | rfl | rfl | rfl | rfl | rfl | rfl | rfl | rfl | rfl | rfl | rfl | rfl | rfl | rfl | rfl | rfl | rfl | rfl | rfl | rfl | rfl | rfl | rfl | rfl | rfl | rfl | rfl | rfl | rfl | rfl | rfl | rfl | rfl | rfl | rfl | rfl | rfl | rfl | rfl | rfl | rfl <;> exact ⟨_, rfl⟩
    obtain ⟨x, hx⟩ := key i hi
    obtain ⟨y, hy⟩ := key j hj
    exact hD.1 i j _ _ hx hy e
  · have key : ∃ x : va_E, (wsL qb q5_a q9_9_a r9_9_a q19_9_a q27_9_a q16_a q7_20_a q15_20_a q23_20_a q27_a q6_31_a q13_31_a q22_31_a q31_31_a q40_31_a q47_31_a q38_a q9_42_a r9_42_a q19_42_a q27_42_a q37_42_a r37_42_a q47_42_a q49_a q7_53_a cs)[i]? = some ((adL qb q5_a q9_9_a r9_9_a q19_9_a q27_9_a q16_a q7_20_a q15_20_a q23_20_a q27_a q6_31_a q13_31_a q22_31_a q31_31_a q40_31_a q47_31_a q38_a q9_42_a r9_42_a q19_42_a q27_42_a q37_42_a r37_42_a q47_42_a q49_a q7_53_a b).getD i 0, x) := by
      rcases (show i = 0 ∨ i = 1 ∨ i = 2 ∨ i = 3 ∨ i = 4 ∨ i = 5 ∨ i = 6 ∨ i = 7 ∨ i = 8 ∨ i = 9 ∨ i = 10 ∨ i = 11 ∨ i = 12 ∨ i = 13 ∨ i = 14 ∨ i = 15 ∨ i = 16 ∨ i = 17 ∨ i = 18 ∨ i = 19 ∨ i = 20 ∨ i = 21 ∨ i = 22 ∨ i = 23 ∨ i = 24 ∨ i = 25 ∨ i = 26 ∨ i = 27 ∨ i = 28 ∨ i = 29 ∨ i = 30 ∨ i = 31 ∨ i = 32 ∨ i = 33 ∨ i = 34 ∨ i = 35 ∨ i = 36 ∨ i = 37 ∨ i = 38 ∨ i = 39 ∨ i = 40 ∨ i = 41 ∨ i = 42 ∨ i = 43 ∨ i = 44 ∨ i = 45 ∨ i = 46 ∨ i = 47 ∨ i = 48 ∨ i = 49 ∨ i = 50 ∨ i = 51 by omega) with rfl | rfl | rfl | rfl | rfl | rfl | rfl | rfl | rfl | rfl | rfl | rfl | rfl | rfl | rfl | rfl | rfl | rfl | rfl | rfl | rfl | rfl | rfl | rfl | rfl | rfl | rfl | rfl | rfl | rfl | rfl | rfl | rfl | rfl | rfl | rfl | rfl | rfl | rfl | rfl | rfl | rfl | rfl | rfl | rfl | rfl | rfl | rfl | rfl | rfl | rfl | rfl <;> exact ⟨_, rfl⟩
    obtain ⟨x, hx⟩ := key
    exact hD.2 i _ hx
theorem miL_5 : MthI RL 27 yX5_init cX5_init 1 := ⟨⟨⟨by decide +kernel, by decide +kernel, by decide +kernel⟩, Nat.le_of_ble_eq_true rfl, (lw_mem 25 (by decide +kernel) (by decide +kernel)), (lw_mem 13 (by decide +kernel) (by decide +kernel)), Or.inl (lw_mem 23 (by decide +kernel) (by decide +kernel))⟩, by decide +kernel, (lw_mem 24 (by decide +kernel) (by decide +kernel)), (lw_mem 23 (by decide +kernel) (by decide +kernel))⟩
/-- the law's end -/
theorem law_end {p : Program} {l : Launch} {e : Env} {s : State} {m : MethodId} {below : List Frame} {meth : Method} {c : Code} {b C S : Nat} {D : va_G} {ad : Nat → Nat} {cs : Nat → ClassId} (hx : p.tables.exec = Jvm.exec) (hb : c.code = code) (hr : meth.sig.returnType = ret) (hlocks : meth.locks = false) (h1 : C ≤ 600000) (h2 : S ≤ 7302250) (ls : List (Option Value)) (σ : Mem) : Lw (p, l, e, room_1, s, m, #[Value.ref b], below, meth, c, C, S, lw_Z below #[Value.ref b] s, (fun q => s.heap.size ≤ q), D, ad, cs, s.heap) 915 ls [.int (nI 1)] σ := by
  intro H locs lsA hP hS hl
  refine va_forget (fun q hq => hS.2.2 q hq) ?_
  refine W.widen (k := 600000) (n := 7302250) h1 h2 ?_
  have e1 : nI 1 = 1 := by decide +kernel
  show W p l e room_1 s m #[Value.ref b] below meth c H [] 600000 7302250 _ (F0 m 915 lsA [.int (nI 1)])
  rw [e1]
  exact lw_ret hx hb hr hlocks dL_law_915
set_option maxRecDepth 100000 in
set_option maxHeartbeats 8000000 in
theorem law_mid {p : Program} {l : Launch} {e : Env} {s : State} {m : MethodId} {below : List Frame} {meth : Method} {c : Code} {b C S : Nat} {D : va_G} {ad : Nat → Nat} {cs : Nat → ClassId} {L : Nat} {xs : Nat → Int32} {σ : Mem} (hx : p.tables.exec = Jvm.exec) (hb : c.code = code) (hr : meth.sig.returnType = ret) (hlocks : meth.locks = false) (h1 : C + 1 ≤ 600000) (h2 : S + 12 ≤ 7302250)
    (hX : Cok (p, l, e, room_1, s, m, #[Value.ref b], below, meth, c, C, S, lw_Z below #[Value.ref b] s, (fun q => s.heap.size ≤ q), D, ad, cs, s.heap) RL cL_law 15) (hs : Scr (p, l, e, room_1, s, m, #[Value.ref b], below, meth, c, C, S, lw_Z below #[Value.ref b] s, (fun q => s.heap.size ≤ q), D, ad, cs, s.heap) L xs) (hL : L < 2 ^ 31) (hσ : SI L xs σ 0) :
    Vw (p, l, e, room_1, s, m, #[Value.ref b], below, meth, c, C, S, lw_Z below #[Value.ref b] s, (fun q => s.heap.size ≤ q), D, ad, cs, s.heap) 8 [some (.ref 52), some (.ref 0), none, none, none, none, none, none, none, none, none, none, none, none, none] [] σ := by
  have hR : Rok (p, l, e, room_1, s, m, #[Value.ref b], below, meth, c, C, S, lw_Z below #[Value.ref b] s, (fun q => s.heap.size ≤ q), D, ad, cs, s.heap) 20 := ⟨Nat.le_of_ble_eq_true rfl, Nat.le_of_ble_eq_true rfl⟩
  have hn := nsN_le (L := L) (xs := xs)
  refine V_aload_n (pc := 8) (i := 1) hX dL_law_8 rfl rfl ?_
  refine V_aload_n (pc := 9) (i := 0) hX dL_law_9 rfl rfl ?_
  refine V_callSs (pc := 10) hX (hR.mono (by omega)) mL_28 hs (c_shop hL σ hσ) dL_law_10 rfl rfl rfl (Nat.le_of_ble_eq_true rfl) (fun r τ q => ?_)
  obtain ⟨rfl, hτ⟩ := q
  show Vw _ 13 _ [.int (nI (nsN L xs))] τ
  refine V_istore2 (pc := 13) hX dL_law_13 rfl ?_
  refine V_iload_n (pc := 14) (i := 2) hX dL_law_14 rfl rfl ?_
  refine V_iconst (pc := 15) (v := (nI 1)) hX dL_law_15 (by decide +kernel) ?_
  refine V_icmp_geN (pc := 16) (tgt := 21) hX dL_law_16 (by decide) (by omega) (by omega) (fun _ => ?_) (fun h16 => absurd h16 (by omega))
  refine V_iconst (pc := 21) (v := (nI 0)) hX dL_law_21 (by decide +kernel) ?_
  refine V_istore3 (pc := 22) hX dL_law_22 rfl ?_
  refine V_iconst (pc := 23) (v := (nI 0)) hX dL_law_23 (by decide +kernel) ?_
  refine V_istore4 (pc := 24) hX dL_law_24 rfl ?_
  refine V_iconst (pc := 26) (v := (nI 0)) hX dL_law_26 (by decide +kernel) ?_
  refine V_istore5 (pc := 27) hX dL_law_27 rfl ?_
  refine V_bipush (pc := 29) (v := (nI 12)) hX dL_law_29 (by decide +kernel) ?_
  refine V_newp (pc := 31) hX (fun _ h => h) (lw_mem 47 (by decide +kernel) (by decide +kernel)) dL_law_31 h1 h2 (fun _ => rfl) (fun h hA hnw => ?_)
  have hX2 : Cok (p, l, e, room_1, s, m, #[Value.ref b], below, meth, c, (C + 1), (S + 12), lw_Z below #[Value.ref b] s, (fun q => s.heap.size ≤ q), D, (adP ad h), cs, s.heap) RL cL_law 15 := by
    obtain ⟨x1, x2, x3, x4, x5, x6, x7, x8, x9, x10⟩ := hX
    exact ⟨x1, x2, x3, x4, x5, x6, fun i j hi hj q => x7 i j hi hj (by rw [adP_lt (by omega), adP_lt (by omega)] at q; exact q), fun i hi => by rw [adP_lt (by omega)]; exact x8 i hi, h1, h2⟩
  have hp2 : Pok (p, l, e, room_1, s, m, #[Value.ref b], below, meth, c, (C + 1), (S + 12), lw_Z below #[Value.ref b] s, (fun q => s.heap.size ≤ q), D, (adP ad h), cs, s.heap) := by
    refine ⟨?_, ?_⟩
    · show s.heap.size ≤ adP ad h 53
      rw [show adP ad h 53 = h from if_pos rfl]
      exact hA
    · rintro ⟨i, hi, q⟩
      rw [adP_lt (by omega), show adP ad h 53 = h from if_pos rfl] at q
      exact hnw ⟨i, hi, q⟩
  have hs2 : Scr (p, l, e, room_1, s, m, #[Value.ref b], below, meth, c, (C + 1), (S + 12), lw_Z below #[Value.ref b] s, (fun q => s.heap.size ≤ q), D, (adP ad h), cs, s.heap) L xs := by
    show va_X (adP ad h 52) L xs s s.heap ∧ adP ad h 52 < s.heap.size ∧ ¬ s.heap.size ≤ adP ad h 52
    rw [adP_lt (by omega)]
    exact hs
  have hR2 : Rok (p, l, e, room_1, s, m, #[Value.ref b], below, meth, c, (C + 1), (S + 12), lw_Z below #[Value.ref b] s, (fun q => s.heap.size ≤ q), D, (adP ad h), cs, s.heap) 20 := ⟨Nat.le_of_ble_eq_true rfl, Nat.le_of_ble_eq_true rfl⟩
  refine L_astore (pc := 33) (i := 6) hX2 dL_law_33 rfl (Nat.le_of_ble_eq_true rfl) rfl ?_
  refine L_iconst (pc := 35) (v := (nI 0)) hX2 dL_law_35 (by decide +kernel) ?_
  refine L_istore7 (pc := 36) hX2 dL_law_36 rfl ?_
  exact l_38 hX2 hp2 hR2 hs2 hL hτ (fun ls ρ _ => law_end hx hb hr hlocks h1 h2 ls ρ)
set_option maxRecDepth 100000 in
set_option maxHeartbeats 8000000 in
theorem start_walk {p : Program} {e : Env} {s : State} {m : MethodId} {below : List Frame} {meth : Method} {c : Code} (l : Launch) {b L : Nat} {xs : Nat → Int32} (hL : L ≤ 260) (C0 : lw_At p s m meth c b L xs) : W p l e room_1 s m #[Value.ref b] below meth c s.heap [] 0 0 (lw_Z below #[Value.ref b] s) (entryFrame m ([Value.ref b] : List Value).toArray 15) := by
  obtain ⟨hx, hb, hr, hml, hown, hts, hX, hbl, hlocks, hgv⟩ := id C0
  have htw : ∀ w ∈ lw_w, w.before #[Value.ref b] s = true := fun w hw => hts w (List.mem_filter.mp hw).1
  obtain ⟨c0, i0, hk0⟩ := u_known (C := RX0) (T := TX0) (N := 2) (n := 2) htw iuX0 (htw _ (lw_mem 169 (by decide +kernel) (by decide +kernel)))
  obtain ⟨c1, i1, hk1⟩ := u_known (C := RX1) (T := TX1) (N := 11) (n := 11) htw iuX1 (htw _ (lw_mem 92 (by decide +kernel) (by decide +kernel)))
  obtain ⟨c2, i2, hk2⟩ := u_known (C := RX2) (T := TX2) (N := 9) (n := 9) htw iuX2 (htw _ (lw_mem 49 (by decide +kernel) (by decide +kernel)))
  obtain ⟨c3, i3, hk3⟩ := u_known (C := RX3) (T := TX3) (N := 3) (n := 3) htw iuX3 (htw _ (lw_mem 30 (by decide +kernel) (by decide +kernel)))
  obtain ⟨c4, i4, hk4⟩ := u_known (C := RX4) (T := TX4) (N := 12) (n := 12) htw iuX4 (htw _ (lw_mem 130 (by decide +kernel) (by decide +kernel)))
  obtain ⟨c5, i5, hk5⟩ := u_known (C := RX5) (T := TX5) (N := 6) (n := 6) htw iuX5 (htw _ (lw_mem 22 (by decide +kernel) (by decide +kernel)))
  obtain ⟨dC, dI, hKc⟩ : ∃ (dC : Nat → ClassId) (dI : Nat → Nat → Nat), ∀ (k : Nat) (q : vw_C), vwCl[k]? = some q → u_Kn s q.1 q.2.1 q.2.2 (dC k) (dI k) := by
    refine ⟨fun k => [c0, c1, c2, c3, c4, c5].getD k c0, fun k => [i0, i1, i2, i3, i4, i5].getD k i0, ?_⟩
    intro k q hq
    match k, hq with
    | 0, hq => cases hq; exact hk0
    | 1, hq => cases hq; exact hk1
    | 2, hq => cases hq; exact hk2
    | 3, hq => cases hq; exact hk3
    | 4, hq => cases hq; exact hk4
    | 5, hq => cases hq; exact hk5
    | k + 6, hq => simp [vwCl] at hq
  obtain ⟨cI, kI, pI, hI1, hI2, hI3⟩ := Cond.arrayClass_spec (type := .int) (htw (Cond.arrayClass .int) (lw_mem 47 (by decide +kernel) (by decide +kernel)))
  obtain ⟨cZ, kZ, pZ, hZ1, hZ2, hZ3⟩ := Cond.arrayClass_spec (type := .boolean) (htw (Cond.arrayClass .boolean) (lw_mem 128 (by decide +kernel) (by decide +kernel)))
  have hao0 := hts (Cond.arrayOver (.array .int)) (List.mem_of_getElem? (i := 36) (by decide +kernel))
  have hao : AOI s := AOI.of hao0
  obtain ⟨pR, cR, kR, -, -, hR2, hR3, hR1⟩ := Stand.arrayOver_specB hao0
  have hK : va_K (dC, dI) vwCl (tys3 (fun i => if i = 0 then cI else if i = 1 then cZ else cR)) s := by
    refine ⟨hKc, fun k q hk => ?_⟩
    match k, hk with
    | 0, hk => cases hk; exact ⟨fun n z => ⟨fun k h => (by cases h), kI, hI2, pI, hI3⟩, hI1⟩
    | 1, hk => cases hk; exact ⟨fun n z => ⟨fun k h => (by cases h), kZ, hZ2, pZ, hZ3⟩, hZ1⟩
    | 2, hk => cases hk; exact ⟨fun n z => ⟨fun k h => (by cases h), kR, hR2, pR, hR3⟩, hR1⟩
    | k + 3, hk => simp [tys3] at hk
  generalize (fun i => if i = 0 then cI else if i = 1 then cZ else cR) = cs at hK
  have hl := lv_entry ([.ref b]) (n := 15) (Nat.le_of_ble_eq_true rfl)
  rw [lg_entry_eq]
  generalize (lg_sl ([.ref b]) ++ List.replicate (15 - (lg_sl ([.ref b])).length) Slot.unset).toArray = ls at hl ⊢
  have hl : lv_has ls 15 [(0, .ref b)] := hl
  have main : ∀ X : NC, X = (p, l, e, room_1, s, m, #[Value.ref b], below, meth, c, lw_Z below #[Value.ref b] s, (fun q => s.heap.size ≤ q), (dC, dI), cs, s.heap) → Nw X 15 0 0 0 [(0, .ref b)] [] [] := by
    intro X eX
    have hN : Nok X RL cL_law 15 := by subst eX; exact ⟨hx, hb, hml, hown, htw, hK, hao, fun _ h => h⟩
    have hRm : Nrm X 20 600000 7302250 := by subst eX; exact ⟨Nat.le_of_ble_eq_true rfl, Nat.le_of_ble_eq_true rfl, Nat.le_of_ble_eq_true rfl, Nat.le_of_ble_eq_true rfl⟩
    refine N_new (pc := 0) (ci := 5) (fs := [.null, .null, .null, .null, .null, .int 0]) (N := 6) (T := TX5) (C := RX5) hN hRm iuX5 tyX5_ok (lw_mem 21 (by decide +kernel) (by decide +kernel)) (lw_mem 22 (by decide +kernel) (by decide +kernel)) (lw_mem 13 (by decide +kernel) (by decide +kernel)) rfl (by decide +kernel) dL_law_0 (Nat.le_of_ble_eq_true rfl) (Nat.le_of_ble_eq_true rfl) (fun qb => ?_)
    refine N_dup (pc := 3) hN dL_law_3 rfl ?_
    refine N_init (pc := 4) (wr := []) hN hRm miL_5 k_X5 dL_law_4 (by decide) (Nat.le_of_ble_eq_true rfl) (Nat.le_of_ble_eq_true rfl) (Nat.le_of_ble_eq_true rfl) rfl (fun w1 hw1 => ?_)
    obtain ⟨q5_a, q9_9_a, r9_9_a, q19_9_a, q27_9_a, q16_a, q7_20_a, q15_20_a, q23_20_a, q27_a, q6_31_a, q13_31_a, q22_31_a, q31_31_a, q40_31_a, q47_31_a, q38_a, q9_42_a, r9_42_a, q19_42_a, q27_42_a, q37_42_a, r37_42_a, q47_42_a, q49_a, q7_53_a, rfl⟩ := hw1
    refine N_astore (pc := 7) (i := 1) (ls' := [(1, .ref qb), (0, .ref b)]) hN dL_law_7 rfl (by decide) rfl ?_
    subst eX
    intro H locs lsA hP hD hS hl
    have hP2 : va_P (dC, dI) vwCl (wsL qb q5_a q9_9_a r9_9_a q19_9_a q27_9_a q16_a q7_20_a q15_20_a q23_20_a q27_a q6_31_a q13_31_a q22_31_a q31_31_a q40_31_a q47_31_a q38_a q9_42_a r9_42_a q19_42_a q27_42_a q37_42_a r37_42_a q47_42_a q49_a q7_53_a cs) H := hP.sub [0, 1, 13, 17, 24, 50, 2, 3, 4, 5, 6, 7, 8, 9, 10, 11, 12, 14, 15, 16, 18, 19, 20, 21, 22, 23, 25, 26, 27, 28, 29, 30, 31, 32, 33, 34, 35, 36, 37, 38, 39, 40, 41, 42, 43, 44, 45, 46, 47, 48, 49, 51] rfl
    have hD2 : va_D (fun q => s.heap.size ≤ q) (wsL qb q5_a q9_9_a r9_9_a q19_9_a q27_9_a q16_a q7_20_a q15_20_a q23_20_a q27_a q6_31_a q13_31_a q22_31_a q31_31_a q40_31_a q47_31_a q38_a q9_42_a r9_42_a q19_42_a q27_42_a q37_42_a r37_42_a q47_42_a q49_a q7_53_a cs) := hD.sub [0, 1, 13, 17, 24, 50, 2, 3, 4, 5, 6, 7, 8, 9, 10, 11, 12, 14, 15, 16, 18, 19, 20, 21, 22, 23, 25, 26, 27, 28, 29, 30, 31, 32, 33, 34, 35, 36, 37, 38, 39, 40, 41, 42, 43, 44, 45, 46, 47, 48, 49, 51] (by decide +kernel) rfl
    obtain ⟨hP3, hinj, hA3⟩ := wsL_wl qb q5_a q9_9_a r9_9_a q19_9_a q27_9_a q16_a q7_20_a q15_20_a q23_20_a q27_a q6_31_a q13_31_a q22_31_a q31_31_a q40_31_a q47_31_a q38_a q9_42_a r9_42_a q19_42_a q27_42_a q37_42_a r37_42_a q47_42_a q49_a q7_53_a cs b hP2 hD2
    refine law_mid (D := (dC, dI)) (ad := fun i => (adL qb q5_a q9_9_a r9_9_a q19_9_a q27_9_a q16_a q7_20_a q15_20_a q23_20_a q27_a q6_31_a q13_31_a q22_31_a q31_31_a q40_31_a q47_31_a q38_a q9_42_a r9_42_a q19_42_a q27_42_a q37_42_a r37_42_a q47_42_a q49_a q7_53_a b).getD i 0) (L := L) (xs := xs) hx hb hr hlocks ?_ ?_ ⟨hx, hb, hml, hown, htw, hK, hinj, hA3, ?_, ?_⟩ ⟨hX, hbl, Nat.not_le.mpr hbl⟩ (by omega) (SI_0 L xs) H locs lsA hP3 hS ?_
    · exact Nat.le_of_ble_eq_true rfl
    · exact Nat.le_of_ble_eq_true rfl
    · exact Nat.le_of_ble_eq_true rfl
    · exact Nat.le_of_ble_eq_true rfl
    · exact lv_keep hl (fun q hq => by
        rcases (show q = (0, Value.ref b) ∨ q = (1, Value.ref qb) by simpa [lvl, cvv, adL] using hq) with rfl | rfl <;> simp)
  exact main _ rfl s.heap [] ls (fun k q h => by simp at h) ⟨fun i j p q h => by simp at h, fun k q h => by simp at h⟩ va_S.rf hl
