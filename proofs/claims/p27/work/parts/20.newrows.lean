/-! ===== the constructors: worlds that grow ===== -/
abbrev NC : Type := Program × Launch × Env × Room × State × MethodId × Array Value × List Frame × Method × Code × (State → Prop) × (Nat → Prop) × va_G × (Nat → ClassId) × Heap
def AOI (U : State) : Prop := (Cond.arrayOver (.array .int)).before #[] U = true
theorem AOI.moved {u U : State} (hvm : u.vm.Alike U.vm) (h : AOI u) : AOI U := Stand.arrayOver_alikeB hvm h
theorem AOI.use {A : Array Value} {U : State} (h : AOI U) : (Cond.arrayOver (.array .int)).before A U = true := Stand.arrayOver_alikeB (Vm.Alike.refl U.vm) h
theorem AOI.of {A : Array Value} {U : State} (h : (Cond.arrayOver (.array .int)).before A U = true) : AOI U := Stand.arrayOver_alikeB (Vm.Alike.refl U.vm) h
def Nw (X : NC) (nL cells slots pc : Nat) (ls : List (Nat × Value)) (st : List Value) (ws : va_W) : Prop := match X with
  | (p, l, e, R, s, m, args, below, meth, c, Q, A, D, _, H0) => ∀ (H : Heap) (locs : List Loc) (lsA : Array Slot), va_P D vwCl ws H → va_D A ws → va_S A H0 H locs → lv_has lsA nL ls → W p l e R s m args below meth c H locs cells slots Q (F0 m pc lsA st)
def Nok (X : NC) (own : String) (cc : ByteArray) (nL : Nat) : Prop := match X with
  | (p, _, _, _, s, m, args, _, _, c, _, A, D, cs, H0) => p.tables.exec = Jvm.exec ∧ c.code = cc ∧ c.maxLocals = nL ∧ s.vm.findClass own = some m.cls ∧ (∀ w ∈ lw_w, w.before args s = true) ∧ va_K D vwCl (tys3 cs) s ∧ AOI s ∧ (∀ q, H0.size ≤ q → A q)
def Nin (X : NC) : Prop := match X with
  | (_, _, _, _, _, _, _, _, meth, _, _, _, _, _, _) => meth.name = "<init>"
def Nrm (X : NC) (d C S : Nat) : Prop := match X with
  | (_, _, _, R, _, _, _, _, _, _, _, _, _, _, _) => d ≤ R.frames ∧ 40 * d ≤ R.locals ∧ C ≤ R.cells ∧ S ≤ R.slots
def Ncs (X : NC) : Nat → ClassId := match X with
  | (_, _, _, _, _, _, _, _, _, _, _, _, _, cs, _) => cs
theorem Nw.ws {X : NC} {nL cells slots pc : Nat} {ls : List (Nat × Value)} {st : List Value} {ws ws' : va_W} (e : ws = ws') (kk : Nw X nL cells slots pc ls st ws') : Nw X nL cells slots pc ls st ws := by rw [e]; exact kk
section NROWS
variable {X : NC} {own : String} {cc : ByteArray} {nL cells slots pc : Nat} {ls : List (Nat × Value)} {st : List Value} {ws : va_W}
theorem N_aload {k : Fin 4} {i a : Nat} (hX : Nok X own cc nL) (hd : decode cc pc = .ok (.aload_n k, 1)) (hi : (k : Nat) = i) (j : Nat) (h : ls[j]? = some (i, .ref a)) (kk : Nw X nL cells slots (pc + 1) ls (.ref a :: st) ws) : Nw X nL cells slots pc ls st ws := by
  obtain ⟨p, l, e, R, s, m, args, below, meth, c, Q, A, D, cs, H0⟩ := X
  intro H locs lsA hP hD hS hl
  exact lv_aload_n hX.1 hX.2.1 hd hi (lv_at hl j h) (kk H locs lsA hP hD hS hl)
theorem N_iload {k : Fin 4} {i : Nat} {x : Int32} (hX : Nok X own cc nL) (hd : decode cc pc = .ok (.iload_n k, 1)) (hi : (k : Nat) = i) (j : Nat) (h : ls[j]? = some (i, .int x)) (kk : Nw X nL cells slots (pc + 1) ls (.int x :: st) ws) : Nw X nL cells slots pc ls st ws := by
  obtain ⟨p, l, e, R, s, m, args, below, meth, c, Q, A, D, cs, H0⟩ := X
  intro H locs lsA hP hD hS hl
  exact lv_iload_n hX.1 hX.2.1 hd hi (lv_at hl j h) (kk H locs lsA hP hD hS hl)
theorem N_iconst {n : Int} {v : Int32} (hX : Nok X own cc nL) (hd : decode cc pc = .ok (.iconst n, 1)) (hv : Int32.ofInt n = v) (kk : Nw X nL cells slots (pc + 1) ls (.int v :: st) ws) : Nw X nL cells slots pc ls st ws := by
  obtain ⟨p, l, e, R, s, m, args, below, meth, c, Q, A, D, cs, H0⟩ := X
  intro H locs lsA hP hD hS hl
  exact lv_iconst hX.1 hX.2.1 hd hv (kk H locs lsA hP hD hS hl)
theorem N_bipush {n : Int} {v : Int32} (hX : Nok X own cc nL) (hd : decode cc pc = .ok (.bipush n, 2)) (hv : (Int8.ofInt n).toInt32 = v) (kk : Nw X nL cells slots (pc + 2) ls (.int v :: st) ws) : Nw X nL cells slots pc ls st ws := by
  obtain ⟨p, l, e, R, s, m, args, below, meth, c, Q, A, D, cs, H0⟩ := X
  intro H locs lsA hP hD hS hl
  exact lv_bipush hX.1 hX.2.1 hd hv (kk H locs lsA hP hD hS hl)
theorem N_sipush {n : Int} {v : Int32} (hX : Nok X own cc nL) (hd : decode cc pc = .ok (.sipush n, 3)) (hv : (Int16.ofInt n).toInt32 = v) (kk : Nw X nL cells slots (pc + 3) ls (.int v :: st) ws) : Nw X nL cells slots pc ls st ws := by
  obtain ⟨p, l, e, R, s, m, args, below, meth, c, Q, A, D, cs, H0⟩ := X
  intro H locs lsA hP hD hS hl
  exact lv_sipush hX.1 hX.2.1 hd hv (kk H locs lsA hP hD hS hl)
theorem N_dup {v : Value} (hX : Nok X own cc nL) (hd : decode cc pc = .ok (.dup, 1)) (hc : v.category = 1) (kk : Nw X nL cells slots (pc + 1) ls (v :: v :: st) ws) : Nw X nL cells slots pc ls (v :: st) ws := by
  obtain ⟨p, l, e, R, s, m, args, below, meth, c, Q, A, D, cs, H0⟩ := X
  intro H locs lsA hP hD hS hl
  exact lv_dup hX.1 hX.2.1 hd hc (kk H locs lsA hP hD hS hl)
theorem N_goto {off : Int} {tgt : Nat} (hX : Nok X own cc nL) (hd : decode cc pc = .ok (.goto off, 3)) (ht : (pc : Int) + off = (tgt : Int)) (kk : Nw X nL cells slots tgt ls st ws) : Nw X nL cells slots pc ls st ws := by
  obtain ⟨p, l, e, R, s, m, args, below, meth, c, Q, A, D, cs, H0⟩ := X
  intro H locs lsA hP hD hS hl
  exact lv_goto hX.1 hX.2.1 hd ht (kk H locs lsA hP hD hS hl)
theorem N_icmp_ge {x y : Int32} {off : Int} {tgt : Nat} (hX : Nok X own cc nL) (hd : decode cc pc = .ok (.if_icmp .ge off, 3)) (ht : (pc : Int) + off = (tgt : Int)) (kt : y ≤ x → Nw X nL cells slots tgt ls st ws) (kf : ¬ y ≤ x → Nw X nL cells slots (pc + 3) ls st ws) : Nw X nL cells slots pc ls (.int y :: .int x :: st) ws := by
  obtain ⟨p, l, e, R, s, m, args, below, meth, c, Q, A, D, cs, H0⟩ := X
  intro H locs lsA hP hD hS hl
  exact lv_icmp_ge hX.1 hX.2.1 hd ht (fun h => kt h H locs lsA hP hD hS hl) (fun h => kf h H locs lsA hP hD hS hl)
theorem N_istore {k : Fin 4} {i : Nat} {x : Int32} {ls' : List (Nat × Value)} (hX : Nok X own cc nL) (hd : decode cc pc = .ok (.istore_n k, 1)) (hi : (k : Nat) = i) (hn : i < nL) (he : (i, Value.int x) :: ls.filter (fun q => !(q.1 == i) && !(q.1 + 1 == i && q.2.category == 2)) = ls') (kk : Nw X nL cells slots (pc + 1) ls' st ws) : Nw X nL cells slots pc ls (.int x :: st) ws := by
  obtain ⟨p, l, e, R, s, m, args, below, meth, c, Q, A, D, cs, H0⟩ := X
  intro H locs lsA hP hD hS hl
  exact lv_istore_n hX.1 hX.2.1 hd hi hl hn he (fun ls9 h9 => kk H locs ls9 hP hD hS h9)
theorem N_iinc {i : Nat} {n : Int} {x v : Int32} {ls' : List (Nat × Value)} (hX : Nok X own cc nL) (hd : decode cc pc = .ok (.iinc i n, 3)) (k : Nat) (hk : ls[k]? = some (i, .int x)) (hv : x + Int32.ofInt n = v) (hn : i < nL) (he : (i, Value.int v) :: ls.filter (fun q => !(q.1 == i) && !(q.1 + 1 == i && q.2.category == 2)) = ls') (kk : Nw X nL cells slots (pc + 3) ls' st ws) : Nw X nL cells slots pc ls st ws := by
  obtain ⟨p, l, e, R, s, m, args, below, meth, c, Q, A, D, cs, H0⟩ := X
  intro H locs lsA hP hD hS hl
  exact lv_iinc hX.1 hX.2.1 hd hl hk hv hn he (fun ls9 h9 => kk H locs ls9 hP hD hS h9)
theorem N_objInit {index : Nat} {a : Nat} {d C S : Nat} (hX : Nok X own cc nL) (hR : Nrm X d C S) (hd0 : 1 ≤ d) (h1 : Cond.methodLink own index objectInit ∈ lw_w) (h2 : Cond.instanceMethod objectInit ∈ lw_w) (h3 : Cond.code objectInit ⟨#[0xb1]⟩ 1 none ∈ lw_w) (hd : decode cc pc = .ok (.invokespecial index, 3)) (kk : Nw X nL cells slots (pc + 3) ls [] ws) : Nw X nL cells slots pc ls [.ref a] ws := by
  obtain ⟨p, l, e, R, s, m, args, below, meth, c, Q, A, D, cs, H0⟩ := X
  intro H locs lsA hP hD hS hl
  obtain ⟨hx, hb, hml, hown, hts, hK, hao, hA⟩ := hX
  obtain ⟨r1, r2, r3, r4⟩ := hR
  refine W.objInit hx hb hown (hts _ h1) (hts _ h2) (hts _ h3) rfl (by rw [hml]; exact hl.1) rfl hd (by omega) (by
    have e1 : (F0 m pc lsA [Value.ref a]).monitorRoom = 0 := rfl
    have e2 : (List.map (fun v : Value => v.category) ([] : List Value)).sum = 0 := rfl
    omega) ?_
  exact W.eq (g2 := F0 m (pc + 3) lsA []) rfl (kk H locs lsA hP hD hS hl)
/-- the address, the class's number, the fields; then the other cells -/
theorem N_putF {index ci k a : Nat} {fs fs2 : List Value} {wr : va_W} {v : Value} {ty : FieldType} (hX : Nok X own cc nL) (hI : Nin X) (hf : Fld own index ci k) (hq : ∀ (C : String) (T : u_T) (N : Nat), vwCl[ci]? = some (C, T, N) → (T k).2.2.2 = true ∧ (T k).1 = own ∧ parseFieldDescriptor (T k).2.2.1 = some ty) (hlk : ∀ (C : String) (T : u_T) (N : Nat), vwCl[ci]? = some (C, T, N) → Cond.fieldLink own index (T k).1 (T k).2.1 (T k).2.2.1 ∈ lw_w) (hn : narrow ty v = v) (hfit : fits ty v = true) (hl0 : k < fs.length) (he : fs.set k v = fs2) (hd : decode cc pc = .ok (.putfield index, 3)) (kk : Nw X nL cells slots (pc + 3) ls st ((a, .inr (ci, fs2)) :: wr)) : Nw X nL cells slots pc ls (v :: .ref a :: st) ((a, .inr (ci, fs)) :: wr) := by
  obtain ⟨p, l, e, R, s, m, args, below, meth, c, Q, A, D, cs, H0⟩ := X
  intro H locs lsA hP hD hS hl
  subst he
  obtain ⟨C, T, N, hc, hk, hin, ⟨ty0, hty⟩, hnm, -⟩ := hf
  obtain ⟨hx, hb, hml, hown, hts, hK, hao, hA⟩ := hX
  obtain ⟨q1, q2, q3⟩ := hq C T N hc
  exact va_putF hx hb hts hin ty0 hty hnm hown hK hP hD hS 0 rfl hc k hk (hts _ (hlk C T N hc)) (fun _ h => h) q1 hI q2 q3 hn hfit hl0 hd (fun H1 locs1 hP1 hD1 hS1 => kk H1 locs1 lsA hP1 hD1 hS1 hl)
theorem N_puti {index ci k a : Nat} {fs fs2 : List Value} {wr : va_W} {x : Int32} (hX : Nok X own cc nL) (hf : Fld own index ci k) (hi : Fint ci k) (hl0 : k < fs.length) (he : fs.set k (.int x) = fs2) (hd : decode cc pc = .ok (.putfield index, 3)) (kk : Nw X nL cells slots (pc + 3) ls st ((a, .inr (ci, fs2)) :: wr)) : Nw X nL cells slots pc ls (.int x :: .ref a :: st) ((a, .inr (ci, fs)) :: wr) := by
  obtain ⟨p, l, e, R, s, m, args, below, meth, c, Q, A, D, cs, H0⟩ := X
  intro H locs lsA hP hD hS hl
  subst he
  obtain ⟨C, T, N, hc, hk, hin, ⟨ty, hty⟩, hnm, hlink⟩ := hf
  obtain ⟨hx, hb, hml, hown, hts, hK, hao, hA⟩ := hX
  rcases hlink with hlink | ⟨host, hlink⟩
  · exact va_put hx hb hts hin ty hty hnm hown hK hP hD hS 0 rfl hc k hk (hts _ hlink) (fun _ h => h) (hi C T N hc).1 (hi C T N hc).2 (show narrow .int (.int x) = .int x from rfl) (show fits .int (.int x) = true from rfl) hl0 hd (fun H1 locs1 hP1 hD1 hS1 => kk H1 locs1 lsA hP1 hD1 hS1 hl)
  · exact va_putN hx hb hts hin ty hty hnm hown hK hP hD hS 0 rfl hc k hk (hts _ hlink) (fun _ h => h) (hi C T N hc).1 (hi C T N hc).2 (show narrow .int (.int x) = .int x from rfl) (show fits .int (.int x) = true from rfl) hl0 hd (fun H1 locs1 hP1 hD1 hS1 => kk H1 locs1 lsA hP1 hD1 hS1 hl)
theorem N_getr {index ci k a q : Nat} {fs : List Value} {wr : va_W} (hX : Nok X own cc nL) (hf : Fld own index ci k) (hd : decode cc pc = .ok (.getfield index, 3)) (hv : fs[k]? = some (.ref q)) (kk : Nw X nL cells slots (pc + 3) ls (.ref q :: st) ((a, .inr (ci, fs)) :: wr)) : Nw X nL cells slots pc ls (.ref a :: st) ((a, .inr (ci, fs)) :: wr) := by
  obtain ⟨p, l, e, R, s, m, args, below, meth, c, Q, A, D, cs, H0⟩ := X
  intro H locs lsA hP hD hS hl
  obtain ⟨C, T, N, hc, hk, hin, -, -, hlink⟩ := hf
  obtain ⟨hx, hb, hml, hown, hts, hK, hao, hA⟩ := hX
  rcases hlink with hlink | ⟨host, hlink⟩
  · exact va_get hx hb hts hin hown hK hP 0 rfl hc k hk (hts _ hlink) (fun _ h => h) hv hd (kk H locs lsA hP hD hS hl)
  · exact va_getN hx hb hts hin hown hK hP 0 rfl hc k hk (hts _ hlink) (fun _ h => h) hv hd (kk H locs lsA hP hD hS hl)
theorem N_iast {a n j : Nat} {f : Nat → Int32} {wr : va_W} {i x : Int32} (hX : Nok X own cc nL) (hd : decode cc pc = .ok (.iastore, 1)) (hi : i = nI j) (hj : j < n) (hn : n < 2 ^ 31) (hw : ws = wr ++ [(a, .inl (Ncs X 0, n, .inl f))]) (kk : Nw X nL cells slots (pc + 1) ls st (wr ++ [(a, .inl (Ncs X 0, n, .inl (upd f j x)))])) : Nw X nL cells slots pc ls (.int x :: .int i :: .ref a :: st) ws := by
  obtain ⟨p, l, e, R, s, m, args, below, meth, c, Q, A, D, cs, H0⟩ := X
  intro H locs lsA hP hD hS hl
  subst hi
  subst hw
  have hset : ∀ z : Nat × va_E, (wr ++ [(a, (.inl (cs 0, n, .inl f) : va_E))]).set wr.length z = wr ++ [z] := fun z => by rw [List.set_append_right _ _ (Nat.le_refl _), Nat.sub_self]; rfl
  have e2 : (wr ++ [(a, (.inl (cs 0, n, .inl f) : va_E))]).set wr.length (a, .inl (cs 0, n, .inl (upd f (nI j).toNatClampNeg x))) = wr ++ [(a, .inl (cs 0, n, .inl (upd f j x)))] := by rw [hset, nI_clamp (by omega)]
  exact va_iast hX.1 hX.2.1 hX.2.2.2.2.2.1 hP hD hS wr.length 0 (cA := cs 0) (n := n) (f := f) (by rw [List.getElem?_append_right (Nat.le_refl _), Nat.sub_self]; rfl) rfl (vp_in_nI hj hn) hd (fun H1 locs1 hP1 hD1 hS1 => kk H1 locs1 lsA (Eq.mp (congrArg (fun w => va_P D vwCl w H1) e2) hP1) (Eq.mp (congrArg (fun w => va_D A w) e2) hD1) hS1 hl)
theorem N_newI {n : Int32} {N d C S : Nat} (hX : Nok X own cc nL) (hR : Nrm X d C S) (harr : Cond.arrayClass .int ∈ lw_w) (hd : decode cc pc = .ok (.newarray .int, 2)) (hn : ¬ n < 0) (hN : n.toNatClampNeg = N) (hby : N * 4 ≤ 536870912) (h1 : cells + 1 ≤ C) (h2 : slots + N ≤ S) (kk : ∀ q : Nat, Nw X nL (cells + 1) (slots + N) (pc + 2) ls (.ref q :: st) (ws ++ [(q, .inl (Ncs X 0, N, .inl (fun _ => 0)))])) : Nw X nL cells slots pc ls (.int n :: st) ws := by
  obtain ⟨p, l, e, R, s, m, args, below, meth, c, Q, A, D, cs, H0⟩ := X
  intro H locs lsA hP hD hS hl
  obtain ⟨hx, hb, hml, hown, hts, hK, hao, hA⟩ := hX
  obtain ⟨r1, r2, r3, r4⟩ := hR
  refine va_newa hx hb (atype := .int) (hts _ harr) (ty := .int) rfl hK hP hD hS hA (a0 := (N, .inl (fun _ => 0))) (fun _ => rfl) hn hN hby (by omega) (by omega) hd (fun q cA H1 hK1 hP1 hD1 hS1 => ?_)
  have e1 : cA = cs 0 := Option.some.inj ((show s.vm.findClass _ = some cA from (hK1.2 3 _ rfl).2).symm.trans (hK.2 0 _ rfl).2)
  subst e1
  exact kk q H1 locs lsA hP1 hD1 hS1 hl
theorem N_newZ {n : Int32} {N d C S : Nat} (hX : Nok X own cc nL) (hR : Nrm X d C S) (harr : Cond.arrayClass .boolean ∈ lw_w) (hd : decode cc pc = .ok (.newarray .boolean, 2)) (hn : ¬ n < 0) (hN : n.toNatClampNeg = N) (hby : N * 1 ≤ 536870912) (h1 : cells + 1 ≤ C) (h2 : slots + N ≤ S) (kk : ∀ q : Nat, Nw X nL (cells + 1) (slots + N) (pc + 2) ls (.ref q :: st) (ws ++ [(q, .inl (Ncs X 1, N, .inl (fun _ => 0)))])) : Nw X nL cells slots pc ls (.int n :: st) ws := by
  obtain ⟨p, l, e, R, s, m, args, below, meth, c, Q, A, D, cs, H0⟩ := X
  intro H locs lsA hP hD hS hl
  obtain ⟨hx, hb, hml, hown, hts, hK, hao, hA⟩ := hX
  obtain ⟨r1, r2, r3, r4⟩ := hR
  refine va_newa hx hb (atype := .boolean) (hts _ harr) (ty := .boolean) rfl hK hP hD hS hA (a0 := (N, .inl (fun _ => 0))) (fun _ => rfl) hn hN hby (by omega) (by omega) hd (fun q cA H1 hK1 hP1 hD1 hS1 => ?_)
  have e1 : cA = cs 1 := Option.some.inj ((show s.vm.findClass _ = some cA from (hK1.2 3 _ rfl).2).symm.trans (hK.2 1 _ rfl).2)
  subst e1
  exact kk q H1 locs lsA hP1 hD1 hS1 hl
/-- rows of a row of rows -/
def rows (cs : Nat → ClassId) (r : Nat → Nat) (N K : Nat) : va_W := (List.range N).map (fun j => (r j, .inl (cs 0, K, .inl (fun _ => 0))))
def outr (cs : Nat → ClassId) (r : Nat → Nat) (N : Nat) : va_E := .inl (cs 2, N, .inr (.inr (.inr (.inr (fun i => if i < N then some (r i) else none)))))
theorem N_newR {index : Nat} {n k : Int32} {N K d C S : Nat} (hX : Nok X own cc nL) (hR : Nrm X d C S) (hcl : Cond.classLink own index "[[I" ∈ lw_w) (harr : Cond.arrayClass .int ∈ lw_w) (hd : decode cc pc = .ok (.multianewarray index 2, 4)) (hn : ¬ n < 0) (hk : ¬ k < 0) (hN : n.toNatClampNeg = N) (hKk : k.toNatClampNeg = K) (hb1 : N * 4 ≤ 536870912) (hb2 : K * 4 ≤ 536870912) (hb3 : K ≤ 536870912) (h1 : cells + (1 + N) ≤ C) (h2 : slots + (N + N * K) ≤ S) (kk : ∀ (q : Nat) (r : Nat → Nat), Nw X nL (cells + 1 + N) (slots + N + N * K) (pc + 4) ls (.ref q :: st) (ws ++ ((q, outr (Ncs X) r N) :: rows (Ncs X) r N K))) : Nw X nL cells slots pc ls (.int k :: .int n :: st) ws := by
  obtain ⟨p, l, e, R, s, m, args, below, meth, c, Q, A, D, cs, H0⟩ := X
  intro H locs lsA hP hD hS hl
  obtain ⟨hx, hb, hml, hown, hts, hK, hao, hA⟩ := hX
  obtain ⟨r1, r2, r3, r4⟩ := hR
  refine va_mna (X := ws) (L := []) (f := fun _ => .inl (cs 0, K, .inl (fun _ => 0))) (ty := .int) (cy := cs 0) hx hb hown (hts _ hcl) (AOI.use hao) (hts _ harr) (hK.2 0 _ rfl).2 hK (by show va_P _ _ (ws ++ []) _; rw [List.append_nil]; exact hP) (by show va_D _ (ws ++ []); rw [List.append_nil]; exact hD) hS hA (z := (K, .inl (fun _ => 0))) hn hk hN hKk hb1 hb2 hb3 rfl rfl (by omega) (by omega) (fun c => by rw [vp_cell_i, ← arrV_new]; rfl) hd (fun q r cA H1 hinj hnot hK1 hP1 hD1 hS1 => ?_)
  have e1 : cA = cs 2 := Option.some.inj ((show s.vm.findClass _ = some cA from (hK1.2 3 _ rfl).2).symm.trans (hK.2 2 _ rfl).2)
  subst e1
  have er : va_pl ([] ++ (List.range N).map r) (vr_up (fun _ => .inl (cs 0, K, .inl (fun _ => 0))) ((List.range N).map r) (.inl (cs 0, (K, .inl (fun _ => 0))))) = rows cs r N K := by
    rw [← vr_rows (L := []) (fun a _ h => by cases h)]
    show [] ++ ((List.range N).map r).map _ = _
    rw [List.nil_append, List.map_map]
    rfl
  rw [er, List.append_assoc] at hP1 hD1
  exact kk q r H1 locs lsA hP1 hD1 hS1 hl
theorem N_new {C : String} {T : u_T} {N ci index d Cc S : Nat} {fs : List Value} {ty : Nat → FieldType} (hX : Nok X own cc nL) (hR : Nrm X d Cc S) (hin : ∀ w ∈ u_ws C T N, w ∈ lw_w) (hty : ∀ k, k < N → parseFieldDescriptor (T k).2.2.1 = some (ty k)) (hcl : Cond.classLink own index C ∈ lw_w) (hinst : Cond.instantiable C N ∈ lw_w) (hini : Cond.initialized C ∈ lw_w) (hc : vwCl[ci]? = some (C, T, N)) (hfs : ∀ j, j < N → defaultValue (ty j) = vp_V fs j) (hd : decode cc pc = .ok (.new index, 3)) (h1 : cells + 1 ≤ Cc) (h2 : slots + N ≤ S) (kk : ∀ q : Nat, Nw X nL (cells + 1) (slots + N) (pc + 3) ls (.ref q :: st) (ws ++ [(q, .inr (ci, fs))])) : Nw X nL cells slots pc ls st ws := by
  obtain ⟨p, l, e, R, s, m, args, below, meth, c, Q, A, D, cs, H0⟩ := X
  intro H locs lsA hP hD hS hl
  obtain ⟨hx, hb, hml, hown, hts, hK, hao, hA⟩ := hX
  obtain ⟨r1, r2, r3, r4⟩ := hR
  exact va_new hx hb hts hin ty hty hown (hts _ hcl) (hts _ hinst) (hts _ hini) hK hP hD hS hA hc hfs (by omega) (by omega) hd (fun q H1 hP1 hD1 hS1 => kk q H1 locs lsA hP1 hD1 hS1 hl)
end NROWS
/-- a constructor's contract: from one cell with its default fields to the world P -/
def Kpre (D : va_G) (cs : Nat → ClassId) (h0 sz ci : Nat) (fs0 : List Value) (U : State) : Prop := U.heap.size = sz ∧ va_P D vwCl [(h0, .inr (ci, fs0))] U.heap ∧ va_K D vwCl (tys3 cs) U ∧ AOI U ∧ va_D (fun _ => True) [(h0, .inr (ci, fs0))]
def Kpost (D : va_G) (cs : Nat → ClassId) (h0 sz ci : Nat) (fs0 : List Value) (w : va_W) (t : State) : Prop := va_P D vwCl w t.heap ∧ va_K D vwCl (tys3 cs) t ∧ va_D (va_A [(h0, .inr (ci, fs0))] sz) w
def Krm (d mc ms : Nat) : Room := { frames := d, cells := mc, slots := ms, locals := 40 * d }
def Kc (y : MethodName) (cc : ByteArray) (mx d mc ms ci : Nat) (fs0 : List Value) (P : (Nat → ClassId) → Nat → va_W → Prop) : Prop :=
  ∀ (l : Launch) (D : va_G) (cs : Nat → ClassId) (h0 sz : Nat), Met l y (Cond.code y cc mx none :: lw_w) (Krm d mc ms) (va_Pc [.ref h0] (Kpre D cs h0 sz ci fs0)) (va_Qv (P cs h0) (Kpost D cs h0 sz ci fs0) (va_A [(h0, .inr (ci, fs0))] sz)) mc ms (va_A [(h0, .inr (ci, fs0))] sz)
def NRet (X : NC) (mc ms : Nat) (P : va_W → Prop) : Prop := match X with
  | (_, _, _, _, s, _, args, below, meth, _, Q, A, D, cs, H0) => meth.sig.returnType = none ∧ meth.locks = false ∧ H0 = s.heap ∧ ∃ (h0 ci : Nat) (fs0 : List Value), A = va_A [(h0, .inr (ci, fs0))] s.heap.size ∧ Q = MQ below (va_Qv P (Kpost D cs h0 s.heap.size ci fs0) A) args s mc ms A
theorem N_ret {X : NC} {own : String} {cc : ByteArray} {nL cells slots pc mc ms : Nat} {ls : List (Nat × Value)} {ws : va_W} {P : va_W → Prop} (hX : Nok X own cc nL) (hr : NRet X mc ms P) (h1 : cells = mc) (h2 : slots = ms) (hd : decode cc pc = .ok (.return_, 1)) (hp : P ws) : Nw X nL cells slots pc ls [] ws := by
  obtain ⟨p, l, e, R, s, m, args, below, meth, c, Q, A, D, cs, H0⟩ := X
  intro H locs lsA hP hD hS hl
  subst h1; subst h2
  obtain ⟨a1, a2, a3, h0, ci, fs0, a4, a5⟩ := hr
  subst a3; subst a4; subst a5
  exact W.vret hX.1 hX.2.1 a1 (fun t ht hW => ⟨⟨ws, rfl, hp, by rw [ht]; exact hP, va_K.moved hW.alike hX.2.2.2.2.2.1, hD⟩, hS.F ht⟩) hS.2.2 hd (hlocks := a2)
theorem Kc.intro {y : MethodName} {cc : ByteArray} {mx d mc ms ci : Nat} {fs0 : List Value} {P : (Nat → ClassId) → Nat → va_W → Prop} (hy : plainName y.cls = true) (hin : y.name = "<init>") (hmx : 1 ≤ mx) (h : ∀ (X : NC) (h0 : Nat), Nok X y.cls cc mx → Nin X → Nrm X d mc ms → NRet X mc ms (P (Ncs X) h0) → Nw X mx 0 0 0 [(0, .ref h0)] [] [(h0, .inr (ci, fs0))]) : Kc y cc mx d mc ms ci fs0 P := by
  intro l D cs h0 sz
  refine Met.ofW (cc := cc) (maxL := mx) (ret := none) hy rfl ?_
  intro p e s m args' below meth c s₁ B hml hv
  obtain ⟨rfl, hsz, hP, hK, hao, hD0⟩ := hv
  have hts := atoms_spec (ws := Cond.code y cc mx none :: lw_w) B.pre
  have hown : s.vm.findClass y.cls = some m.cls := findClass_of_methodNamed B.named
  have hl := lv_entry ([.ref h0]) (n := mx) (by show 1 ≤ mx; exact hmx)
  rw [lg_entry_eq]
  generalize (lg_sl ([.ref h0]) ++ List.replicate (mx - (lg_sl ([.ref h0])).length) Slot.unset).toArray = ls at hl ⊢
  subst hsz
  exact h (p, l, e, (headSpec (Cond.code y cc mx none :: lw_w) (Krm d mc ms)).room, s, m, ([Value.ref h0]).toArray, below, meth, c, MQ below (va_Qv (P cs h0) (Kpost D cs h0 s.heap.size ci fs0) (va_A [(h0, .inr (ci, fs0))] s.heap.size)) ([Value.ref h0]).toArray s mc ms (va_A [(h0, .inr (ci, fs0))] s.heap.size), va_A [(h0, .inr (ci, fs0))] s.heap.size, D, cs, s.heap) h0
    ⟨B.exec, B.bytes, hml, hown, fun w hw => hts w (List.mem_cons_of_mem _ hw), hK, hao, fun q h => Or.inr h⟩ ((name_of_methodNamed B.named B.method).1.trans hin) ⟨Nat.le_refl _, Nat.le_refl _, Nat.le_refl _, Nat.le_refl _⟩ ⟨B.returns, B.notSynchronized, rfl, h0, ci, fs0, rfl, rfl⟩ s.heap [] ls hP hD0.self va_S.rf hl
theorem Nd_of : ∀ (l : List Nat), l.Nodup → va_nd l = true
  | [], _ => rfl
  | a :: l, h => by
    obtain ⟨h1, h2⟩ := List.nodup_cons.mp h
    show (decide (a ∉ l) && va_nd l) = true
    rw [decide_eq_true h1, Nd_of l h2]
    rfl
theorem Nd_range (n : Nat) : va_nd (List.range n) = true := Nd_of _ List.nodup_range
def MthI (own : String) (index : Nat) (y : MethodName) (cc : ByteArray) (mx : Nat) : Prop := Mth own index y cc mx none 0 ∧ y.name = "<init>" ∧ Cond.instanceMethod y ∈ lw_w ∧ Cond.methodLink own index y ∈ lw_w
theorem N_init {X : NC} {own : String} {cc : ByteArray} {nL cells slots pc : Nat} {ls : List (Nat × Value)} {rest : List Value} {ws wr : va_W} {y : MethodName} {bytes : ByteArray} {mx d d0 mc ms ci index q C S : Nat} {fs0 : List Value} {P : (Nat → ClassId) → Nat → va_W → Prop} (hX : Nok X own cc nL) (hR : Nrm X d0 C S) (hm : MthI own index y bytes mx) (hC : Kc y bytes mx d mc ms ci fs0 P) (hd : decode cc pc = .ok (.invokespecial index, 3)) (hdd : d + 1 ≤ d0) (hcat : (rest.map fun v => v.category).sum ≤ 8) (h1 : cells + mc ≤ C) (h2 : slots + ms ≤ S) (hw : ws = wr ++ [(q, .inr (ci, fs0))]) (kk : ∀ w1 : va_W, P (Ncs X) q w1 → Nw X nL (cells + mc) (slots + ms) (pc + 3) ls rest (wr ++ w1)) : Nw X nL cells slots pc ls (.ref q :: rest) ws := by
  obtain ⟨p, l, e, R, s, m, args, below, meth, c, Q, A, D, cs, H0⟩ := X
  intro H locs lsA hP hD hS hl
  obtain ⟨hx, hb, hml, hown, hts, hK, hao, hA⟩ := hX
  obtain ⟨r1, r2, r3, r4⟩ := hR
  subst hw
  have iC : [wr.length].map (fun i => (wr ++ [(q, (.inr (ci, fs0) : va_E))])[i]?) = [(q, (.inr (ci, fs0) : va_E))].map some := by
    show [(wr ++ [(q, (.inr (ci, fs0) : va_E))])[wr.length]?] = [some _]
    rw [List.getElem?_append_right (Nat.le_refl _), Nat.sub_self]
    rfl
  have iR : (List.range wr.length).map (fun i => (wr ++ [(q, (.inr (ci, fs0) : va_E))])[i]?) = wr.map some := by
    apply List.ext_getElem?
    intro i
    rw [List.getElem?_map, List.getElem?_map]
    by_cases hi : i < wr.length
    · rw [List.getElem?_range hi, Option.map_some, List.getElem?_append_left hi, List.getElem?_eq_getElem hi, Option.map_some]
    · rw [List.getElem?_eq_none (by rw [List.length_range]; omega), List.getElem?_eq_none (by omega)]
      rfl
  have hPc : va_P D vwCl [(q, .inr (ci, fs0))] H := fun k z hz => by
    have hk : k < 1 := (List.getElem?_eq_some_iff.mp hz).1
    rw [show k = 0 by omega] at hz
    cases hz
    exact hP wr.length _ (by rw [List.getElem?_append_right (Nat.le_refl _), Nat.sub_self]; rfl)
  have hDc : va_D (fun _ => True) [(q, (.inr (ci, fs0) : va_E))] := (hD.sub [wr.length] rfl iC).weaken (fun _ _ _ _ => trivial)
  have hFc := va_free (wc := [(q, .inr (ci, fs0))]) hD hS hA [wr.length] iC
  have hGw : ∀ w ∈ Cond.code y bytes mx none :: lw_w, w ∈ lw_w := fun w hw => (List.mem_cons.mp hw).elim (fun e => by rw [e]; exact hm.1.2.2.1) id
  have hws : ∀ w ∈ Cond.code y bytes mx none :: lw_w, ∀ (a' : Array Value) (U : State), s.WarmedH U.vm → w.before a' U = true := fun w hw a' U hW => lw_warm hts w (hGw w hw) a' U hW
  have hlen9 : ∀ sig, parseMethodDescriptor y.desc = some sig → 0 = sig.parameters.length := fun sig h => by
    have h2 := hm.1.1.2.2
    rw [h] at h2
    exact (Option.some.inj h2).symm
  have hroom : (Krm d mc ms).frames + 1 ≤ R.frames ∧ 8 + (mx + 11) + (Krm d mc ms).locals ≤ R.locals := ⟨by show d + 1 ≤ _; omega, by have h8 := hm.1.2.1; show 8 + (mx + 11) + 40 * d ≤ R.locals; omega⟩
  obtain ⟨⟨hd1, hmx, hco, hini, -⟩, hinn, hins, hlk⟩ := hm
  have hpre : PreS s H (va_Pc [.ref q] (Kpre D cs q H.size ci fs0)) [.ref q] := ⟨fun a U g mk z => by
    obtain ⟨z0, z1, zP, zK, zA, zD⟩ := z
    exact ⟨z0, z1, zP, va_K.moved (u := U) (U := U.calling g mk a) (Vm.Alike.refl U.vm) zK, AOI.moved (u := U) (U := U.calling g mk a) (Vm.Alike.refl U.vm) zA, zD⟩, fun U hU hW => ⟨rfl, by rw [hU], by rw [hU]; exact hPc, va_K.moved hW.alike hK, AOI.moved hW.alike hao, hDc⟩⟩
  refine va_callv (va_runI (As := []) (rest := rest) ⟨hx, hb, hml, hown, hts⟩ (hC l D cs q H.size) ⟨⟨rfl, rfl, hroom.1, hroom.2, hws, List.mem_cons_self, hts _ hco, hts _ hini, ⟨hd1.1, hd1.2.1⟩, hlen9, hts _ hlk⟩, hinn, hts _ hins⟩ hpre rfl rfl hl.1 rfl (lv_room hcat) hd ⟨by omega, by omega⟩) hS (fun z _ h => hFc z h) hFc (fun u t H1 locs1 ht hvm hp hB hz1 hk1 hS1 => ?_)
  obtain ⟨hP1, hK1, hD1⟩ := hB
  rw [ht] at hP1
  obtain ⟨hP2, hD2⟩ := va_join (wr := wr) (w1 := u) hP hD [wr.length] (List.range wr.length) iC iR (Nd_range _) (fun i hi h9 => by
    have := List.mem_range.mp hi
    rw [List.mem_singleton.mp h9] at this
    omega) hk1 hFc hP1 hD1
  exact kk u hp H1 locs1 lsA hP2 hD2 hS1 hl
