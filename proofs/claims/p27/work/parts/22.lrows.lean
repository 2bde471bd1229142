/-! ===== the law's judgement: the world, and beside it the law's own array of 12 ints at the place 53 (its ints in the memory's row 53) ===== -/
def Lw (X : XC) (pc : Nat) (ls : List (Option Value)) (st : List Value) (σ : Mem) : Prop := match X with
  | (p, l, e, R, s, m, args, below, meth, c, cells, slots, Q, A, D, ad, cs, H0) =>
    ∀ (H : Heap) (locs : List Loc) (lsA : Array Slot), (va_P D vwCl (wl ad cs σ 0 shp) H ∧ H[ad 53]? = some (vp_cell (cs 0) (12, .inl (σ 53)))) → va_S A H0 H locs → lv_has lsA ls.length (lvl ad 0 ls) → W p l e R s m args below meth c H locs cells slots Q (F0 m pc lsA (st.map (cvv ad)))
def Pok (X : XC) : Prop := match X with
  | (_, _, _, _, _, _, _, _, _, _, _, _, _, A, _, ad, _, _) => A (ad 53) ∧ ¬ inW ad (ad 53)
theorem Lw.mem {X : XC} {pc : Nat} {ls : List (Option Value)} {st : List Value} {σ σ' : Mem} (e : σ' = σ) (h : Lw X pc ls st σ') : Lw X pc ls st σ := e ▸ h
theorem L_iconst {X : XC} {own : String} {cc : ByteArray} {nL pc : Nat} {ls : List (Option Value)} {st : List Value} {σ : Mem} {n : Int} {v : Int32} (hX : Cok X own cc nL) (hd : decode cc pc = .ok (.iconst n, 1)) (hv : Int32.ofInt n = v) (kk : Lw X (pc + 1) ls (.int v :: st) σ) : Lw X pc ls (st) σ := by
  obtain ⟨p, l, e, R, s, m, args, below, meth, c, cells, slots, Q, A, D, ad, cs, H0⟩ := X
  intro H locs lsA hP hS hl
  exact lv_iconst hX.1 hX.2.1 hd hv (kk H locs lsA hP hS hl)
theorem L_bipush {X : XC} {own : String} {cc : ByteArray} {nL pc : Nat} {ls : List (Option Value)} {st : List Value} {σ : Mem} {n : Int} {v : Int32} (hX : Cok X own cc nL) (hd : decode cc pc = .ok (.bipush n, 2)) (hv : (Int8.ofInt n).toInt32 = v) (kk : Lw X (pc + 2) ls (.int v :: st) σ) : Lw X pc ls (st) σ := by
  obtain ⟨p, l, e, R, s, m, args, below, meth, c, cells, slots, Q, A, D, ad, cs, H0⟩ := X
  intro H locs lsA hP hS hl
  exact lv_bipush hX.1 hX.2.1 hd hv (kk H locs lsA hP hS hl)
theorem L_sipush {X : XC} {own : String} {cc : ByteArray} {nL pc : Nat} {ls : List (Option Value)} {st : List Value} {σ : Mem} {n : Int} {v : Int32} (hX : Cok X own cc nL) (hd : decode cc pc = .ok (.sipush n, 3)) (hv : (Int16.ofInt n).toInt32 = v) (kk : Lw X (pc + 3) ls (.int v :: st) σ) : Lw X pc ls (st) σ := by
  obtain ⟨p, l, e, R, s, m, args, below, meth, c, cells, slots, Q, A, D, ad, cs, H0⟩ := X
  intro H locs lsA hP hS hl
  exact lv_sipush hX.1 hX.2.1 hd hv (kk H locs lsA hP hS hl)
theorem L_iadd {X : XC} {own : String} {cc : ByteArray} {nL pc : Nat} {ls : List (Option Value)} {st : List Value} {σ : Mem} {x y : Int32} (hX : Cok X own cc nL) (hd : decode cc pc = .ok (.iadd, 1)) (kk : Lw X (pc + 1) ls (.int (x + y) :: st) σ) : Lw X pc ls (.int y :: .int x :: st) σ := by
  obtain ⟨p, l, e, R, s, m, args, below, meth, c, cells, slots, Q, A, D, ad, cs, H0⟩ := X
  intro H locs lsA hP hS hl
  exact lv_iadd hX.1 hX.2.1 hd (kk H locs lsA hP hS hl)
theorem L_isub {X : XC} {own : String} {cc : ByteArray} {nL pc : Nat} {ls : List (Option Value)} {st : List Value} {σ : Mem} {x y : Int32} (hX : Cok X own cc nL) (hd : decode cc pc = .ok (.isub, 1)) (kk : Lw X (pc + 1) ls (.int (x - y) :: st) σ) : Lw X pc ls (.int y :: .int x :: st) σ := by
  obtain ⟨p, l, e, R, s, m, args, below, meth, c, cells, slots, Q, A, D, ad, cs, H0⟩ := X
  intro H locs lsA hP hS hl
  exact lv_isub hX.1 hX.2.1 hd (kk H locs lsA hP hS hl)
theorem L_imul {X : XC} {own : String} {cc : ByteArray} {nL pc : Nat} {ls : List (Option Value)} {st : List Value} {σ : Mem} {x y : Int32} (hX : Cok X own cc nL) (hd : decode cc pc = .ok (.imul, 1)) (kk : Lw X (pc + 1) ls (.int (x * y) :: st) σ) : Lw X pc ls (.int y :: .int x :: st) σ := by
  obtain ⟨p, l, e, R, s, m, args, below, meth, c, cells, slots, Q, A, D, ad, cs, H0⟩ := X
  intro H locs lsA hP hS hl
  exact lv_imul hX.1 hX.2.1 hd (kk H locs lsA hP hS hl)
theorem L_iand {X : XC} {own : String} {cc : ByteArray} {nL pc : Nat} {ls : List (Option Value)} {st : List Value} {σ : Mem} {x y : Int32} (hX : Cok X own cc nL) (hd : decode cc pc = .ok (.iand, 1)) (kk : Lw X (pc + 1) ls (.int (x &&& y) :: st) σ) : Lw X pc ls (.int y :: .int x :: st) σ := by
  obtain ⟨p, l, e, R, s, m, args, below, meth, c, cells, slots, Q, A, D, ad, cs, H0⟩ := X
  intro H locs lsA hP hS hl
  exact lv_iand hX.1 hX.2.1 hd (kk H locs lsA hP hS hl)
theorem L_ior {X : XC} {own : String} {cc : ByteArray} {nL pc : Nat} {ls : List (Option Value)} {st : List Value} {σ : Mem} {x y : Int32} (hX : Cok X own cc nL) (hd : decode cc pc = .ok (.ior, 1)) (kk : Lw X (pc + 1) ls (.int (x ||| y) :: st) σ) : Lw X pc ls (.int y :: .int x :: st) σ := by
  obtain ⟨p, l, e, R, s, m, args, below, meth, c, cells, slots, Q, A, D, ad, cs, H0⟩ := X
  intro H locs lsA hP hS hl
  exact lv_ior hX.1 hX.2.1 hd (kk H locs lsA hP hS hl)
theorem L_ixor {X : XC} {own : String} {cc : ByteArray} {nL pc : Nat} {ls : List (Option Value)} {st : List Value} {σ : Mem} {x y : Int32} (hX : Cok X own cc nL) (hd : decode cc pc = .ok (.ixor, 1)) (kk : Lw X (pc + 1) ls (.int (x ^^^ y) :: st) σ) : Lw X pc ls (.int y :: .int x :: st) σ := by
  obtain ⟨p, l, e, R, s, m, args, below, meth, c, cells, slots, Q, A, D, ad, cs, H0⟩ := X
  intro H locs lsA hP hS hl
  exact lv_ixor hX.1 hX.2.1 hd (kk H locs lsA hP hS hl)
theorem L_ishl {X : XC} {own : String} {cc : ByteArray} {nL pc : Nat} {ls : List (Option Value)} {st : List Value} {σ : Mem} {x y : Int32} (hX : Cok X own cc nL) (hd : decode cc pc = .ok (.ishl, 1)) (kk : Lw X (pc + 1) ls (.int (x <<< (y &&& 31)) :: st) σ) : Lw X pc ls (.int y :: .int x :: st) σ := by
  obtain ⟨p, l, e, R, s, m, args, below, meth, c, cells, slots, Q, A, D, ad, cs, H0⟩ := X
  intro H locs lsA hP hS hl
  exact lv_ishl hX.1 hX.2.1 hd (kk H locs lsA hP hS hl)
theorem L_ishr {X : XC} {own : String} {cc : ByteArray} {nL pc : Nat} {ls : List (Option Value)} {st : List Value} {σ : Mem} {x y : Int32} (hX : Cok X own cc nL) (hd : decode cc pc = .ok (.ishr, 1)) (kk : Lw X (pc + 1) ls (.int (x >>> (y &&& 31)) :: st) σ) : Lw X pc ls (.int y :: .int x :: st) σ := by
  obtain ⟨p, l, e, R, s, m, args, below, meth, c, cells, slots, Q, A, D, ad, cs, H0⟩ := X
  intro H locs lsA hP hS hl
  exact lv_ishr hX.1 hX.2.1 hd (kk H locs lsA hP hS hl)
theorem L_dup2 {X : XC} {own : String} {cc : ByteArray} {nL pc : Nat} {ls : List (Option Value)} {st : List Value} {σ : Mem} {v u : Value} (hX : Cok X own cc nL) (hd : decode cc pc = .ok (.dup2, 1)) (hc : v.category = 1) (hc2 : u.category = 1) (kk : Lw X (pc + 1) ls (v :: u :: v :: u :: st) σ) : Lw X pc ls (v :: u :: st) σ := by
  obtain ⟨p, l, e, R, s, m, args, below, meth, c, cells, slots, Q, A, D, ad, cs, H0⟩ := X
  intro H locs lsA hP hS hl
  exact lv_dup2_11 hX.1 hX.2.1 hd (by rw [cvv_cat]; exact hc) (by rw [cvv_cat]; exact hc2) (kk H locs lsA hP hS hl)
theorem L_iload_n {X : XC} {own : String} {cc : ByteArray} {nL pc : Nat} {ls : List (Option Value)} {st : List Value} {σ : Mem} {k : Fin 4} {i : Nat} {x : Int32} (hX : Cok X own cc nL) (hd : decode cc pc = .ok (.iload_n k, 1)) (hi : (k : Nat) = i) (h : nth ls i = some (.int x)) (kk : Lw X (pc + 1) ls (.int x :: st) σ) : Lw X pc ls st σ := by
  obtain ⟨p, l, e, R, s, m, args, below, meth, c, cells, slots, Q, A, D, ad, cs, H0⟩ := X
  intro H locs lsA hP hS hl
  exact lv_iload_n hX.1 hX.2.1 hd hi (lvl_nth hl h) (kk H locs lsA hP hS hl)
theorem L_iload {X : XC} {own : String} {cc : ByteArray} {nL pc : Nat} {ls : List (Option Value)} {st : List Value} {σ : Mem} {i : Nat} {x : Int32} (hX : Cok X own cc nL) (hd : decode cc pc = .ok (.iload i, 2)) (h : nth ls i = some (.int x)) (kk : Lw X (pc + 2) ls (.int x :: st) σ) : Lw X pc ls st σ := by
  obtain ⟨p, l, e, R, s, m, args, below, meth, c, cells, slots, Q, A, D, ad, cs, H0⟩ := X
  intro H locs lsA hP hS hl
  exact lv_iload hX.1 hX.2.1 hd (lvl_nth hl h) (kk H locs lsA hP hS hl)
theorem L_aload_n {X : XC} {own : String} {cc : ByteArray} {nL pc : Nat} {ls : List (Option Value)} {st : List Value} {σ : Mem} {k : Fin 4} {i : Nat} {x : Nat} (hX : Cok X own cc nL) (hd : decode cc pc = .ok (.aload_n k, 1)) (hi : (k : Nat) = i) (h : nth ls i = some (.ref x)) (kk : Lw X (pc + 1) ls (.ref x :: st) σ) : Lw X pc ls st σ := by
  obtain ⟨p, l, e, R, s, m, args, below, meth, c, cells, slots, Q, A, D, ad, cs, H0⟩ := X
  intro H locs lsA hP hS hl
  exact lv_aload_n hX.1 hX.2.1 hd hi (lvl_nth hl h) (kk H locs lsA hP hS hl)
theorem L_aload {X : XC} {own : String} {cc : ByteArray} {nL pc : Nat} {ls : List (Option Value)} {st : List Value} {σ : Mem} {i : Nat} {x : Nat} (hX : Cok X own cc nL) (hd : decode cc pc = .ok (.aload i, 2)) (h : nth ls i = some (.ref x)) (kk : Lw X (pc + 2) ls (.ref x :: st) σ) : Lw X pc ls st σ := by
  obtain ⟨p, l, e, R, s, m, args, below, meth, c, cells, slots, Q, A, D, ad, cs, H0⟩ := X
  intro H locs lsA hP hS hl
  exact lv_aload hX.1 hX.2.1 hd (lvl_nth hl h) (kk H locs lsA hP hS hl)
theorem L_istore_n {X : XC} {own : String} {cc : ByteArray} {nL pc : Nat} {ls : List (Option Value)} {st : List Value} {σ : Mem} {k : Fin 4} {i : Nat} {x : Int32} {ls2 : List (Option Value)} (hX : Cok X own cc nL) (hd : decode cc pc = .ok (.istore_n k, 1)) (hi : (k : Nat) = i) (hn : nol ls = true) (hlt : i < ls.length) (he : sett ls i (.int x) = ls2) (kk : Lw X (pc + 1) ls2 st σ) : Lw X pc ls (.int x :: st) σ := by
  obtain ⟨p, l, e, R, s, m, args, below, meth, c, cells, slots, Q, A, D, ad, cs, H0⟩ := X
  subst he
  intro H locs lsA hP hS hl
  exact lv_istore_n hX.1 hX.2.1 hd hi hl hlt rfl (fun ls9 h9 => kk H locs ls9 hP hS (by rw [sett_len]; exact lv_keep h9 (lvl_sett hn)))
theorem L_istore {X : XC} {own : String} {cc : ByteArray} {nL pc : Nat} {ls : List (Option Value)} {st : List Value} {σ : Mem} {i : Nat} {x : Int32} {ls2 : List (Option Value)} (hX : Cok X own cc nL) (hd : decode cc pc = .ok (.istore i, 2)) (hn : nol ls = true) (hlt : i < ls.length) (he : sett ls i (.int x) = ls2) (kk : Lw X (pc + 2) ls2 st σ) : Lw X pc ls (.int x :: st) σ := by
  obtain ⟨p, l, e, R, s, m, args, below, meth, c, cells, slots, Q, A, D, ad, cs, H0⟩ := X
  subst he
  intro H locs lsA hP hS hl
  exact lv_istore hX.1 hX.2.1 hd hl hlt rfl (fun ls9 h9 => kk H locs ls9 hP hS (by rw [sett_len]; exact lv_keep h9 (lvl_sett hn)))
theorem L_astore {X : XC} {own : String} {cc : ByteArray} {nL pc : Nat} {ls : List (Option Value)} {st : List Value} {σ : Mem} {i : Nat} {x : Nat} {ls2 : List (Option Value)} (hX : Cok X own cc nL) (hd : decode cc pc = .ok (.astore i, 2)) (hn : nol ls = true) (hlt : i < ls.length) (he : sett ls i (.ref x) = ls2) (kk : Lw X (pc + 2) ls2 st σ) : Lw X pc ls (.ref x :: st) σ := by
  obtain ⟨p, l, e, R, s, m, args, below, meth, c, cells, slots, Q, A, D, ad, cs, H0⟩ := X
  subst he
  intro H locs lsA hP hS hl
  exact lv_astore hX.1 hX.2.1 hd hl hlt rfl (fun ls9 h9 => kk H locs ls9 hP hS (by rw [sett_len]; exact lv_keep h9 (lvl_sett hn)))
theorem L_iinc {X : XC} {own : String} {cc : ByteArray} {nL pc : Nat} {ls : List (Option Value)} {st : List Value} {σ : Mem} {i : Nat} {n : Int} {x v : Int32} {ls2 : List (Option Value)} (hX : Cok X own cc nL) (hd : decode cc pc = .ok (.iinc i n, 3)) (hn : nol ls = true) (h : nth ls i = some (.int x)) (hv : x + Int32.ofInt n = v) (hlt : i < ls.length) (he : sett ls i (.int v) = ls2) (kk : Lw X (pc + 3) ls2 st σ) : Lw X pc ls st σ := by
  obtain ⟨p, l, e, R, s, m, args, below, meth, c, cells, slots, Q, A, D, ad, cs, H0⟩ := X
  subst he
  intro H locs lsA hP hS hl
  obtain ⟨k, hk⟩ := List.getElem?_of_mem (lvl_mem.mpr ⟨i, .int x, h, rfl⟩ : _ ∈ lvl ad 0 ls)
  rw [Nat.zero_add] at hk
  exact lv_iinc hX.1 hX.2.1 hd hl hk hv hlt rfl (fun ls9 h9 => kk H locs ls9 hP hS (by rw [sett_len]; exact lv_keep h9 (lvl_sett hn)))
theorem L_goto {X : XC} {own : String} {cc : ByteArray} {nL pc : Nat} {ls : List (Option Value)} {st : List Value} {σ : Mem} {off : Int} {tgt : Nat} (hX : Cok X own cc nL) (hd : decode cc pc = .ok (.goto off, 3)) (ht : (pc : Int) + off = (tgt : Int)) (kk : Lw X tgt ls st σ) : Lw X pc ls st σ := by
  obtain ⟨p, l, e, R, s, m, args, below, meth, c, cells, slots, Q, A, D, ad, cs, H0⟩ := X
  intro H locs lsA hP hS hl
  exact lv_goto hX.1 hX.2.1 hd ht (kk H locs lsA hP hS hl)
theorem L_ldc {X : XC} {own : String} {cc : ByteArray} {nL pc : Nat} {ls : List (Option Value)} {st : List Value} {σ : Mem} {index : Nat} {v : Int32} (hX : Cok X own cc nL) (hw : Cond.constant own index v ∈ lw_w) (hd : decode cc pc = .ok (.ldc index, 2)) (kk : Lw X (pc + 2) ls (.int v :: st) σ) : Lw X pc ls st σ := by
  obtain ⟨p, l, e, R, s, m, args, below, meth, c, cells, slots, Q, A, D, ad, cs, H0⟩ := X
  intro H locs lsA hP hS hl
  exact lv_ldc hX.1 hX.2.1 hX.2.2.2.1 (hX.2.2.2.2.1 _ hw) hd (kk H locs lsA hP hS hl)
theorem L_icmp_eq {X : XC} {own : String} {cc : ByteArray} {nL pc : Nat} {ls : List (Option Value)} {st : List Value} {σ : Mem} {x y : Int32} {off : Int} {tgt : Nat} (hX : Cok X own cc nL) (hd : decode cc pc = .ok (.if_icmp .eq off, 3)) (ht : (pc : Int) + off = (tgt : Int)) (kt : x = y → Lw X tgt ls st σ) (kf : ¬ x = y → Lw X (pc + 3) ls st σ) : Lw X pc ls (.int y :: .int x :: st) σ := by
  obtain ⟨p, l, e, R, s, m, args, below, meth, c, cells, slots, Q, A, D, ad, cs, H0⟩ := X
  intro H locs lsA hP hS hl
  exact lv_icmp_eq hX.1 hX.2.1 hd ht (fun h => kt h H locs lsA hP hS hl) (fun h => kf h H locs lsA hP hS hl)
theorem L_icmp_ne {X : XC} {own : String} {cc : ByteArray} {nL pc : Nat} {ls : List (Option Value)} {st : List Value} {σ : Mem} {x y : Int32} {off : Int} {tgt : Nat} (hX : Cok X own cc nL) (hd : decode cc pc = .ok (.if_icmp .ne off, 3)) (ht : (pc : Int) + off = (tgt : Int)) (kt : ¬ x = y → Lw X tgt ls st σ) (kf : x = y → Lw X (pc + 3) ls st σ) : Lw X pc ls (.int y :: .int x :: st) σ := by
  obtain ⟨p, l, e, R, s, m, args, below, meth, c, cells, slots, Q, A, D, ad, cs, H0⟩ := X
  intro H locs lsA hP hS hl
  exact lv_icmp_ne hX.1 hX.2.1 hd ht (fun h => kt h H locs lsA hP hS hl) (fun h => kf h H locs lsA hP hS hl)
theorem L_icmp_lt {X : XC} {own : String} {cc : ByteArray} {nL pc : Nat} {ls : List (Option Value)} {st : List Value} {σ : Mem} {x y : Int32} {off : Int} {tgt : Nat} (hX : Cok X own cc nL) (hd : decode cc pc = .ok (.if_icmp .lt off, 3)) (ht : (pc : Int) + off = (tgt : Int)) (kt : x < y → Lw X tgt ls st σ) (kf : ¬ x < y → Lw X (pc + 3) ls st σ) : Lw X pc ls (.int y :: .int x :: st) σ := by
  obtain ⟨p, l, e, R, s, m, args, below, meth, c, cells, slots, Q, A, D, ad, cs, H0⟩ := X
  intro H locs lsA hP hS hl
  exact lv_icmp_lt hX.1 hX.2.1 hd ht (fun h => kt h H locs lsA hP hS hl) (fun h => kf h H locs lsA hP hS hl)
theorem L_icmp_ge {X : XC} {own : String} {cc : ByteArray} {nL pc : Nat} {ls : List (Option Value)} {st : List Value} {σ : Mem} {x y : Int32} {off : Int} {tgt : Nat} (hX : Cok X own cc nL) (hd : decode cc pc = .ok (.if_icmp .ge off, 3)) (ht : (pc : Int) + off = (tgt : Int)) (kt : y ≤ x → Lw X tgt ls st σ) (kf : ¬ y ≤ x → Lw X (pc + 3) ls st σ) : Lw X pc ls (.int y :: .int x :: st) σ := by
  obtain ⟨p, l, e, R, s, m, args, below, meth, c, cells, slots, Q, A, D, ad, cs, H0⟩ := X
  intro H locs lsA hP hS hl
  exact lv_icmp_ge hX.1 hX.2.1 hd ht (fun h => kt h H locs lsA hP hS hl) (fun h => kf h H locs lsA hP hS hl)
theorem L_icmp_gt {X : XC} {own : String} {cc : ByteArray} {nL pc : Nat} {ls : List (Option Value)} {st : List Value} {σ : Mem} {x y : Int32} {off : Int} {tgt : Nat} (hX : Cok X own cc nL) (hd : decode cc pc = .ok (.if_icmp .gt off, 3)) (ht : (pc : Int) + off = (tgt : Int)) (kt : y < x → Lw X tgt ls st σ) (kf : ¬ y < x → Lw X (pc + 3) ls st σ) : Lw X pc ls (.int y :: .int x :: st) σ := by
  obtain ⟨p, l, e, R, s, m, args, below, meth, c, cells, slots, Q, A, D, ad, cs, H0⟩ := X
  intro H locs lsA hP hS hl
  exact lv_icmp_gt hX.1 hX.2.1 hd ht (fun h => kt h H locs lsA hP hS hl) (fun h => kf h H locs lsA hP hS hl)
theorem L_icmp_le {X : XC} {own : String} {cc : ByteArray} {nL pc : Nat} {ls : List (Option Value)} {st : List Value} {σ : Mem} {x y : Int32} {off : Int} {tgt : Nat} (hX : Cok X own cc nL) (hd : decode cc pc = .ok (.if_icmp .le off, 3)) (ht : (pc : Int) + off = (tgt : Int)) (kt : x ≤ y → Lw X tgt ls st σ) (kf : ¬ x ≤ y → Lw X (pc + 3) ls st σ) : Lw X pc ls (.int y :: .int x :: st) σ := by
  obtain ⟨p, l, e, R, s, m, args, below, meth, c, cells, slots, Q, A, D, ad, cs, H0⟩ := X
  intro H locs lsA hP hS hl
  exact lv_icmp_le hX.1 hX.2.1 hd ht (fun h => kt h H locs lsA hP hS hl) (fun h => kf h H locs lsA hP hS hl)
theorem L_if_eq {X : XC} {own : String} {cc : ByteArray} {nL pc : Nat} {ls : List (Option Value)} {st : List Value} {σ : Mem} {x : Int32} {off : Int} {tgt : Nat} (hX : Cok X own cc nL) (hd : decode cc pc = .ok (.ifCond .eq off, 3)) (ht : (pc : Int) + off = (tgt : Int)) (kt : x = 0 → Lw X tgt ls st σ) (kf : ¬ x = 0 → Lw X (pc + 3) ls st σ) : Lw X pc ls (.int x :: st) σ := by
  obtain ⟨p, l, e, R, s, m, args, below, meth, c, cells, slots, Q, A, D, ad, cs, H0⟩ := X
  intro H locs lsA hP hS hl
  exact lv_if_eq hX.1 hX.2.1 hd ht (fun h => kt h H locs lsA hP hS hl) (fun h => kf h H locs lsA hP hS hl)
theorem L_if_ne {X : XC} {own : String} {cc : ByteArray} {nL pc : Nat} {ls : List (Option Value)} {st : List Value} {σ : Mem} {x : Int32} {off : Int} {tgt : Nat} (hX : Cok X own cc nL) (hd : decode cc pc = .ok (.ifCond .ne off, 3)) (ht : (pc : Int) + off = (tgt : Int)) (kt : ¬ x = 0 → Lw X tgt ls st σ) (kf : x = 0 → Lw X (pc + 3) ls st σ) : Lw X pc ls (.int x :: st) σ := by
  obtain ⟨p, l, e, R, s, m, args, below, meth, c, cells, slots, Q, A, D, ad, cs, H0⟩ := X
  intro H locs lsA hP hS hl
  exact lv_if_ne hX.1 hX.2.1 hd ht (fun h => kt h H locs lsA hP hS hl) (fun h => kf h H locs lsA hP hS hl)
theorem L_istore0 {X : XC} {own : String} {cc : ByteArray} {nL pc : Nat} {b : Option Value} {r : List (Option Value)} {st : List Value} {σ : Mem} {x : Int32} (hX : Cok X own cc nL) (hd : decode cc pc = .ok (.istore_n 0, 1)) (hn : nol (b :: r) = true) (kk : Lw X (pc + 1) (some (.int x) :: r) st σ) : Lw X pc (b :: r) (.int x :: st) σ := L_istore_n (i := 0) hX hd rfl hn (by simp only [List.length_cons]; omega) rfl kk
theorem L_iinc0 {X : XC} {own : String} {cc : ByteArray} {nL pc : Nat} {r : List (Option Value)} {st : List Value} {σ : Mem} {n : Int} {x v : Int32} (hX : Cok X own cc nL) (hd : decode cc pc = .ok (.iinc 0 n, 3)) (hn : nol (some (.int x) :: r) = true) (hv : x + Int32.ofInt n = v) (kk : Lw X (pc + 3) (some (.int v) :: r) st σ) : Lw X pc (some (.int x) :: r) st σ := L_iinc (i := 0) hX hd hn rfl hv (by simp only [List.length_cons]; omega) rfl kk
theorem L_istore1 {X : XC} {own : String} {cc : ByteArray} {nL pc : Nat} {a0 : Option Value} {b : Option Value} {r : List (Option Value)} {st : List Value} {σ : Mem} {x : Int32} (hX : Cok X own cc nL) (hd : decode cc pc = .ok (.istore_n 1, 1)) (hn : nol (a0 :: b :: r) = true) (kk : Lw X (pc + 1) (a0 :: some (.int x) :: r) st σ) : Lw X pc (a0 :: b :: r) (.int x :: st) σ := L_istore_n (i := 1) hX hd rfl hn (by simp only [List.length_cons]; omega) rfl kk
theorem L_iinc1 {X : XC} {own : String} {cc : ByteArray} {nL pc : Nat} {a0 : Option Value} {r : List (Option Value)} {st : List Value} {σ : Mem} {n : Int} {x v : Int32} (hX : Cok X own cc nL) (hd : decode cc pc = .ok (.iinc 1 n, 3)) (hn : nol (a0 :: some (.int x) :: r) = true) (hv : x + Int32.ofInt n = v) (kk : Lw X (pc + 3) (a0 :: some (.int v) :: r) st σ) : Lw X pc (a0 :: some (.int x) :: r) st σ := L_iinc (i := 1) hX hd hn rfl hv (by simp only [List.length_cons]; omega) rfl kk
theorem L_istore2 {X : XC} {own : String} {cc : ByteArray} {nL pc : Nat} {a0 a1 : Option Value} {b : Option Value} {r : List (Option Value)} {st : List Value} {σ : Mem} {x : Int32} (hX : Cok X own cc nL) (hd : decode cc pc = .ok (.istore_n 2, 1)) (hn : nol (a0 :: a1 :: b :: r) = true) (kk : Lw X (pc + 1) (a0 :: a1 :: some (.int x) :: r) st σ) : Lw X pc (a0 :: a1 :: b :: r) (.int x :: st) σ := L_istore_n (i := 2) hX hd rfl hn (by simp only [List.length_cons]; omega) rfl kk
theorem L_iinc2 {X : XC} {own : String} {cc : ByteArray} {nL pc : Nat} {a0 a1 : Option Value} {r : List (Option Value)} {st : List Value} {σ : Mem} {n : Int} {x v : Int32} (hX : Cok X own cc nL) (hd : decode cc pc = .ok (.iinc 2 n, 3)) (hn : nol (a0 :: a1 :: some (.int x) :: r) = true) (hv : x + Int32.ofInt n = v) (kk : Lw X (pc + 3) (a0 :: a1 :: some (.int v) :: r) st σ) : Lw X pc (a0 :: a1 :: some (.int x) :: r) st σ := L_iinc (i := 2) hX hd hn rfl hv (by simp only [List.length_cons]; omega) rfl kk
theorem L_istore3 {X : XC} {own : String} {cc : ByteArray} {nL pc : Nat} {a0 a1 a2 : Option Value} {b : Option Value} {r : List (Option Value)} {st : List Value} {σ : Mem} {x : Int32} (hX : Cok X own cc nL) (hd : decode cc pc = .ok (.istore_n 3, 1)) (hn : nol (a0 :: a1 :: a2 :: b :: r) = true) (kk : Lw X (pc + 1) (a0 :: a1 :: a2 :: some (.int x) :: r) st σ) : Lw X pc (a0 :: a1 :: a2 :: b :: r) (.int x :: st) σ := L_istore_n (i := 3) hX hd rfl hn (by simp only [List.length_cons]; omega) rfl kk
theorem L_iinc3 {X : XC} {own : String} {cc : ByteArray} {nL pc : Nat} {a0 a1 a2 : Option Value} {r : List (Option Value)} {st : List Value} {σ : Mem} {n : Int} {x v : Int32} (hX : Cok X own cc nL) (hd : decode cc pc = .ok (.iinc 3 n, 3)) (hn : nol (a0 :: a1 :: a2 :: some (.int x) :: r) = true) (hv : x + Int32.ofInt n = v) (kk : Lw X (pc + 3) (a0 :: a1 :: a2 :: some (.int v) :: r) st σ) : Lw X pc (a0 :: a1 :: a2 :: some (.int x) :: r) st σ := L_iinc (i := 3) hX hd hn rfl hv (by simp only [List.length_cons]; omega) rfl kk
theorem L_istore4 {X : XC} {own : String} {cc : ByteArray} {nL pc : Nat} {a0 a1 a2 a3 : Option Value} {b : Option Value} {r : List (Option Value)} {st : List Value} {σ : Mem} {x : Int32} (hX : Cok X own cc nL) (hd : decode cc pc = .ok (.istore 4, 2)) (hn : nol (a0 :: a1 :: a2 :: a3 :: b :: r) = true) (kk : Lw X (pc + 2) (a0 :: a1 :: a2 :: a3 :: some (.int x) :: r) st σ) : Lw X pc (a0 :: a1 :: a2 :: a3 :: b :: r) (.int x :: st) σ := L_istore (i := 4) hX hd hn (by simp only [List.length_cons]; omega) rfl kk
theorem L_iinc4 {X : XC} {own : String} {cc : ByteArray} {nL pc : Nat} {a0 a1 a2 a3 : Option Value} {r : List (Option Value)} {st : List Value} {σ : Mem} {n : Int} {x v : Int32} (hX : Cok X own cc nL) (hd : decode cc pc = .ok (.iinc 4 n, 3)) (hn : nol (a0 :: a1 :: a2 :: a3 :: some (.int x) :: r) = true) (hv : x + Int32.ofInt n = v) (kk : Lw X (pc + 3) (a0 :: a1 :: a2 :: a3 :: some (.int v) :: r) st σ) : Lw X pc (a0 :: a1 :: a2 :: a3 :: some (.int x) :: r) st σ := L_iinc (i := 4) hX hd hn rfl hv (by simp only [List.length_cons]; omega) rfl kk
theorem L_istore5 {X : XC} {own : String} {cc : ByteArray} {nL pc : Nat} {a0 a1 a2 a3 a4 : Option Value} {b : Option Value} {r : List (Option Value)} {st : List Value} {σ : Mem} {x : Int32} (hX : Cok X own cc nL) (hd : decode cc pc = .ok (.istore 5, 2)) (hn : nol (a0 :: a1 :: a2 :: a3 :: a4 :: b :: r) = true) (kk : Lw X (pc + 2) (a0 :: a1 :: a2 :: a3 :: a4 :: some (.int x) :: r) st σ) : Lw X pc (a0 :: a1 :: a2 :: a3 :: a4 :: b :: r) (.int x :: st) σ := L_istore (i := 5) hX hd hn (by simp only [List.length_cons]; omega) rfl kk
theorem L_iinc5 {X : XC} {own : String} {cc : ByteArray} {nL pc : Nat} {a0 a1 a2 a3 a4 : Option Value} {r : List (Option Value)} {st : List Value} {σ : Mem} {n : Int} {x v : Int32} (hX : Cok X own cc nL) (hd : decode cc pc = .ok (.iinc 5 n, 3)) (hn : nol (a0 :: a1 :: a2 :: a3 :: a4 :: some (.int x) :: r) = true) (hv : x + Int32.ofInt n = v) (kk : Lw X (pc + 3) (a0 :: a1 :: a2 :: a3 :: a4 :: some (.int v) :: r) st σ) : Lw X pc (a0 :: a1 :: a2 :: a3 :: a4 :: some (.int x) :: r) st σ := L_iinc (i := 5) hX hd hn rfl hv (by simp only [List.length_cons]; omega) rfl kk
theorem L_istore6 {X : XC} {own : String} {cc : ByteArray} {nL pc : Nat} {a0 a1 a2 a3 a4 a5 : Option Value} {b : Option Value} {r : List (Option Value)} {st : List Value} {σ : Mem} {x : Int32} (hX : Cok X own cc nL) (hd : decode cc pc = .ok (.istore 6, 2)) (hn : nol (a0 :: a1 :: a2 :: a3 :: a4 :: a5 :: b :: r) = true) (kk : Lw X (pc + 2) (a0 :: a1 :: a2 :: a3 :: a4 :: a5 :: some (.int x) :: r) st σ) : Lw X pc (a0 :: a1 :: a2 :: a3 :: a4 :: a5 :: b :: r) (.int x :: st) σ := L_istore (i := 6) hX hd hn (by simp only [List.length_cons]; omega) rfl kk
theorem L_iinc6 {X : XC} {own : String} {cc : ByteArray} {nL pc : Nat} {a0 a1 a2 a3 a4 a5 : Option Value} {r : List (Option Value)} {st : List Value} {σ : Mem} {n : Int} {x v : Int32} (hX : Cok X own cc nL) (hd : decode cc pc = .ok (.iinc 6 n, 3)) (hn : nol (a0 :: a1 :: a2 :: a3 :: a4 :: a5 :: some (.int x) :: r) = true) (hv : x + Int32.ofInt n = v) (kk : Lw X (pc + 3) (a0 :: a1 :: a2 :: a3 :: a4 :: a5 :: some (.int v) :: r) st σ) : Lw X pc (a0 :: a1 :: a2 :: a3 :: a4 :: a5 :: some (.int x) :: r) st σ := L_iinc (i := 6) hX hd hn rfl hv (by simp only [List.length_cons]; omega) rfl kk
theorem L_istore7 {X : XC} {own : String} {cc : ByteArray} {nL pc : Nat} {a0 a1 a2 a3 a4 a5 a6 : Option Value} {b : Option Value} {r : List (Option Value)} {st : List Value} {σ : Mem} {x : Int32} (hX : Cok X own cc nL) (hd : decode cc pc = .ok (.istore 7, 2)) (hn : nol (a0 :: a1 :: a2 :: a3 :: a4 :: a5 :: a6 :: b :: r) = true) (kk : Lw X (pc + 2) (a0 :: a1 :: a2 :: a3 :: a4 :: a5 :: a6 :: some (.int x) :: r) st σ) : Lw X pc (a0 :: a1 :: a2 :: a3 :: a4 :: a5 :: a6 :: b :: r) (.int x :: st) σ := L_istore (i := 7) hX hd hn (by simp only [List.length_cons]; omega) rfl kk
theorem L_iinc7 {X : XC} {own : String} {cc : ByteArray} {nL pc : Nat} {a0 a1 a2 a3 a4 a5 a6 : Option Value} {r : List (Option Value)} {st : List Value} {σ : Mem} {n : Int} {x v : Int32} (hX : Cok X own cc nL) (hd : decode cc pc = .ok (.iinc 7 n, 3)) (hn : nol (a0 :: a1 :: a2 :: a3 :: a4 :: a5 :: a6 :: some (.int x) :: r) = true) (hv : x + Int32.ofInt n = v) (kk : Lw X (pc + 3) (a0 :: a1 :: a2 :: a3 :: a4 :: a5 :: a6 :: some (.int v) :: r) st σ) : Lw X pc (a0 :: a1 :: a2 :: a3 :: a4 :: a5 :: a6 :: some (.int x) :: r) st σ := L_iinc (i := 7) hX hd hn rfl hv (by simp only [List.length_cons]; omega) rfl kk
theorem L_istore8 {X : XC} {own : String} {cc : ByteArray} {nL pc : Nat} {a0 a1 a2 a3 a4 a5 a6 a7 : Option Value} {b : Option Value} {r : List (Option Value)} {st : List Value} {σ : Mem} {x : Int32} (hX : Cok X own cc nL) (hd : decode cc pc = .ok (.istore 8, 2)) (hn : nol (a0 :: a1 :: a2 :: a3 :: a4 :: a5 :: a6 :: a7 :: b :: r) = true) (kk : Lw X (pc + 2) (a0 :: a1 :: a2 :: a3 :: a4 :: a5 :: a6 :: a7 :: some (.int x) :: r) st σ) : Lw X pc (a0 :: a1 :: a2 :: a3 :: a4 :: a5 :: a6 :: a7 :: b :: r) (.int x :: st) σ := L_istore (i := 8) hX hd hn (by simp only [List.length_cons]; omega) rfl kk
theorem L_iinc8 {X : XC} {own : String} {cc : ByteArray} {nL pc : Nat} {a0 a1 a2 a3 a4 a5 a6 a7 : Option Value} {r : List (Option Value)} {st : List Value} {σ : Mem} {n : Int} {x v : Int32} (hX : Cok X own cc nL) (hd : decode cc pc = .ok (.iinc 8 n, 3)) (hn : nol (a0 :: a1 :: a2 :: a3 :: a4 :: a5 :: a6 :: a7 :: some (.int x) :: r) = true) (hv : x + Int32.ofInt n = v) (kk : Lw X (pc + 3) (a0 :: a1 :: a2 :: a3 :: a4 :: a5 :: a6 :: a7 :: some (.int v) :: r) st σ) : Lw X pc (a0 :: a1 :: a2 :: a3 :: a4 :: a5 :: a6 :: a7 :: some (.int x) :: r) st σ := L_iinc (i := 8) hX hd hn rfl hv (by simp only [List.length_cons]; omega) rfl kk
theorem L_istore9 {X : XC} {own : String} {cc : ByteArray} {nL pc : Nat} {a0 a1 a2 a3 a4 a5 a6 a7 a8 : Option Value} {b : Option Value} {r : List (Option Value)} {st : List Value} {σ : Mem} {x : Int32} (hX : Cok X own cc nL) (hd : decode cc pc = .ok (.istore 9, 2)) (hn : nol (a0 :: a1 :: a2 :: a3 :: a4 :: a5 :: a6 :: a7 :: a8 :: b :: r) = true) (kk : Lw X (pc + 2) (a0 :: a1 :: a2 :: a3 :: a4 :: a5 :: a6 :: a7 :: a8 :: some (.int x) :: r) st σ) : Lw X pc (a0 :: a1 :: a2 :: a3 :: a4 :: a5 :: a6 :: a7 :: a8 :: b :: r) (.int x :: st) σ := L_istore (i := 9) hX hd hn (by simp only [List.length_cons]; omega) rfl kk
theorem L_iinc9 {X : XC} {own : String} {cc : ByteArray} {nL pc : Nat} {a0 a1 a2 a3 a4 a5 a6 a7 a8 : Option Value} {r : List (Option Value)} {st : List Value} {σ : Mem} {n : Int} {x v : Int32} (hX : Cok X own cc nL) (hd : decode cc pc = .ok (.iinc 9 n, 3)) (hn : nol (a0 :: a1 :: a2 :: a3 :: a4 :: a5 :: a6 :: a7 :: a8 :: some (.int x) :: r) = true) (hv : x + Int32.ofInt n = v) (kk : Lw X (pc + 3) (a0 :: a1 :: a2 :: a3 :: a4 :: a5 :: a6 :: a7 :: a8 :: some (.int v) :: r) st σ) : Lw X pc (a0 :: a1 :: a2 :: a3 :: a4 :: a5 :: a6 :: a7 :: a8 :: some (.int x) :: r) st σ := L_iinc (i := 9) hX hd hn rfl hv (by simp only [List.length_cons]; omega) rfl kk
theorem L_istore10 {X : XC} {own : String} {cc : ByteArray} {nL pc : Nat} {a0 a1 a2 a3 a4 a5 a6 a7 a8 a9 : Option Value} {b : Option Value} {r : List (Option Value)} {st : List Value} {σ : Mem} {x : Int32} (hX : Cok X own cc nL) (hd : decode cc pc = .ok (.istore 10, 2)) (hn : nol (a0 :: a1 :: a2 :: a3 :: a4 :: a5 :: a6 :: a7 :: a8 :: a9 :: b :: r) = true) (kk : Lw X (pc + 2) (a0 :: a1 :: a2 :: a3 :: a4 :: a5 :: a6 :: a7 :: a8 :: a9 :: some (.int x) :: r) st σ) : Lw X pc (a0 :: a1 :: a2 :: a3 :: a4 :: a5 :: a6 :: a7 :: a8 :: a9 :: b :: r) (.int x :: st) σ := L_istore (i := 10) hX hd hn (by simp only [List.length_cons]; omega) rfl kk
theorem L_iinc10 {X : XC} {own : String} {cc : ByteArray} {nL pc : Nat} {a0 a1 a2 a3 a4 a5 a6 a7 a8 a9 : Option Value} {r : List (Option Value)} {st : List Value} {σ : Mem} {n : Int} {x v : Int32} (hX : Cok X own cc nL) (hd : decode cc pc = .ok (.iinc 10 n, 3)) (hn : nol (a0 :: a1 :: a2 :: a3 :: a4 :: a5 :: a6 :: a7 :: a8 :: a9 :: some (.int x) :: r) = true) (hv : x + Int32.ofInt n = v) (kk : Lw X (pc + 3) (a0 :: a1 :: a2 :: a3 :: a4 :: a5 :: a6 :: a7 :: a8 :: a9 :: some (.int v) :: r) st σ) : Lw X pc (a0 :: a1 :: a2 :: a3 :: a4 :: a5 :: a6 :: a7 :: a8 :: a9 :: some (.int x) :: r) st σ := L_iinc (i := 10) hX hd hn rfl hv (by simp only [List.length_cons]; omega) rfl kk
theorem L_istore11 {X : XC} {own : String} {cc : ByteArray} {nL pc : Nat} {a0 a1 a2 a3 a4 a5 a6 a7 a8 a9 a10 : Option Value} {b : Option Value} {r : List (Option Value)} {st : List Value} {σ : Mem} {x : Int32} (hX : Cok X own cc nL) (hd : decode cc pc = .ok (.istore 11, 2)) (hn : nol (a0 :: a1 :: a2 :: a3 :: a4 :: a5 :: a6 :: a7 :: a8 :: a9 :: a10 :: b :: r) = true) (kk : Lw X (pc + 2) (a0 :: a1 :: a2 :: a3 :: a4 :: a5 :: a6 :: a7 :: a8 :: a9 :: a10 :: some (.int x) :: r) st σ) : Lw X pc (a0 :: a1 :: a2 :: a3 :: a4 :: a5 :: a6 :: a7 :: a8 :: a9 :: a10 :: b :: r) (.int x :: st) σ := L_istore (i := 11) hX hd hn (by simp only [List.length_cons]; omega) rfl kk
theorem L_iinc11 {X : XC} {own : String} {cc : ByteArray} {nL pc : Nat} {a0 a1 a2 a3 a4 a5 a6 a7 a8 a9 a10 : Option Value} {r : List (Option Value)} {st : List Value} {σ : Mem} {n : Int} {x v : Int32} (hX : Cok X own cc nL) (hd : decode cc pc = .ok (.iinc 11 n, 3)) (hn : nol (a0 :: a1 :: a2 :: a3 :: a4 :: a5 :: a6 :: a7 :: a8 :: a9 :: a10 :: some (.int x) :: r) = true) (hv : x + Int32.ofInt n = v) (kk : Lw X (pc + 3) (a0 :: a1 :: a2 :: a3 :: a4 :: a5 :: a6 :: a7 :: a8 :: a9 :: a10 :: some (.int v) :: r) st σ) : Lw X pc (a0 :: a1 :: a2 :: a3 :: a4 :: a5 :: a6 :: a7 :: a8 :: a9 :: a10 :: some (.int x) :: r) st σ := L_iinc (i := 11) hX hd hn rfl hv (by simp only [List.length_cons]; omega) rfl kk
theorem L_istore12 {X : XC} {own : String} {cc : ByteArray} {nL pc : Nat} {a0 a1 a2 a3 a4 a5 a6 a7 a8 a9 a10 a11 : Option Value} {b : Option Value} {r : List (Option Value)} {st : List Value} {σ : Mem} {x : Int32} (hX : Cok X own cc nL) (hd : decode cc pc = .ok (.istore 12, 2)) (hn : nol (a0 :: a1 :: a2 :: a3 :: a4 :: a5 :: a6 :: a7 :: a8 :: a9 :: a10 :: a11 :: b :: r) = true) (kk : Lw X (pc + 2) (a0 :: a1 :: a2 :: a3 :: a4 :: a5 :: a6 :: a7 :: a8 :: a9 :: a10 :: a11 :: some (.int x) :: r) st σ) : Lw X pc (a0 :: a1 :: a2 :: a3 :: a4 :: a5 :: a6 :: a7 :: a8 :: a9 :: a10 :: a11 :: b :: r) (.int x :: st) σ := L_istore (i := 12) hX hd hn (by simp only [List.length_cons]; omega) rfl kk
theorem L_iinc12 {X : XC} {own : String} {cc : ByteArray} {nL pc : Nat} {a0 a1 a2 a3 a4 a5 a6 a7 a8 a9 a10 a11 : Option Value} {r : List (Option Value)} {st : List Value} {σ : Mem} {n : Int} {x v : Int32} (hX : Cok X own cc nL) (hd : decode cc pc = .ok (.iinc 12 n, 3)) (hn : nol (a0 :: a1 :: a2 :: a3 :: a4 :: a5 :: a6 :: a7 :: a8 :: a9 :: a10 :: a11 :: some (.int x) :: r) = true) (hv : x + Int32.ofInt n = v) (kk : Lw X (pc + 3) (a0 :: a1 :: a2 :: a3 :: a4 :: a5 :: a6 :: a7 :: a8 :: a9 :: a10 :: a11 :: some (.int v) :: r) st σ) : Lw X pc (a0 :: a1 :: a2 :: a3 :: a4 :: a5 :: a6 :: a7 :: a8 :: a9 :: a10 :: a11 :: some (.int x) :: r) st σ := L_iinc (i := 12) hX hd hn rfl hv (by simp only [List.length_cons]; omega) rfl kk
theorem L_istore13 {X : XC} {own : String} {cc : ByteArray} {nL pc : Nat} {a0 a1 a2 a3 a4 a5 a6 a7 a8 a9 a10 a11 a12 : Option Value} {b : Option Value} {r : List (Option Value)} {st : List Value} {σ : Mem} {x : Int32} (hX : Cok X own cc nL) (hd : decode cc pc = .ok (.istore 13, 2)) (hn : nol (a0 :: a1 :: a2 :: a3 :: a4 :: a5 :: a6 :: a7 :: a8 :: a9 :: a10 :: a11 :: a12 :: b :: r) = true) (kk : Lw X (pc + 2) (a0 :: a1 :: a2 :: a3 :: a4 :: a5 :: a6 :: a7 :: a8 :: a9 :: a10 :: a11 :: a12 :: some (.int x) :: r) st σ) : Lw X pc (a0 :: a1 :: a2 :: a3 :: a4 :: a5 :: a6 :: a7 :: a8 :: a9 :: a10 :: a11 :: a12 :: b :: r) (.int x :: st) σ := L_istore (i := 13) hX hd hn (by simp only [List.length_cons]; omega) rfl kk
theorem L_iinc13 {X : XC} {own : String} {cc : ByteArray} {nL pc : Nat} {a0 a1 a2 a3 a4 a5 a6 a7 a8 a9 a10 a11 a12 : Option Value} {r : List (Option Value)} {st : List Value} {σ : Mem} {n : Int} {x v : Int32} (hX : Cok X own cc nL) (hd : decode cc pc = .ok (.iinc 13 n, 3)) (hn : nol (a0 :: a1 :: a2 :: a3 :: a4 :: a5 :: a6 :: a7 :: a8 :: a9 :: a10 :: a11 :: a12 :: some (.int x) :: r) = true) (hv : x + Int32.ofInt n = v) (kk : Lw X (pc + 3) (a0 :: a1 :: a2 :: a3 :: a4 :: a5 :: a6 :: a7 :: a8 :: a9 :: a10 :: a11 :: a12 :: some (.int v) :: r) st σ) : Lw X pc (a0 :: a1 :: a2 :: a3 :: a4 :: a5 :: a6 :: a7 :: a8 :: a9 :: a10 :: a11 :: a12 :: some (.int x) :: r) st σ := L_iinc (i := 13) hX hd hn rfl hv (by simp only [List.length_cons]; omega) rfl kk
theorem L_istore14 {X : XC} {own : String} {cc : ByteArray} {nL pc : Nat} {a0 a1 a2 a3 a4 a5 a6 a7 a8 a9 a10 a11 a12 a13 : Option Value} {b : Option Value} {r : List (Option Value)} {st : List Value} {σ : Mem} {x : Int32} (hX : Cok X own cc nL) (hd : decode cc pc = .ok (.istore 14, 2)) (hn : nol (a0 :: a1 :: a2 :: a3 :: a4 :: a5 :: a6 :: a7 :: a8 :: a9 :: a10 :: a11 :: a12 :: a13 :: b :: r) = true) (kk : Lw X (pc + 2) (a0 :: a1 :: a2 :: a3 :: a4 :: a5 :: a6 :: a7 :: a8 :: a9 :: a10 :: a11 :: a12 :: a13 :: some (.int x) :: r) st σ) : Lw X pc (a0 :: a1 :: a2 :: a3 :: a4 :: a5 :: a6 :: a7 :: a8 :: a9 :: a10 :: a11 :: a12 :: a13 :: b :: r) (.int x :: st) σ := L_istore (i := 14) hX hd hn (by simp only [List.length_cons]; omega) rfl kk
theorem L_iinc14 {X : XC} {own : String} {cc : ByteArray} {nL pc : Nat} {a0 a1 a2 a3 a4 a5 a6 a7 a8 a9 a10 a11 a12 a13 : Option Value} {r : List (Option Value)} {st : List Value} {σ : Mem} {n : Int} {x v : Int32} (hX : Cok X own cc nL) (hd : decode cc pc = .ok (.iinc 14 n, 3)) (hn : nol (a0 :: a1 :: a2 :: a3 :: a4 :: a5 :: a6 :: a7 :: a8 :: a9 :: a10 :: a11 :: a12 :: a13 :: some (.int x) :: r) = true) (hv : x + Int32.ofInt n = v) (kk : Lw X (pc + 3) (a0 :: a1 :: a2 :: a3 :: a4 :: a5 :: a6 :: a7 :: a8 :: a9 :: a10 :: a11 :: a12 :: a13 :: some (.int v) :: r) st σ) : Lw X pc (a0 :: a1 :: a2 :: a3 :: a4 :: a5 :: a6 :: a7 :: a8 :: a9 :: a10 :: a11 :: a12 :: a13 :: some (.int x) :: r) st σ := L_iinc (i := 14) hX hd hn rfl hv (by simp only [List.length_cons]; omega) rfl kk
theorem L_if_eqB {X : XC} {own : String} {cc : ByteArray} {nL pc : Nat} {ls : List (Option Value)} {st : List Value} {σ : Mem} {b : Bool} {off : Int} {tgt : Nat} (hX : Cok X own cc nL) (hd : decode cc pc = .ok (.ifCond .eq off, 3)) (ht : (pc : Int) + off = (tgt : Int)) (kt : b = false → Lw X tgt ls st σ) (kf : b = true → Lw X (pc + 3) ls st σ) : Lw X pc ls (.int (bI b) :: st) σ :=
  L_if_eq hX hd ht (fun h => kt (bI_z.mp h)) (fun h => kf (by cases b with
    | true => rfl
    | false => exact absurd (bI_z.mpr rfl) h))
theorem L_if_neB {X : XC} {own : String} {cc : ByteArray} {nL pc : Nat} {ls : List (Option Value)} {st : List Value} {σ : Mem} {b : Bool} {off : Int} {tgt : Nat} (hX : Cok X own cc nL) (hd : decode cc pc = .ok (.ifCond .ne off, 3)) (ht : (pc : Int) + off = (tgt : Int)) (kt : b = true → Lw X tgt ls st σ) (kf : b = false → Lw X (pc + 3) ls st σ) : Lw X pc ls (.int (bI b) :: st) σ :=
  L_if_ne hX hd ht (fun h => kt (by cases b with
    | true => rfl
    | false => exact absurd (bI_z.mpr rfl) h)) (fun h => kf (bI_z.mp h))
theorem L_icmp_eqN {X : XC} {own : String} {cc : ByteArray} {nL pc : Nat} {ls : List (Option Value)} {st : List Value} {σ : Mem} {a b : Nat} {off : Int} {tgt : Nat} (hX : Cok X own cc nL) (hd : decode cc pc = .ok (.if_icmp .eq off, 3)) (ht : (pc : Int) + off = (tgt : Int)) (ha : a < 2 ^ 31) (hb : b < 2 ^ 31) (kt : a = b → Lw X tgt ls st σ) (kf : a ≠ b → Lw X (pc + 3) ls st σ) : Lw X pc ls (.int (nI b) :: .int (nI a) :: st) σ :=
  L_icmp_eq hX hd ht (fun h => kt ((nI_eq ha hb).mp h)) (fun h => kf (fun q => h ((nI_eq ha hb).mpr q)))
theorem L_icmp_neN {X : XC} {own : String} {cc : ByteArray} {nL pc : Nat} {ls : List (Option Value)} {st : List Value} {σ : Mem} {a b : Nat} {off : Int} {tgt : Nat} (hX : Cok X own cc nL) (hd : decode cc pc = .ok (.if_icmp .ne off, 3)) (ht : (pc : Int) + off = (tgt : Int)) (ha : a < 2 ^ 31) (hb : b < 2 ^ 31) (kt : a ≠ b → Lw X tgt ls st σ) (kf : a = b → Lw X (pc + 3) ls st σ) : Lw X pc ls (.int (nI b) :: .int (nI a) :: st) σ :=
  L_icmp_ne hX hd ht (fun h => kt (fun q => h ((nI_eq ha hb).mpr q))) (fun h => kf ((nI_eq ha hb).mp h))
theorem L_icmp_ltN {X : XC} {own : String} {cc : ByteArray} {nL pc : Nat} {ls : List (Option Value)} {st : List Value} {σ : Mem} {a b : Nat} {off : Int} {tgt : Nat} (hX : Cok X own cc nL) (hd : decode cc pc = .ok (.if_icmp .lt off, 3)) (ht : (pc : Int) + off = (tgt : Int)) (ha : a < 2 ^ 31) (hb : b < 2 ^ 31) (kt : a < b → Lw X tgt ls st σ) (kf : b ≤ a → Lw X (pc + 3) ls st σ) : Lw X pc ls (.int (nI b) :: .int (nI a) :: st) σ :=
  L_icmp_lt hX hd ht (fun h => kt ((nI_ltI ha hb).mp h)) (fun h => kf (Nat.not_lt.mp (fun q => h ((nI_ltI ha hb).mpr q))))
theorem L_icmp_geN {X : XC} {own : String} {cc : ByteArray} {nL pc : Nat} {ls : List (Option Value)} {st : List Value} {σ : Mem} {a b : Nat} {off : Int} {tgt : Nat} (hX : Cok X own cc nL) (hd : decode cc pc = .ok (.if_icmp .ge off, 3)) (ht : (pc : Int) + off = (tgt : Int)) (ha : a < 2 ^ 31) (hb : b < 2 ^ 31) (kt : b ≤ a → Lw X tgt ls st σ) (kf : a < b → Lw X (pc + 3) ls st σ) : Lw X pc ls (.int (nI b) :: .int (nI a) :: st) σ :=
  L_icmp_ge hX hd ht (fun h => kt ((nI_leI hb ha).mp h)) (fun h => kf (Nat.not_le.mp (fun q => h ((nI_leI hb ha).mpr q))))
theorem L_icmp_gtN {X : XC} {own : String} {cc : ByteArray} {nL pc : Nat} {ls : List (Option Value)} {st : List Value} {σ : Mem} {a b : Nat} {off : Int} {tgt : Nat} (hX : Cok X own cc nL) (hd : decode cc pc = .ok (.if_icmp .gt off, 3)) (ht : (pc : Int) + off = (tgt : Int)) (ha : a < 2 ^ 31) (hb : b < 2 ^ 31) (kt : b < a → Lw X tgt ls st σ) (kf : a ≤ b → Lw X (pc + 3) ls st σ) : Lw X pc ls (.int (nI b) :: .int (nI a) :: st) σ :=
  L_icmp_gt hX hd ht (fun h => kt ((nI_ltI hb ha).mp h)) (fun h => kf (Nat.not_lt.mp (fun q => h ((nI_ltI hb ha).mpr q))))
theorem L_icmp_leN {X : XC} {own : String} {cc : ByteArray} {nL pc : Nat} {ls : List (Option Value)} {st : List Value} {σ : Mem} {a b : Nat} {off : Int} {tgt : Nat} (hX : Cok X own cc nL) (hd : decode cc pc = .ok (.if_icmp .le off, 3)) (ht : (pc : Int) + off = (tgt : Int)) (ha : a < 2 ^ 31) (hb : b < 2 ^ 31) (kt : a ≤ b → Lw X tgt ls st σ) (kf : b < a → Lw X (pc + 3) ls st σ) : Lw X pc ls (.int (nI b) :: .int (nI a) :: st) σ :=
  L_icmp_le hX hd ht (fun h => kt ((nI_leI ha hb).mp h)) (fun h => kf (Nat.not_le.mp (fun q => h ((nI_leI ha hb).mpr q))))
theorem L_icmp_neS {X : XC} {own : String} {cc : ByteArray} {nL pc : Nat} {ls : List (Option Value)} {st : List Value} {σ : Mem} {x : Int32} {k : Nat} {off : Int} {tgt : Nat} (hX : Cok X own cc nL) (hd : decode cc pc = .ok (.if_icmp .ne off, 3)) (ht : (pc : Int) + off = (tgt : Int)) (hk : k < 32) (kt : bt x k = false → Lw X tgt ls st σ) (kf : bt x k = true → Lw X (pc + 3) ls st σ) : Lw X pc ls (.int (nI 1) :: .int ((x >>> (nI k &&& 31)) &&& nI 1) :: st) σ :=
  L_icmp_ne hX hd ht (fun h => kt (bn (fun q => h (by rw [sbit hk]; exact bI_1.mpr q)))) (fun h => kf (by rw [sbit hk] at h; exact bI_1.mp h))
theorem L_icmp_eqS {X : XC} {own : String} {cc : ByteArray} {nL pc : Nat} {ls : List (Option Value)} {st : List Value} {σ : Mem} {x : Int32} {k : Nat} {off : Int} {tgt : Nat} (hX : Cok X own cc nL) (hd : decode cc pc = .ok (.if_icmp .eq off, 3)) (ht : (pc : Int) + off = (tgt : Int)) (hk : k < 32) (kt : bt x k = true → Lw X tgt ls st σ) (kf : bt x k = false → Lw X (pc + 3) ls st σ) : Lw X pc ls (.int (nI 1) :: .int ((x >>> (nI k &&& 31)) &&& nI 1) :: st) σ :=
  L_icmp_eq hX hd ht (fun h => kt (by rw [sbit hk] at h; exact bI_1.mp h)) (fun h => kf (bn (fun q => h (by rw [sbit hk]; exact bI_1.mpr q))))
theorem L_if_eqS {X : XC} {own : String} {cc : ByteArray} {nL pc : Nat} {ls : List (Option Value)} {st : List Value} {σ : Mem} {x : Int32} {k : Nat} {off : Int} {tgt : Nat} (hX : Cok X own cc nL) (hd : decode cc pc = .ok (.ifCond .eq off, 3)) (ht : (pc : Int) + off = (tgt : Int)) (hk : k < 32) (kt : bt x k = false → Lw X tgt ls st σ) (kf : bt x k = true → Lw X (pc + 3) ls st σ) : Lw X pc ls (.int ((x >>> (nI k &&& 31)) &&& nI 1) :: st) σ :=
  L_if_eq hX hd ht (fun h => kt (by rw [sbit hk] at h; exact bI_z.mp h)) (fun h => kf (bn' (fun q => h (by rw [sbit hk]; exact bI_z.mpr q))))
theorem L_if_neS {X : XC} {own : String} {cc : ByteArray} {nL pc : Nat} {ls : List (Option Value)} {st : List Value} {σ : Mem} {x : Int32} {k : Nat} {off : Int} {tgt : Nat} (hX : Cok X own cc nL) (hd : decode cc pc = .ok (.ifCond .ne off, 3)) (ht : (pc : Int) + off = (tgt : Int)) (hk : k < 32) (kt : bt x k = true → Lw X tgt ls st σ) (kf : bt x k = false → Lw X (pc + 3) ls st σ) : Lw X pc ls (.int ((x >>> (nI k &&& 31)) &&& nI 1) :: st) σ :=
  L_if_ne hX hd ht (fun h => kt (bn' (fun q => h (by rw [sbit hk]; exact bI_z.mpr q)))) (fun h => kf (by rw [sbit hk] at h; exact bI_z.mp h))
def Scr (X : XC) (L : Nat) (xs : Nat → Int32) : Prop := match X with
  | (_, _, _, _, s, _, _, _, _, _, _, _, _, A, _, ad, _, H0) => va_X (ad 52) L xs s H0 ∧ ad 52 < H0.size ∧ ¬ A (ad 52)
theorem V_sld {X : XC} {own : String} {cc : ByteArray} {nL pc : Nat} {ls : List (Option Value)} {st : List Value} {σ : Mem} {L j : Nat} {xs : Nat → Int32} {i : Int32} (hX : Cok X own cc nL) (hs : Scr X L xs) (hL : L < 2 ^ 31) (hd : decode cc pc = .ok (.iaload, 1)) (hi : i = nI j) (hj : j < L) (kk : Vw X (pc + 1) ls (.int (xs j) :: st) σ) : Vw X pc ls (.int i :: .ref 52 :: st) σ := by
  obtain ⟨p, l, e, R, s, m, args, below, meth, c, cells, slots, Q, A, D, ad, cs, H0⟩ := X
  intro H locs lsA hP hS hl
  subst hi
  have h2 := kk H locs lsA hP hS hl
  refine va_sld hX.1 hX.2.1 hs.1 hs.2.1 hs.2.2 hS (vp_in_nI hj hL) hd ?_
  rw [nI_clamp (by omega)]
  exact h2
theorem V_slen {X : XC} {own : String} {cc : ByteArray} {nL pc : Nat} {ls : List (Option Value)} {st : List Value} {σ : Mem} {L : Nat} {xs : Nat → Int32} (hX : Cok X own cc nL) (hs : Scr X L xs) (hd : decode cc pc = .ok (.arraylength, 1)) (kk : Vw X (pc + 1) ls (.int (nI L) :: st) σ) : Vw X pc ls (.ref 52 :: st) σ := by
  obtain ⟨p, l, e, R, s, m, args, below, meth, c, cells, slots, Q, A, D, ad, cs, H0⟩ := X
  intro H locs lsA hP hS hl
  exact va_slen hX.1 hX.2.1 hs.1 hs.2.1 hs.2.2 hS hd (kk H locs lsA hP hS hl)
/-- a contract of a method that reads the script too: L ints xs, at the place 52 -/
def Cs (L : Nat) (xs : Nat → Int32) (y : MethodName) (cc : ByteArray) (mx : Nat) (ret : Option FieldType) (d : Nat) (args : List Value) (σ : Mem) (P : Option Value → Mem → Prop) : Prop :=
  ∀ (l : Launch) (D : va_G) (ad : Nat → Nat) (cs : Nat → ClassId), (∀ i j : Nat, i < 52 → j < 52 → ad i = ad j → i = j) → ¬ inW ad (ad 52) →
    Met l y (Cond.code y cc mx ret :: lw_w) (rmd d) (va_Pc (args.map (cvv ad)) (fun U => va_P D vwCl (wl ad cs σ 0 shp) U.heap ∧ va_K D vwCl (tys3 cs) U ∧ va_X (ad 52) L xs U U.heap)) (Qg D ad cs (inW ad) P) 0 0 (inW ad)
theorem Cc.toCs {L : Nat} {xs : Nat → Int32} {y : MethodName} {cc : ByteArray} {mx : Nat} {ret : Option FieldType} {d : Nat} {args : List Value} {σ : Mem} {P : Option Value → Mem → Prop} (h : Cc y cc mx ret d args σ P) : Cs L xs y cc mx ret d args σ P := by
  intro l D ad cs hinj _
  intro p e ha hc hk s m args' below hf hfit happ hq
  exact h l D ad cs hinj p e ha hc hk s m args' below hf hfit ⟨happ.1, happ.2.1, happ.2.2.1⟩ hq
theorem Cs.intro {L : Nat} {xs : Nat → Int32} {y : MethodName} {cc : ByteArray} {mx : Nat} {ret : Option FieldType} {d : Nat} {args : List Value} {σ : Mem} {P : Option Value → Mem → Prop} (hy : plainName y.cls = true) (ls0 : List (Option Value)) (he : ∀ ad : Nat → Nat, lvl ad 0 ls0 = lv_args 0 (args.map (cvv ad))) (hlen : ls0.length = mx) (hle : ∀ ad : Nat → Nat, (lg_sl (args.map (cvv ad))).length ≤ mx)
    (h : ∀ X : XC, Cok X y.cls cc mx → Rok X d → Ret X ret P → Scr X L xs → Vw X 0 ls0 [] σ) : Cs L xs y cc mx ret d args σ P := by
  intro l D ad cs hinj hns
  refine Met.ofW (cc := cc) (maxL := mx) (ret := ret) hy rfl ?_
  intro p e s m args' below meth c s₁ B hml hv
  obtain ⟨rfl, hP, hK, hx⟩ := hv
  have hts := atoms_spec (ws := Cond.code y cc mx ret :: lw_w) B.pre
  have hown : s.vm.findClass y.cls = some m.cls := findClass_of_methodNamed B.named
  have hl := lv_entry (args.map (cvv ad)) (n := mx) (hle ad)
  rw [lg_entry_eq]
  generalize (lg_sl (args.map (cvv ad)) ++ List.replicate (mx - (lg_sl (args.map (cvv ad))).length) Slot.unset).toArray = ls at hl ⊢
  rw [← he ad] at hl
  exact h (p, l, e, (headSpec (Cond.code y cc mx ret :: lw_w) (rmd d)).room, s, m, (args.map (cvv ad)).toArray, below, meth, c, 0, 0, MQ below (Qg D ad cs (inW ad) P) (args.map (cvv ad)).toArray s 0 0 (inW ad), inW ad, D, ad, cs, s.heap)
    ⟨B.exec, B.bytes, hml, hown, fun w hw => hts w (List.mem_cons_of_mem _ hw), hK, hinj, fun i hi => ⟨i, hi, rfl⟩, Nat.zero_le _, Nat.zero_le _⟩ ⟨Nat.le_refl _, Nat.le_refl _⟩ ⟨B.returns, B.notSynchronized, rfl, rfl, rfl, rfl⟩ ⟨hx, by obtain ⟨scr, h1, -⟩ := hx; exact (Array.getElem?_eq_some_iff.mp h1).1, hns⟩ s.heap [] ls hP va_S.rf (by rw [hlen]; exact hl)
theorem Ps_blind {D : va_G} {ad : Nat → Nat} {cs : Nat → ClassId} {σ : Mem} {av : List Value} {L : Nat} {xs : Nat → Int32} : FrameBlind (va_Pc av (fun U => va_P D vwCl (wl ad cs σ 0 shp) U.heap ∧ va_K D vwCl (tys3 cs) U ∧ va_X (ad 52) L xs U U.heap)) := fun a U g mk q => by
  obtain ⟨q0, qP, qK, scr, h1, h2, h3⟩ := q
  exact ⟨q0, qP, va_K.moved (u := U) (U := U.calling g mk a) (Vm.Alike.refl U.vm) qK, scr, h1, State.isArrayOf_alike (Vm.Alike.refl U.vm) h2, h3⟩
theorem wl_cg {ad : Nat → Nat} {cs : Nat → ClassId} {σ σ' : Mem} (h : ∀ q, q < 52 → σ q = σ' q) : wl ad cs σ 0 shp = wl ad cs σ' 0 shp := by
  apply List.ext_getElem?
  intro i
  rw [wl_get, wl_get, Nat.zero_add]
  cases hs : shp[i]? with
  | none => rfl
  | some sh =>
    have hi : i < 52 := by rw [← shp_len]; exact (List.getElem?_eq_some_iff.mp hs).1
    simp only [Option.map_some, ent_congr (h i hi) sh]
theorem V_callSs {X : XC} {own : String} {cc : ByteArray} {nL pc : Nat} {ls : List (Option Value)} {st : List Value} {σ : Mem} {index n d mx : Nat} {y : MethodName} {bytes : ByteArray} {ret : Option FieldType} {L : Nat} {xs : Nat → Int32} {As rest : List Value} {P : Option Value → Mem → Prop} (hX : Cok X own cc nL) (hR : Rok X (d + 1)) (hm : MthS own index y bytes mx ret n) (hs : Scr X L xs) (hC : Cs L xs y bytes mx ret d (As) σ P) (hd : decode cc pc = .ok (.invokestatic index, 3)) (hn : As.length = n) (hnl : ls.length = nL) (hst : st = As.reverse ++ rest) (hcat : csum rest ≤ 8) (kk : ∀ (r : Option Value) (σ2 : Mem), P r σ2 → Vw X (pc + 3) ls (r.toList ++ rest) σ2) : Vw X pc ls st σ := by
  obtain ⟨p, l, e, R, s, m, args, below, meth, c, cells, slots, Q, A, D, ad, cs, H0⟩ := X
  intro H locs lsA hP hS hl
  obtain ⟨hx, hb, hml, hown, hts, hK, hinj, hA, hcl, hsl⟩ := hX
  have hns : ¬ inW ad (ad 52) := fun q => hs.2.2 (inW_A hA _ q)
  have hM := hC l D ad cs hinj hns
  have hxs : ∀ U : State, U.heap = H → s.vm.Alike U.vm → va_X (ad 52) L xs U U.heap := fun U hU hW => by
    obtain ⟨⟨scr, h1, h2, h3⟩, h4, h5⟩ := hs
    exact ⟨scr, by rw [hU, hS.2.1 _ h4 h5]; exact h1, State.isArrayOf_alike hW h2, h3⟩
  have hroom : (rmd d).frames + 1 ≤ R.frames ∧ 8 + (mx + 11) + (rmd d).locals ≤ R.locals := ⟨hR.1, by have h9 := hR.2; have h8 := hm.1.2.1; show 8 + (mx + 11) + 40 * d ≤ R.locals; omega⟩
  have hGw : ∀ w ∈ Cond.code y bytes mx ret :: lw_w, w ∈ lw_w := fun w hw => (List.mem_cons.mp hw).elim (fun e => by rw [e]; exact hm.1.2.2.1) id
  have hstk : st.map (cvv ad) = (As.map (cvv ad)).reverse ++ rest.map (cvv ad) := by rw [hst]; simp [List.map_append, List.map_reverse, cvv]
  have hcat2 : 2 * (F0 m pc lsA (rest.map (cvv ad))).monitorRoom + ((rest.map (cvv ad)).map fun v => v.category).sum ≤ 8 := by
    show 2 * 0 + _ ≤ 8
    rw [csum_map]
    omega
  have hws : ∀ w ∈ Cond.code y bytes mx ret :: lw_w, ∀ (a' : Array Value) (U : State), s.WarmedH U.vm → w.before a' U = true := fun w hw a' U hW => lw_warm hts w (hGw w hw) a' U hW
  have hlen9 : ∀ sig, parseMethodDescriptor y.desc = some sig → n = sig.parameters.length := fun sig h => by
    have h2 := hm.1.1.2.2
    rw [h] at h2
    exact (Option.some.inj h2).symm
  have hfix : CallFix p m c cc nL s args lw_w own := ⟨hx, hb, hml, hown, hts⟩
  have run : va_Run p l e R s m args below meth c H locs cells slots 0 0 (F0 m pc lsA (st.map (cvv ad))) (rest.map (cvv ad)) (Qg D ad cs (inW ad) P (As.map (cvv ad)).toArray) (inW ad) := by
    obtain ⟨⟨hd1, hmx, hco, hini, hlk⟩, hstat⟩ := hm
    have hpre : PreS s H (va_Pc (As.map (cvv ad)) (fun U => va_P D vwCl (wl ad cs σ 0 shp) U.heap ∧ va_K D vwCl (tys3 cs) U ∧ va_X (ad 52) L xs U U.heap)) (As.map (cvv ad)) := ⟨Ps_blind, fun U hU hW => ⟨rfl, by rw [hU]; exact hP, va_K.moved hW.alike hK, hxs U hU hW.alike⟩⟩
    rcases hlk with hlk | ⟨host, hlk⟩
    · exact va_runS hfix hM ⟨⟨rfl, rfl, hroom.1, hroom.2, hws, List.mem_cons_self, hts _ hco, hts _ hini, ⟨hd1.1, hd1.2.1⟩, hlen9, hts _ hlk⟩, hts _ hstat⟩ hpre rfl (by rw [List.length_map]; exact hn) (by rw [← hnl]; exact hl.1) hstk hcat2 hd ⟨hcl, hsl⟩
    · exact va_runSN hfix hM ⟨⟨⟨rfl, rfl, hroom.1, hroom.2, hws, List.mem_cons_self⟩, hts _ hco, hts _ hini, ⟨hd1.1, hd1.2.1⟩, hlen9, hts _ hlk⟩, hts _ hstat, trivial⟩ hpre rfl (by rw [List.length_map]; exact hn) (by rw [← hnl]; exact hl.1) hstk hcat2 hd ⟨hcl, hsl⟩
  intro T hT XS
  obtain ⟨v, st₀, t, T', L, h0, X', hL, e1, e2, ⟨⟨r, σ', hoc, hPr, hP', hK'⟩, hz, hk⟩, stp⟩ := run T hT XS
  have hv : v = r.map (cvv ad) := Outcome.returned.inj hoc
  rw [h0] at hz hk
  obtain ⟨t2, a1, b1⟩ := kk r σ' hPr T'.heap (locs ++ L) lsA (by rw [e1]; exact hP')
    ⟨Nat.le_trans hS.1 (by rw [e1]; exact hz), fun q h1 h2 => by rw [e1, hk q (Nat.lt_of_lt_of_le h1 hS.1) (fun z => h2 (inW_A hA q z))]; exact hS.2.1 q h1 h2, fun q hq => by
      rcases List.mem_append.mp hq with h | h
      · exact hS.2.2 q h
      · exact inW_A hA _ (hL q h)⟩ hl T' rfl X'
  refine ⟨t2, stp t2 ?_, b1⟩
  have hst2 : v.toList ++ rest.map (cvv ad) = (r.toList ++ rest).map (cvv ad) := by
    rw [hv]
    cases r <;> rfl
  rw [hst2]
  exact a1
theorem L_callSs {X : XC} {own : String} {cc : ByteArray} {nL pc : Nat} {ls : List (Option Value)} {st : List Value} {σ : Mem} {index n d mx : Nat} {y : MethodName} {bytes : ByteArray} {ret : Option FieldType} {L : Nat} {xs : Nat → Int32} {As rest : List Value} {P : Option Value → Mem → Prop} (hX : Cok X own cc nL) (hp : Pok X) (hR : Rok X (d + 1)) (hm : MthS own index y bytes mx ret n) (hs : Scr X L xs) (hC : Cs L xs y bytes mx ret d (As) σ P) (hd : decode cc pc = .ok (.invokestatic index, 3)) (hn : As.length = n) (hnl : ls.length = nL) (hst : st = As.reverse ++ rest) (hcat : csum rest ≤ 8) (h53 : ∀ (r : Option Value) (σ2 : Mem), P r σ2 → σ2 53 = σ 53) (kk : ∀ (r : Option Value) (σ2 : Mem), P r σ2 → Lw X (pc + 3) ls (r.toList ++ rest) σ2) : Lw X pc ls st σ := by
  obtain ⟨p, l, e, R, s, m, args, below, meth, c, cells, slots, Q, A, D, ad, cs, H0⟩ := X
  intro H locs lsA ⟨hP, hPr⟩ hS hl
  obtain ⟨hx, hb, hml, hown, hts, hK, hinj, hA, hcl, hsl⟩ := hX
  have hns : ¬ inW ad (ad 52) := fun q => hs.2.2 (inW_A hA _ q)
  have hM := hC l D ad cs hinj hns
  have hxs : ∀ U : State, U.heap = H → s.vm.Alike U.vm → va_X (ad 52) L xs U U.heap := fun U hU hW => by
    obtain ⟨⟨scr, h1, h2, h3⟩, h4, h5⟩ := hs
    exact ⟨scr, by rw [hU, hS.2.1 _ h4 h5]; exact h1, State.isArrayOf_alike hW h2, h3⟩
  have hroom : (rmd d).frames + 1 ≤ R.frames ∧ 8 + (mx + 11) + (rmd d).locals ≤ R.locals := ⟨hR.1, by have h9 := hR.2; have h8 := hm.1.2.1; show 8 + (mx + 11) + 40 * d ≤ R.locals; omega⟩
  have hGw : ∀ w ∈ Cond.code y bytes mx ret :: lw_w, w ∈ lw_w := fun w hw => (List.mem_cons.mp hw).elim (fun e => by rw [e]; exact hm.1.2.2.1) id
  have hstk : st.map (cvv ad) = (As.map (cvv ad)).reverse ++ rest.map (cvv ad) := by rw [hst]; simp [List.map_append, List.map_reverse, cvv]
  have hcat2 : 2 * (F0 m pc lsA (rest.map (cvv ad))).monitorRoom + ((rest.map (cvv ad)).map fun v => v.category).sum ≤ 8 := by
    show 2 * 0 + _ ≤ 8
    rw [csum_map]
    omega
  have hws : ∀ w ∈ Cond.code y bytes mx ret :: lw_w, ∀ (a' : Array Value) (U : State), s.WarmedH U.vm → w.before a' U = true := fun w hw a' U hW => lw_warm hts w (hGw w hw) a' U hW
  have hlen9 : ∀ sig, parseMethodDescriptor y.desc = some sig → n = sig.parameters.length := fun sig h => by
    have h2 := hm.1.1.2.2
    rw [h] at h2
    exact (Option.some.inj h2).symm
  have hfix : CallFix p m c cc nL s args lw_w own := ⟨hx, hb, hml, hown, hts⟩
  have run : va_Run p l e R s m args below meth c H locs cells slots 0 0 (F0 m pc lsA (st.map (cvv ad))) (rest.map (cvv ad)) (Qg D ad cs (inW ad) P (As.map (cvv ad)).toArray) (inW ad) := by
    obtain ⟨⟨hd1, hmx, hco, hini, hlk⟩, hstat⟩ := hm
    have hpre : PreS s H (va_Pc (As.map (cvv ad)) (fun U => va_P D vwCl (wl ad cs σ 0 shp) U.heap ∧ va_K D vwCl (tys3 cs) U ∧ va_X (ad 52) L xs U U.heap)) (As.map (cvv ad)) := ⟨Ps_blind, fun U hU hW => ⟨rfl, by rw [hU]; exact hP, va_K.moved hW.alike hK, hxs U hU hW.alike⟩⟩
    rcases hlk with hlk | ⟨host, hlk⟩
    · exact va_runS hfix hM ⟨⟨rfl, rfl, hroom.1, hroom.2, hws, List.mem_cons_self, hts _ hco, hts _ hini, ⟨hd1.1, hd1.2.1⟩, hlen9, hts _ hlk⟩, hts _ hstat⟩ hpre rfl (by rw [List.length_map]; exact hn) (by rw [← hnl]; exact hl.1) hstk hcat2 hd ⟨hcl, hsl⟩
    · exact va_runSN hfix hM ⟨⟨⟨rfl, rfl, hroom.1, hroom.2, hws, List.mem_cons_self⟩, hts _ hco, hts _ hini, ⟨hd1.1, hd1.2.1⟩, hlen9, hts _ hlk⟩, hts _ hstat, trivial⟩ hpre rfl (by rw [List.length_map]; exact hn) (by rw [← hnl]; exact hl.1) hstk hcat2 hd ⟨hcl, hsl⟩
  intro T hT XS
  obtain ⟨v, st₀, t, T', L, h0, X', hL, e1, e2, ⟨⟨r, σ', hoc, hPr9, hP', hK'⟩, hz, hk⟩, stp⟩ := run T hT XS
  have hv : v = r.map (cvv ad) := Outcome.returned.inj hoc
  rw [h0] at hz hk
  obtain ⟨t2, a1, b1⟩ := kk r σ' hPr9 T'.heap (locs ++ L) lsA ⟨by rw [e1]; exact hP', by rw [e1, hk (ad 53) (Array.getElem?_eq_some_iff.mp hPr).1 hp.2, h53 r σ' hPr9]; exact hPr⟩
    ⟨Nat.le_trans hS.1 (by rw [e1]; exact hz), fun q h1 h2 => by rw [e1, hk q (Nat.lt_of_lt_of_le h1 hS.1) (fun z => h2 (inW_A hA q z))]; exact hS.2.1 q h1 h2, fun q hq => by
      rcases List.mem_append.mp hq with h | h
      · exact hS.2.2 q h
      · exact inW_A hA _ (hL q h)⟩ hl T' rfl X'
  refine ⟨t2, stp t2 ?_, b1⟩
  have hst2 : v.toList ++ rest.map (cvv ad) = (r.toList ++ rest).map (cvv ad) := by
    rw [hv]
    cases r <;> rfl
  rw [hst2]
  exact a1
theorem L_callV {X : XC} {own : String} {cc : ByteArray} {nL pc : Nat} {ls : List (Option Value)} {st : List Value} {σ : Mem} {index n d mx : Nat} {y : MethodName} {bytes : ByteArray} {ret : Option FieldType} {As rest : List Value} {P : Option Value → Mem → Prop} {ci b : Nat} {fs : List (Option Nat)} (hX : Cok X own cc nL) (hp : Pok X) (hR : Rok X (d + 1)) (hm : MthV own index y ci bytes mx ret n) (hC : Cc y bytes mx ret d (.ref b :: As) σ P) (hd : decode cc pc = .ok (.invokevirtual index, 3)) (hs : shp[b]? = some (.inl (ci, fs))) (hn : As.length = n) (hnl : ls.length = nL) (hst : st = As.reverse ++ .ref b :: rest) (hcat : csum rest ≤ 8) (h53 : ∀ (r : Option Value) (σ2 : Mem), P r σ2 → σ2 53 = σ 53) (kk : ∀ (r : Option Value) (σ2 : Mem), P r σ2 → Lw X (pc + 3) ls (r.toList ++ rest) σ2) : Lw X pc ls st σ := by
  obtain ⟨p, l, e, R, s, m, args, below, meth, c, cells, slots, Q, A, D, ad, cs, H0⟩ := X
  intro H locs lsA ⟨hP, hPr⟩ hS hl
  obtain ⟨hx, hb, hml, hown, hts, hK, hinj, hA, hcl, hsl⟩ := hX
  have hM := hC l D ad cs hinj
  have hroom : (rmd d).frames + 1 ≤ R.frames ∧ 8 + (mx + 11) + (rmd d).locals ≤ R.locals := ⟨hR.1, by have h9 := hR.2; have h8 := hm.1.2.1; show 8 + (mx + 11) + 40 * d ≤ R.locals; omega⟩
  have hGw : ∀ w ∈ Cond.code y bytes mx ret :: lw_w, w ∈ lw_w := fun w hw => (List.mem_cons.mp hw).elim (fun e => by rw [e]; exact hm.1.2.2.1) id
  have hstk : st.map (cvv ad) = (As.map (cvv ad)).reverse ++ .ref (ad b) :: rest.map (cvv ad) := by rw [hst]; simp [List.map_append, List.map_reverse, cvv]
  have hcat2 : 2 * (F0 m pc lsA (rest.map (cvv ad))).monitorRoom + ((rest.map (cvv ad)).map fun v => v.category).sum ≤ 8 := by
    show 2 * 0 + _ ≤ 8
    rw [csum_map]
    omega
  have hws : ∀ w ∈ Cond.code y bytes mx ret :: lw_w, ∀ (a' : Array Value) (U : State), s.WarmedH U.vm → w.before a' U = true := fun w hw a' U hW => lw_warm hts w (hGw w hw) a' U hW
  have hlen9 : ∀ sig, parseMethodDescriptor y.desc = some sig → n = sig.parameters.length := fun sig h => by
    have h2 := hm.1.1.2.2
    rw [h] at h2
    exact (Option.some.inj h2).symm
  have hfix : CallFix p m c cc nL s args lw_w own := ⟨hx, hb, hml, hown, hts⟩
  have run : va_Run p l e R s m args below meth c H locs cells slots 0 0 (F0 m pc lsA (st.map (cvv ad))) (rest.map (cvv ad)) (Qg D ad cs (inW ad) P (Value.ref (ad b) :: As.map (cvv ad)).toArray) (inW ad) := by
    obtain ⟨⟨hd1, hmx, hco, hini, hlk⟩, ⟨T9, N9, hcl9⟩, hins, hsel⟩ := hm
    have he := wl_at (ad := ad) (cs := cs) (σ := σ) hs
    have hrecv : ∃ cellB : Cell, H[ad b]? = some cellB ∧ cellB.vm.isStatics = false ∧ s.vm.findClass y.cls = some cellB.cls := va_recv hK hP hcl9 he
    have hpre : PreV s H y.cls (ad b) (va_Pc (.ref (ad b) :: As.map (cvv ad)) (fun U => va_P D vwCl (wl ad cs σ 0 shp) U.heap ∧ va_K D vwCl (tys3 cs) U)) (As.map (cvv ad)) := ⟨Pc_blind, hrecv, fun U hU hW => ⟨rfl, by rw [hU]; exact hP, va_K.moved hW.alike hK⟩⟩
    rcases hlk with hlk | ⟨host, hlk⟩
    · exact va_runV hfix hM (C := y.cls) ⟨⟨rfl, rfl, hroom.1, hroom.2, hws, List.mem_cons_self, hts _ hco, hts _ hini, ⟨hd1.1, hd1.2.1⟩, hlen9, hts _ hlk⟩, hts _ hins, hts _ hsel⟩ hpre rfl (by rw [List.length_map]; exact hn) (by rw [← hnl]; exact hl.1) hstk hcat2 hd ⟨hcl, hsl⟩
    · exact va_runVN hfix hM (C := y.cls) ⟨⟨⟨rfl, rfl, hroom.1, hroom.2, hws, List.mem_cons_self⟩, hts _ hco, hts _ hini, ⟨hd1.1, hd1.2.1⟩, hlen9, hts _ hlk⟩, hts _ hins, hts _ hsel⟩ hpre rfl (by rw [List.length_map]; exact hn) (by rw [← hnl]; exact hl.1) hstk hcat2 hd ⟨hcl, hsl⟩
  intro T hT XS
  obtain ⟨v, st₀, t, T', L, h0, X', hL, e1, e2, ⟨⟨r, σ', hoc, hPr9, hP', hK'⟩, hz, hk⟩, stp⟩ := run T hT XS
  have hv : v = r.map (cvv ad) := Outcome.returned.inj hoc
  rw [h0] at hz hk
  obtain ⟨t2, a1, b1⟩ := kk r σ' hPr9 T'.heap (locs ++ L) lsA ⟨by rw [e1]; exact hP', by rw [e1, hk (ad 53) (Array.getElem?_eq_some_iff.mp hPr).1 hp.2, h53 r σ' hPr9]; exact hPr⟩
    ⟨Nat.le_trans hS.1 (by rw [e1]; exact hz), fun q h1 h2 => by rw [e1, hk q (Nat.lt_of_lt_of_le h1 hS.1) (fun z => h2 (inW_A hA q z))]; exact hS.2.1 q h1 h2, fun q hq => by
      rcases List.mem_append.mp hq with h | h
      · exact hS.2.2 q h
      · exact inW_A hA _ (hL q h)⟩ hl T' rfl X'
  refine ⟨t2, stp t2 ?_, b1⟩
  have hst2 : v.toList ++ rest.map (cvv ad) = (r.toList ++ rest).map (cvv ad) := by
    rw [hv]
    cases r <;> rfl
  rw [hst2]
  exact a1
theorem V_callSsi {X : XC} {own : String} {cc : ByteArray} {nL pc : Nat} {ls : List (Option Value)} {st : List Value} {σ : Mem} {index n d mx : Nat} {y : MethodName} {bytes : ByteArray} {ret : Option FieldType} {L : Nat} {xs : Nat → Int32} {As rest : List Value} {v : Int32} {σ2 : Mem} (hX : Cok X own cc nL) (hR : Rok X (d + 1)) (hm : MthS own index y bytes mx ret n) (hs : Scr X L xs) (hC : Cs L xs y bytes mx ret d As σ (rI v σ2)) (hd : decode cc pc = .ok (.invokestatic index, 3)) (hn : As.length = n) (hnl : ls.length = nL) (hst : st = As.reverse ++ rest) (hcat : csum rest ≤ 8) (kk : Vw X (pc + 3) ls (.int v :: rest) σ2) : Vw X pc ls st σ :=
  V_callSs hX hR hm hs hC hd hn hnl hst hcat (fun r σ3 h => by obtain ⟨rfl, rfl⟩ := h; exact kk)
theorem L_callSsi {X : XC} {own : String} {cc : ByteArray} {nL pc : Nat} {ls : List (Option Value)} {st : List Value} {σ : Mem} {index n d mx : Nat} {y : MethodName} {bytes : ByteArray} {ret : Option FieldType} {L : Nat} {xs : Nat → Int32} {As rest : List Value} {v : Int32} {σ2 : Mem} (hX : Cok X own cc nL) (hp : Pok X) (hR : Rok X (d + 1)) (hm : MthS own index y bytes mx ret n) (hs : Scr X L xs) (hC : Cs L xs y bytes mx ret d As σ (rI v σ2)) (hd : decode cc pc = .ok (.invokestatic index, 3)) (hn : As.length = n) (hnl : ls.length = nL) (hst : st = As.reverse ++ rest) (hcat : csum rest ≤ 8) (h53 : σ2 53 = σ 53) (kk : Lw X (pc + 3) ls (.int v :: rest) σ2) : Lw X pc ls st σ :=
  L_callSs hX hp hR hm hs hC hd hn hnl hst hcat (fun r σ3 h => by obtain ⟨rfl, rfl⟩ := h; exact h53) (fun r σ3 h => by obtain ⟨rfl, rfl⟩ := h; exact kk)
theorem L_callVi {X : XC} {own : String} {cc : ByteArray} {nL pc : Nat} {ls : List (Option Value)} {st : List Value} {σ : Mem} {index n d mx : Nat} {y : MethodName} {bytes : ByteArray} {ret : Option FieldType} {As rest : List Value} {ci b : Nat} {fs : List (Option Nat)} {v : Int32} {σ2 : Mem} (hX : Cok X own cc nL) (hp : Pok X) (hR : Rok X (d + 1)) (hm : MthV own index y ci bytes mx ret n) (hC : Cc y bytes mx ret d (.ref b :: As) σ (rI v σ2)) (hd : decode cc pc = .ok (.invokevirtual index, 3)) (hs : shp[b]? = some (.inl (ci, fs))) (hn : As.length = n) (hnl : ls.length = nL) (hst : st = As.reverse ++ .ref b :: rest) (hcat : csum rest ≤ 8) (h53 : σ2 53 = σ 53) (kk : Lw X (pc + 3) ls (.int v :: rest) σ2) : Lw X pc ls st σ :=
  L_callV hX hp hR hm hC hd hs hn hnl hst hcat (fun r σ3 h => by obtain ⟨rfl, rfl⟩ := h; exact h53) (fun r σ3 h => by obtain ⟨rfl, rfl⟩ := h; exact kk)
/-- the law's own array: an int of it -/
theorem L_pld {X : XC} {own : String} {cc : ByteArray} {nL pc : Nat} {ls : List (Option Value)} {st : List Value} {σ : Mem} {j : Nat} {i : Int32} (hX : Cok X own cc nL) (hd : decode cc pc = .ok (.iaload, 1)) (hi : i = nI j) (hj : j < 12) (kk : Lw X (pc + 1) ls (.int (σ 53 j) :: st) σ) : Lw X pc ls (.int i :: .ref 53 :: st) σ := by
  obtain ⟨p, l, e, R, s, m, args, below, meth, c, cells, slots, Q, A, D, ad, cs, H0⟩ := X
  intro H locs lsA hP hS hl
  subst hi
  have h2 := kk H locs lsA hP hS hl
  refine W.iald (v := .int (σ 53 j)) hX.1 hX.2.1 hP.2 ((hX.2.2.2.2.2.1.2 0 _ rfl).1 12 (fun j => .int (σ 53 j))) (fun q => by cases q) (by show ¬ (nI j < 0 ∨ (arrV _ _ _).slots.size ≤ _); rw [arrV_size]; exact nI_in (N := 12) hj (by decide)) (by show (arrV _ _ _).slots[_]? = _; rw [nI_clamp (by omega), arrV_read _ _ hj]) rfl rfl hd h2
theorem L_past {X : XC} {own : String} {cc : ByteArray} {nL pc : Nat} {ls : List (Option Value)} {st : List Value} {σ : Mem} {j : Nat} {i x : Int32} (hX : Cok X own cc nL) (hp : Pok X) (hd : decode cc pc = .ok (.iastore, 1)) (hi : i = nI j) (hj : j < 12) (kk : Lw X (pc + 1) ls st (mu σ 53 j x)) : Lw X pc ls (.int x :: .int i :: .ref 53 :: st) σ := by
  obtain ⟨p, l, e, R, s, m, args, below, meth, c, cells, slots, Q, A, D, ad, cs, H0⟩ := X
  intro H locs lsA hP hS hl
  subst hi
  refine W.iast hX.1 hX.2.1 hP.2 ((hX.2.2.2.2.2.1.2 0 _ rfl).1 12 (fun j => .int (σ 53 j))) (fun q => by cases q) (by show ¬ (nI j < 0 ∨ (arrV _ _ _).slots.size ≤ _); rw [arrV_size]; exact nI_in (N := 12) hj (by decide)) rfl rfl hd (fun H1 e1 z oq => ?_)
  have hw : wl ad cs (mu σ 53 j x) 0 shp = wl ad cs σ 0 shp := wl_cg (fun q hq => (mu_ne (by omega)).symm)
  have hD := wl_D (A := fun q => q ≠ ad 53) (cs := cs) (σ := σ) hX.2.2.2.2.2.2.1 (fun i hi e => hp.2 ⟨i, hi, e⟩)
  refine kk H1 _ lsA ⟨?_, ?_⟩ (hS.put z oq hp.1) hl
  · rw [hw]
    exact fun k q hq => (hP.1 k q hq).kept (oq q.1 (hD.2 k q hq))
  · rw [e1, mu_row, vp_cell_i, vp_cell_i, arrV_store, nI_clamp (by omega)]
    congr 2
    funext q
    by_cases hq : q = j
    · subst hq
      simp [updV, upd]
    · simp [updV, upd, hq]
