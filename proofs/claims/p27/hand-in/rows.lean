section
-- ===== PART A: goes FIRST, ahead of the names: the tables' words, and 'selects' of the private methods out of them =====
/-- a private method of a class that the tables say can be made, by its rows of tables_1 -/
def lw_okq (q : MethodName × Nat) : Prop := (q.1.cls ≠ "java/lang/invoke/MethodHandle" ∧ q.1.cls ≠ "java/lang/invoke/VarHandle") ∧ Cond.instantiable q.1.cls q.2 ∈ tables_1 ∧ Cond.privateMethod q.1 ∈ tables_1 ∧ Cond.instanceMethod q.1 ∈ tables_1
theorem lw_p0 : lw_okq (⟨"BuyAsAsked$Sets", "leastGap", "(I)I"⟩, 9) := ⟨⟨by decide +kernel, by decide +kernel⟩, List.mem_of_getElem? (i := 37) (by decide +kernel), List.mem_of_getElem? (i := 223) (by decide +kernel), List.mem_of_getElem? (i := 224) (by decide +kernel)⟩
theorem lw_p1 : lw_okq (⟨"BuyAsAsked$Sets", "pricesOf", "(I)I"⟩, 9) := ⟨⟨by decide +kernel, by decide +kernel⟩, List.mem_of_getElem? (i := 37) (by decide +kernel), List.mem_of_getElem? (i := 231) (by decide +kernel), List.mem_of_getElem? (i := 232) (by decide +kernel)⟩
theorem lw_p2 : lw_okq (⟨"BuyAsAsked$Sets", "buyTight", "(I)I"⟩, 9) := ⟨⟨by decide +kernel, by decide +kernel⟩, List.mem_of_getElem? (i := 37) (by decide +kernel), List.mem_of_getElem? (i := 238) (by decide +kernel), List.mem_of_getElem? (i := 239) (by decide +kernel)⟩
theorem lw_p3 : lw_okq (⟨"BuyAsAsked$Sets", "havers", "(I)I"⟩, 9) := ⟨⟨by decide +kernel, by decide +kernel⟩, List.mem_of_getElem? (i := 37) (by decide +kernel), List.mem_of_getElem? (i := 262) (by decide +kernel), List.mem_of_getElem? (i := 263) (by decide +kernel)⟩
theorem lw_p4 : lw_okq (⟨"BuyAsAsked$Asks", "worthOfOwn", "(LBuyAsAsked$Sets;I)I"⟩, 2) := ⟨⟨by decide +kernel, by decide +kernel⟩, List.mem_of_getElem? (i := 157) (by decide +kernel), List.mem_of_getElem? (i := 348) (by decide +kernel), List.mem_of_getElem? (i := 349) (by decide +kernel)⟩
theorem lw_p5 : lw_okq (⟨"BuyAsAsked$Asks", "begin", "(I)V"⟩, 2) := ⟨⟨by decide +kernel, by decide +kernel⟩, List.mem_of_getElem? (i := 157) (by decide +kernel), List.mem_of_getElem? (i := 352) (by decide +kernel), List.mem_of_getElem? (i := 353) (by decide +kernel)⟩
theorem lw_p6 : lw_okq (⟨"BuyAsAsked$Asks", "worthOfAny", "(LBuyAsAsked$Sets;I)I"⟩, 2) := ⟨⟨by decide +kernel, by decide +kernel⟩, List.mem_of_getElem? (i := 157) (by decide +kernel), List.mem_of_getElem? (i := 356) (by decide +kernel), List.mem_of_getElem? (i := 357) (by decide +kernel)⟩
theorem lw_p7 : lw_okq (⟨"BuyAsAsked$Asks", "worthOfNear", "(LBuyAsAsked$Sets;I)I"⟩, 2) := ⟨⟨by decide +kernel, by decide +kernel⟩, List.mem_of_getElem? (i := 157) (by decide +kernel), List.mem_of_getElem? (i := 360) (by decide +kernel), List.mem_of_getElem? (i := 361) (by decide +kernel)⟩
theorem lw_p8 : lw_okq (⟨"BuyAsAsked$Asks", "worthOfOpen", "(LBuyAsAsked$Sets;I)I"⟩, 2) := ⟨⟨by decide +kernel, by decide +kernel⟩, List.mem_of_getElem? (i := 157) (by decide +kernel), List.mem_of_getElem? (i := 364) (by decide +kernel), List.mem_of_getElem? (i := 365) (by decide +kernel)⟩
theorem lw_p9 : lw_okq (⟨"BuyAsAsked$Asks", "markOfNear", "(LBuyAsAsked$Sets;I)I"⟩, 2) := ⟨⟨by decide +kernel, by decide +kernel⟩, List.mem_of_getElem? (i := 157) (by decide +kernel), List.mem_of_getElem? (i := 369) (by decide +kernel), List.mem_of_getElem? (i := 370) (by decide +kernel)⟩
theorem lw_p10 : lw_okq (⟨"BuyAsAsked$Asks", "markOfAny", "(LBuyAsAsked$Sets;I)I"⟩, 2) := ⟨⟨by decide +kernel, by decide +kernel⟩, List.mem_of_getElem? (i := 157) (by decide +kernel), List.mem_of_getElem? (i := 373) (by decide +kernel), List.mem_of_getElem? (i := 374) (by decide +kernel)⟩
theorem lw_p11 : lw_okq (⟨"BuyAsAsked$Asks", "markOfOwn", "(LBuyAsAsked$Sets;I)I"⟩, 2) := ⟨⟨by decide +kernel, by decide +kernel⟩, List.mem_of_getElem? (i := 157) (by decide +kernel), List.mem_of_getElem? (i := 382) (by decide +kernel), List.mem_of_getElem? (i := 383) (by decide +kernel)⟩
def lw_privs_1 : List (MethodName × Nat) := [(⟨"BuyAsAsked$Sets", "leastGap", "(I)I"⟩, 9), (⟨"BuyAsAsked$Sets", "pricesOf", "(I)I"⟩, 9), (⟨"BuyAsAsked$Sets", "buyTight", "(I)I"⟩, 9), (⟨"BuyAsAsked$Sets", "havers", "(I)I"⟩, 9), (⟨"BuyAsAsked$Asks", "worthOfOwn", "(LBuyAsAsked$Sets;I)I"⟩, 2), (⟨"BuyAsAsked$Asks", "begin", "(I)V"⟩, 2), (⟨"BuyAsAsked$Asks", "worthOfAny", "(LBuyAsAsked$Sets;I)I"⟩, 2), (⟨"BuyAsAsked$Asks", "worthOfNear", "(LBuyAsAsked$Sets;I)I"⟩, 2), (⟨"BuyAsAsked$Asks", "worthOfOpen", "(LBuyAsAsked$Sets;I)I"⟩, 2), (⟨"BuyAsAsked$Asks", "markOfNear", "(LBuyAsAsked$Sets;I)I"⟩, 2), (⟨"BuyAsAsked$Asks", "markOfAny", "(LBuyAsAsked$Sets;I)I"⟩, 2), (⟨"BuyAsAsked$Asks", "markOfOwn", "(LBuyAsAsked$Sets;I)I"⟩, 2)]
theorem lw_r1 : ∀ q ∈ lw_privs_1, lw_okq q := List.forall_mem_cons.mpr ⟨lw_p0, List.forall_mem_cons.mpr ⟨lw_p1, List.forall_mem_cons.mpr ⟨lw_p2, List.forall_mem_cons.mpr ⟨lw_p3, List.forall_mem_cons.mpr ⟨lw_p4, List.forall_mem_cons.mpr ⟨lw_p5, List.forall_mem_cons.mpr ⟨lw_p6, List.forall_mem_cons.mpr ⟨lw_p7, List.forall_mem_cons.mpr ⟨lw_p8, List.forall_mem_cons.mpr ⟨lw_p9, List.forall_mem_cons.mpr ⟨lw_p10, List.forall_mem_cons.mpr ⟨lw_p11, fun _ h => absurd h List.not_mem_nil⟩⟩⟩⟩⟩⟩⟩⟩⟩⟩⟩⟩
def lw_privs : List (MethodName × Nat) := lw_privs_1
def lw_tbl : List Cond := k2_sels lw_privs ++ tables_1
theorem lw_privs_ok : ∀ q ∈ lw_privs, lw_okq q := lw_r1

/-! ===== BEGIN words of one list among another's, by their places ===== -/
theorem goodIn_r {big : List Cond} (ws : List Cond) (ps : List Nat) (hp : ws = ps.filterMap (fun i => big[i]?)) (h : ws.all goodWord = true) : GoodIn big ws := by
  intro w hw
  have h1 := List.all_eq_true.mp h w hw
  rw [hp] at hw
  obtain ⟨i, -, hi⟩ := List.mem_filterMap.mp hw
  have hm : w ∈ big := by first | exact List.mem_of_getElem? hi | exact List.getElem?_mem hi
  exact ⟨hm, good_of_word h1⟩
theorem goodIn_app {big a b : List Cond} (ha : GoodIn big a) (hb : GoodIn big b) : GoodIn big (a ++ b) := fun w h => (List.mem_append.mp h).elim (ha w) (hb w)
theorem goodIn_ca {big a b : List Cond} {c : Cond} (ha : GoodIn big (c :: a)) (hb : GoodIn big b) : GoodIn big (c :: (a ++ b)) := fun w h => (List.mem_cons.mp h).elim (fun e => ha w (List.mem_cons.mpr (Or.inl e))) (fun h => (List.mem_append.mp h).elim (fun h => ha w (List.mem_cons.mpr (Or.inr h))) (hb w))
theorem goodIn_sub {big ws : List Cond} (hm : ∀ w ∈ ws, w ∈ big) (h : ws.all goodWord = true) : GoodIn big ws := fun w hw => ⟨hm w hw, good_of_word (List.all_eq_true.mp h w hw)⟩
/-! ===== END ===== -/

/-! ===== BEGIN new T[n][m]: the outer array a place, the inner ones among the pooled ===== -/
/-- f, but v at every address of l -/
def vr_up {α : Type} (f : Nat → α) (l : List Nat) (v : α) : Nat → α := fun a => if a ∈ l then v else f a
theorem vr_up_in {α : Type} {f : Nat → α} {l : List Nat} {v : α} {a : Nat} (h : a ∈ l) : vr_up f l v a = v := if_pos h
theorem vr_up_ne {α : Type} {f : Nat → α} {l : List Nat} {v : α} {a : Nat} (h : a ∉ l) : vr_up f l v a = f a := if_neg h
theorem vr_rows {L l : List Nat} {f : Nat → va_E} {e : va_E} (h : ∀ a, a ∈ l → a ∉ L) : va_pl L f ++ l.map (fun a => (a, e)) = va_pl (L ++ l) (vr_up f l e) := by
  unfold va_pl
  rw [List.map_append]
  congr 1
  · apply List.map_congr_left
    intro a ha
    rw [vr_up_ne (fun q => h a q ha)]
  · apply List.map_congr_left
    intro a ha
    rw [vr_up_in ha]
theorem vr_lay {X rows : va_W} {x : Nat × va_E} {pl : va_W} {D : va_G} {cl : List vw_C} {H : Heap} (hP : va_P D cl (((X ++ pl) ++ [x]) ++ rows) H) : va_P D cl ((X ++ [x]) ++ (pl ++ rows)) H := by
  rw [List.append_assoc (X ++ pl)] at hP
  have h := va_P.swap hP
  rw [← List.append_assoc X] at h
  have h2 := va_P.swap h
  rw [List.append_assoc (X ++ [x])] at h2
  exact h2
theorem vr_layD {X rows : va_W} {x : Nat × va_E} {pl : va_W} {A : Nat → Prop} (hD : va_D A (((X ++ pl) ++ [x]) ++ rows)) : va_D A ((X ++ [x]) ++ (pl ++ rows)) := by
  rw [List.append_assoc (X ++ pl)] at hD
  have h := va_D.swap hD
  rw [← List.append_assoc X] at h
  have h2 := va_D.swap h
  rw [List.append_assoc (X ++ [x])] at h2
  exact h2
theorem vr_outer (c : ClassId) (N h0 : Nat) : ∀ i : Nat, Jvm.Free.Multi.outerC c N h0 i = arrV c N (fun j => va_rf (if j < i then some (h0 + 1 + j) else none))
  | 0 => by
    show ({ cls := c, slots := Array.replicate N .null, vm := .none } : Cell) = _
    rw [arrV_new]
    refine congrArg (arrV c N) (funext fun j => ?_)
    simp [va_rf]
  | i + 1 => by
    show (Jvm.Free.Multi.outerC c N h0 i).setSlot i (.ref (h0 + 1 + i)) = _
    rw [vr_outer c N h0 i, arrV_store]
    refine congrArg (arrV c N) (funext fun j => ?_)
    by_cases e : j = i
    · subst e
      simp [updV, va_rf]
    · by_cases h : j < i
      · simp [updV, e, h, Nat.lt_succ_of_lt h]
      · simp [updV, e, h, show ¬ j < i + 1 by omega]
section VGM
variable {p : Program} {l : Launch} {e : Env} {R : Room} {s : State} {m : MethodId} {args : Array Value} {below : List Frame} {meth : Method} {c : Code} {H : Heap} {locs : List Loc} {cells slots : Nat} {Q : State → Prop}
variable {cc : ByteArray} {pc : Nat} {ls : Array Slot} {rest : List Value} {D : va_G} {cl : List vw_C} {A : Nat → Prop} {a : Nat} {tys : List (ClassId × FieldType)} {ws : va_W} {H0 : Heap}
theorem va_mna {X : va_W} {L : List Nat} {f : Nat → va_E} {cc : ByteArray} (hexec : p.tables.exec = Jvm.exec) (hb : c.code = cc) {own : String} {index : Nat} {ty : FieldType} {cy : ClassId} (hown : s.vm.findClass own = some m.cls) (hclink : (Cond.classLink own index ("[" ++ (FieldType.array ty).toString)).before args s = true) (hover : (Cond.arrayOver (.array ty)).before args s = true) (harr : (Cond.arrayClass ty).before args s = true) (hcy : s.vm.findClass (FieldType.array ty).toString = some cy)
    (hK : va_K D cl tys s) (hP : va_P D cl (X ++ va_pl L f) H) (hD : va_D A (X ++ va_pl L f)) (hS : va_S A H0 H locs) (hA : ∀ q, H0.size ≤ q → A q) {n k : Int32} {N' K' : Nat} {z : vp_A} (hn : ¬ n < 0) (hk : ¬ k < 0) (hN : n.toNatClampNeg = N') (hM : k.toNatClampNeg = K')
    (hb1 : N' * 4 ≤ 536870912) (hb2 : K' * componentBytes ty ≤ 536870912) (hb3 : K' ≤ 536870912) (hdf : fits ty (defaultValue ty) = true) (hdd : (defaultValue ty).isDefault = true) (hcells : cells + (1 + N') ≤ R.cells) (hslots : slots + (N' + N' * K') ≤ R.slots) (hz : ∀ c : ClassId, Jvm.Free.Multi.innerC c K' (defaultValue ty) = vp_cell c z) (hdg : decode cc pc = .ok (.multianewarray index 2, 4))
    (kk : ∀ (q : Nat) (r : Nat → Nat) (cA : ClassId) (H1 : Heap), (∀ i j : Nat, i < N' → j < N' → r i = r j → i = j) → (∀ i : Nat, i < N' → r i ∉ L) → va_K D cl (tys ++ [(cA, .array ty)]) s →
      va_P D cl ((X ++ [(q, .inl (cA, N', .inr (.inr (.inr (.inr (fun i => if i < N' then some (r i) else none))))))]) ++ va_pl (L ++ (List.range N').map r) (vr_up f ((List.range N').map r) (.inl (cy, z)))) H1 → va_D A ((X ++ [(q, .inl (cA, N', .inr (.inr (.inr (.inr (fun i => if i < N' then some (r i) else none))))))]) ++ va_pl (L ++ (List.range N').map r) (vr_up f ((List.range N').map r) (.inl (cy, z)))) → va_S A H0 H1 locs →
      W p l e R s m args below meth c H1 locs (cells + 1 + N') (slots + N' + N' * K') Q (F0 m (pc + 4) ls (.ref q :: rest))) : W p l e R s m args below meth c H locs cells slots Q (F0 m pc ls (.int k :: .int n :: rest)) := by
  subst hN
  subst hM
  intro T hT Xs
  obtain ⟨vm₁, cA, comp, -, fA, fC, hO, -, X', step⟩ := Xs.multianewarray2F hexec hown hclink hover harr (g := F0 m pc ls (.int k :: .int n :: rest)) rfl (by rw [hb]; exact hdg) rfl hn hk hb1 hb2 hb3 hdf hdd hcells hslots
  have ec : some cy = some comp := hcy.symm.trans fC
  cases ec
  generalize hF : Jvm.Free.Multi.fill (T.setVm vm₁) cA cy n.toNatClampNeg k.toNatClampNeg (defaultValue ty) n.toNatClampNeg = F at X' step
  have hTh : (T.setVm vm₁).heap = H := hT
  obtain ⟨f1, f2, -, -⟩ := Jvm.Free.Multi.fill_facts (T.setVm vm₁) cA cy n.toNatClampNeg k.toNatClampNeg (defaultValue ty) n.toNatClampNeg
  rw [hF, hTh] at f1 f2
  have hold : ∀ x : Nat, x < H.size → F.heap[x]? = H[x]? := fun x hx => by
    have := Jvm.Free.Multi.fill_old (T.setVm vm₁) cA cy n.toNatClampNeg k.toNatClampNeg (defaultValue ty) (a := x) (by rw [hTh]; exact hx) n.toNatClampNeg
    rw [hF, hTh] at this
    exact this
  have hrow : ∀ j : Nat, j < n.toNatClampNeg → F.heap[H.size + 1 + j]? = some (vp_cell cy z) := fun j hj => by
    have := Jvm.Free.Multi.fill_inner (T.setVm vm₁) cA cy n.toNatClampNeg k.toNatClampNeg (defaultValue ty) n.toNatClampNeg j hj
    rw [hF, hTh, hz] at this
    exact this
  have hout : Jvm.Free.Multi.outerC cA n.toNatClampNeg H.size n.toNatClampNeg = vp_cell cA (n.toNatClampNeg, .inr (.inr (.inr (.inr (fun i => if i < n.toNatClampNeg then some (H.size + 1 + i) else none))))) := by
    rw [vp_cell_q]
    exact vr_outer cA n.toNatClampNeg H.size n.toNatClampNeg
  rw [hout] at f2
  have hlt : ∀ a, a ∈ L → a < H.size := fun a ha => by
    obtain ⟨k9, hk9⟩ := va_pl_get (X := X) (f := f) ha
    exact (hP k9 _ hk9).lt
  have hnl : ∀ i : Nat, i < n.toNatClampNeg → H.size + 1 + i ∉ L := fun i _ h => by
    have := hlt _ h
    omega
  have hnm : ∀ a, a ∈ (List.range n.toNatClampNeg).map (fun i => H.size + 1 + i) → a ∉ L := fun a ha h => by
    obtain ⟨i, -, rfl⟩ := List.mem_map.mp ha
    have := hlt _ h
    omega
  have hP0 : va_P D cl (X ++ va_pl L f) F.heap := hP.kept (fun k9 x hx => hold x.1 ((hP k9 x hx).lt))
  have hP1 : va_P D cl ((X ++ va_pl L f) ++ [(H.size, .inl (cA, n.toNatClampNeg, .inr (.inr (.inr (.inr (fun i => if i < n.toNatClampNeg then some (H.size + 1 + i) else none))))))]) F.heap := hP0.app (fun k9 x hx => by
    have h0 : k9 < 1 := (List.getElem?_eq_some_iff.mp hx).1
    rw [show k9 = 0 by omega] at hx
    cases hx
    exact f2)
  have hP2 : va_P D cl (((X ++ va_pl L f) ++ [(H.size, .inl (cA, n.toNatClampNeg, .inr (.inr (.inr (.inr (fun i => if i < n.toNatClampNeg then some (H.size + 1 + i) else none))))))]) ++ ((List.range n.toNatClampNeg).map (fun i => H.size + 1 + i)).map (fun a => (a, .inl (cy, z)))) F.heap := hP1.app (fun k9 x hx => by
    obtain ⟨a, ha, rfl⟩ := List.mem_map.mp (List.mem_of_getElem? hx)
    obtain ⟨i, hi, rfl⟩ := List.mem_map.mp ha
    exact hrow i (List.mem_range.mp hi))
  have hD2 : va_D A (((X ++ va_pl L f) ++ [(H.size, .inl (cA, n.toNatClampNeg, .inr (.inr (.inr (.inr (fun i => if i < n.toNatClampNeg then some (H.size + 1 + i) else none))))))]) ++ ((List.range n.toNatClampNeg).map (fun i => H.size + 1 + i)).map (fun a => (a, .inl (cy, z)))) := by
    have hD1 := hD.push (e := .inl (cA, n.toNatClampNeg, .inr (.inr (.inr (.inr (fun i => if i < n.toNatClampNeg then some (H.size + 1 + i) else none)))))) hP rfl (hA _ hS.1)
    generalize hW1 : (X ++ va_pl L f) ++ [(H.size, .inl (cA, n.toNatClampNeg, .inr (.inr (.inr (.inr (fun i => if i < n.toNatClampNeg then some (H.size + 1 + i) else none))))))] = W1 at hD1 hP1 ⊢
    have hle : ∀ (k9 : Nat) (x : Nat × va_E), W1[k9]? = some x → x.1 ≤ H.size := fun k9 x hx => by
      rw [← hW1] at hx
      by_cases hl : k9 < (X ++ va_pl L f).length
      · rw [List.getElem?_append_left hl] at hx
        exact Nat.le_of_lt ((hP k9 x hx).lt)
      · rw [List.getElem?_append_right (by omega)] at hx
        have h0 : k9 - (X ++ va_pl L f).length < 1 := (List.getElem?_eq_some_iff.mp hx).1
        rw [show k9 - (X ++ va_pl L f).length = 0 by omega] at hx
        cases hx
        exact Nat.le_refl _
    have hr : ∀ (k9 : Nat) (x : Nat × va_E), (((List.range n.toNatClampNeg).map (fun i => H.size + 1 + i)).map (fun a => ((a, .inl (cy, z)) : Nat × va_E)))[k9]? = some x → x.1 = H.size + 1 + k9 := fun k9 x hx => by
      rw [List.getElem?_map, List.getElem?_map] at hx
      by_cases h9 : k9 < n.toNatClampNeg
      · rw [List.getElem?_range h9] at hx
        cases hx
        rfl
      · have hn0 : (List.range n.toNatClampNeg)[k9]? = none := List.getElem?_eq_none (by rw [List.length_range]; omega)
        rw [hn0] at hx
        cases hx
    refine ⟨fun i j x y hi hj hxy => ?_, fun k9 x hx => ?_⟩
    · by_cases h1 : i < W1.length <;> by_cases h2 : j < W1.length
      · rw [List.getElem?_append_left h1] at hi
        rw [List.getElem?_append_left h2] at hj
        exact hD1.1 i j x y hi hj hxy
      · rw [List.getElem?_append_left h1] at hi
        rw [List.getElem?_append_right (by omega)] at hj
        have := hle _ _ hi
        have := hr _ _ hj
        omega
      · rw [List.getElem?_append_right (by omega)] at hi
        rw [List.getElem?_append_left h2] at hj
        have := hle _ _ hj
        have := hr _ _ hi
        omega
      · rw [List.getElem?_append_right (by omega)] at hi hj
        have := hr _ _ hi
        have := hr _ _ hj
        omega
    · by_cases h1 : k9 < W1.length
      · rw [List.getElem?_append_left h1] at hx
        exact hD1.2 k9 x hx
      · rw [List.getElem?_append_right (by omega)] at hx
        have := hr _ _ hx
        exact hA _ (by have := hS.1; omega)
  have hAr : ArrOfT s cA (.array ty) := fun N9 z9 => by
    obtain ⟨-, k9, hk9, cm9, hkk9⟩ := (hO 0 0 0).1
    exact ⟨(fun q hq => by cases hq), k9, hk9, cm9, hkk9⟩
  have hK2 : va_K D cl (tys ++ [(cA, .array ty)]) s := ⟨hK.1, fun k9 x hx => by
    by_cases hl : k9 < tys.length
    · rw [List.getElem?_append_left hl] at hx
      exact hK.2 k9 x hx
    · rw [List.getElem?_append_right (by omega)] at hx
      have h0 : k9 - tys.length < 1 := (List.getElem?_eq_some_iff.mp hx).1
      rw [show k9 - tys.length = 0 by omega] at hx
      cases hx
      exact ⟨hAr, fA⟩⟩
  obtain ⟨t, a1, b1⟩ := kk H.size (fun i => H.size + 1 + i) cA F.heap (fun i j _ _ h => by have h9 : H.size + 1 + i = H.size + 1 + j := h; omega) hnl hK2 (by rw [← vr_rows hnm]; exact vr_lay hP2) (by rw [← vr_rows hnm]; exact vr_layD hD2) ⟨by rw [f1]; have := hS.1; omega, fun x h1 h2 => (hold x (Nat.lt_of_lt_of_le h1 hS.1)).trans (hS.2.1 x h1 h2), hS.2.2⟩ F rfl X'
  refine ⟨t, step t ?_, b1⟩
  have e : T.heap.size = H.size := by rw [hT]
  rw [e]
  exact a1
end VGM
/-! ===== END ===== -/


def RX0 : String := "BuyAsAsked$Asks"
def TX0 : u_T := fun k => match k with
  | 0 => ("BuyAsAsked$Asks", "bodies", "[I", true)
  | _ => ("BuyAsAsked$Asks", "begun", "I", false)
def tyX0 : Nat → FieldType := fun k => match k with
  | 0 => .array .int
  | _ => .int
theorem nmX0 : ∀ a, a < 2 → ∀ b, b < 2 → a ≠ b → (TX0 a).2.1 ≠ (TX0 b).2.1 := by decide +kernel
theorem tyX0_ok : ∀ k, k < 2 → parseFieldDescriptor (TX0 k).2.2.1 = some (tyX0 k) := by decide +kernel
abbrev cX0_init : ByteArray := prog_2_method_1_code
def yX0_init : MethodName := ⟨RX0, "<init>", "()V"⟩
abbrev cX0_askWorth : ByteArray := prog_2_method_2_code
def yX0_askWorth : MethodName := ⟨RX0, "askWorth", "(LBuyAsAsked$Sets;I)I"⟩
abbrev cX0_askMark : ByteArray := prog_2_method_3_code
def yX0_askMark : MethodName := ⟨RX0, "askMark", "(LBuyAsAsked$Sets;I)I"⟩
abbrev cX0_begin : ByteArray := prog_2_method_4_code
def yX0_begin : MethodName := ⟨RX0, "begin", "(I)V"⟩
abbrev cX0_worthOfAny : ByteArray := prog_2_method_5_code
def yX0_worthOfAny : MethodName := ⟨RX0, "worthOfAny", "(LBuyAsAsked$Sets;I)I"⟩
abbrev cX0_worthOfOpen : ByteArray := prog_2_method_6_code
def yX0_worthOfOpen : MethodName := ⟨RX0, "worthOfOpen", "(LBuyAsAsked$Sets;I)I"⟩
abbrev cX0_worthOfNear : ByteArray := prog_2_method_7_code
def yX0_worthOfNear : MethodName := ⟨RX0, "worthOfNear", "(LBuyAsAsked$Sets;I)I"⟩
abbrev cX0_worthOfOwn : ByteArray := prog_2_method_8_code
def yX0_worthOfOwn : MethodName := ⟨RX0, "worthOfOwn", "(LBuyAsAsked$Sets;I)I"⟩
abbrev cX0_markOfAny : ByteArray := prog_2_method_9_code
def yX0_markOfAny : MethodName := ⟨RX0, "markOfAny", "(LBuyAsAsked$Sets;I)I"⟩
abbrev cX0_markOfNear : ByteArray := prog_2_method_10_code
def yX0_markOfNear : MethodName := ⟨RX0, "markOfNear", "(LBuyAsAsked$Sets;I)I"⟩
abbrev cX0_markOfOwn : ByteArray := prog_2_method_11_code
def yX0_markOfOwn : MethodName := ⟨RX0, "markOfOwn", "(LBuyAsAsked$Sets;I)I"⟩
def RX1 : String := "BuyAsAsked$Leases"
def TX1 : u_T := fun k => match k with
  | 0 => ("BuyAsAsked$Leases", "lengths", "[I", true)
  | 1 => ("BuyAsAsked$Leases", "costs", "[I", true)
  | 2 => ("BuyAsAsked$Leases", "prices", "[I", true)
  | 3 => ("BuyAsAsked$Leases", "asked", "[Z", true)
  | 4 => ("BuyAsAsked$Leases", "boughtFrom", "[I", true)
  | 5 => ("BuyAsAsked$Leases", "open", "[I", true)
  | 6 => ("BuyAsAsked$Leases", "count", "I", false)
  | 7 => ("BuyAsAsked$Leases", "lastDay", "I", false)
  | 8 => ("BuyAsAsked$Leases", "daysAsked", "I", false)
  | 9 => ("BuyAsAsked$Leases", "spansBought", "I", false)
  | _ => ("BuyAsAsked$Leases", "paid", "I", false)
def tyX1 : Nat → FieldType := fun k => match k with
  | 0 => .array .int
  | 1 => .array .int
  | 2 => .array .int
  | 3 => .array .boolean
  | 4 => .array .int
  | 5 => .array .int
  | 6 => .int
  | 7 => .int
  | 8 => .int
  | 9 => .int
  | _ => .int
theorem nmX1 : ∀ a, a < 11 → ∀ b, b < 11 → a ≠ b → (TX1 a).2.1 ≠ (TX1 b).2.1 := by decide +kernel
theorem tyX1_ok : ∀ k, k < 11 → parseFieldDescriptor (TX1 k).2.2.1 = some (tyX1 k) := by decide +kernel
abbrev cX1_init : ByteArray := prog_3_method_1_code
def yX1_init : MethodName := ⟨RX1, "<init>", "()V"⟩
def RX2 : String := "BuyAsAsked$Sets"
def TX2 : u_T := fun k => match k with
  | 0 => ("BuyAsAsked$Sets", "costs", "[I", true)
  | 1 => ("BuyAsAsked$Sets", "things", "[I", true)
  | 2 => ("BuyAsAsked$Sets", "prices", "[I", true)
  | 3 => ("BuyAsAsked$Sets", "count", "I", false)
  | 4 => ("BuyAsAsked$Sets", "offered", "I", false)
  | 5 => ("BuyAsAsked$Sets", "demanded", "I", false)
  | 6 => ("BuyAsAsked$Sets", "bought", "I", false)
  | 7 => ("BuyAsAsked$Sets", "met", "I", false)
  | _ => ("BuyAsAsked$Sets", "paid", "I", false)
def tyX2 : Nat → FieldType := fun k => match k with
  | 0 => .array .int
  | 1 => .array .int
  | 2 => .array .int
  | 3 => .int
  | 4 => .int
  | 5 => .int
  | 6 => .int
  | 7 => .int
  | _ => .int
theorem nmX2 : ∀ a, a < 9 → ∀ b, b < 9 → a ≠ b → (TX2 a).2.1 ≠ (TX2 b).2.1 := by decide +kernel
theorem tyX2_ok : ∀ k, k < 9 → parseFieldDescriptor (TX2 k).2.2.1 = some (tyX2 k) := by decide +kernel
abbrev cX2_init : ByteArray := prog_4_method_1_code
def yX2_init : MethodName := ⟨RX2, "<init>", "()V"⟩
abbrev cX2_isSet : ByteArray := prog_4_method_2_code
def yX2_isSet : MethodName := ⟨RX2, "isSet", "(I)Z"⟩
abbrev cX2_isOffered : ByteArray := prog_4_method_3_code
def yX2_isOffered : MethodName := ⟨RX2, "isOffered", "(I)Z"⟩
abbrev cX2_isBought : ByteArray := prog_4_method_4_code
def yX2_isBought : MethodName := ⟨RX2, "isBought", "(I)Z"⟩
abbrev cX2_add : ByteArray := prog_4_method_5_code
def yX2_add : MethodName := ⟨RX2, "add", "(II)I"⟩
abbrev cX2_meet : ByteArray := prog_4_method_6_code
def yX2_meet : MethodName := ⟨RX2, "meet", "(I)I"⟩
abbrev cX2_leastGap : ByteArray := prog_4_method_7_code
def yX2_leastGap : MethodName := ⟨RX2, "leastGap", "(I)I"⟩
abbrev cX2_buyTight : ByteArray := prog_4_method_8_code
def yX2_buyTight : MethodName := ⟨RX2, "buyTight", "(I)I"⟩
abbrev cX2_filled : ByteArray := prog_4_method_9_code
def yX2_filled : MethodName := ⟨RX2, "filled", "(I)I"⟩
abbrev cX2_pricesAdded : ByteArray := prog_4_method_10_code
def yX2_pricesAdded : MethodName := ⟨RX2, "pricesAdded", "()I"⟩
abbrev cX2_pricesOf : ByteArray := prog_4_method_11_code
def yX2_pricesOf : MethodName := ⟨RX2, "pricesOf", "(I)I"⟩
abbrev cX2_least : ByteArray := prog_4_method_12_code
def yX2_least : MethodName := ⟨RX2, "least", "()I"⟩
abbrev cX2_leastFrom : ByteArray := prog_4_method_13_code
def yX2_leastFrom : MethodName := ⟨RX2, "leastFrom", "(LBuyAsAsked$Sets;II)I"⟩
abbrev cX2_share : ByteArray := prog_4_method_14_code
def yX2_share : MethodName := ⟨RX2, "share", "()I"⟩
abbrev cX2_havers : ByteArray := prog_4_method_15_code
def yX2_havers : MethodName := ⟨RX2, "havers", "(I)I"⟩
abbrev cX2_kindOf : ByteArray := prog_4_method_16_code
def yX2_kindOf : MethodName := ⟨RX2, "kindOf", "(I)I"⟩
abbrev cX2_isOfKind : ByteArray := prog_4_method_17_code
def yX2_isOfKind : MethodName := ⟨RX2, "isOfKind", "(II)Z"⟩
abbrev cX2_nears : ByteArray := prog_4_method_18_code
def yX2_nears : MethodName := ⟨RX2, "nears", "()I"⟩
def RX3 : String := "BuyAsAsked$Sheets"
def TX3 : u_T := fun k => match k with
  | 0 => ("BuyAsAsked$Sheets", "items", "[[I", true)
  | 1 => ("BuyAsAsked$Sheets", "lanes", "[I", true)
  | _ => ("BuyAsAsked$Sheets", "sizes", "[I", true)
def tyX3 : Nat → FieldType := fun k => match k with
  | 0 => .array (.array .int)
  | 1 => .array .int
  | _ => .array .int
theorem nmX3 : ∀ a, a < 3 → ∀ b, b < 3 → a ≠ b → (TX3 a).2.1 ≠ (TX3 b).2.1 := by decide +kernel
theorem tyX3_ok : ∀ k, k < 3 → parseFieldDescriptor (TX3 k).2.2.1 = some (tyX3 k) := by decide +kernel
abbrev cX3_init : ByteArray := prog_5_method_1_code
def yX3_init : MethodName := ⟨RX3, "<init>", "()V"⟩
abbrev cX3_isMissing : ByteArray := prog_5_method_2_code
def yX3_isMissing : MethodName := ⟨RX3, "isMissing", "(I)Z"⟩
abbrev cX3_present : ByteArray := prog_5_method_12_code
def yX3_present : MethodName := ⟨RX3, "present", "()I"⟩
def RX4 : String := "BuyAsAsked$Sites"
def TX4 : u_T := fun k => match k with
  | 0 => ("BuyAsAsked$Sites", "lengths", "[[I", true)
  | 1 => ("BuyAsAsked$Sites", "boughtFrom", "[I", true)
  | 2 => ("BuyAsAsked$Sites", "weights", "[I", true)
  | 3 => ("BuyAsAsked$Sites", "nearest", "[[I", true)
  | 4 => ("BuyAsAsked$Sites", "gaps", "[I", true)
  | 5 => ("BuyAsAsked$Sites", "count", "I", false)
  | 6 => ("BuyAsAsked$Sites", "ways", "I", false)
  | 7 => ("BuyAsAsked$Sites", "first", "I", false)
  | 8 => ("BuyAsAsked$Sites", "joined", "I", false)
  | 9 => ("BuyAsAsked$Sites", "reached", "I", false)
  | 10 => ("BuyAsAsked$Sites", "waysBought", "I", false)
  | _ => ("BuyAsAsked$Sites", "paid", "I", false)
def tyX4 : Nat → FieldType := fun k => match k with
  | 0 => .array (.array .int)
  | 1 => .array .int
  | 2 => .array .int
  | 3 => .array (.array .int)
  | 4 => .array .int
  | 5 => .int
  | 6 => .int
  | 7 => .int
  | 8 => .int
  | 9 => .int
  | 10 => .int
  | _ => .int
theorem nmX4 : ∀ a, a < 12 → ∀ b, b < 12 → a ≠ b → (TX4 a).2.1 ≠ (TX4 b).2.1 := by decide +kernel
theorem tyX4_ok : ∀ k, k < 12 → parseFieldDescriptor (TX4 k).2.2.1 = some (tyX4 k) := by decide +kernel
abbrev cX4_init : ByteArray := prog_6_method_1_code
def yX4_init : MethodName := ⟨RX4, "<init>", "()V"⟩
def RX5 : String := "BuyAsAsked"
def TX5 : u_T := fun k => match k with
  | 0 => ("BuyAsAsked", "sheets", "LBuyAsAsked$Sheets;", true)
  | 1 => ("BuyAsAsked", "sets", "LBuyAsAsked$Sets;", true)
  | 2 => ("BuyAsAsked", "leases", "LBuyAsAsked$Leases;", true)
  | 3 => ("BuyAsAsked", "sites", "LBuyAsAsked$Sites;", true)
  | 4 => ("BuyAsAsked", "asks", "LBuyAsAsked$Asks;", true)
  | _ => ("BuyAsAsked", "latest", "I", false)
def tyX5 : Nat → FieldType := fun k => match k with
  | 0 => .object "BuyAsAsked$Sheets"
  | 1 => .object "BuyAsAsked$Sets"
  | 2 => .object "BuyAsAsked$Leases"
  | 3 => .object "BuyAsAsked$Sites"
  | 4 => .object "BuyAsAsked$Asks"
  | _ => .int
theorem nmX5 : ∀ a, a < 6 → ∀ b, b < 6 → a ≠ b → (TX5 a).2.1 ≠ (TX5 b).2.1 := by decide +kernel
theorem tyX5_ok : ∀ k, k < 6 → parseFieldDescriptor (TX5 k).2.2.1 = some (tyX5 k) := by decide +kernel
abbrev cX5_init : ByteArray := prog_1_method_1_code
def yX5_init : MethodName := ⟨RX5, "<init>", "()V"⟩
abbrev cX5_offer : ByteArray := prog_1_method_6_code
def yX5_offer : MethodName := ⟨RX5, "offer", "(II)I"⟩
abbrev cX5_demand : ByteArray := prog_1_method_7_code
def yX5_demand : MethodName := ⟨RX5, "demand", "(I)I"⟩
abbrev cX5_covers : ByteArray := prog_1_method_10_code
def yX5_covers : MethodName := ⟨RX5, "covers", "(I)I"⟩
abbrev cX5_told : ByteArray := prog_1_method_11_code
def yX5_told : MethodName := ⟨RX5, "told", "(II)I"⟩
abbrev cX5_price : ByteArray := prog_1_method_12_code
def yX5_price : MethodName := ⟨RX5, "price", "(I)I"⟩
abbrev cX5_kind : ByteArray := prog_1_method_21_code
def yX5_kind : MethodName := ⟨RX5, "kind", "(I)I"⟩
abbrev cX5_as : ByteArray := prog_1_method_22_code
def yX5_as : MethodName := ⟨RX5, "as", "(II)I"⟩
abbrev cX5_ask : ByteArray := prog_1_method_23_code
def yX5_ask : MethodName := ⟨RX5, "ask", "(II)I"⟩
abbrev cX5_trace : ByteArray := prog_1_method_24_code
def yX5_trace : MethodName := ⟨RX5, "trace", "(I)I"⟩
abbrev cX5_count : ByteArray := prog_1_method_25_code
def yX5_count : MethodName := ⟨RX5, "count", "(I)I"⟩
abbrev cX5_isUnder : ByteArray := prog_1_method_27_code
def yX5_isUnder : MethodName := ⟨RX5, "isUnder", "(II)Z"⟩
abbrev cX5_isWithin : ByteArray := prog_1_method_28_code
def yX5_isWithin : MethodName := ⟨RX5, "isWithin", "(III)Z"⟩
abbrev cX5_holds : ByteArray := prog_1_method_29_code
def yX5_holds : MethodName := ⟨RX5, "holds", "(II)Z"⟩
def RX6 : String := "BuyAsAskedModel"
def TX6 : u_T := fun k => match k with
  | _ => ("", "", "", false)
def tyX6 : Nat → FieldType := fun k => match k with
  | _ => .int
theorem nmX6 : ∀ a, a < 0 → ∀ b, b < 0 → a ≠ b → (TX6 a).2.1 ≠ (TX6 b).2.1 := by decide +kernel
theorem tyX6_ok : ∀ k, k < 0 → parseFieldDescriptor (TX6 k).2.2.1 = some (tyX6 k) := by decide +kernel
def RJ6 : String := "java/lang/Integer"
def TJ6 : u_T := fun k => match k with
  | _ => ("", "", "", false)
def tyJ6 : Nat → FieldType := fun k => match k with
  | _ => .int
abbrev cJ6_bitCount_0f7a4 : ByteArray := prog_9_method_49_code
def yJ6_bitCount_0f7a4 : MethodName := ⟨RJ6, "bitCount", "(I)I"⟩
def RJ9 : String := "java/lang/Math"
def TJ9 : u_T := fun k => match k with
  | _ => ("", "", "", false)
def tyJ9 : Nat → FieldType := fun k => match k with
  | _ => .int
abbrev cJ9_max_7cf53 : ByteArray := prog_10_method_65_code
def yJ9_max_7cf53 : MethodName := ⟨RJ9, "max", "(II)I"⟩
abbrev cJ9_min_7cf53 : ByteArray := prog_10_method_69_code
def yJ9_min_7cf53 : MethodName := ⟨RJ9, "min", "(II)I"⟩
def RL : String := "BuyAsAskedLaw"
abbrev cL_cell : ByteArray := method_2_code
def yL_cell : MethodName := ⟨RL, "cell", "([II)I"⟩
abbrev cL_low : ByteArray := method_3_code
def yL_low : MethodName := ⟨RL, "low", "(II)I"⟩
abbrev cL_shop : ByteArray := method_4_code
def yL_shop : MethodName := ⟨RL, "shop", "(LBuyAsAsked;[I)I"⟩
abbrev cL_things : ByteArray := method_5_code
def yL_things : MethodName := ⟨RL, "things", "([II)I"⟩
abbrev cL_cost : ByteArray := method_6_code
def yL_cost : MethodName := ⟨RL, "cost", "([II)I"⟩
abbrev cL_law : ByteArray := code
def yL_law : MethodName := ⟨RL, "law", "([I)Z"⟩
abbrev cL_asked : ByteArray := method_8_code
def yL_asked : MethodName := ⟨RL, "asked", "(LBuyAsAsked;[IIII)Z"⟩
abbrev vwCl : List vw_C := [(RX0, TX0, 2), (RX1, TX1, 11), (RX2, TX2, 9), (RX3, TX3, 3), (RX4, TX4, 12), (RX5, TX5, 6)]
end
section
theorem dX0_init_0 : decode cX0_init 0 = .ok (.aload_n 0, 1) := by decide +kernel
theorem dX0_init_1 : decode cX0_init 1 = .ok (.invokespecial 3, 3) := by decide +kernel
theorem dX0_init_4 : decode cX0_init 4 = .ok (.aload_n 0, 1) := by decide +kernel
theorem dX0_init_5 : decode cX0_init 5 = .ok (.bipush 16, 2) := by decide +kernel
theorem dX0_init_7 : decode cX0_init 7 = .ok (.newarray .int, 2) := by decide +kernel
theorem dX0_init_9 : decode cX0_init 9 = .ok (.putfield 9, 3) := by decide +kernel
theorem dX0_init_12 : decode cX0_init 12 = .ok (.return_, 1) := by decide +kernel
theorem dX0_askWorth_0 : decode cX0_askWorth 0 = .ok (.aload_n 0, 1) := by decide +kernel
theorem dX0_askWorth_1 : decode cX0_askWorth 1 = .ok (.iconst 0, 1) := by decide +kernel
theorem dX0_askWorth_2 : decode cX0_askWorth 2 = .ok (.putfield 15, 3) := by decide +kernel
theorem dX0_askWorth_5 : decode cX0_askWorth 5 = .ok (.aload_n 1, 1) := by decide +kernel
theorem dX0_askWorth_6 : decode cX0_askWorth 6 = .ok (.iload_n 2, 1) := by decide +kernel
theorem dX0_askWorth_7 : decode cX0_askWorth 7 = .ok (.invokevirtual 19, 3) := by decide +kernel
theorem dX0_askWorth_10 : decode cX0_askWorth 10 = .ok (.lookupswitch 40 #[(2, 33), (3, 26)], 26) := by decide +kernel
theorem dX0_askWorth_36 : decode cX0_askWorth 36 = .ok (.aload_n 0, 1) := by decide +kernel
theorem dX0_askWorth_37 : decode cX0_askWorth 37 = .ok (.aload_n 1, 1) := by decide +kernel
theorem dX0_askWorth_38 : decode cX0_askWorth 38 = .ok (.iload_n 2, 1) := by decide +kernel
theorem dX0_askWorth_39 : decode cX0_askWorth 39 = .ok (.invokevirtual 25, 3) := by decide +kernel
theorem dX0_askWorth_42 : decode cX0_askWorth 42 = .ok (.ireturn, 1) := by decide +kernel
theorem dX0_askWorth_43 : decode cX0_askWorth 43 = .ok (.aload_n 0, 1) := by decide +kernel
theorem dX0_askWorth_44 : decode cX0_askWorth 44 = .ok (.aload_n 1, 1) := by decide +kernel
theorem dX0_askWorth_45 : decode cX0_askWorth 45 = .ok (.iload_n 2, 1) := by decide +kernel
theorem dX0_askWorth_46 : decode cX0_askWorth 46 = .ok (.invokevirtual 29, 3) := by decide +kernel
theorem dX0_askWorth_49 : decode cX0_askWorth 49 = .ok (.ireturn, 1) := by decide +kernel
theorem dX0_askWorth_50 : decode cX0_askWorth 50 = .ok (.aload_n 0, 1) := by decide +kernel
theorem dX0_askWorth_51 : decode cX0_askWorth 51 = .ok (.aload_n 1, 1) := by decide +kernel
theorem dX0_askWorth_52 : decode cX0_askWorth 52 = .ok (.iload_n 2, 1) := by decide +kernel
theorem dX0_askWorth_53 : decode cX0_askWorth 53 = .ok (.invokevirtual 32, 3) := by decide +kernel
theorem dX0_askWorth_56 : decode cX0_askWorth 56 = .ok (.ireturn, 1) := by decide +kernel
theorem dX0_askMark_0 : decode cX0_askMark 0 = .ok (.aload_n 0, 1) := by decide +kernel
theorem dX0_askMark_1 : decode cX0_askMark 1 = .ok (.iconst 0, 1) := by decide +kernel
theorem dX0_askMark_2 : decode cX0_askMark 2 = .ok (.putfield 15, 3) := by decide +kernel
theorem dX0_askMark_5 : decode cX0_askMark 5 = .ok (.aload_n 1, 1) := by decide +kernel
theorem dX0_askMark_6 : decode cX0_askMark 6 = .ok (.iload_n 2, 1) := by decide +kernel
theorem dX0_askMark_7 : decode cX0_askMark 7 = .ok (.invokevirtual 19, 3) := by decide +kernel
theorem dX0_askMark_10 : decode cX0_askMark 10 = .ok (.lookupswitch 40 #[(2, 33), (3, 26)], 26) := by decide +kernel
theorem dX0_askMark_36 : decode cX0_askMark 36 = .ok (.aload_n 0, 1) := by decide +kernel
theorem dX0_askMark_37 : decode cX0_askMark 37 = .ok (.aload_n 1, 1) := by decide +kernel
theorem dX0_askMark_38 : decode cX0_askMark 38 = .ok (.iload_n 2, 1) := by decide +kernel
theorem dX0_askMark_39 : decode cX0_askMark 39 = .ok (.invokevirtual 35, 3) := by decide +kernel
theorem dX0_askMark_42 : decode cX0_askMark 42 = .ok (.ireturn, 1) := by decide +kernel
theorem dX0_askMark_43 : decode cX0_askMark 43 = .ok (.aload_n 0, 1) := by decide +kernel
theorem dX0_askMark_44 : decode cX0_askMark 44 = .ok (.aload_n 1, 1) := by decide +kernel
theorem dX0_askMark_45 : decode cX0_askMark 45 = .ok (.iload_n 2, 1) := by decide +kernel
theorem dX0_askMark_46 : decode cX0_askMark 46 = .ok (.invokevirtual 38, 3) := by decide +kernel
theorem dX0_askMark_49 : decode cX0_askMark 49 = .ok (.ireturn, 1) := by decide +kernel
theorem dX0_askMark_50 : decode cX0_askMark 50 = .ok (.aload_n 0, 1) := by decide +kernel
theorem dX0_askMark_51 : decode cX0_askMark 51 = .ok (.aload_n 1, 1) := by decide +kernel
theorem dX0_askMark_52 : decode cX0_askMark 52 = .ok (.iload_n 2, 1) := by decide +kernel
theorem dX0_askMark_53 : decode cX0_askMark 53 = .ok (.invokevirtual 41, 3) := by decide +kernel
theorem dX0_askMark_56 : decode cX0_askMark 56 = .ok (.ireturn, 1) := by decide +kernel
theorem dX0_begin_0 : decode cX0_begin 0 = .ok (.aload_n 0, 1) := by decide +kernel
theorem dX0_begin_1 : decode cX0_begin 1 = .ok (.getfield 15, 3) := by decide +kernel
theorem dX0_begin_4 : decode cX0_begin 4 = .ok (.bipush 16, 2) := by decide +kernel
theorem dX0_begin_6 : decode cX0_begin 6 = .ok (.if_icmp .ge 23, 3) := by decide +kernel
theorem dX0_begin_9 : decode cX0_begin 9 = .ok (.aload_n 0, 1) := by decide +kernel
theorem dX0_begin_10 : decode cX0_begin 10 = .ok (.getfield 9, 3) := by decide +kernel
theorem dX0_begin_13 : decode cX0_begin 13 = .ok (.aload_n 0, 1) := by decide +kernel
theorem dX0_begin_14 : decode cX0_begin 14 = .ok (.getfield 15, 3) := by decide +kernel
theorem dX0_begin_17 : decode cX0_begin 17 = .ok (.iload_n 1, 1) := by decide +kernel
theorem dX0_begin_18 : decode cX0_begin 18 = .ok (.iastore, 1) := by decide +kernel
theorem dX0_begin_19 : decode cX0_begin 19 = .ok (.aload_n 0, 1) := by decide +kernel
theorem dX0_begin_20 : decode cX0_begin 20 = .ok (.dup, 1) := by decide +kernel
theorem dX0_begin_21 : decode cX0_begin 21 = .ok (.getfield 15, 3) := by decide +kernel
theorem dX0_begin_24 : decode cX0_begin 24 = .ok (.iconst 1, 1) := by decide +kernel
theorem dX0_begin_25 : decode cX0_begin 25 = .ok (.iadd, 1) := by decide +kernel
theorem dX0_begin_26 : decode cX0_begin 26 = .ok (.putfield 15, 3) := by decide +kernel
theorem dX0_begin_29 : decode cX0_begin 29 = .ok (.return_, 1) := by decide +kernel
theorem dX0_worthOfAny_0 : decode cX0_worthOfAny 0 = .ok (.aload_n 0, 1) := by decide +kernel
theorem dX0_worthOfAny_1 : decode cX0_worthOfAny 1 = .ok (.bipush 10, 2) := by decide +kernel
theorem dX0_worthOfAny_3 : decode cX0_worthOfAny 3 = .ok (.invokevirtual 44, 3) := by decide +kernel
theorem dX0_worthOfAny_6 : decode cX0_worthOfAny 6 = .ok (.aload_n 1, 1) := by decide +kernel
theorem dX0_worthOfAny_7 : decode cX0_worthOfAny 7 = .ok (.getfield 48, 3) := by decide +kernel
theorem dX0_worthOfAny_10 : decode cX0_worthOfAny 10 = .ok (.iload_n 2, 1) := by decide +kernel
theorem dX0_worthOfAny_11 : decode cX0_worthOfAny 11 = .ok (.iaload, 1) := by decide +kernel
theorem dX0_worthOfAny_12 : decode cX0_worthOfAny 12 = .ok (.ireturn, 1) := by decide +kernel
theorem dX0_worthOfOpen_0 : decode cX0_worthOfOpen 0 = .ok (.aload_n 0, 1) := by decide +kernel
theorem dX0_worthOfOpen_1 : decode cX0_worthOfOpen 1 = .ok (.bipush 11, 2) := by decide +kernel
theorem dX0_worthOfOpen_3 : decode cX0_worthOfOpen 3 = .ok (.invokevirtual 44, 3) := by decide +kernel
theorem dX0_worthOfOpen_6 : decode cX0_worthOfOpen 6 = .ok (.aload_n 0, 1) := by decide +kernel
theorem dX0_worthOfOpen_7 : decode cX0_worthOfOpen 7 = .ok (.aload_n 1, 1) := by decide +kernel
theorem dX0_worthOfOpen_8 : decode cX0_worthOfOpen 8 = .ok (.iload_n 2, 1) := by decide +kernel
theorem dX0_worthOfOpen_9 : decode cX0_worthOfOpen 9 = .ok (.invokevirtual 51, 3) := by decide +kernel
theorem dX0_worthOfOpen_12 : decode cX0_worthOfOpen 12 = .ok (.aload_n 1, 1) := by decide +kernel
theorem dX0_worthOfOpen_13 : decode cX0_worthOfOpen 13 = .ok (.iload_n 2, 1) := by decide +kernel
theorem dX0_worthOfOpen_14 : decode cX0_worthOfOpen 14 = .ok (.invokevirtual 54, 3) := by decide +kernel
theorem dX0_worthOfOpen_17 : decode cX0_worthOfOpen 17 = .ok (.isub, 1) := by decide +kernel
theorem dX0_worthOfOpen_18 : decode cX0_worthOfOpen 18 = .ok (.ireturn, 1) := by decide +kernel
theorem dX0_worthOfNear_0 : decode cX0_worthOfNear 0 = .ok (.aload_n 0, 1) := by decide +kernel
theorem dX0_worthOfNear_1 : decode cX0_worthOfNear 1 = .ok (.bipush 12, 2) := by decide +kernel
theorem dX0_worthOfNear_3 : decode cX0_worthOfNear 3 = .ok (.invokevirtual 44, 3) := by decide +kernel
theorem dX0_worthOfNear_6 : decode cX0_worthOfNear 6 = .ok (.aload_n 0, 1) := by decide +kernel
theorem dX0_worthOfNear_7 : decode cX0_worthOfNear 7 = .ok (.aload_n 1, 1) := by decide +kernel
theorem dX0_worthOfNear_8 : decode cX0_worthOfNear 8 = .ok (.iload_n 2, 1) := by decide +kernel
theorem dX0_worthOfNear_9 : decode cX0_worthOfNear 9 = .ok (.invokevirtual 32, 3) := by decide +kernel
theorem dX0_worthOfNear_12 : decode cX0_worthOfNear 12 = .ok (.aload_n 0, 1) := by decide +kernel
theorem dX0_worthOfNear_13 : decode cX0_worthOfNear 13 = .ok (.aload_n 1, 1) := by decide +kernel
theorem dX0_worthOfNear_14 : decode cX0_worthOfNear 14 = .ok (.iload_n 2, 1) := by decide +kernel
theorem dX0_worthOfNear_15 : decode cX0_worthOfNear 15 = .ok (.invokevirtual 38, 3) := by decide +kernel
theorem dX0_worthOfNear_18 : decode cX0_worthOfNear 18 = .ok (.iadd, 1) := by decide +kernel
theorem dX0_worthOfNear_19 : decode cX0_worthOfNear 19 = .ok (.ireturn, 1) := by decide +kernel
theorem dX0_worthOfOwn_0 : decode cX0_worthOfOwn 0 = .ok (.aload_n 0, 1) := by decide +kernel
theorem dX0_worthOfOwn_1 : decode cX0_worthOfOwn 1 = .ok (.bipush 13, 2) := by decide +kernel
theorem dX0_worthOfOwn_3 : decode cX0_worthOfOwn 3 = .ok (.invokevirtual 44, 3) := by decide +kernel
theorem dX0_worthOfOwn_6 : decode cX0_worthOfOwn 6 = .ok (.iconst 2, 1) := by decide +kernel
theorem dX0_worthOfOwn_7 : decode cX0_worthOfOwn 7 = .ok (.aload_n 0, 1) := by decide +kernel
theorem dX0_worthOfOwn_8 : decode cX0_worthOfOwn 8 = .ok (.aload_n 1, 1) := by decide +kernel
theorem dX0_worthOfOwn_9 : decode cX0_worthOfOwn 9 = .ok (.iload_n 2, 1) := by decide +kernel
theorem dX0_worthOfOwn_10 : decode cX0_worthOfOwn 10 = .ok (.invokevirtual 51, 3) := by decide +kernel
theorem dX0_worthOfOwn_13 : decode cX0_worthOfOwn 13 = .ok (.imul, 1) := by decide +kernel
theorem dX0_worthOfOwn_14 : decode cX0_worthOfOwn 14 = .ok (.ireturn, 1) := by decide +kernel
theorem dX0_markOfAny_0 : decode cX0_markOfAny 0 = .ok (.aload_n 0, 1) := by decide +kernel
theorem dX0_markOfAny_1 : decode cX0_markOfAny 1 = .ok (.bipush 20, 2) := by decide +kernel
theorem dX0_markOfAny_3 : decode cX0_markOfAny 3 = .ok (.invokevirtual 44, 3) := by decide +kernel
theorem dX0_markOfAny_6 : decode cX0_markOfAny 6 = .ok (.aload_n 1, 1) := by decide +kernel
theorem dX0_markOfAny_7 : decode cX0_markOfAny 7 = .ok (.getfield 57, 3) := by decide +kernel
theorem dX0_markOfAny_10 : decode cX0_markOfAny 10 = .ok (.iload_n 2, 1) := by decide +kernel
theorem dX0_markOfAny_11 : decode cX0_markOfAny 11 = .ok (.iaload, 1) := by decide +kernel
theorem dX0_markOfAny_12 : decode cX0_markOfAny 12 = .ok (.invokestatic 60, 3) := by decide +kernel
theorem dX0_markOfAny_15 : decode cX0_markOfAny 15 = .ok (.ireturn, 1) := by decide +kernel
theorem dX0_markOfNear_0 : decode cX0_markOfNear 0 = .ok (.aload_n 0, 1) := by decide +kernel
theorem dX0_markOfNear_1 : decode cX0_markOfNear 1 = .ok (.bipush 21, 2) := by decide +kernel
theorem dX0_markOfNear_3 : decode cX0_markOfNear 3 = .ok (.invokevirtual 44, 3) := by decide +kernel
theorem dX0_markOfNear_6 : decode cX0_markOfNear 6 = .ok (.aload_n 0, 1) := by decide +kernel
theorem dX0_markOfNear_7 : decode cX0_markOfNear 7 = .ok (.aload_n 1, 1) := by decide +kernel
theorem dX0_markOfNear_8 : decode cX0_markOfNear 8 = .ok (.iload_n 2, 1) := by decide +kernel
theorem dX0_markOfNear_9 : decode cX0_markOfNear 9 = .ok (.invokevirtual 41, 3) := by decide +kernel
theorem dX0_markOfNear_12 : decode cX0_markOfNear 12 = .ok (.bipush 100, 2) := by decide +kernel
theorem dX0_markOfNear_14 : decode cX0_markOfNear 14 = .ok (.iadd, 1) := by decide +kernel
theorem dX0_markOfNear_15 : decode cX0_markOfNear 15 = .ok (.ireturn, 1) := by decide +kernel
theorem dX0_markOfOwn_0 : decode cX0_markOfOwn 0 = .ok (.aload_n 0, 1) := by decide +kernel
theorem dX0_markOfOwn_1 : decode cX0_markOfOwn 1 = .ok (.bipush 22, 2) := by decide +kernel
theorem dX0_markOfOwn_3 : decode cX0_markOfOwn 3 = .ok (.invokevirtual 44, 3) := by decide +kernel
theorem dX0_markOfOwn_6 : decode cX0_markOfOwn 6 = .ok (.aload_n 0, 1) := by decide +kernel
theorem dX0_markOfOwn_7 : decode cX0_markOfOwn 7 = .ok (.aload_n 1, 1) := by decide +kernel
theorem dX0_markOfOwn_8 : decode cX0_markOfOwn 8 = .ok (.iload_n 2, 1) := by decide +kernel
theorem dX0_markOfOwn_9 : decode cX0_markOfOwn 9 = .ok (.invokevirtual 41, 3) := by decide +kernel
theorem dX0_markOfOwn_12 : decode cX0_markOfOwn 12 = .ok (.aload_n 0, 1) := by decide +kernel
theorem dX0_markOfOwn_13 : decode cX0_markOfOwn 13 = .ok (.aload_n 1, 1) := by decide +kernel
theorem dX0_markOfOwn_14 : decode cX0_markOfOwn 14 = .ok (.iload_n 2, 1) := by decide +kernel
theorem dX0_markOfOwn_15 : decode cX0_markOfOwn 15 = .ok (.invokevirtual 25, 3) := by decide +kernel
theorem dX0_markOfOwn_18 : decode cX0_markOfOwn 18 = .ok (.iadd, 1) := by decide +kernel
theorem dX0_markOfOwn_19 : decode cX0_markOfOwn 19 = .ok (.ireturn, 1) := by decide +kernel
theorem dX1_init_0 : decode cX1_init 0 = .ok (.aload_n 0, 1) := by decide +kernel
theorem dX1_init_1 : decode cX1_init 1 = .ok (.invokespecial 3, 3) := by decide +kernel
theorem dX1_init_4 : decode cX1_init 4 = .ok (.aload_n 0, 1) := by decide +kernel
theorem dX1_init_5 : decode cX1_init 5 = .ok (.iconst 4, 1) := by decide +kernel
theorem dX1_init_6 : decode cX1_init 6 = .ok (.newarray .int, 2) := by decide +kernel
theorem dX1_init_8 : decode cX1_init 8 = .ok (.putfield 9, 3) := by decide +kernel
theorem dX1_init_11 : decode cX1_init 11 = .ok (.aload_n 0, 1) := by decide +kernel
theorem dX1_init_12 : decode cX1_init 12 = .ok (.iconst 4, 1) := by decide +kernel
theorem dX1_init_13 : decode cX1_init 13 = .ok (.newarray .int, 2) := by decide +kernel
theorem dX1_init_15 : decode cX1_init 15 = .ok (.putfield 15, 3) := by decide +kernel
theorem dX1_init_18 : decode cX1_init 18 = .ok (.aload_n 0, 1) := by decide +kernel
theorem dX1_init_19 : decode cX1_init 19 = .ok (.sipush 128, 3) := by decide +kernel
theorem dX1_init_22 : decode cX1_init 22 = .ok (.newarray .int, 2) := by decide +kernel
theorem dX1_init_24 : decode cX1_init 24 = .ok (.putfield 18, 3) := by decide +kernel
theorem dX1_init_27 : decode cX1_init 27 = .ok (.aload_n 0, 1) := by decide +kernel
theorem dX1_init_28 : decode cX1_init 28 = .ok (.sipush 128, 3) := by decide +kernel
theorem dX1_init_31 : decode cX1_init 31 = .ok (.newarray .boolean, 2) := by decide +kernel
theorem dX1_init_33 : decode cX1_init 33 = .ok (.putfield 21, 3) := by decide +kernel
theorem dX1_init_36 : decode cX1_init 36 = .ok (.aload_n 0, 1) := by decide +kernel
theorem dX1_init_37 : decode cX1_init 37 = .ok (.sipush 128, 3) := by decide +kernel
theorem dX1_init_40 : decode cX1_init 40 = .ok (.newarray .int, 2) := by decide +kernel
theorem dX1_init_42 : decode cX1_init 42 = .ok (.putfield 25, 3) := by decide +kernel
theorem dX1_init_45 : decode cX1_init 45 = .ok (.aload_n 0, 1) := by decide +kernel
theorem dX1_init_46 : decode cX1_init 46 = .ok (.iconst 5, 1) := by decide +kernel
theorem dX1_init_47 : decode cX1_init 47 = .ok (.newarray .int, 2) := by decide +kernel
theorem dX1_init_49 : decode cX1_init 49 = .ok (.putfield 28, 3) := by decide +kernel
theorem dX1_init_52 : decode cX1_init 52 = .ok (.aload_n 0, 1) := by decide +kernel
theorem dX1_init_53 : decode cX1_init 53 = .ok (.iconst (-1), 1) := by decide +kernel
theorem dX1_init_54 : decode cX1_init 54 = .ok (.putfield 31, 3) := by decide +kernel
theorem dX1_init_57 : decode cX1_init 57 = .ok (.return_, 1) := by decide +kernel
theorem dX2_init_0 : decode cX2_init 0 = .ok (.aload_n 0, 1) := by decide +kernel
theorem dX2_init_1 : decode cX2_init 1 = .ok (.invokespecial 3, 3) := by decide +kernel
theorem dX2_init_4 : decode cX2_init 4 = .ok (.aload_n 0, 1) := by decide +kernel
theorem dX2_init_5 : decode cX2_init 5 = .ok (.bipush 10, 2) := by decide +kernel
theorem dX2_init_7 : decode cX2_init 7 = .ok (.newarray .int, 2) := by decide +kernel
theorem dX2_init_9 : decode cX2_init 9 = .ok (.putfield 9, 3) := by decide +kernel
theorem dX2_init_12 : decode cX2_init 12 = .ok (.aload_n 0, 1) := by decide +kernel
theorem dX2_init_13 : decode cX2_init 13 = .ok (.bipush 10, 2) := by decide +kernel
theorem dX2_init_15 : decode cX2_init 15 = .ok (.newarray .int, 2) := by decide +kernel
theorem dX2_init_17 : decode cX2_init 17 = .ok (.putfield 15, 3) := by decide +kernel
theorem dX2_init_20 : decode cX2_init 20 = .ok (.aload_n 0, 1) := by decide +kernel
theorem dX2_init_21 : decode cX2_init 21 = .ok (.bipush 12, 2) := by decide +kernel
theorem dX2_init_23 : decode cX2_init 23 = .ok (.newarray .int, 2) := by decide +kernel
theorem dX2_init_25 : decode cX2_init 25 = .ok (.putfield 18, 3) := by decide +kernel
theorem dX2_init_28 : decode cX2_init 28 = .ok (.return_, 1) := by decide +kernel
theorem dX2_isSet_0 : decode cX2_isSet 0 = .ok (.iload_n 1, 1) := by decide +kernel
theorem dX2_isSet_1 : decode cX2_isSet 1 = .ok (.aload_n 0, 1) := by decide +kernel
theorem dX2_isSet_2 : decode cX2_isSet 2 = .ok (.getfield 21, 3) := by decide +kernel
theorem dX2_isSet_5 : decode cX2_isSet 5 = .ok (.invokestatic 25, 3) := by decide +kernel
theorem dX2_isSet_8 : decode cX2_isSet 8 = .ok (.ireturn, 1) := by decide +kernel
theorem dX2_isOffered_0 : decode cX2_isOffered 0 = .ok (.aload_n 0, 1) := by decide +kernel
theorem dX2_isOffered_1 : decode cX2_isOffered 1 = .ok (.getfield 29, 3) := by decide +kernel
theorem dX2_isOffered_4 : decode cX2_isOffered 4 = .ok (.iload_n 1, 1) := by decide +kernel
theorem dX2_isOffered_5 : decode cX2_isOffered 5 = .ok (.invokestatic 32, 3) := by decide +kernel
theorem dX2_isOffered_8 : decode cX2_isOffered 8 = .ok (.ireturn, 1) := by decide +kernel
theorem dX2_isBought_0 : decode cX2_isBought 0 = .ok (.aload_n 0, 1) := by decide +kernel
theorem dX2_isBought_1 : decode cX2_isBought 1 = .ok (.getfield 35, 3) := by decide +kernel
theorem dX2_isBought_4 : decode cX2_isBought 4 = .ok (.iload_n 1, 1) := by decide +kernel
theorem dX2_isBought_5 : decode cX2_isBought 5 = .ok (.invokestatic 32, 3) := by decide +kernel
theorem dX2_isBought_8 : decode cX2_isBought 8 = .ok (.ireturn, 1) := by decide +kernel
theorem dX2_add_0 : decode cX2_add 0 = .ok (.aload_n 0, 1) := by decide +kernel
theorem dX2_add_1 : decode cX2_add 1 = .ok (.getfield 9, 3) := by decide +kernel
theorem dX2_add_4 : decode cX2_add 4 = .ok (.aload_n 0, 1) := by decide +kernel
theorem dX2_add_5 : decode cX2_add 5 = .ok (.getfield 21, 3) := by decide +kernel
theorem dX2_add_8 : decode cX2_add 8 = .ok (.iload_n 1, 1) := by decide +kernel
theorem dX2_add_9 : decode cX2_add 9 = .ok (.iastore, 1) := by decide +kernel
theorem dX2_add_10 : decode cX2_add 10 = .ok (.aload_n 0, 1) := by decide +kernel
theorem dX2_add_11 : decode cX2_add 11 = .ok (.getfield 15, 3) := by decide +kernel
theorem dX2_add_14 : decode cX2_add 14 = .ok (.aload_n 0, 1) := by decide +kernel
theorem dX2_add_15 : decode cX2_add 15 = .ok (.getfield 21, 3) := by decide +kernel
theorem dX2_add_18 : decode cX2_add 18 = .ok (.iload_n 2, 1) := by decide +kernel
theorem dX2_add_19 : decode cX2_add 19 = .ok (.iastore, 1) := by decide +kernel
theorem dX2_add_20 : decode cX2_add 20 = .ok (.aload_n 0, 1) := by decide +kernel
theorem dX2_add_21 : decode cX2_add 21 = .ok (.dup, 1) := by decide +kernel
theorem dX2_add_22 : decode cX2_add 22 = .ok (.getfield 29, 3) := by decide +kernel
theorem dX2_add_25 : decode cX2_add 25 = .ok (.iload_n 2, 1) := by decide +kernel
theorem dX2_add_26 : decode cX2_add 26 = .ok (.ior, 1) := by decide +kernel
theorem dX2_add_27 : decode cX2_add 27 = .ok (.putfield 29, 3) := by decide +kernel
theorem dX2_add_30 : decode cX2_add 30 = .ok (.aload_n 0, 1) := by decide +kernel
theorem dX2_add_31 : decode cX2_add 31 = .ok (.dup, 1) := by decide +kernel
theorem dX2_add_32 : decode cX2_add 32 = .ok (.getfield 21, 3) := by decide +kernel
theorem dX2_add_35 : decode cX2_add 35 = .ok (.iconst 1, 1) := by decide +kernel
theorem dX2_add_36 : decode cX2_add 36 = .ok (.iadd, 1) := by decide +kernel
theorem dX2_add_37 : decode cX2_add 37 = .ok (.putfield 21, 3) := by decide +kernel
theorem dX2_add_40 : decode cX2_add 40 = .ok (.aload_n 0, 1) := by decide +kernel
theorem dX2_add_41 : decode cX2_add 41 = .ok (.getfield 21, 3) := by decide +kernel
theorem dX2_add_44 : decode cX2_add 44 = .ok (.iconst 1, 1) := by decide +kernel
theorem dX2_add_45 : decode cX2_add 45 = .ok (.isub, 1) := by decide +kernel
theorem dX2_add_46 : decode cX2_add 46 = .ok (.ireturn, 1) := by decide +kernel
theorem dX2_meet_0 : decode cX2_meet 0 = .ok (.aload_n 0, 1) := by decide +kernel
theorem dX2_meet_1 : decode cX2_meet 1 = .ok (.dup, 1) := by decide +kernel
theorem dX2_meet_2 : decode cX2_meet 2 = .ok (.getfield 38, 3) := by decide +kernel
theorem dX2_meet_5 : decode cX2_meet 5 = .ok (.iconst 1, 1) := by decide +kernel
theorem dX2_meet_6 : decode cX2_meet 6 = .ok (.iload_n 1, 1) := by decide +kernel
theorem dX2_meet_7 : decode cX2_meet 7 = .ok (.ishl, 1) := by decide +kernel
theorem dX2_meet_8 : decode cX2_meet 8 = .ok (.ior, 1) := by decide +kernel
theorem dX2_meet_9 : decode cX2_meet 9 = .ok (.putfield 38, 3) := by decide +kernel
theorem dX2_meet_12 : decode cX2_meet 12 = .ok (.aload_n 0, 1) := by decide +kernel
theorem dX2_meet_13 : decode cX2_meet 13 = .ok (.getfield 41, 3) := by decide +kernel
theorem dX2_meet_16 : decode cX2_meet 16 = .ok (.iload_n 1, 1) := by decide +kernel
theorem dX2_meet_17 : decode cX2_meet 17 = .ok (.invokestatic 32, 3) := by decide +kernel
theorem dX2_meet_20 : decode cX2_meet 20 = .ok (.ifCond .eq 5, 3) := by decide +kernel
theorem dX2_meet_23 : decode cX2_meet 23 = .ok (.iconst 0, 1) := by decide +kernel
theorem dX2_meet_24 : decode cX2_meet 24 = .ok (.ireturn, 1) := by decide +kernel
theorem dX2_meet_25 : decode cX2_meet 25 = .ok (.aload_n 0, 1) := by decide +kernel
theorem dX2_meet_26 : decode cX2_meet 26 = .ok (.getfield 18, 3) := by decide +kernel
theorem dX2_meet_29 : decode cX2_meet 29 = .ok (.iload_n 1, 1) := by decide +kernel
theorem dX2_meet_30 : decode cX2_meet 30 = .ok (.dup2, 1) := by decide +kernel
theorem dX2_meet_31 : decode cX2_meet 31 = .ok (.iaload, 1) := by decide +kernel
theorem dX2_meet_32 : decode cX2_meet 32 = .ok (.aload_n 0, 1) := by decide +kernel
theorem dX2_meet_33 : decode cX2_meet 33 = .ok (.iload_n 1, 1) := by decide +kernel
theorem dX2_meet_34 : decode cX2_meet 34 = .ok (.invokevirtual 44, 3) := by decide +kernel
theorem dX2_meet_37 : decode cX2_meet 37 = .ok (.iadd, 1) := by decide +kernel
theorem dX2_meet_38 : decode cX2_meet 38 = .ok (.iastore, 1) := by decide +kernel
theorem dX2_meet_39 : decode cX2_meet 39 = .ok (.aload_n 0, 1) := by decide +kernel
theorem dX2_meet_40 : decode cX2_meet 40 = .ok (.iload_n 1, 1) := by decide +kernel
theorem dX2_meet_41 : decode cX2_meet 41 = .ok (.invokevirtual 48, 3) := by decide +kernel
theorem dX2_meet_44 : decode cX2_meet 44 = .ok (.istore_n 2, 1) := by decide +kernel
theorem dX2_meet_45 : decode cX2_meet 45 = .ok (.aload_n 0, 1) := by decide +kernel
theorem dX2_meet_46 : decode cX2_meet 46 = .ok (.dup, 1) := by decide +kernel
theorem dX2_meet_47 : decode cX2_meet 47 = .ok (.getfield 51, 3) := by decide +kernel
theorem dX2_meet_50 : decode cX2_meet 50 = .ok (.iload_n 2, 1) := by decide +kernel
theorem dX2_meet_51 : decode cX2_meet 51 = .ok (.iadd, 1) := by decide +kernel
theorem dX2_meet_52 : decode cX2_meet 52 = .ok (.putfield 51, 3) := by decide +kernel
theorem dX2_meet_55 : decode cX2_meet 55 = .ok (.iload_n 2, 1) := by decide +kernel
theorem dX2_meet_56 : decode cX2_meet 56 = .ok (.ireturn, 1) := by decide +kernel
theorem dX2_leastGap_0 : decode cX2_leastGap 0 = .ok (.sipush 1000, 3) := by decide +kernel
theorem dX2_leastGap_3 : decode cX2_leastGap 3 = .ok (.istore_n 2, 1) := by decide +kernel
theorem dX2_leastGap_4 : decode cX2_leastGap 4 = .ok (.iconst 0, 1) := by decide +kernel
theorem dX2_leastGap_5 : decode cX2_leastGap 5 = .ok (.istore_n 3, 1) := by decide +kernel
theorem dX2_leastGap_6 : decode cX2_leastGap 6 = .ok (.iload_n 3, 1) := by decide +kernel
theorem dX2_leastGap_7 : decode cX2_leastGap 7 = .ok (.aload_n 0, 1) := by decide +kernel
theorem dX2_leastGap_8 : decode cX2_leastGap 8 = .ok (.getfield 21, 3) := by decide +kernel
theorem dX2_leastGap_11 : decode cX2_leastGap 11 = .ok (.if_icmp .ge 39, 3) := by decide +kernel
theorem dX2_leastGap_14 : decode cX2_leastGap 14 = .ok (.aload_n 0, 1) := by decide +kernel
theorem dX2_leastGap_15 : decode cX2_leastGap 15 = .ok (.getfield 15, 3) := by decide +kernel
theorem dX2_leastGap_18 : decode cX2_leastGap 18 = .ok (.iload_n 3, 1) := by decide +kernel
theorem dX2_leastGap_19 : decode cX2_leastGap 19 = .ok (.iaload, 1) := by decide +kernel
theorem dX2_leastGap_20 : decode cX2_leastGap 20 = .ok (.iload_n 1, 1) := by decide +kernel
theorem dX2_leastGap_21 : decode cX2_leastGap 21 = .ok (.invokestatic 32, 3) := by decide +kernel
theorem dX2_leastGap_24 : decode cX2_leastGap 24 = .ok (.ifCond .eq 20, 3) := by decide +kernel
theorem dX2_leastGap_27 : decode cX2_leastGap 27 = .ok (.iload_n 2, 1) := by decide +kernel
theorem dX2_leastGap_28 : decode cX2_leastGap 28 = .ok (.aload_n 0, 1) := by decide +kernel
theorem dX2_leastGap_29 : decode cX2_leastGap 29 = .ok (.getfield 9, 3) := by decide +kernel
theorem dX2_leastGap_32 : decode cX2_leastGap 32 = .ok (.iload_n 3, 1) := by decide +kernel
theorem dX2_leastGap_33 : decode cX2_leastGap 33 = .ok (.iaload, 1) := by decide +kernel
theorem dX2_leastGap_34 : decode cX2_leastGap 34 = .ok (.aload_n 0, 1) := by decide +kernel
theorem dX2_leastGap_35 : decode cX2_leastGap 35 = .ok (.iload_n 3, 1) := by decide +kernel
theorem dX2_leastGap_36 : decode cX2_leastGap 36 = .ok (.invokevirtual 54, 3) := by decide +kernel
theorem dX2_leastGap_39 : decode cX2_leastGap 39 = .ok (.isub, 1) := by decide +kernel
theorem dX2_leastGap_40 : decode cX2_leastGap 40 = .ok (.invokestatic 57, 3) := by decide +kernel
theorem dX2_leastGap_43 : decode cX2_leastGap 43 = .ok (.istore_n 2, 1) := by decide +kernel
theorem dX2_leastGap_44 : decode cX2_leastGap 44 = .ok (.iinc 3 1, 3) := by decide +kernel
theorem dX2_leastGap_47 : decode cX2_leastGap 47 = .ok (.goto (-41), 3) := by decide +kernel
theorem dX2_leastGap_50 : decode cX2_leastGap 50 = .ok (.iload_n 2, 1) := by decide +kernel
theorem dX2_leastGap_51 : decode cX2_leastGap 51 = .ok (.ireturn, 1) := by decide +kernel
theorem dX2_buyTight_0 : decode cX2_buyTight 0 = .ok (.iconst 0, 1) := by decide +kernel
theorem dX2_buyTight_1 : decode cX2_buyTight 1 = .ok (.istore_n 2, 1) := by decide +kernel
theorem dX2_buyTight_2 : decode cX2_buyTight 2 = .ok (.iconst 0, 1) := by decide +kernel
theorem dX2_buyTight_3 : decode cX2_buyTight 3 = .ok (.istore_n 3, 1) := by decide +kernel
theorem dX2_buyTight_4 : decode cX2_buyTight 4 = .ok (.iload_n 3, 1) := by decide +kernel
theorem dX2_buyTight_5 : decode cX2_buyTight 5 = .ok (.aload_n 0, 1) := by decide +kernel
theorem dX2_buyTight_6 : decode cX2_buyTight 6 = .ok (.getfield 21, 3) := by decide +kernel
theorem dX2_buyTight_9 : decode cX2_buyTight 9 = .ok (.if_icmp .ge 72, 3) := by decide +kernel
theorem dX2_buyTight_12 : decode cX2_buyTight 12 = .ok (.aload_n 0, 1) := by decide +kernel
theorem dX2_buyTight_13 : decode cX2_buyTight 13 = .ok (.getfield 15, 3) := by decide +kernel
theorem dX2_buyTight_16 : decode cX2_buyTight 16 = .ok (.iload_n 3, 1) := by decide +kernel
theorem dX2_buyTight_17 : decode cX2_buyTight 17 = .ok (.iaload, 1) := by decide +kernel
theorem dX2_buyTight_18 : decode cX2_buyTight 18 = .ok (.iload_n 1, 1) := by decide +kernel
theorem dX2_buyTight_19 : decode cX2_buyTight 19 = .ok (.invokestatic 32, 3) := by decide +kernel
theorem dX2_buyTight_22 : decode cX2_buyTight 22 = .ok (.ifCond .eq 53, 3) := by decide +kernel
theorem dX2_buyTight_25 : decode cX2_buyTight 25 = .ok (.aload_n 0, 1) := by decide +kernel
theorem dX2_buyTight_26 : decode cX2_buyTight 26 = .ok (.iload_n 3, 1) := by decide +kernel
theorem dX2_buyTight_27 : decode cX2_buyTight 27 = .ok (.invokevirtual 54, 3) := by decide +kernel
theorem dX2_buyTight_30 : decode cX2_buyTight 30 = .ok (.aload_n 0, 1) := by decide +kernel
theorem dX2_buyTight_31 : decode cX2_buyTight 31 = .ok (.getfield 9, 3) := by decide +kernel
theorem dX2_buyTight_34 : decode cX2_buyTight 34 = .ok (.iload_n 3, 1) := by decide +kernel
theorem dX2_buyTight_35 : decode cX2_buyTight 35 = .ok (.iaload, 1) := by decide +kernel
theorem dX2_buyTight_36 : decode cX2_buyTight 36 = .ok (.if_icmp .ne 39, 3) := by decide +kernel
theorem dX2_buyTight_39 : decode cX2_buyTight 39 = .ok (.aload_n 0, 1) := by decide +kernel
theorem dX2_buyTight_40 : decode cX2_buyTight 40 = .ok (.dup, 1) := by decide +kernel
theorem dX2_buyTight_41 : decode cX2_buyTight 41 = .ok (.getfield 35, 3) := by decide +kernel
theorem dX2_buyTight_44 : decode cX2_buyTight 44 = .ok (.iconst 1, 1) := by decide +kernel
theorem dX2_buyTight_45 : decode cX2_buyTight 45 = .ok (.iload_n 3, 1) := by decide +kernel
theorem dX2_buyTight_46 : decode cX2_buyTight 46 = .ok (.ishl, 1) := by decide +kernel
theorem dX2_buyTight_47 : decode cX2_buyTight 47 = .ok (.ior, 1) := by decide +kernel
theorem dX2_buyTight_48 : decode cX2_buyTight 48 = .ok (.putfield 35, 3) := by decide +kernel
theorem dX2_buyTight_51 : decode cX2_buyTight 51 = .ok (.aload_n 0, 1) := by decide +kernel
theorem dX2_buyTight_52 : decode cX2_buyTight 52 = .ok (.dup, 1) := by decide +kernel
theorem dX2_buyTight_53 : decode cX2_buyTight 53 = .ok (.getfield 41, 3) := by decide +kernel
theorem dX2_buyTight_56 : decode cX2_buyTight 56 = .ok (.aload_n 0, 1) := by decide +kernel
theorem dX2_buyTight_57 : decode cX2_buyTight 57 = .ok (.getfield 15, 3) := by decide +kernel
theorem dX2_buyTight_60 : decode cX2_buyTight 60 = .ok (.iload_n 3, 1) := by decide +kernel
theorem dX2_buyTight_61 : decode cX2_buyTight 61 = .ok (.iaload, 1) := by decide +kernel
theorem dX2_buyTight_62 : decode cX2_buyTight 62 = .ok (.ior, 1) := by decide +kernel
theorem dX2_buyTight_63 : decode cX2_buyTight 63 = .ok (.putfield 41, 3) := by decide +kernel
theorem dX2_buyTight_66 : decode cX2_buyTight 66 = .ok (.iload_n 2, 1) := by decide +kernel
theorem dX2_buyTight_67 : decode cX2_buyTight 67 = .ok (.aload_n 0, 1) := by decide +kernel
theorem dX2_buyTight_68 : decode cX2_buyTight 68 = .ok (.getfield 9, 3) := by decide +kernel
theorem dX2_buyTight_71 : decode cX2_buyTight 71 = .ok (.iload_n 3, 1) := by decide +kernel
theorem dX2_buyTight_72 : decode cX2_buyTight 72 = .ok (.iaload, 1) := by decide +kernel
theorem dX2_buyTight_73 : decode cX2_buyTight 73 = .ok (.iadd, 1) := by decide +kernel
theorem dX2_buyTight_74 : decode cX2_buyTight 74 = .ok (.istore_n 2, 1) := by decide +kernel
theorem dX2_buyTight_75 : decode cX2_buyTight 75 = .ok (.iinc 3 1, 3) := by decide +kernel
theorem dX2_buyTight_78 : decode cX2_buyTight 78 = .ok (.goto (-74), 3) := by decide +kernel
theorem dX2_buyTight_81 : decode cX2_buyTight 81 = .ok (.iload_n 2, 1) := by decide +kernel
theorem dX2_buyTight_82 : decode cX2_buyTight 82 = .ok (.ireturn, 1) := by decide +kernel
theorem dX2_filled_0 : decode cX2_filled 0 = .ok (.aload_n 0, 1) := by decide +kernel
theorem dX2_filled_1 : decode cX2_filled 1 = .ok (.aload_n 0, 1) := by decide +kernel
theorem dX2_filled_2 : decode cX2_filled 2 = .ok (.getfield 15, 3) := by decide +kernel
theorem dX2_filled_5 : decode cX2_filled 5 = .ok (.iload_n 1, 1) := by decide +kernel
theorem dX2_filled_6 : decode cX2_filled 6 = .ok (.iaload, 1) := by decide +kernel
theorem dX2_filled_7 : decode cX2_filled 7 = .ok (.invokevirtual 63, 3) := by decide +kernel
theorem dX2_filled_10 : decode cX2_filled 10 = .ok (.ireturn, 1) := by decide +kernel
theorem dX2_pricesAdded_0 : decode cX2_pricesAdded 0 = .ok (.aload_n 0, 1) := by decide +kernel
theorem dX2_pricesAdded_1 : decode cX2_pricesAdded 1 = .ok (.sipush 4095, 3) := by decide +kernel
theorem dX2_pricesAdded_4 : decode cX2_pricesAdded 4 = .ok (.invokevirtual 63, 3) := by decide +kernel
theorem dX2_pricesAdded_7 : decode cX2_pricesAdded 7 = .ok (.ireturn, 1) := by decide +kernel
theorem dX2_pricesOf_0 : decode cX2_pricesOf 0 = .ok (.iconst 0, 1) := by decide +kernel
theorem dX2_pricesOf_1 : decode cX2_pricesOf 1 = .ok (.istore_n 2, 1) := by decide +kernel
theorem dX2_pricesOf_2 : decode cX2_pricesOf 2 = .ok (.iconst 0, 1) := by decide +kernel
theorem dX2_pricesOf_3 : decode cX2_pricesOf 3 = .ok (.istore_n 3, 1) := by decide +kernel
theorem dX2_pricesOf_4 : decode cX2_pricesOf 4 = .ok (.iload_n 3, 1) := by decide +kernel
theorem dX2_pricesOf_5 : decode cX2_pricesOf 5 = .ok (.bipush 12, 2) := by decide +kernel
theorem dX2_pricesOf_7 : decode cX2_pricesOf 7 = .ok (.if_icmp .ge 26, 3) := by decide +kernel
theorem dX2_pricesOf_10 : decode cX2_pricesOf 10 = .ok (.iload_n 1, 1) := by decide +kernel
theorem dX2_pricesOf_11 : decode cX2_pricesOf 11 = .ok (.iload_n 3, 1) := by decide +kernel
theorem dX2_pricesOf_12 : decode cX2_pricesOf 12 = .ok (.invokestatic 32, 3) := by decide +kernel
theorem dX2_pricesOf_15 : decode cX2_pricesOf 15 = .ok (.ifCond .eq 12, 3) := by decide +kernel
theorem dX2_pricesOf_18 : decode cX2_pricesOf 18 = .ok (.iload_n 2, 1) := by decide +kernel
theorem dX2_pricesOf_19 : decode cX2_pricesOf 19 = .ok (.aload_n 0, 1) := by decide +kernel
theorem dX2_pricesOf_20 : decode cX2_pricesOf 20 = .ok (.getfield 18, 3) := by decide +kernel
theorem dX2_pricesOf_23 : decode cX2_pricesOf 23 = .ok (.iload_n 3, 1) := by decide +kernel
theorem dX2_pricesOf_24 : decode cX2_pricesOf 24 = .ok (.iaload, 1) := by decide +kernel
theorem dX2_pricesOf_25 : decode cX2_pricesOf 25 = .ok (.iadd, 1) := by decide +kernel
theorem dX2_pricesOf_26 : decode cX2_pricesOf 26 = .ok (.istore_n 2, 1) := by decide +kernel
theorem dX2_pricesOf_27 : decode cX2_pricesOf 27 = .ok (.iinc 3 1, 3) := by decide +kernel
theorem dX2_pricesOf_30 : decode cX2_pricesOf 30 = .ok (.goto (-26), 3) := by decide +kernel
theorem dX2_pricesOf_33 : decode cX2_pricesOf 33 = .ok (.iload_n 2, 1) := by decide +kernel
theorem dX2_pricesOf_34 : decode cX2_pricesOf 34 = .ok (.ireturn, 1) := by decide +kernel
theorem dX2_least_0 : decode cX2_least 0 = .ok (.aload_n 0, 1) := by decide +kernel
theorem dX2_least_1 : decode cX2_least 1 = .ok (.iconst 0, 1) := by decide +kernel
theorem dX2_least_2 : decode cX2_least 2 = .ok (.aload_n 0, 1) := by decide +kernel
theorem dX2_least_3 : decode cX2_least 3 = .ok (.getfield 38, 3) := by decide +kernel
theorem dX2_least_6 : decode cX2_least 6 = .ok (.invokestatic 66, 3) := by decide +kernel
theorem dX2_least_9 : decode cX2_least 9 = .ok (.ireturn, 1) := by decide +kernel
theorem dX2_leastFrom_0 : decode cX2_leastFrom 0 = .ok (.iload_n 2, 1) := by decide +kernel
theorem dX2_leastFrom_1 : decode cX2_leastFrom 1 = .ok (.ifCond .ne 5, 3) := by decide +kernel
theorem dX2_leastFrom_4 : decode cX2_leastFrom 4 = .ok (.iconst 0, 1) := by decide +kernel
theorem dX2_leastFrom_5 : decode cX2_leastFrom 5 = .ok (.ireturn, 1) := by decide +kernel
theorem dX2_leastFrom_6 : decode cX2_leastFrom 6 = .ok (.iload_n 1, 1) := by decide +kernel
theorem dX2_leastFrom_7 : decode cX2_leastFrom 7 = .ok (.aload_n 0, 1) := by decide +kernel
theorem dX2_leastFrom_8 : decode cX2_leastFrom 8 = .ok (.getfield 21, 3) := by decide +kernel
theorem dX2_leastFrom_11 : decode cX2_leastFrom 11 = .ok (.if_icmp .lt 6, 3) := by decide +kernel
theorem dX2_leastFrom_14 : decode cX2_leastFrom 14 = .ok (.ldc 70, 2) := by decide +kernel
theorem dX2_leastFrom_16 : decode cX2_leastFrom 16 = .ok (.ireturn, 1) := by decide +kernel
theorem dX2_leastFrom_17 : decode cX2_leastFrom 17 = .ok (.aload_n 0, 1) := by decide +kernel
theorem dX2_leastFrom_18 : decode cX2_leastFrom 18 = .ok (.iload_n 1, 1) := by decide +kernel
theorem dX2_leastFrom_19 : decode cX2_leastFrom 19 = .ok (.iconst 1, 1) := by decide +kernel
theorem dX2_leastFrom_20 : decode cX2_leastFrom 20 = .ok (.iadd, 1) := by decide +kernel
theorem dX2_leastFrom_21 : decode cX2_leastFrom 21 = .ok (.iload_n 2, 1) := by decide +kernel
theorem dX2_leastFrom_22 : decode cX2_leastFrom 22 = .ok (.invokestatic 66, 3) := by decide +kernel
theorem dX2_leastFrom_25 : decode cX2_leastFrom 25 = .ok (.istore_n 3, 1) := by decide +kernel
theorem dX2_leastFrom_26 : decode cX2_leastFrom 26 = .ok (.aload_n 0, 1) := by decide +kernel
theorem dX2_leastFrom_27 : decode cX2_leastFrom 27 = .ok (.getfield 15, 3) := by decide +kernel
theorem dX2_leastFrom_30 : decode cX2_leastFrom 30 = .ok (.iload_n 1, 1) := by decide +kernel
theorem dX2_leastFrom_31 : decode cX2_leastFrom 31 = .ok (.iaload, 1) := by decide +kernel
theorem dX2_leastFrom_32 : decode cX2_leastFrom 32 = .ok (.iload_n 2, 1) := by decide +kernel
theorem dX2_leastFrom_33 : decode cX2_leastFrom 33 = .ok (.iand, 1) := by decide +kernel
theorem dX2_leastFrom_34 : decode cX2_leastFrom 34 = .ok (.ifCond .ne 5, 3) := by decide +kernel
theorem dX2_leastFrom_37 : decode cX2_leastFrom 37 = .ok (.iload_n 3, 1) := by decide +kernel
theorem dX2_leastFrom_38 : decode cX2_leastFrom 38 = .ok (.ireturn, 1) := by decide +kernel
theorem dX2_leastFrom_39 : decode cX2_leastFrom 39 = .ok (.iload_n 3, 1) := by decide +kernel
theorem dX2_leastFrom_40 : decode cX2_leastFrom 40 = .ok (.aload_n 0, 1) := by decide +kernel
theorem dX2_leastFrom_41 : decode cX2_leastFrom 41 = .ok (.getfield 9, 3) := by decide +kernel
theorem dX2_leastFrom_44 : decode cX2_leastFrom 44 = .ok (.iload_n 1, 1) := by decide +kernel
theorem dX2_leastFrom_45 : decode cX2_leastFrom 45 = .ok (.iaload, 1) := by decide +kernel
theorem dX2_leastFrom_46 : decode cX2_leastFrom 46 = .ok (.aload_n 0, 1) := by decide +kernel
theorem dX2_leastFrom_47 : decode cX2_leastFrom 47 = .ok (.iload_n 1, 1) := by decide +kernel
theorem dX2_leastFrom_48 : decode cX2_leastFrom 48 = .ok (.iconst 1, 1) := by decide +kernel
theorem dX2_leastFrom_49 : decode cX2_leastFrom 49 = .ok (.iadd, 1) := by decide +kernel
theorem dX2_leastFrom_50 : decode cX2_leastFrom 50 = .ok (.iload_n 2, 1) := by decide +kernel
theorem dX2_leastFrom_51 : decode cX2_leastFrom 51 = .ok (.aload_n 0, 1) := by decide +kernel
theorem dX2_leastFrom_52 : decode cX2_leastFrom 52 = .ok (.getfield 15, 3) := by decide +kernel
theorem dX2_leastFrom_55 : decode cX2_leastFrom 55 = .ok (.iload_n 1, 1) := by decide +kernel
theorem dX2_leastFrom_56 : decode cX2_leastFrom 56 = .ok (.iaload, 1) := by decide +kernel
theorem dX2_leastFrom_57 : decode cX2_leastFrom 57 = .ok (.iconst (-1), 1) := by decide +kernel
theorem dX2_leastFrom_58 : decode cX2_leastFrom 58 = .ok (.ixor, 1) := by decide +kernel
theorem dX2_leastFrom_59 : decode cX2_leastFrom 59 = .ok (.iand, 1) := by decide +kernel
theorem dX2_leastFrom_60 : decode cX2_leastFrom 60 = .ok (.invokestatic 66, 3) := by decide +kernel
theorem dX2_leastFrom_63 : decode cX2_leastFrom 63 = .ok (.iadd, 1) := by decide +kernel
theorem dX2_leastFrom_64 : decode cX2_leastFrom 64 = .ok (.invokestatic 57, 3) := by decide +kernel
theorem dX2_leastFrom_67 : decode cX2_leastFrom 67 = .ok (.ireturn, 1) := by decide +kernel
theorem dX2_share_0 : decode cX2_share 0 = .ok (.iconst 0, 1) := by decide +kernel
theorem dX2_share_1 : decode cX2_share 1 = .ok (.istore_n 1, 1) := by decide +kernel
theorem dX2_share_2 : decode cX2_share 2 = .ok (.iconst 0, 1) := by decide +kernel
theorem dX2_share_3 : decode cX2_share 3 = .ok (.istore_n 2, 1) := by decide +kernel
theorem dX2_share_4 : decode cX2_share 4 = .ok (.iload_n 2, 1) := by decide +kernel
theorem dX2_share_5 : decode cX2_share 5 = .ok (.bipush 12, 2) := by decide +kernel
theorem dX2_share_7 : decode cX2_share 7 = .ok (.if_icmp .ge 30, 3) := by decide +kernel
theorem dX2_share_10 : decode cX2_share 10 = .ok (.aload_n 0, 1) := by decide +kernel
theorem dX2_share_11 : decode cX2_share 11 = .ok (.getfield 38, 3) := by decide +kernel
theorem dX2_share_14 : decode cX2_share 14 = .ok (.iload_n 2, 1) := by decide +kernel
theorem dX2_share_15 : decode cX2_share 15 = .ok (.invokestatic 32, 3) := by decide +kernel
theorem dX2_share_18 : decode cX2_share 18 = .ok (.ifCond .eq 13, 3) := by decide +kernel
theorem dX2_share_21 : decode cX2_share 21 = .ok (.iload_n 1, 1) := by decide +kernel
theorem dX2_share_22 : decode cX2_share 22 = .ok (.aload_n 0, 1) := by decide +kernel
theorem dX2_share_23 : decode cX2_share 23 = .ok (.iload_n 2, 1) := by decide +kernel
theorem dX2_share_24 : decode cX2_share 24 = .ok (.invokevirtual 71, 3) := by decide +kernel
theorem dX2_share_27 : decode cX2_share 27 = .ok (.invokestatic 74, 3) := by decide +kernel
theorem dX2_share_30 : decode cX2_share 30 = .ok (.istore_n 1, 1) := by decide +kernel
theorem dX2_share_31 : decode cX2_share 31 = .ok (.iinc 2 1, 3) := by decide +kernel
theorem dX2_share_34 : decode cX2_share 34 = .ok (.goto (-30), 3) := by decide +kernel
theorem dX2_share_37 : decode cX2_share 37 = .ok (.iload_n 1, 1) := by decide +kernel
theorem dX2_share_38 : decode cX2_share 38 = .ok (.ireturn, 1) := by decide +kernel
theorem dX2_havers_0 : decode cX2_havers 0 = .ok (.iconst 0, 1) := by decide +kernel
theorem dX2_havers_1 : decode cX2_havers 1 = .ok (.istore_n 2, 1) := by decide +kernel
theorem dX2_havers_2 : decode cX2_havers 2 = .ok (.iconst 0, 1) := by decide +kernel
theorem dX2_havers_3 : decode cX2_havers 3 = .ok (.istore_n 3, 1) := by decide +kernel
theorem dX2_havers_4 : decode cX2_havers 4 = .ok (.iload_n 3, 1) := by decide +kernel
theorem dX2_havers_5 : decode cX2_havers 5 = .ok (.aload_n 0, 1) := by decide +kernel
theorem dX2_havers_6 : decode cX2_havers 6 = .ok (.getfield 21, 3) := by decide +kernel
theorem dX2_havers_9 : decode cX2_havers 9 = .ok (.if_icmp .ge 25, 3) := by decide +kernel
theorem dX2_havers_12 : decode cX2_havers 12 = .ok (.aload_n 0, 1) := by decide +kernel
theorem dX2_havers_13 : decode cX2_havers 13 = .ok (.getfield 15, 3) := by decide +kernel
theorem dX2_havers_16 : decode cX2_havers 16 = .ok (.iload_n 3, 1) := by decide +kernel
theorem dX2_havers_17 : decode cX2_havers 17 = .ok (.iaload, 1) := by decide +kernel
theorem dX2_havers_18 : decode cX2_havers 18 = .ok (.iload_n 1, 1) := by decide +kernel
theorem dX2_havers_19 : decode cX2_havers 19 = .ok (.invokestatic 32, 3) := by decide +kernel
theorem dX2_havers_22 : decode cX2_havers 22 = .ok (.ifCond .eq 6, 3) := by decide +kernel
theorem dX2_havers_25 : decode cX2_havers 25 = .ok (.iinc 2 1, 3) := by decide +kernel
theorem dX2_havers_28 : decode cX2_havers 28 = .ok (.iinc 3 1, 3) := by decide +kernel
theorem dX2_havers_31 : decode cX2_havers 31 = .ok (.goto (-27), 3) := by decide +kernel
theorem dX2_havers_34 : decode cX2_havers 34 = .ok (.iload_n 2, 1) := by decide +kernel
theorem dX2_havers_35 : decode cX2_havers 35 = .ok (.ireturn, 1) := by decide +kernel
theorem dX2_kindOf_0 : decode cX2_kindOf 0 = .ok (.aload_n 0, 1) := by decide +kernel
theorem dX2_kindOf_1 : decode cX2_kindOf 1 = .ok (.iload_n 1, 1) := by decide +kernel
theorem dX2_kindOf_2 : decode cX2_kindOf 2 = .ok (.invokevirtual 77, 3) := by decide +kernel
theorem dX2_kindOf_5 : decode cX2_kindOf 5 = .ok (.ifCond .eq 5, 3) := by decide +kernel
theorem dX2_kindOf_8 : decode cX2_kindOf 8 = .ok (.iconst 3, 1) := by decide +kernel
theorem dX2_kindOf_9 : decode cX2_kindOf 9 = .ok (.ireturn, 1) := by decide +kernel
theorem dX2_kindOf_10 : decode cX2_kindOf 10 = .ok (.iconst 2, 1) := by decide +kernel
theorem dX2_kindOf_11 : decode cX2_kindOf 11 = .ok (.aload_n 0, 1) := by decide +kernel
theorem dX2_kindOf_12 : decode cX2_kindOf 12 = .ok (.iload_n 1, 1) := by decide +kernel
theorem dX2_kindOf_13 : decode cX2_kindOf 13 = .ok (.invokevirtual 54, 3) := by decide +kernel
theorem dX2_kindOf_16 : decode cX2_kindOf 16 = .ok (.imul, 1) := by decide +kernel
theorem dX2_kindOf_17 : decode cX2_kindOf 17 = .ok (.aload_n 0, 1) := by decide +kernel
theorem dX2_kindOf_18 : decode cX2_kindOf 18 = .ok (.getfield 9, 3) := by decide +kernel
theorem dX2_kindOf_21 : decode cX2_kindOf 21 = .ok (.iload_n 1, 1) := by decide +kernel
theorem dX2_kindOf_22 : decode cX2_kindOf 22 = .ok (.iaload, 1) := by decide +kernel
theorem dX2_kindOf_23 : decode cX2_kindOf 23 = .ok (.if_icmp .lt 7, 3) := by decide +kernel
theorem dX2_kindOf_26 : decode cX2_kindOf 26 = .ok (.iconst 2, 1) := by decide +kernel
theorem dX2_kindOf_27 : decode cX2_kindOf 27 = .ok (.goto 4, 3) := by decide +kernel
theorem dX2_kindOf_30 : decode cX2_kindOf 30 = .ok (.iconst 1, 1) := by decide +kernel
theorem dX2_kindOf_31 : decode cX2_kindOf 31 = .ok (.ireturn, 1) := by decide +kernel
theorem dX2_isOfKind_0 : decode cX2_isOfKind 0 = .ok (.aload_n 0, 1) := by decide +kernel
theorem dX2_isOfKind_1 : decode cX2_isOfKind 1 = .ok (.iload_n 1, 1) := by decide +kernel
theorem dX2_isOfKind_2 : decode cX2_isOfKind 2 = .ok (.invokevirtual 81, 3) := by decide +kernel
theorem dX2_isOfKind_5 : decode cX2_isOfKind 5 = .ok (.istore_n 3, 1) := by decide +kernel
theorem dX2_isOfKind_6 : decode cX2_isOfKind 6 = .ok (.iload_n 2, 1) := by decide +kernel
theorem dX2_isOfKind_7 : decode cX2_isOfKind 7 = .ok (.ifCond .eq 18, 3) := by decide +kernel
theorem dX2_isOfKind_10 : decode cX2_isOfKind 10 = .ok (.iload_n 2, 1) := by decide +kernel
theorem dX2_isOfKind_11 : decode cX2_isOfKind 11 = .ok (.iload_n 3, 1) := by decide +kernel
theorem dX2_isOfKind_12 : decode cX2_isOfKind 12 = .ok (.if_icmp .eq 13, 3) := by decide +kernel
theorem dX2_isOfKind_15 : decode cX2_isOfKind 15 = .ok (.iload_n 2, 1) := by decide +kernel
theorem dX2_isOfKind_16 : decode cX2_isOfKind 16 = .ok (.iconst 1, 1) := by decide +kernel
theorem dX2_isOfKind_17 : decode cX2_isOfKind 17 = .ok (.if_icmp .ne 12, 3) := by decide +kernel
theorem dX2_isOfKind_20 : decode cX2_isOfKind 20 = .ok (.iload_n 3, 1) := by decide +kernel
theorem dX2_isOfKind_21 : decode cX2_isOfKind 21 = .ok (.iconst 2, 1) := by decide +kernel
theorem dX2_isOfKind_22 : decode cX2_isOfKind 22 = .ok (.if_icmp .ne 7, 3) := by decide +kernel
theorem dX2_isOfKind_25 : decode cX2_isOfKind 25 = .ok (.iconst 1, 1) := by decide +kernel
theorem dX2_isOfKind_26 : decode cX2_isOfKind 26 = .ok (.goto 4, 3) := by decide +kernel
theorem dX2_isOfKind_29 : decode cX2_isOfKind 29 = .ok (.iconst 0, 1) := by decide +kernel
theorem dX2_isOfKind_30 : decode cX2_isOfKind 30 = .ok (.ireturn, 1) := by decide +kernel
theorem dX2_nears_0 : decode cX2_nears 0 = .ok (.iconst 0, 1) := by decide +kernel
theorem dX2_nears_1 : decode cX2_nears 1 = .ok (.istore_n 1, 1) := by decide +kernel
theorem dX2_nears_2 : decode cX2_nears 2 = .ok (.iconst 0, 1) := by decide +kernel
theorem dX2_nears_3 : decode cX2_nears 3 = .ok (.istore_n 2, 1) := by decide +kernel
theorem dX2_nears_4 : decode cX2_nears 4 = .ok (.iload_n 2, 1) := by decide +kernel
theorem dX2_nears_5 : decode cX2_nears 5 = .ok (.aload_n 0, 1) := by decide +kernel
theorem dX2_nears_6 : decode cX2_nears 6 = .ok (.getfield 21, 3) := by decide +kernel
theorem dX2_nears_9 : decode cX2_nears 9 = .ok (.if_icmp .ge 21, 3) := by decide +kernel
theorem dX2_nears_12 : decode cX2_nears 12 = .ok (.aload_n 0, 1) := by decide +kernel
theorem dX2_nears_13 : decode cX2_nears 13 = .ok (.iload_n 2, 1) := by decide +kernel
theorem dX2_nears_14 : decode cX2_nears 14 = .ok (.invokevirtual 81, 3) := by decide +kernel
theorem dX2_nears_17 : decode cX2_nears 17 = .ok (.iconst 2, 1) := by decide +kernel
theorem dX2_nears_18 : decode cX2_nears 18 = .ok (.if_icmp .ne 6, 3) := by decide +kernel
theorem dX2_nears_21 : decode cX2_nears 21 = .ok (.iinc 1 1, 3) := by decide +kernel
theorem dX2_nears_24 : decode cX2_nears 24 = .ok (.iinc 2 1, 3) := by decide +kernel
theorem dX2_nears_27 : decode cX2_nears 27 = .ok (.goto (-23), 3) := by decide +kernel
theorem dX2_nears_30 : decode cX2_nears 30 = .ok (.iload_n 1, 1) := by decide +kernel
theorem dX2_nears_31 : decode cX2_nears 31 = .ok (.ireturn, 1) := by decide +kernel
theorem dX3_init_0 : decode cX3_init 0 = .ok (.aload_n 0, 1) := by decide +kernel
theorem dX3_init_1 : decode cX3_init 1 = .ok (.invokespecial 3, 3) := by decide +kernel
theorem dX3_init_4 : decode cX3_init 4 = .ok (.aload_n 0, 1) := by decide +kernel
theorem dX3_init_5 : decode cX3_init 5 = .ok (.bipush 8, 2) := by decide +kernel
theorem dX3_init_7 : decode cX3_init 7 = .ok (.bipush 60, 2) := by decide +kernel
theorem dX3_init_9 : decode cX3_init 9 = .ok (.multianewarray 9 2, 4) := by decide +kernel
theorem dX3_init_13 : decode cX3_init 13 = .ok (.putfield 11, 3) := by decide +kernel
theorem dX3_init_16 : decode cX3_init 16 = .ok (.aload_n 0, 1) := by decide +kernel
theorem dX3_init_17 : decode cX3_init 17 = .ok (.bipush 8, 2) := by decide +kernel
theorem dX3_init_19 : decode cX3_init 19 = .ok (.newarray .int, 2) := by decide +kernel
theorem dX3_init_21 : decode cX3_init 21 = .ok (.putfield 16, 3) := by decide +kernel
theorem dX3_init_24 : decode cX3_init 24 = .ok (.aload_n 0, 1) := by decide +kernel
theorem dX3_init_25 : decode cX3_init 25 = .ok (.bipush 8, 2) := by decide +kernel
theorem dX3_init_27 : decode cX3_init 27 = .ok (.newarray .int, 2) := by decide +kernel
theorem dX3_init_29 : decode cX3_init 29 = .ok (.putfield 20, 3) := by decide +kernel
theorem dX3_init_32 : decode cX3_init 32 = .ok (.iconst 0, 1) := by decide +kernel
theorem dX3_init_33 : decode cX3_init 33 = .ok (.istore_n 1, 1) := by decide +kernel
theorem dX3_init_34 : decode cX3_init 34 = .ok (.iload_n 1, 1) := by decide +kernel
theorem dX3_init_35 : decode cX3_init 35 = .ok (.bipush 8, 2) := by decide +kernel
theorem dX3_init_37 : decode cX3_init 37 = .ok (.if_icmp .ge 16, 3) := by decide +kernel
theorem dX3_init_40 : decode cX3_init 40 = .ok (.aload_n 0, 1) := by decide +kernel
theorem dX3_init_41 : decode cX3_init 41 = .ok (.getfield 20, 3) := by decide +kernel
theorem dX3_init_44 : decode cX3_init 44 = .ok (.iload_n 1, 1) := by decide +kernel
theorem dX3_init_45 : decode cX3_init 45 = .ok (.iconst (-1), 1) := by decide +kernel
theorem dX3_init_46 : decode cX3_init 46 = .ok (.iastore, 1) := by decide +kernel
theorem dX3_init_47 : decode cX3_init 47 = .ok (.iinc 1 1, 3) := by decide +kernel
theorem dX3_init_50 : decode cX3_init 50 = .ok (.goto (-16), 3) := by decide +kernel
theorem dX3_init_53 : decode cX3_init 53 = .ok (.return_, 1) := by decide +kernel
theorem dX3_isMissing_0 : decode cX3_isMissing 0 = .ok (.aload_n 0, 1) := by decide +kernel
theorem dX3_isMissing_1 : decode cX3_isMissing 1 = .ok (.getfield 20, 3) := by decide +kernel
theorem dX3_isMissing_4 : decode cX3_isMissing 4 = .ok (.iload_n 1, 1) := by decide +kernel
theorem dX3_isMissing_5 : decode cX3_isMissing 5 = .ok (.iaload, 1) := by decide +kernel
theorem dX3_isMissing_6 : decode cX3_isMissing 6 = .ok (.iconst (-1), 1) := by decide +kernel
theorem dX3_isMissing_7 : decode cX3_isMissing 7 = .ok (.if_icmp .ne 7, 3) := by decide +kernel
theorem dX3_isMissing_10 : decode cX3_isMissing 10 = .ok (.iconst 1, 1) := by decide +kernel
theorem dX3_isMissing_11 : decode cX3_isMissing 11 = .ok (.goto 4, 3) := by decide +kernel
theorem dX3_isMissing_14 : decode cX3_isMissing 14 = .ok (.iconst 0, 1) := by decide +kernel
theorem dX3_isMissing_15 : decode cX3_isMissing 15 = .ok (.ireturn, 1) := by decide +kernel
theorem dX3_present_0 : decode cX3_present 0 = .ok (.iconst 0, 1) := by decide +kernel
theorem dX3_present_1 : decode cX3_present 1 = .ok (.istore_n 1, 1) := by decide +kernel
theorem dX3_present_2 : decode cX3_present 2 = .ok (.iconst 0, 1) := by decide +kernel
theorem dX3_present_3 : decode cX3_present 3 = .ok (.istore_n 2, 1) := by decide +kernel
theorem dX3_present_4 : decode cX3_present 4 = .ok (.iload_n 2, 1) := by decide +kernel
theorem dX3_present_5 : decode cX3_present 5 = .ok (.bipush 8, 2) := by decide +kernel
theorem dX3_present_7 : decode cX3_present 7 = .ok (.if_icmp .ge 20, 3) := by decide +kernel
theorem dX3_present_10 : decode cX3_present 10 = .ok (.aload_n 0, 1) := by decide +kernel
theorem dX3_present_11 : decode cX3_present 11 = .ok (.iload_n 2, 1) := by decide +kernel
theorem dX3_present_12 : decode cX3_present 12 = .ok (.invokevirtual 23, 3) := by decide +kernel
theorem dX3_present_15 : decode cX3_present 15 = .ok (.ifCond .ne 6, 3) := by decide +kernel
theorem dX3_present_18 : decode cX3_present 18 = .ok (.iinc 1 1, 3) := by decide +kernel
theorem dX3_present_21 : decode cX3_present 21 = .ok (.iinc 2 1, 3) := by decide +kernel
theorem dX3_present_24 : decode cX3_present 24 = .ok (.goto (-20), 3) := by decide +kernel
theorem dX3_present_27 : decode cX3_present 27 = .ok (.iload_n 1, 1) := by decide +kernel
theorem dX3_present_28 : decode cX3_present 28 = .ok (.ireturn, 1) := by decide +kernel
theorem dJ6_bitCount_0f7a4_0 : decode cJ6_bitCount_0f7a4 0 = .ok (.iload_n 0, 1) := by decide +kernel
theorem dJ6_bitCount_0f7a4_1 : decode cJ6_bitCount_0f7a4 1 = .ok (.iload_n 0, 1) := by decide +kernel
theorem dJ6_bitCount_0f7a4_2 : decode cJ6_bitCount_0f7a4 2 = .ok (.iconst 1, 1) := by decide +kernel
theorem dJ6_bitCount_0f7a4_3 : decode cJ6_bitCount_0f7a4 3 = .ok (.iushr, 1) := by decide +kernel
theorem dJ6_bitCount_0f7a4_4 : decode cJ6_bitCount_0f7a4 4 = .ok (.ldc_w 265, 3) := by decide +kernel
theorem dJ6_bitCount_0f7a4_7 : decode cJ6_bitCount_0f7a4 7 = .ok (.iand, 1) := by decide +kernel
theorem dJ6_bitCount_0f7a4_8 : decode cJ6_bitCount_0f7a4 8 = .ok (.isub, 1) := by decide +kernel
theorem dJ6_bitCount_0f7a4_9 : decode cJ6_bitCount_0f7a4 9 = .ok (.istore_n 0, 1) := by decide +kernel
theorem dJ6_bitCount_0f7a4_10 : decode cJ6_bitCount_0f7a4 10 = .ok (.iload_n 0, 1) := by decide +kernel
theorem dJ6_bitCount_0f7a4_11 : decode cJ6_bitCount_0f7a4 11 = .ok (.ldc_w 266, 3) := by decide +kernel
theorem dJ6_bitCount_0f7a4_14 : decode cJ6_bitCount_0f7a4 14 = .ok (.iand, 1) := by decide +kernel
theorem dJ6_bitCount_0f7a4_15 : decode cJ6_bitCount_0f7a4 15 = .ok (.iload_n 0, 1) := by decide +kernel
theorem dJ6_bitCount_0f7a4_16 : decode cJ6_bitCount_0f7a4 16 = .ok (.iconst 2, 1) := by decide +kernel
theorem dJ6_bitCount_0f7a4_17 : decode cJ6_bitCount_0f7a4 17 = .ok (.iushr, 1) := by decide +kernel
theorem dJ6_bitCount_0f7a4_18 : decode cJ6_bitCount_0f7a4 18 = .ok (.ldc_w 266, 3) := by decide +kernel
theorem dJ6_bitCount_0f7a4_21 : decode cJ6_bitCount_0f7a4 21 = .ok (.iand, 1) := by decide +kernel
theorem dJ6_bitCount_0f7a4_22 : decode cJ6_bitCount_0f7a4 22 = .ok (.iadd, 1) := by decide +kernel
theorem dJ6_bitCount_0f7a4_23 : decode cJ6_bitCount_0f7a4 23 = .ok (.istore_n 0, 1) := by decide +kernel
theorem dJ6_bitCount_0f7a4_24 : decode cJ6_bitCount_0f7a4 24 = .ok (.iload_n 0, 1) := by decide +kernel
theorem dJ6_bitCount_0f7a4_25 : decode cJ6_bitCount_0f7a4 25 = .ok (.iload_n 0, 1) := by decide +kernel
theorem dJ6_bitCount_0f7a4_26 : decode cJ6_bitCount_0f7a4 26 = .ok (.iconst 4, 1) := by decide +kernel
theorem dJ6_bitCount_0f7a4_27 : decode cJ6_bitCount_0f7a4 27 = .ok (.iushr, 1) := by decide +kernel
theorem dJ6_bitCount_0f7a4_28 : decode cJ6_bitCount_0f7a4 28 = .ok (.iadd, 1) := by decide +kernel
theorem dJ6_bitCount_0f7a4_29 : decode cJ6_bitCount_0f7a4 29 = .ok (.ldc_w 267, 3) := by decide +kernel
theorem dJ6_bitCount_0f7a4_32 : decode cJ6_bitCount_0f7a4 32 = .ok (.iand, 1) := by decide +kernel
theorem dJ6_bitCount_0f7a4_33 : decode cJ6_bitCount_0f7a4 33 = .ok (.istore_n 0, 1) := by decide +kernel
theorem dJ6_bitCount_0f7a4_34 : decode cJ6_bitCount_0f7a4 34 = .ok (.iload_n 0, 1) := by decide +kernel
theorem dJ6_bitCount_0f7a4_35 : decode cJ6_bitCount_0f7a4 35 = .ok (.iload_n 0, 1) := by decide +kernel
theorem dJ6_bitCount_0f7a4_36 : decode cJ6_bitCount_0f7a4 36 = .ok (.bipush 8, 2) := by decide +kernel
theorem dJ6_bitCount_0f7a4_38 : decode cJ6_bitCount_0f7a4 38 = .ok (.iushr, 1) := by decide +kernel
theorem dJ6_bitCount_0f7a4_39 : decode cJ6_bitCount_0f7a4 39 = .ok (.iadd, 1) := by decide +kernel
theorem dJ6_bitCount_0f7a4_40 : decode cJ6_bitCount_0f7a4 40 = .ok (.istore_n 0, 1) := by decide +kernel
theorem dJ6_bitCount_0f7a4_41 : decode cJ6_bitCount_0f7a4 41 = .ok (.iload_n 0, 1) := by decide +kernel
theorem dJ6_bitCount_0f7a4_42 : decode cJ6_bitCount_0f7a4 42 = .ok (.iload_n 0, 1) := by decide +kernel
theorem dJ6_bitCount_0f7a4_43 : decode cJ6_bitCount_0f7a4 43 = .ok (.bipush 16, 2) := by decide +kernel
theorem dJ6_bitCount_0f7a4_45 : decode cJ6_bitCount_0f7a4 45 = .ok (.iushr, 1) := by decide +kernel
theorem dJ6_bitCount_0f7a4_46 : decode cJ6_bitCount_0f7a4 46 = .ok (.iadd, 1) := by decide +kernel
theorem dJ6_bitCount_0f7a4_47 : decode cJ6_bitCount_0f7a4 47 = .ok (.istore_n 0, 1) := by decide +kernel
theorem dJ6_bitCount_0f7a4_48 : decode cJ6_bitCount_0f7a4 48 = .ok (.iload_n 0, 1) := by decide +kernel
theorem dJ6_bitCount_0f7a4_49 : decode cJ6_bitCount_0f7a4 49 = .ok (.bipush 63, 2) := by decide +kernel
theorem dJ6_bitCount_0f7a4_51 : decode cJ6_bitCount_0f7a4 51 = .ok (.iand, 1) := by decide +kernel
theorem dJ6_bitCount_0f7a4_52 : decode cJ6_bitCount_0f7a4 52 = .ok (.ireturn, 1) := by decide +kernel
theorem dJ9_max_7cf53_0 : decode cJ9_max_7cf53 0 = .ok (.iload_n 0, 1) := by decide +kernel
theorem dJ9_max_7cf53_1 : decode cJ9_max_7cf53 1 = .ok (.iload_n 1, 1) := by decide +kernel
theorem dJ9_max_7cf53_2 : decode cJ9_max_7cf53 2 = .ok (.if_icmp .lt 7, 3) := by decide +kernel
theorem dJ9_max_7cf53_5 : decode cJ9_max_7cf53 5 = .ok (.iload_n 0, 1) := by decide +kernel
theorem dJ9_max_7cf53_6 : decode cJ9_max_7cf53 6 = .ok (.goto 4, 3) := by decide +kernel
theorem dJ9_max_7cf53_9 : decode cJ9_max_7cf53 9 = .ok (.iload_n 1, 1) := by decide +kernel
theorem dJ9_max_7cf53_10 : decode cJ9_max_7cf53 10 = .ok (.ireturn, 1) := by decide +kernel
theorem dJ9_min_7cf53_0 : decode cJ9_min_7cf53 0 = .ok (.iload_n 0, 1) := by decide +kernel
theorem dJ9_min_7cf53_1 : decode cJ9_min_7cf53 1 = .ok (.iload_n 1, 1) := by decide +kernel
theorem dJ9_min_7cf53_2 : decode cJ9_min_7cf53 2 = .ok (.if_icmp .gt 7, 3) := by decide +kernel
theorem dJ9_min_7cf53_5 : decode cJ9_min_7cf53 5 = .ok (.iload_n 0, 1) := by decide +kernel
theorem dJ9_min_7cf53_6 : decode cJ9_min_7cf53 6 = .ok (.goto 4, 3) := by decide +kernel
theorem dJ9_min_7cf53_9 : decode cJ9_min_7cf53 9 = .ok (.iload_n 1, 1) := by decide +kernel
theorem dJ9_min_7cf53_10 : decode cJ9_min_7cf53 10 = .ok (.ireturn, 1) := by decide +kernel
end
section
theorem dX4_init_0 : decode cX4_init 0 = .ok (.aload_n 0, 1) := by decide +kernel
theorem dX4_init_1 : decode cX4_init 1 = .ok (.invokespecial 3, 3) := by decide +kernel
theorem dX4_init_4 : decode cX4_init 4 = .ok (.aload_n 0, 1) := by decide +kernel
theorem dX4_init_5 : decode cX4_init 5 = .ok (.bipush 10, 2) := by decide +kernel
theorem dX4_init_7 : decode cX4_init 7 = .ok (.bipush 10, 2) := by decide +kernel
theorem dX4_init_9 : decode cX4_init 9 = .ok (.multianewarray 9 2, 4) := by decide +kernel
theorem dX4_init_13 : decode cX4_init 13 = .ok (.putfield 11, 3) := by decide +kernel
theorem dX4_init_16 : decode cX4_init 16 = .ok (.aload_n 0, 1) := by decide +kernel
theorem dX4_init_17 : decode cX4_init 17 = .ok (.bipush 10, 2) := by decide +kernel
theorem dX4_init_19 : decode cX4_init 19 = .ok (.newarray .int, 2) := by decide +kernel
theorem dX4_init_21 : decode cX4_init 21 = .ok (.putfield 16, 3) := by decide +kernel
theorem dX4_init_24 : decode cX4_init 24 = .ok (.aload_n 0, 1) := by decide +kernel
theorem dX4_init_25 : decode cX4_init 25 = .ok (.bipush 10, 2) := by decide +kernel
theorem dX4_init_27 : decode cX4_init 27 = .ok (.newarray .int, 2) := by decide +kernel
theorem dX4_init_29 : decode cX4_init 29 = .ok (.putfield 20, 3) := by decide +kernel
theorem dX4_init_32 : decode cX4_init 32 = .ok (.aload_n 0, 1) := by decide +kernel
theorem dX4_init_33 : decode cX4_init 33 = .ok (.bipush 10, 2) := by decide +kernel
theorem dX4_init_35 : decode cX4_init 35 = .ok (.bipush 10, 2) := by decide +kernel
theorem dX4_init_37 : decode cX4_init 37 = .ok (.multianewarray 9 2, 4) := by decide +kernel
theorem dX4_init_41 : decode cX4_init 41 = .ok (.putfield 23, 3) := by decide +kernel
theorem dX4_init_44 : decode cX4_init 44 = .ok (.aload_n 0, 1) := by decide +kernel
theorem dX4_init_45 : decode cX4_init 45 = .ok (.bipush 10, 2) := by decide +kernel
theorem dX4_init_47 : decode cX4_init 47 = .ok (.newarray .int, 2) := by decide +kernel
theorem dX4_init_49 : decode cX4_init 49 = .ok (.putfield 26, 3) := by decide +kernel
theorem dX4_init_52 : decode cX4_init 52 = .ok (.return_, 1) := by decide +kernel
theorem dX5_init_0 : decode cX5_init 0 = .ok (.aload_n 0, 1) := by decide +kernel
theorem dX5_init_1 : decode cX5_init 1 = .ok (.invokespecial 1, 3) := by decide +kernel
theorem dX5_init_4 : decode cX5_init 4 = .ok (.aload_n 0, 1) := by decide +kernel
theorem dX5_init_5 : decode cX5_init 5 = .ok (.new 7, 3) := by decide +kernel
theorem dX5_init_8 : decode cX5_init 8 = .ok (.dup, 1) := by decide +kernel
theorem dX5_init_9 : decode cX5_init 9 = .ok (.invokespecial 9, 3) := by decide +kernel
theorem dX5_init_12 : decode cX5_init 12 = .ok (.putfield 10, 3) := by decide +kernel
theorem dX5_init_15 : decode cX5_init 15 = .ok (.aload_n 0, 1) := by decide +kernel
theorem dX5_init_16 : decode cX5_init 16 = .ok (.new 16, 3) := by decide +kernel
theorem dX5_init_19 : decode cX5_init 19 = .ok (.dup, 1) := by decide +kernel
theorem dX5_init_20 : decode cX5_init 20 = .ok (.invokespecial 18, 3) := by decide +kernel
theorem dX5_init_23 : decode cX5_init 23 = .ok (.putfield 19, 3) := by decide +kernel
theorem dX5_init_26 : decode cX5_init 26 = .ok (.aload_n 0, 1) := by decide +kernel
theorem dX5_init_27 : decode cX5_init 27 = .ok (.new 23, 3) := by decide +kernel
theorem dX5_init_30 : decode cX5_init 30 = .ok (.dup, 1) := by decide +kernel
theorem dX5_init_31 : decode cX5_init 31 = .ok (.invokespecial 25, 3) := by decide +kernel
theorem dX5_init_34 : decode cX5_init 34 = .ok (.putfield 26, 3) := by decide +kernel
theorem dX5_init_37 : decode cX5_init 37 = .ok (.aload_n 0, 1) := by decide +kernel
theorem dX5_init_38 : decode cX5_init 38 = .ok (.new 30, 3) := by decide +kernel
theorem dX5_init_41 : decode cX5_init 41 = .ok (.dup, 1) := by decide +kernel
theorem dX5_init_42 : decode cX5_init 42 = .ok (.invokespecial 32, 3) := by decide +kernel
theorem dX5_init_45 : decode cX5_init 45 = .ok (.putfield 33, 3) := by decide +kernel
theorem dX5_init_48 : decode cX5_init 48 = .ok (.aload_n 0, 1) := by decide +kernel
theorem dX5_init_49 : decode cX5_init 49 = .ok (.new 37, 3) := by decide +kernel
theorem dX5_init_52 : decode cX5_init 52 = .ok (.dup, 1) := by decide +kernel
theorem dX5_init_53 : decode cX5_init 53 = .ok (.invokespecial 39, 3) := by decide +kernel
theorem dX5_init_56 : decode cX5_init 56 = .ok (.putfield 40, 3) := by decide +kernel
theorem dX5_init_59 : decode cX5_init 59 = .ok (.aload_n 0, 1) := by decide +kernel
theorem dX5_init_60 : decode cX5_init 60 = .ok (.iconst 0, 1) := by decide +kernel
theorem dX5_init_61 : decode cX5_init 61 = .ok (.putfield 44, 3) := by decide +kernel
theorem dX5_init_64 : decode cX5_init 64 = .ok (.return_, 1) := by decide +kernel
theorem dX5_offer_0 : decode cX5_offer 0 = .ok (.iload_n 1, 1) := by decide +kernel
theorem dX5_offer_1 : decode cX5_offer 1 = .ok (.iconst 1, 1) := by decide +kernel
theorem dX5_offer_2 : decode cX5_offer 2 = .ok (.sipush 1000, 3) := by decide +kernel
theorem dX5_offer_5 : decode cX5_offer 5 = .ok (.invokestatic 79, 3) := by decide +kernel
theorem dX5_offer_8 : decode cX5_offer 8 = .ok (.ifCond .eq 14, 3) := by decide +kernel
theorem dX5_offer_11 : decode cX5_offer 11 = .ok (.iload_n 2, 1) := by decide +kernel
theorem dX5_offer_12 : decode cX5_offer 12 = .ok (.iconst 1, 1) := by decide +kernel
theorem dX5_offer_13 : decode cX5_offer 13 = .ok (.sipush 4095, 3) := by decide +kernel
theorem dX5_offer_16 : decode cX5_offer 16 = .ok (.invokestatic 79, 3) := by decide +kernel
theorem dX5_offer_19 : decode cX5_offer 19 = .ok (.ifCond .ne 6, 3) := by decide +kernel
theorem dX5_offer_22 : decode cX5_offer 22 = .ok (.ldc 52, 2) := by decide +kernel
theorem dX5_offer_24 : decode cX5_offer 24 = .ok (.ireturn, 1) := by decide +kernel
theorem dX5_offer_25 : decode cX5_offer 25 = .ok (.aload_n 0, 1) := by decide +kernel
theorem dX5_offer_26 : decode cX5_offer 26 = .ok (.getfield 19, 3) := by decide +kernel
theorem dX5_offer_29 : decode cX5_offer 29 = .ok (.getfield 83, 3) := by decide +kernel
theorem dX5_offer_32 : decode cX5_offer 32 = .ok (.ifCond .eq 6, 3) := by decide +kernel
theorem dX5_offer_35 : decode cX5_offer 35 = .ok (.ldc 86, 2) := by decide +kernel
theorem dX5_offer_37 : decode cX5_offer 37 = .ok (.ireturn, 1) := by decide +kernel
theorem dX5_offer_38 : decode cX5_offer 38 = .ok (.aload_n 0, 1) := by decide +kernel
theorem dX5_offer_39 : decode cX5_offer 39 = .ok (.getfield 19, 3) := by decide +kernel
theorem dX5_offer_42 : decode cX5_offer 42 = .ok (.getfield 87, 3) := by decide +kernel
theorem dX5_offer_45 : decode cX5_offer 45 = .ok (.bipush 10, 2) := by decide +kernel
theorem dX5_offer_47 : decode cX5_offer 47 = .ok (.if_icmp .ge 15, 3) := by decide +kernel
theorem dX5_offer_50 : decode cX5_offer 50 = .ok (.aload_n 0, 1) := by decide +kernel
theorem dX5_offer_51 : decode cX5_offer 51 = .ok (.getfield 19, 3) := by decide +kernel
theorem dX5_offer_54 : decode cX5_offer 54 = .ok (.iload_n 1, 1) := by decide +kernel
theorem dX5_offer_55 : decode cX5_offer 55 = .ok (.iload_n 2, 1) := by decide +kernel
theorem dX5_offer_56 : decode cX5_offer 56 = .ok (.invokevirtual 90, 3) := by decide +kernel
theorem dX5_offer_59 : decode cX5_offer 59 = .ok (.goto 5, 3) := by decide +kernel
theorem dX5_offer_62 : decode cX5_offer 62 = .ok (.ldc 94, 2) := by decide +kernel
theorem dX5_offer_64 : decode cX5_offer 64 = .ok (.ireturn, 1) := by decide +kernel
theorem dX5_demand_0 : decode cX5_demand 0 = .ok (.iload_n 1, 1) := by decide +kernel
theorem dX5_demand_1 : decode cX5_demand 1 = .ok (.bipush 12, 2) := by decide +kernel
theorem dX5_demand_3 : decode cX5_demand 3 = .ok (.invokestatic 48, 3) := by decide +kernel
theorem dX5_demand_6 : decode cX5_demand 6 = .ok (.ifCond .ne 6, 3) := by decide +kernel
theorem dX5_demand_9 : decode cX5_demand 9 = .ok (.ldc 52, 2) := by decide +kernel
theorem dX5_demand_11 : decode cX5_demand 11 = .ok (.ireturn, 1) := by decide +kernel
theorem dX5_demand_12 : decode cX5_demand 12 = .ok (.aload_n 0, 1) := by decide +kernel
theorem dX5_demand_13 : decode cX5_demand 13 = .ok (.getfield 19, 3) := by decide +kernel
theorem dX5_demand_16 : decode cX5_demand 16 = .ok (.iload_n 1, 1) := by decide +kernel
theorem dX5_demand_17 : decode cX5_demand 17 = .ok (.invokevirtual 95, 3) := by decide +kernel
theorem dX5_demand_20 : decode cX5_demand 20 = .ok (.ifCond .eq 14, 3) := by decide +kernel
theorem dX5_demand_23 : decode cX5_demand 23 = .ok (.aload_n 0, 1) := by decide +kernel
theorem dX5_demand_24 : decode cX5_demand 24 = .ok (.getfield 19, 3) := by decide +kernel
theorem dX5_demand_27 : decode cX5_demand 27 = .ok (.iload_n 1, 1) := by decide +kernel
theorem dX5_demand_28 : decode cX5_demand 28 = .ok (.invokevirtual 98, 3) := by decide +kernel
theorem dX5_demand_31 : decode cX5_demand 31 = .ok (.goto 5, 3) := by decide +kernel
theorem dX5_demand_34 : decode cX5_demand 34 = .ok (.ldc 86, 2) := by decide +kernel
theorem dX5_demand_36 : decode cX5_demand 36 = .ok (.ireturn, 1) := by decide +kernel
theorem dX5_covers_0 : decode cX5_covers 0 = .ok (.iload_n 1, 1) := by decide +kernel
theorem dX5_covers_1 : decode cX5_covers 1 = .ok (.tableswitch 87 0 5 #[39, 47, 55, 63, 71, 79], 39) := by decide +kernel
theorem dX5_covers_40 : decode cX5_covers 40 = .ok (.aload_n 0, 1) := by decide +kernel
theorem dX5_covers_41 : decode cX5_covers 41 = .ok (.getfield 19, 3) := by decide +kernel
theorem dX5_covers_44 : decode cX5_covers 44 = .ok (.getfield 107, 3) := by decide +kernel
theorem dX5_covers_47 : decode cX5_covers 47 = .ok (.ireturn, 1) := by decide +kernel
theorem dX5_covers_48 : decode cX5_covers 48 = .ok (.aload_n 0, 1) := by decide +kernel
theorem dX5_covers_49 : decode cX5_covers 49 = .ok (.getfield 19, 3) := by decide +kernel
theorem dX5_covers_52 : decode cX5_covers 52 = .ok (.invokevirtual 110, 3) := by decide +kernel
theorem dX5_covers_55 : decode cX5_covers 55 = .ok (.ireturn, 1) := by decide +kernel
theorem dX5_covers_56 : decode cX5_covers 56 = .ok (.aload_n 0, 1) := by decide +kernel
theorem dX5_covers_57 : decode cX5_covers 57 = .ok (.getfield 19, 3) := by decide +kernel
theorem dX5_covers_60 : decode cX5_covers 60 = .ok (.invokevirtual 114, 3) := by decide +kernel
theorem dX5_covers_63 : decode cX5_covers 63 = .ok (.ireturn, 1) := by decide +kernel
theorem dX5_covers_64 : decode cX5_covers 64 = .ok (.aload_n 0, 1) := by decide +kernel
theorem dX5_covers_65 : decode cX5_covers 65 = .ok (.getfield 19, 3) := by decide +kernel
theorem dX5_covers_68 : decode cX5_covers 68 = .ok (.invokevirtual 117, 3) := by decide +kernel
theorem dX5_covers_71 : decode cX5_covers 71 = .ok (.ireturn, 1) := by decide +kernel
theorem dX5_covers_72 : decode cX5_covers 72 = .ok (.aload_n 0, 1) := by decide +kernel
theorem dX5_covers_73 : decode cX5_covers 73 = .ok (.getfield 19, 3) := by decide +kernel
theorem dX5_covers_76 : decode cX5_covers 76 = .ok (.getfield 83, 3) := by decide +kernel
theorem dX5_covers_79 : decode cX5_covers 79 = .ok (.ireturn, 1) := by decide +kernel
theorem dX5_covers_80 : decode cX5_covers 80 = .ok (.aload_n 0, 1) := by decide +kernel
theorem dX5_covers_81 : decode cX5_covers 81 = .ok (.getfield 19, 3) := by decide +kernel
theorem dX5_covers_84 : decode cX5_covers 84 = .ok (.getfield 120, 3) := by decide +kernel
theorem dX5_covers_87 : decode cX5_covers 87 = .ok (.ireturn, 1) := by decide +kernel
theorem dX5_covers_88 : decode cX5_covers 88 = .ok (.ldc 52, 2) := by decide +kernel
theorem dX5_covers_90 : decode cX5_covers 90 = .ok (.ireturn, 1) := by decide +kernel
theorem dX5_told_0 : decode cX5_told 0 = .ok (.aload_n 0, 1) := by decide +kernel
theorem dX5_told_1 : decode cX5_told 1 = .ok (.getfield 19, 3) := by decide +kernel
theorem dX5_told_4 : decode cX5_told 4 = .ok (.iload_n 1, 1) := by decide +kernel
theorem dX5_told_5 : decode cX5_told 5 = .ok (.invokevirtual 123, 3) := by decide +kernel
theorem dX5_told_8 : decode cX5_told 8 = .ok (.ifCond .ne 6, 3) := by decide +kernel
theorem dX5_told_11 : decode cX5_told 11 = .ok (.ldc 52, 2) := by decide +kernel
theorem dX5_told_13 : decode cX5_told 13 = .ok (.ireturn, 1) := by decide +kernel
theorem dX5_told_14 : decode cX5_told 14 = .ok (.iload_n 2, 1) := by decide +kernel
theorem dX5_told_15 : decode cX5_told 15 = .ok (.tableswitch 75 0 3 #[29, 39, 49, 58], 29) := by decide +kernel
theorem dX5_told_44 : decode cX5_told 44 = .ok (.aload_n 0, 1) := by decide +kernel
theorem dX5_told_45 : decode cX5_told 45 = .ok (.getfield 19, 3) := by decide +kernel
theorem dX5_told_48 : decode cX5_told 48 = .ok (.getfield 126, 3) := by decide +kernel
theorem dX5_told_51 : decode cX5_told 51 = .ok (.iload_n 1, 1) := by decide +kernel
theorem dX5_told_52 : decode cX5_told 52 = .ok (.iaload, 1) := by decide +kernel
theorem dX5_told_53 : decode cX5_told 53 = .ok (.ireturn, 1) := by decide +kernel
theorem dX5_told_54 : decode cX5_told 54 = .ok (.aload_n 0, 1) := by decide +kernel
theorem dX5_told_55 : decode cX5_told 55 = .ok (.getfield 19, 3) := by decide +kernel
theorem dX5_told_58 : decode cX5_told 58 = .ok (.getfield 130, 3) := by decide +kernel
theorem dX5_told_61 : decode cX5_told 61 = .ok (.iload_n 1, 1) := by decide +kernel
theorem dX5_told_62 : decode cX5_told 62 = .ok (.iaload, 1) := by decide +kernel
theorem dX5_told_63 : decode cX5_told 63 = .ok (.ireturn, 1) := by decide +kernel
theorem dX5_told_64 : decode cX5_told 64 = .ok (.aload_n 0, 1) := by decide +kernel
theorem dX5_told_65 : decode cX5_told 65 = .ok (.getfield 19, 3) := by decide +kernel
theorem dX5_told_68 : decode cX5_told 68 = .ok (.iload_n 1, 1) := by decide +kernel
theorem dX5_told_69 : decode cX5_told 69 = .ok (.invokevirtual 133, 3) := by decide +kernel
theorem dX5_told_72 : decode cX5_told 72 = .ok (.ireturn, 1) := by decide +kernel
theorem dX5_told_73 : decode cX5_told 73 = .ok (.aload_n 0, 1) := by decide +kernel
theorem dX5_told_74 : decode cX5_told 74 = .ok (.getfield 19, 3) := by decide +kernel
theorem dX5_told_77 : decode cX5_told 77 = .ok (.iload_n 1, 1) := by decide +kernel
theorem dX5_told_78 : decode cX5_told 78 = .ok (.invokevirtual 136, 3) := by decide +kernel
theorem dX5_told_81 : decode cX5_told 81 = .ok (.ifCond .eq 7, 3) := by decide +kernel
theorem dX5_told_84 : decode cX5_told 84 = .ok (.iconst 1, 1) := by decide +kernel
theorem dX5_told_85 : decode cX5_told 85 = .ok (.goto 4, 3) := by decide +kernel
theorem dX5_told_88 : decode cX5_told 88 = .ok (.iconst 0, 1) := by decide +kernel
theorem dX5_told_89 : decode cX5_told 89 = .ok (.ireturn, 1) := by decide +kernel
theorem dX5_told_90 : decode cX5_told 90 = .ok (.ldc 52, 2) := by decide +kernel
theorem dX5_told_92 : decode cX5_told 92 = .ok (.ireturn, 1) := by decide +kernel
theorem dX5_price_0 : decode cX5_price 0 = .ok (.iload_n 1, 1) := by decide +kernel
theorem dX5_price_1 : decode cX5_price 1 = .ok (.bipush 12, 2) := by decide +kernel
theorem dX5_price_3 : decode cX5_price 3 = .ok (.invokestatic 48, 3) := by decide +kernel
theorem dX5_price_6 : decode cX5_price 6 = .ok (.ifCond .eq 15, 3) := by decide +kernel
theorem dX5_price_9 : decode cX5_price 9 = .ok (.aload_n 0, 1) := by decide +kernel
theorem dX5_price_10 : decode cX5_price 10 = .ok (.getfield 19, 3) := by decide +kernel
theorem dX5_price_13 : decode cX5_price 13 = .ok (.getfield 139, 3) := by decide +kernel
theorem dX5_price_16 : decode cX5_price 16 = .ok (.iload_n 1, 1) := by decide +kernel
theorem dX5_price_17 : decode cX5_price 17 = .ok (.iaload, 1) := by decide +kernel
theorem dX5_price_18 : decode cX5_price 18 = .ok (.goto 5, 3) := by decide +kernel
theorem dX5_price_21 : decode cX5_price 21 = .ok (.ldc 52, 2) := by decide +kernel
theorem dX5_price_23 : decode cX5_price 23 = .ok (.ireturn, 1) := by decide +kernel
theorem dX5_kind_0 : decode cX5_kind 0 = .ok (.aload_n 0, 1) := by decide +kernel
theorem dX5_kind_1 : decode cX5_kind 1 = .ok (.getfield 19, 3) := by decide +kernel
theorem dX5_kind_4 : decode cX5_kind 4 = .ok (.iload_n 1, 1) := by decide +kernel
theorem dX5_kind_5 : decode cX5_kind 5 = .ok (.invokevirtual 123, 3) := by decide +kernel
theorem dX5_kind_8 : decode cX5_kind 8 = .ok (.ifCond .eq 14, 3) := by decide +kernel
theorem dX5_kind_11 : decode cX5_kind 11 = .ok (.aload_n 0, 1) := by decide +kernel
theorem dX5_kind_12 : decode cX5_kind 12 = .ok (.getfield 19, 3) := by decide +kernel
theorem dX5_kind_15 : decode cX5_kind 15 = .ok (.iload_n 1, 1) := by decide +kernel
theorem dX5_kind_16 : decode cX5_kind 16 = .ok (.invokevirtual 192, 3) := by decide +kernel
theorem dX5_kind_19 : decode cX5_kind 19 = .ok (.goto 5, 3) := by decide +kernel
theorem dX5_kind_22 : decode cX5_kind 22 = .ok (.ldc 52, 2) := by decide +kernel
theorem dX5_kind_24 : decode cX5_kind 24 = .ok (.ireturn, 1) := by decide +kernel
theorem dX5_as_0 : decode cX5_as 0 = .ok (.aload_n 0, 1) := by decide +kernel
theorem dX5_as_1 : decode cX5_as 1 = .ok (.getfield 19, 3) := by decide +kernel
theorem dX5_as_4 : decode cX5_as 4 = .ok (.iload_n 1, 1) := by decide +kernel
theorem dX5_as_5 : decode cX5_as 5 = .ok (.invokevirtual 123, 3) := by decide +kernel
theorem dX5_as_8 : decode cX5_as 8 = .ok (.ifCond .eq 11, 3) := by decide +kernel
theorem dX5_as_11 : decode cX5_as 11 = .ok (.iload_n 2, 1) := by decide +kernel
theorem dX5_as_12 : decode cX5_as 12 = .ok (.iconst 4, 1) := by decide +kernel
theorem dX5_as_13 : decode cX5_as 13 = .ok (.invokestatic 48, 3) := by decide +kernel
theorem dX5_as_16 : decode cX5_as 16 = .ok (.ifCond .ne 6, 3) := by decide +kernel
theorem dX5_as_19 : decode cX5_as 19 = .ok (.ldc 52, 2) := by decide +kernel
theorem dX5_as_21 : decode cX5_as 21 = .ok (.ireturn, 1) := by decide +kernel
theorem dX5_as_22 : decode cX5_as 22 = .ok (.aload_n 0, 1) := by decide +kernel
theorem dX5_as_23 : decode cX5_as 23 = .ok (.aload_n 0, 1) := by decide +kernel
theorem dX5_as_24 : decode cX5_as 24 = .ok (.getfield 19, 3) := by decide +kernel
theorem dX5_as_27 : decode cX5_as 27 = .ok (.iload_n 1, 1) := by decide +kernel
theorem dX5_as_28 : decode cX5_as 28 = .ok (.iload_n 2, 1) := by decide +kernel
theorem dX5_as_29 : decode cX5_as 29 = .ok (.invokevirtual 195, 3) := by decide +kernel
theorem dX5_as_32 : decode cX5_as 32 = .ok (.ifCond .eq 7, 3) := by decide +kernel
theorem dX5_as_35 : decode cX5_as 35 = .ok (.iconst 0, 1) := by decide +kernel
theorem dX5_as_36 : decode cX5_as 36 = .ok (.goto 4, 3) := by decide +kernel
theorem dX5_as_39 : decode cX5_as 39 = .ok (.iconst 3, 1) := by decide +kernel
theorem dX5_as_40 : decode cX5_as 40 = .ok (.putfield 44, 3) := by decide +kernel
theorem dX5_as_43 : decode cX5_as 43 = .ok (.aload_n 0, 1) := by decide +kernel
theorem dX5_as_44 : decode cX5_as 44 = .ok (.getfield 44, 3) := by decide +kernel
theorem dX5_as_47 : decode cX5_as 47 = .ok (.ifCond .ne 15, 3) := by decide +kernel
theorem dX5_as_50 : decode cX5_as 50 = .ok (.aload_n 0, 1) := by decide +kernel
theorem dX5_as_51 : decode cX5_as 51 = .ok (.getfield 19, 3) := by decide +kernel
theorem dX5_as_54 : decode cX5_as 54 = .ok (.getfield 126, 3) := by decide +kernel
theorem dX5_as_57 : decode cX5_as 57 = .ok (.iload_n 1, 1) := by decide +kernel
theorem dX5_as_58 : decode cX5_as 58 = .ok (.iaload, 1) := by decide +kernel
theorem dX5_as_59 : decode cX5_as 59 = .ok (.goto 10, 3) := by decide +kernel
theorem dX5_as_62 : decode cX5_as 62 = .ok (.ldc 57, 2) := by decide +kernel
theorem dX5_as_64 : decode cX5_as 64 = .ok (.aload_n 0, 1) := by decide +kernel
theorem dX5_as_65 : decode cX5_as 65 = .ok (.getfield 44, 3) := by decide +kernel
theorem dX5_as_68 : decode cX5_as 68 = .ok (.isub, 1) := by decide +kernel
theorem dX5_as_69 : decode cX5_as 69 = .ok (.ireturn, 1) := by decide +kernel
theorem dX5_ask_0 : decode cX5_ask 0 = .ok (.aload_n 0, 1) := by decide +kernel
theorem dX5_ask_1 : decode cX5_ask 1 = .ok (.getfield 19, 3) := by decide +kernel
theorem dX5_ask_4 : decode cX5_ask 4 = .ok (.iload_n 1, 1) := by decide +kernel
theorem dX5_ask_5 : decode cX5_ask 5 = .ok (.invokevirtual 123, 3) := by decide +kernel
theorem dX5_ask_8 : decode cX5_ask 8 = .ok (.ifCond .ne 6, 3) := by decide +kernel
theorem dX5_ask_11 : decode cX5_ask 11 = .ok (.ldc 52, 2) := by decide +kernel
theorem dX5_ask_13 : decode cX5_ask 13 = .ok (.ireturn, 1) := by decide +kernel
theorem dX5_ask_14 : decode cX5_ask 14 = .ok (.iload_n 2, 1) := by decide +kernel
theorem dX5_ask_15 : decode cX5_ask 15 = .ok (.lookupswitch 51 #[(0, 25), (1, 38)], 25) := by decide +kernel
theorem dX5_ask_40 : decode cX5_ask 40 = .ok (.aload_n 0, 1) := by decide +kernel
theorem dX5_ask_41 : decode cX5_ask 41 = .ok (.getfield 40, 3) := by decide +kernel
theorem dX5_ask_44 : decode cX5_ask 44 = .ok (.aload_n 0, 1) := by decide +kernel
theorem dX5_ask_45 : decode cX5_ask 45 = .ok (.getfield 19, 3) := by decide +kernel
theorem dX5_ask_48 : decode cX5_ask 48 = .ok (.iload_n 1, 1) := by decide +kernel
theorem dX5_ask_49 : decode cX5_ask 49 = .ok (.invokevirtual 198, 3) := by decide +kernel
theorem dX5_ask_52 : decode cX5_ask 52 = .ok (.ireturn, 1) := by decide +kernel
theorem dX5_ask_53 : decode cX5_ask 53 = .ok (.aload_n 0, 1) := by decide +kernel
theorem dX5_ask_54 : decode cX5_ask 54 = .ok (.getfield 40, 3) := by decide +kernel
theorem dX5_ask_57 : decode cX5_ask 57 = .ok (.aload_n 0, 1) := by decide +kernel
theorem dX5_ask_58 : decode cX5_ask 58 = .ok (.getfield 19, 3) := by decide +kernel
theorem dX5_ask_61 : decode cX5_ask 61 = .ok (.iload_n 1, 1) := by decide +kernel
theorem dX5_ask_62 : decode cX5_ask 62 = .ok (.invokevirtual 202, 3) := by decide +kernel
theorem dX5_ask_65 : decode cX5_ask 65 = .ok (.ireturn, 1) := by decide +kernel
theorem dX5_ask_66 : decode cX5_ask 66 = .ok (.ldc 52, 2) := by decide +kernel
theorem dX5_ask_68 : decode cX5_ask 68 = .ok (.ireturn, 1) := by decide +kernel
theorem dX5_trace_0 : decode cX5_trace 0 = .ok (.iload_n 1, 1) := by decide +kernel
theorem dX5_trace_1 : decode cX5_trace 1 = .ok (.aload_n 0, 1) := by decide +kernel
theorem dX5_trace_2 : decode cX5_trace 2 = .ok (.getfield 40, 3) := by decide +kernel
theorem dX5_trace_5 : decode cX5_trace 5 = .ok (.getfield 205, 3) := by decide +kernel
theorem dX5_trace_8 : decode cX5_trace 8 = .ok (.invokestatic 48, 3) := by decide +kernel
theorem dX5_trace_11 : decode cX5_trace 11 = .ok (.ifCond .eq 15, 3) := by decide +kernel
theorem dX5_trace_14 : decode cX5_trace 14 = .ok (.aload_n 0, 1) := by decide +kernel
theorem dX5_trace_15 : decode cX5_trace 15 = .ok (.getfield 40, 3) := by decide +kernel
theorem dX5_trace_18 : decode cX5_trace 18 = .ok (.getfield 208, 3) := by decide +kernel
theorem dX5_trace_21 : decode cX5_trace 21 = .ok (.iload_n 1, 1) := by decide +kernel
theorem dX5_trace_22 : decode cX5_trace 22 = .ok (.iaload, 1) := by decide +kernel
theorem dX5_trace_23 : decode cX5_trace 23 = .ok (.goto 5, 3) := by decide +kernel
theorem dX5_trace_26 : decode cX5_trace 26 = .ok (.ldc 211, 2) := by decide +kernel
theorem dX5_trace_28 : decode cX5_trace 28 = .ok (.ireturn, 1) := by decide +kernel
theorem dX5_count_0 : decode cX5_count 0 = .ok (.iload_n 1, 1) := by decide +kernel
theorem dX5_count_1 : decode cX5_count 1 = .ok (.tableswitch 102 0 6 #[43, 51, 59, 70, 78, 86, 94], 43) := by decide +kernel
theorem dX5_count_44 : decode cX5_count 44 = .ok (.aload_n 0, 1) := by decide +kernel
theorem dX5_count_45 : decode cX5_count 45 = .ok (.getfield 10, 3) := by decide +kernel
theorem dX5_count_48 : decode cX5_count 48 = .ok (.invokevirtual 212, 3) := by decide +kernel
theorem dX5_count_51 : decode cX5_count 51 = .ok (.ireturn, 1) := by decide +kernel
theorem dX5_count_52 : decode cX5_count 52 = .ok (.aload_n 0, 1) := by decide +kernel
theorem dX5_count_53 : decode cX5_count 53 = .ok (.getfield 19, 3) := by decide +kernel
theorem dX5_count_56 : decode cX5_count 56 = .ok (.getfield 87, 3) := by decide +kernel
theorem dX5_count_59 : decode cX5_count 59 = .ok (.ireturn, 1) := by decide +kernel
theorem dX5_count_60 : decode cX5_count 60 = .ok (.aload_n 0, 1) := by decide +kernel
theorem dX5_count_61 : decode cX5_count 61 = .ok (.getfield 19, 3) := by decide +kernel
theorem dX5_count_64 : decode cX5_count 64 = .ok (.getfield 120, 3) := by decide +kernel
theorem dX5_count_67 : decode cX5_count 67 = .ok (.invokestatic 215, 3) := by decide +kernel
theorem dX5_count_70 : decode cX5_count 70 = .ok (.ireturn, 1) := by decide +kernel
theorem dX5_count_71 : decode cX5_count 71 = .ok (.aload_n 0, 1) := by decide +kernel
theorem dX5_count_72 : decode cX5_count 72 = .ok (.getfield 19, 3) := by decide +kernel
theorem dX5_count_75 : decode cX5_count 75 = .ok (.invokevirtual 220, 3) := by decide +kernel
theorem dX5_count_78 : decode cX5_count 78 = .ok (.ireturn, 1) := by decide +kernel
theorem dX5_count_79 : decode cX5_count 79 = .ok (.aload_n 0, 1) := by decide +kernel
theorem dX5_count_80 : decode cX5_count 80 = .ok (.getfield 26, 3) := by decide +kernel
theorem dX5_count_83 : decode cX5_count 83 = .ok (.getfield 148, 3) := by decide +kernel
theorem dX5_count_86 : decode cX5_count 86 = .ok (.ireturn, 1) := by decide +kernel
theorem dX5_count_87 : decode cX5_count 87 = .ok (.aload_n 0, 1) := by decide +kernel
theorem dX5_count_88 : decode cX5_count 88 = .ok (.getfield 33, 3) := by decide +kernel
theorem dX5_count_91 : decode cX5_count 91 = .ok (.getfield 165, 3) := by decide +kernel
theorem dX5_count_94 : decode cX5_count 94 = .ok (.ireturn, 1) := by decide +kernel
theorem dX5_count_95 : decode cX5_count 95 = .ok (.aload_n 0, 1) := by decide +kernel
theorem dX5_count_96 : decode cX5_count 96 = .ok (.getfield 33, 3) := by decide +kernel
theorem dX5_count_99 : decode cX5_count 99 = .ok (.getfield 223, 3) := by decide +kernel
theorem dX5_count_102 : decode cX5_count 102 = .ok (.ireturn, 1) := by decide +kernel
theorem dX5_count_103 : decode cX5_count 103 = .ok (.ldc 52, 2) := by decide +kernel
theorem dX5_count_105 : decode cX5_count 105 = .ok (.ireturn, 1) := by decide +kernel
theorem dX5_isUnder_0 : decode cX5_isUnder 0 = .ok (.iload_n 0, 1) := by decide +kernel
theorem dX5_isUnder_1 : decode cX5_isUnder 1 = .ok (.ifCond .lt 12, 3) := by decide +kernel
theorem dX5_isUnder_4 : decode cX5_isUnder 4 = .ok (.iload_n 0, 1) := by decide +kernel
theorem dX5_isUnder_5 : decode cX5_isUnder 5 = .ok (.iload_n 1, 1) := by decide +kernel
theorem dX5_isUnder_6 : decode cX5_isUnder 6 = .ok (.if_icmp .ge 7, 3) := by decide +kernel
theorem dX5_isUnder_9 : decode cX5_isUnder 9 = .ok (.iconst 1, 1) := by decide +kernel
theorem dX5_isUnder_10 : decode cX5_isUnder 10 = .ok (.goto 4, 3) := by decide +kernel
theorem dX5_isUnder_13 : decode cX5_isUnder 13 = .ok (.iconst 0, 1) := by decide +kernel
theorem dX5_isUnder_14 : decode cX5_isUnder 14 = .ok (.ireturn, 1) := by decide +kernel
theorem dX5_isWithin_0 : decode cX5_isWithin 0 = .ok (.iload_n 0, 1) := by decide +kernel
theorem dX5_isWithin_1 : decode cX5_isWithin 1 = .ok (.iload_n 1, 1) := by decide +kernel
theorem dX5_isWithin_2 : decode cX5_isWithin 2 = .ok (.if_icmp .lt 12, 3) := by decide +kernel
theorem dX5_isWithin_5 : decode cX5_isWithin 5 = .ok (.iload_n 0, 1) := by decide +kernel
theorem dX5_isWithin_6 : decode cX5_isWithin 6 = .ok (.iload_n 2, 1) := by decide +kernel
theorem dX5_isWithin_7 : decode cX5_isWithin 7 = .ok (.if_icmp .gt 7, 3) := by decide +kernel
theorem dX5_isWithin_10 : decode cX5_isWithin 10 = .ok (.iconst 1, 1) := by decide +kernel
theorem dX5_isWithin_11 : decode cX5_isWithin 11 = .ok (.goto 4, 3) := by decide +kernel
theorem dX5_isWithin_14 : decode cX5_isWithin 14 = .ok (.iconst 0, 1) := by decide +kernel
theorem dX5_isWithin_15 : decode cX5_isWithin 15 = .ok (.ireturn, 1) := by decide +kernel
theorem dX5_holds_0 : decode cX5_holds 0 = .ok (.iload_n 0, 1) := by decide +kernel
theorem dX5_holds_1 : decode cX5_holds 1 = .ok (.iload_n 1, 1) := by decide +kernel
theorem dX5_holds_2 : decode cX5_holds 2 = .ok (.iushr, 1) := by decide +kernel
theorem dX5_holds_3 : decode cX5_holds 3 = .ok (.iconst 1, 1) := by decide +kernel
theorem dX5_holds_4 : decode cX5_holds 4 = .ok (.iand, 1) := by decide +kernel
theorem dX5_holds_5 : decode cX5_holds 5 = .ok (.ifCond .eq 7, 3) := by decide +kernel
theorem dX5_holds_8 : decode cX5_holds 8 = .ok (.iconst 1, 1) := by decide +kernel
theorem dX5_holds_9 : decode cX5_holds 9 = .ok (.goto 4, 3) := by decide +kernel
theorem dX5_holds_12 : decode cX5_holds 12 = .ok (.iconst 0, 1) := by decide +kernel
theorem dX5_holds_13 : decode cX5_holds 13 = .ok (.ireturn, 1) := by decide +kernel
end
section
theorem dL_cell_0 : decode cL_cell 0 = .ok (.iload_n 1, 1) := by decide +kernel
theorem dL_cell_1 : decode cL_cell 1 = .ok (.aload_n 0, 1) := by decide +kernel
theorem dL_cell_2 : decode cL_cell 2 = .ok (.arraylength, 1) := by decide +kernel
theorem dL_cell_3 : decode cL_cell 3 = .ok (.if_icmp .ge 9, 3) := by decide +kernel
theorem dL_cell_6 : decode cL_cell 6 = .ok (.aload_n 0, 1) := by decide +kernel
theorem dL_cell_7 : decode cL_cell 7 = .ok (.iload_n 1, 1) := by decide +kernel
theorem dL_cell_8 : decode cL_cell 8 = .ok (.iaload, 1) := by decide +kernel
theorem dL_cell_9 : decode cL_cell 9 = .ok (.goto 9, 3) := by decide +kernel
theorem dL_cell_12 : decode cL_cell 12 = .ok (.ldc 7, 2) := by decide +kernel
theorem dL_cell_14 : decode cL_cell 14 = .ok (.iload_n 1, 1) := by decide +kernel
theorem dL_cell_15 : decode cL_cell 15 = .ok (.iconst 1, 1) := by decide +kernel
theorem dL_cell_16 : decode cL_cell 16 = .ok (.iadd, 1) := by decide +kernel
theorem dL_cell_17 : decode cL_cell 17 = .ok (.imul, 1) := by decide +kernel
theorem dL_cell_18 : decode cL_cell 18 = .ok (.ireturn, 1) := by decide +kernel
theorem dL_low_0 : decode cL_low 0 = .ok (.iload_n 0, 1) := by decide +kernel
theorem dL_low_1 : decode cL_low 1 = .ok (.ldc 8, 2) := by decide +kernel
theorem dL_low_3 : decode cL_low 3 = .ok (.iand, 1) := by decide +kernel
theorem dL_low_4 : decode cL_low 4 = .ok (.iload_n 1, 1) := by decide +kernel
theorem dL_low_5 : decode cL_low 5 = .ok (.irem, 1) := by decide +kernel
theorem dL_low_6 : decode cL_low 6 = .ok (.ireturn, 1) := by decide +kernel
theorem dL_shop_0 : decode cL_shop 0 = .ok (.iconst 1, 1) := by decide +kernel
theorem dL_shop_1 : decode cL_shop 1 = .ok (.aload_n 1, 1) := by decide +kernel
theorem dL_shop_2 : decode cL_shop 2 = .ok (.iconst 0, 1) := by decide +kernel
theorem dL_shop_3 : decode cL_shop 3 = .ok (.invokestatic 9, 3) := by decide +kernel
theorem dL_shop_6 : decode cL_shop 6 = .ok (.bipush 9, 2) := by decide +kernel
theorem dL_shop_8 : decode cL_shop 8 = .ok (.invokestatic 15, 3) := by decide +kernel
theorem dL_shop_11 : decode cL_shop 11 = .ok (.iadd, 1) := by decide +kernel
theorem dL_shop_12 : decode cL_shop 12 = .ok (.istore_n 2, 1) := by decide +kernel
theorem dL_shop_13 : decode cL_shop 13 = .ok (.iconst 0, 1) := by decide +kernel
theorem dL_shop_14 : decode cL_shop 14 = .ok (.istore_n 3, 1) := by decide +kernel
theorem dL_shop_15 : decode cL_shop 15 = .ok (.iload_n 3, 1) := by decide +kernel
theorem dL_shop_16 : decode cL_shop 16 = .ok (.iload_n 2, 1) := by decide +kernel
theorem dL_shop_17 : decode cL_shop 17 = .ok (.if_icmp .ge 42, 3) := by decide +kernel
theorem dL_shop_20 : decode cL_shop 20 = .ok (.aload_n 1, 1) := by decide +kernel
theorem dL_shop_21 : decode cL_shop 21 = .ok (.iconst 1, 1) := by decide +kernel
theorem dL_shop_22 : decode cL_shop 22 = .ok (.iload_n 3, 1) := by decide +kernel
theorem dL_shop_23 : decode cL_shop 23 = .ok (.iadd, 1) := by decide +kernel
theorem dL_shop_24 : decode cL_shop 24 = .ok (.invokestatic 9, 3) := by decide +kernel
theorem dL_shop_27 : decode cL_shop 27 = .ok (.istore 4, 2) := by decide +kernel
theorem dL_shop_29 : decode cL_shop 29 = .ok (.aload_n 0, 1) := by decide +kernel
theorem dL_shop_30 : decode cL_shop 30 = .ok (.iconst 1, 1) := by decide +kernel
theorem dL_shop_31 : decode cL_shop 31 = .ok (.iload 4, 2) := by decide +kernel
theorem dL_shop_33 : decode cL_shop 33 = .ok (.bipush 40, 2) := by decide +kernel
theorem dL_shop_35 : decode cL_shop 35 = .ok (.invokestatic 15, 3) := by decide +kernel
theorem dL_shop_38 : decode cL_shop 38 = .ok (.iadd, 1) := by decide +kernel
theorem dL_shop_39 : decode cL_shop 39 = .ok (.aload_n 1, 1) := by decide +kernel
theorem dL_shop_40 : decode cL_shop 40 = .ok (.iload_n 3, 1) := by decide +kernel
theorem dL_shop_41 : decode cL_shop 41 = .ok (.invokestatic 19, 3) := by decide +kernel
theorem dL_shop_44 : decode cL_shop 44 = .ok (.invokevirtual 22, 3) := by decide +kernel
theorem dL_shop_47 : decode cL_shop 47 = .ok (.iload_n 3, 1) := by decide +kernel
theorem dL_shop_48 : decode cL_shop 48 = .ok (.if_icmp .eq 5, 3) := by decide +kernel
theorem dL_shop_51 : decode cL_shop 51 = .ok (.iconst (-1), 1) := by decide +kernel
theorem dL_shop_52 : decode cL_shop 52 = .ok (.ireturn, 1) := by decide +kernel
theorem dL_shop_53 : decode cL_shop 53 = .ok (.iinc 3 1, 3) := by decide +kernel
theorem dL_shop_56 : decode cL_shop 56 = .ok (.goto (-41), 3) := by decide +kernel
theorem dL_shop_59 : decode cL_shop 59 = .ok (.iload_n 2, 1) := by decide +kernel
theorem dL_shop_60 : decode cL_shop 60 = .ok (.ireturn, 1) := by decide +kernel
theorem dL_things_0 : decode cL_things 0 = .ok (.aload_n 0, 1) := by decide +kernel
theorem dL_things_1 : decode cL_things 1 = .ok (.iconst 1, 1) := by decide +kernel
theorem dL_things_2 : decode cL_things 2 = .ok (.iload_n 1, 1) := by decide +kernel
theorem dL_things_3 : decode cL_things 3 = .ok (.iadd, 1) := by decide +kernel
theorem dL_things_4 : decode cL_things 4 = .ok (.invokestatic 9, 3) := by decide +kernel
theorem dL_things_7 : decode cL_things 7 = .ok (.istore_n 2, 1) := by decide +kernel
theorem dL_things_8 : decode cL_things 8 = .ok (.iload_n 2, 1) := by decide +kernel
theorem dL_things_9 : decode cL_things 9 = .ok (.bipush 8, 2) := by decide +kernel
theorem dL_things_11 : decode cL_things 11 = .ok (.ishr, 1) := by decide +kernel
theorem dL_things_12 : decode cL_things 12 = .ok (.iload_n 2, 1) := by decide +kernel
theorem dL_things_13 : decode cL_things 13 = .ok (.bipush 16, 2) := by decide +kernel
theorem dL_things_15 : decode cL_things 15 = .ok (.ishr, 1) := by decide +kernel
theorem dL_things_16 : decode cL_things 16 = .ok (.iand, 1) := by decide +kernel
theorem dL_things_17 : decode cL_things 17 = .ok (.sipush 4095, 3) := by decide +kernel
theorem dL_things_20 : decode cL_things 20 = .ok (.iand, 1) := by decide +kernel
theorem dL_things_21 : decode cL_things 21 = .ok (.iconst 1, 1) := by decide +kernel
theorem dL_things_22 : decode cL_things 22 = .ok (.iload_n 2, 1) := by decide +kernel
theorem dL_things_23 : decode cL_things 23 = .ok (.iconst 4, 1) := by decide +kernel
theorem dL_things_24 : decode cL_things 24 = .ok (.ishr, 1) := by decide +kernel
theorem dL_things_25 : decode cL_things 25 = .ok (.bipush 12, 2) := by decide +kernel
theorem dL_things_27 : decode cL_things 27 = .ok (.invokestatic 15, 3) := by decide +kernel
theorem dL_things_30 : decode cL_things 30 = .ok (.ishl, 1) := by decide +kernel
theorem dL_things_31 : decode cL_things 31 = .ok (.ior, 1) := by decide +kernel
theorem dL_things_32 : decode cL_things 32 = .ok (.ireturn, 1) := by decide +kernel
theorem dL_cost_0 : decode cL_cost 0 = .ok (.iconst 1, 1) := by decide +kernel
theorem dL_cost_1 : decode cL_cost 1 = .ok (.aload_n 0, 1) := by decide +kernel
theorem dL_cost_2 : decode cL_cost 2 = .ok (.iconst 1, 1) := by decide +kernel
theorem dL_cost_3 : decode cL_cost 3 = .ok (.iload_n 1, 1) := by decide +kernel
theorem dL_cost_4 : decode cL_cost 4 = .ok (.iadd, 1) := by decide +kernel
theorem dL_cost_5 : decode cL_cost 5 = .ok (.invokestatic 9, 3) := by decide +kernel
theorem dL_cost_8 : decode cL_cost 8 = .ok (.bipush 40, 2) := by decide +kernel
theorem dL_cost_10 : decode cL_cost 10 = .ok (.invokestatic 15, 3) := by decide +kernel
theorem dL_cost_13 : decode cL_cost 13 = .ok (.iadd, 1) := by decide +kernel
theorem dL_cost_14 : decode cL_cost 14 = .ok (.ireturn, 1) := by decide +kernel
theorem dL_law_0 : decode cL_law 0 = .ok (.new 23, 3) := by decide +kernel
theorem dL_law_3 : decode cL_law 3 = .ok (.dup, 1) := by decide +kernel
theorem dL_law_4 : decode cL_law 4 = .ok (.invokespecial 27, 3) := by decide +kernel
theorem dL_law_7 : decode cL_law 7 = .ok (.astore_n 1, 1) := by decide +kernel
theorem dL_law_8 : decode cL_law 8 = .ok (.aload_n 1, 1) := by decide +kernel
theorem dL_law_9 : decode cL_law 9 = .ok (.aload_n 0, 1) := by decide +kernel
theorem dL_law_10 : decode cL_law 10 = .ok (.invokestatic 28, 3) := by decide +kernel
theorem dL_law_13 : decode cL_law 13 = .ok (.istore_n 2, 1) := by decide +kernel
theorem dL_law_14 : decode cL_law 14 = .ok (.iload_n 2, 1) := by decide +kernel
theorem dL_law_15 : decode cL_law 15 = .ok (.iconst 1, 1) := by decide +kernel
theorem dL_law_16 : decode cL_law 16 = .ok (.if_icmp .ge 5, 3) := by decide +kernel
theorem dL_law_19 : decode cL_law 19 = .ok (.iconst 0, 1) := by decide +kernel
theorem dL_law_20 : decode cL_law 20 = .ok (.ireturn, 1) := by decide +kernel
theorem dL_law_21 : decode cL_law 21 = .ok (.iconst 0, 1) := by decide +kernel
theorem dL_law_22 : decode cL_law 22 = .ok (.istore_n 3, 1) := by decide +kernel
theorem dL_law_23 : decode cL_law 23 = .ok (.iconst 0, 1) := by decide +kernel
theorem dL_law_24 : decode cL_law 24 = .ok (.istore 4, 2) := by decide +kernel
theorem dL_law_26 : decode cL_law 26 = .ok (.iconst 0, 1) := by decide +kernel
theorem dL_law_27 : decode cL_law 27 = .ok (.istore 5, 2) := by decide +kernel
theorem dL_law_29 : decode cL_law 29 = .ok (.bipush 12, 2) := by decide +kernel
theorem dL_law_31 : decode cL_law 31 = .ok (.newarray .int, 2) := by decide +kernel
theorem dL_law_33 : decode cL_law 33 = .ok (.astore 6, 2) := by decide +kernel
theorem dL_law_35 : decode cL_law 35 = .ok (.iconst 0, 1) := by decide +kernel
theorem dL_law_36 : decode cL_law 36 = .ok (.istore 7, 2) := by decide +kernel
theorem dL_law_38 : decode cL_law 38 = .ok (.iload 7, 2) := by decide +kernel
theorem dL_law_40 : decode cL_law 40 = .ok (.bipush 20, 2) := by decide +kernel
theorem dL_law_42 : decode cL_law 42 = .ok (.if_icmp .ge 382, 3) := by decide +kernel
theorem dL_law_45 : decode cL_law 45 = .ok (.aload_n 0, 1) := by decide +kernel
theorem dL_law_46 : decode cL_law 46 = .ok (.bipush 11, 2) := by decide +kernel
theorem dL_law_48 : decode cL_law 48 = .ok (.iload 7, 2) := by decide +kernel
theorem dL_law_50 : decode cL_law 50 = .ok (.iadd, 1) := by decide +kernel
theorem dL_law_51 : decode cL_law 51 = .ok (.invokestatic 9, 3) := by decide +kernel
theorem dL_law_54 : decode cL_law 54 = .ok (.bipush 13, 2) := by decide +kernel
theorem dL_law_56 : decode cL_law 56 = .ok (.invokestatic 15, 3) := by decide +kernel
theorem dL_law_59 : decode cL_law 59 = .ok (.istore 8, 2) := by decide +kernel
theorem dL_law_61 : decode cL_law 61 = .ok (.iconst 0, 1) := by decide +kernel
theorem dL_law_62 : decode cL_law 62 = .ok (.istore 9, 2) := by decide +kernel
theorem dL_law_64 : decode cL_law 64 = .ok (.ldc 32, 2) := by decide +kernel
theorem dL_law_66 : decode cL_law 66 = .ok (.istore 10, 2) := by decide +kernel
theorem dL_law_68 : decode cL_law 68 = .ok (.iconst 0, 1) := by decide +kernel
theorem dL_law_69 : decode cL_law 69 = .ok (.istore 11, 2) := by decide +kernel
theorem dL_law_71 : decode cL_law 71 = .ok (.iload 11, 2) := by decide +kernel
theorem dL_law_73 : decode cL_law 73 = .ok (.iload_n 2, 1) := by decide +kernel
theorem dL_law_74 : decode cL_law 74 = .ok (.if_icmp .ge 102, 3) := by decide +kernel
theorem dL_law_77 : decode cL_law 77 = .ok (.iload 8, 2) := by decide +kernel
theorem dL_law_79 : decode cL_law 79 = .ok (.bipush 12, 2) := by decide +kernel
theorem dL_law_81 : decode cL_law 81 = .ok (.if_icmp .ge 89, 3) := by decide +kernel
theorem dL_law_84 : decode cL_law 84 = .ok (.aload_n 0, 1) := by decide +kernel
theorem dL_law_85 : decode cL_law 85 = .ok (.iload 11, 2) := by decide +kernel
theorem dL_law_87 : decode cL_law 87 = .ok (.invokestatic 19, 3) := by decide +kernel
theorem dL_law_90 : decode cL_law 90 = .ok (.iload 8, 2) := by decide +kernel
theorem dL_law_92 : decode cL_law 92 = .ok (.ishr, 1) := by decide +kernel
theorem dL_law_93 : decode cL_law 93 = .ok (.iconst 1, 1) := by decide +kernel
theorem dL_law_94 : decode cL_law 94 = .ok (.iand, 1) := by decide +kernel
theorem dL_law_95 : decode cL_law 95 = .ok (.iconst 1, 1) := by decide +kernel
theorem dL_law_96 : decode cL_law 96 = .ok (.if_icmp .ne 74, 3) := by decide +kernel
theorem dL_law_99 : decode cL_law 99 = .ok (.iload 9, 2) := by decide +kernel
theorem dL_law_101 : decode cL_law 101 = .ok (.iconst 1, 1) := by decide +kernel
theorem dL_law_102 : decode cL_law 102 = .ok (.iload 11, 2) := by decide +kernel
theorem dL_law_104 : decode cL_law 104 = .ok (.ishl, 1) := by decide +kernel
theorem dL_law_105 : decode cL_law 105 = .ok (.ior, 1) := by decide +kernel
theorem dL_law_106 : decode cL_law 106 = .ok (.istore 9, 2) := by decide +kernel
theorem dL_law_108 : decode cL_law 108 = .ok (.aload_n 0, 1) := by decide +kernel
theorem dL_law_109 : decode cL_law 109 = .ok (.iload 11, 2) := by decide +kernel
theorem dL_law_111 : decode cL_law 111 = .ok (.invokestatic 33, 3) := by decide +kernel
theorem dL_law_114 : decode cL_law 114 = .ok (.istore 12, 2) := by decide +kernel
theorem dL_law_116 : decode cL_law 116 = .ok (.iconst 0, 1) := by decide +kernel
theorem dL_law_117 : decode cL_law 117 = .ok (.istore 13, 2) := by decide +kernel
theorem dL_law_119 : decode cL_law 119 = .ok (.iload 13, 2) := by decide +kernel
theorem dL_law_121 : decode cL_law 121 = .ok (.bipush 12, 2) := by decide +kernel
theorem dL_law_123 : decode cL_law 123 = .ok (.if_icmp .ge 31, 3) := by decide +kernel
theorem dL_law_126 : decode cL_law 126 = .ok (.iload 12, 2) := by decide +kernel
theorem dL_law_128 : decode cL_law 128 = .ok (.aload_n 0, 1) := by decide +kernel
theorem dL_law_129 : decode cL_law 129 = .ok (.iload 11, 2) := by decide +kernel
theorem dL_law_131 : decode cL_law 131 = .ok (.invokestatic 19, 3) := by decide +kernel
theorem dL_law_134 : decode cL_law 134 = .ok (.iload 13, 2) := by decide +kernel
theorem dL_law_136 : decode cL_law 136 = .ok (.ishr, 1) := by decide +kernel
theorem dL_law_137 : decode cL_law 137 = .ok (.iconst 1, 1) := by decide +kernel
theorem dL_law_138 : decode cL_law 138 = .ok (.iand, 1) := by decide +kernel
theorem dL_law_139 : decode cL_law 139 = .ok (.aload 6, 2) := by decide +kernel
theorem dL_law_141 : decode cL_law 141 = .ok (.iload 13, 2) := by decide +kernel
theorem dL_law_143 : decode cL_law 143 = .ok (.iaload, 1) := by decide +kernel
theorem dL_law_144 : decode cL_law 144 = .ok (.imul, 1) := by decide +kernel
theorem dL_law_145 : decode cL_law 145 = .ok (.isub, 1) := by decide +kernel
theorem dL_law_146 : decode cL_law 146 = .ok (.istore 12, 2) := by decide +kernel
theorem dL_law_148 : decode cL_law 148 = .ok (.iinc 13 1, 3) := by decide +kernel
theorem dL_law_151 : decode cL_law 151 = .ok (.goto (-32), 3) := by decide +kernel
theorem dL_law_154 : decode cL_law 154 = .ok (.iload 12, 2) := by decide +kernel
theorem dL_law_156 : decode cL_law 156 = .ok (.iload 10, 2) := by decide +kernel
theorem dL_law_158 : decode cL_law 158 = .ok (.if_icmp .ge 8, 3) := by decide +kernel
theorem dL_law_161 : decode cL_law 161 = .ok (.iload 12, 2) := by decide +kernel
theorem dL_law_163 : decode cL_law 163 = .ok (.goto 5, 3) := by decide +kernel
theorem dL_law_166 : decode cL_law 166 = .ok (.iload 10, 2) := by decide +kernel
theorem dL_law_168 : decode cL_law 168 = .ok (.istore 10, 2) := by decide +kernel
theorem dL_law_170 : decode cL_law 170 = .ok (.iinc 11 1, 3) := by decide +kernel
theorem dL_law_173 : decode cL_law 173 = .ok (.goto (-102), 3) := by decide +kernel
theorem dL_law_176 : decode cL_law 176 = .ok (.iconst 0, 1) := by decide +kernel
theorem dL_law_177 : decode cL_law 177 = .ok (.istore 11, 2) := by decide +kernel
theorem dL_law_179 : decode cL_law 179 = .ok (.iload 9, 2) := by decide +kernel
theorem dL_law_181 : decode cL_law 181 = .ok (.ifCond .eq 125, 3) := by decide +kernel
theorem dL_law_184 : decode cL_law 184 = .ok (.iload_n 3, 1) := by decide +kernel
theorem dL_law_185 : decode cL_law 185 = .ok (.iconst 1, 1) := by decide +kernel
theorem dL_law_186 : decode cL_law 186 = .ok (.iload 8, 2) := by decide +kernel
theorem dL_law_188 : decode cL_law 188 = .ok (.ishl, 1) := by decide +kernel
theorem dL_law_189 : decode cL_law 189 = .ok (.ior, 1) := by decide +kernel
theorem dL_law_190 : decode cL_law 190 = .ok (.istore_n 3, 1) := by decide +kernel
theorem dL_law_191 : decode cL_law 191 = .ok (.iload 9, 2) := by decide +kernel
theorem dL_law_193 : decode cL_law 193 = .ok (.iload 4, 2) := by decide +kernel
theorem dL_law_195 : decode cL_law 195 = .ok (.iand, 1) := by decide +kernel
theorem dL_law_196 : decode cL_law 196 = .ok (.ifCond .ne 110, 3) := by decide +kernel
theorem dL_law_199 : decode cL_law 199 = .ok (.aload 6, 2) := by decide +kernel
theorem dL_law_201 : decode cL_law 201 = .ok (.iload 8, 2) := by decide +kernel
theorem dL_law_203 : decode cL_law 203 = .ok (.dup2, 1) := by decide +kernel
theorem dL_law_204 : decode cL_law 204 = .ok (.iaload, 1) := by decide +kernel
theorem dL_law_205 : decode cL_law 205 = .ok (.iload 10, 2) := by decide +kernel
theorem dL_law_207 : decode cL_law 207 = .ok (.iadd, 1) := by decide +kernel
theorem dL_law_208 : decode cL_law 208 = .ok (.iastore, 1) := by decide +kernel
theorem dL_law_209 : decode cL_law 209 = .ok (.iconst 0, 1) := by decide +kernel
theorem dL_law_210 : decode cL_law 210 = .ok (.istore 12, 2) := by decide +kernel
theorem dL_law_212 : decode cL_law 212 = .ok (.iload 12, 2) := by decide +kernel
theorem dL_law_214 : decode cL_law 214 = .ok (.iload_n 2, 1) := by decide +kernel
theorem dL_law_215 : decode cL_law 215 = .ok (.if_icmp .ge 91, 3) := by decide +kernel
theorem dL_law_218 : decode cL_law 218 = .ok (.aload_n 0, 1) := by decide +kernel
theorem dL_law_219 : decode cL_law 219 = .ok (.iload 12, 2) := by decide +kernel
theorem dL_law_221 : decode cL_law 221 = .ok (.invokestatic 33, 3) := by decide +kernel
theorem dL_law_224 : decode cL_law 224 = .ok (.istore 13, 2) := by decide +kernel
theorem dL_law_226 : decode cL_law 226 = .ok (.iconst 0, 1) := by decide +kernel
theorem dL_law_227 : decode cL_law 227 = .ok (.istore 14, 2) := by decide +kernel
theorem dL_law_229 : decode cL_law 229 = .ok (.iload 14, 2) := by decide +kernel
theorem dL_law_231 : decode cL_law 231 = .ok (.bipush 12, 2) := by decide +kernel
theorem dL_law_233 : decode cL_law 233 = .ok (.if_icmp .ge 31, 3) := by decide +kernel
theorem dL_law_236 : decode cL_law 236 = .ok (.iload 13, 2) := by decide +kernel
theorem dL_law_238 : decode cL_law 238 = .ok (.aload_n 0, 1) := by decide +kernel
theorem dL_law_239 : decode cL_law 239 = .ok (.iload 12, 2) := by decide +kernel
theorem dL_law_241 : decode cL_law 241 = .ok (.invokestatic 19, 3) := by decide +kernel
theorem dL_law_244 : decode cL_law 244 = .ok (.iload 14, 2) := by decide +kernel
theorem dL_law_246 : decode cL_law 246 = .ok (.ishr, 1) := by decide +kernel
theorem dL_law_247 : decode cL_law 247 = .ok (.iconst 1, 1) := by decide +kernel
theorem dL_law_248 : decode cL_law 248 = .ok (.iand, 1) := by decide +kernel
theorem dL_law_249 : decode cL_law 249 = .ok (.aload 6, 2) := by decide +kernel
theorem dL_law_251 : decode cL_law 251 = .ok (.iload 14, 2) := by decide +kernel
theorem dL_law_253 : decode cL_law 253 = .ok (.iaload, 1) := by decide +kernel
theorem dL_law_254 : decode cL_law 254 = .ok (.imul, 1) := by decide +kernel
theorem dL_law_255 : decode cL_law 255 = .ok (.isub, 1) := by decide +kernel
theorem dL_law_256 : decode cL_law 256 = .ok (.istore 13, 2) := by decide +kernel
theorem dL_law_258 : decode cL_law 258 = .ok (.iinc 14 1, 3) := by decide +kernel
theorem dL_law_261 : decode cL_law 261 = .ok (.goto (-32), 3) := by decide +kernel
theorem dL_law_264 : decode cL_law 264 = .ok (.iload 9, 2) := by decide +kernel
theorem dL_law_266 : decode cL_law 266 = .ok (.iload 12, 2) := by decide +kernel
theorem dL_law_268 : decode cL_law 268 = .ok (.ishr, 1) := by decide +kernel
theorem dL_law_269 : decode cL_law 269 = .ok (.iconst 1, 1) := by decide +kernel
theorem dL_law_270 : decode cL_law 270 = .ok (.iand, 1) := by decide +kernel
theorem dL_law_271 : decode cL_law 271 = .ok (.iconst 1, 1) := by decide +kernel
theorem dL_law_272 : decode cL_law 272 = .ok (.if_icmp .ne 28, 3) := by decide +kernel
theorem dL_law_275 : decode cL_law 275 = .ok (.iload 13, 2) := by decide +kernel
theorem dL_law_277 : decode cL_law 277 = .ok (.ifCond .ne 23, 3) := by decide +kernel
theorem dL_law_280 : decode cL_law 280 = .ok (.iload 4, 2) := by decide +kernel
theorem dL_law_282 : decode cL_law 282 = .ok (.iconst 1, 1) := by decide +kernel
theorem dL_law_283 : decode cL_law 283 = .ok (.iload 12, 2) := by decide +kernel
theorem dL_law_285 : decode cL_law 285 = .ok (.ishl, 1) := by decide +kernel
theorem dL_law_286 : decode cL_law 286 = .ok (.ior, 1) := by decide +kernel
theorem dL_law_287 : decode cL_law 287 = .ok (.istore 4, 2) := by decide +kernel
theorem dL_law_289 : decode cL_law 289 = .ok (.iload 11, 2) := by decide +kernel
theorem dL_law_291 : decode cL_law 291 = .ok (.aload_n 0, 1) := by decide +kernel
theorem dL_law_292 : decode cL_law 292 = .ok (.iload 12, 2) := by decide +kernel
theorem dL_law_294 : decode cL_law 294 = .ok (.invokestatic 33, 3) := by decide +kernel
theorem dL_law_297 : decode cL_law 297 = .ok (.iadd, 1) := by decide +kernel
theorem dL_law_298 : decode cL_law 298 = .ok (.istore 11, 2) := by decide +kernel
theorem dL_law_300 : decode cL_law 300 = .ok (.iinc 12 1, 3) := by decide +kernel
theorem dL_law_303 : decode cL_law 303 = .ok (.goto (-91), 3) := by decide +kernel
theorem dL_law_306 : decode cL_law 306 = .ok (.aload_n 1, 1) := by decide +kernel
theorem dL_law_307 : decode cL_law 307 = .ok (.iload 8, 2) := by decide +kernel
theorem dL_law_309 : decode cL_law 309 = .ok (.invokevirtual 36, 3) := by decide +kernel
theorem dL_law_312 : decode cL_law 312 = .ok (.iload 8, 2) := by decide +kernel
theorem dL_law_314 : decode cL_law 314 = .ok (.bipush 12, 2) := by decide +kernel
theorem dL_law_316 : decode cL_law 316 = .ok (.if_icmp .ne 8, 3) := by decide +kernel
theorem dL_law_319 : decode cL_law 319 = .ok (.ldc 40, 2) := by decide +kernel
theorem dL_law_321 : decode cL_law 321 = .ok (.goto 15, 3) := by decide +kernel
theorem dL_law_324 : decode cL_law 324 = .ok (.iload 9, 2) := by decide +kernel
theorem dL_law_326 : decode cL_law 326 = .ok (.ifCond .ne 8, 3) := by decide +kernel
theorem dL_law_329 : decode cL_law 329 = .ok (.ldc 41, 2) := by decide +kernel
theorem dL_law_331 : decode cL_law 331 = .ok (.goto 5, 3) := by decide +kernel
theorem dL_law_334 : decode cL_law 334 = .ok (.iload 11, 2) := by decide +kernel
theorem dL_law_336 : decode cL_law 336 = .ok (.if_icmp .ne 21, 3) := by decide +kernel
theorem dL_law_339 : decode cL_law 339 = .ok (.iload 11, 2) := by decide +kernel
theorem dL_law_341 : decode cL_law 341 = .ok (.ifCond .ne 18, 3) := by decide +kernel
theorem dL_law_344 : decode cL_law 344 = .ok (.iload 9, 2) := by decide +kernel
theorem dL_law_346 : decode cL_law 346 = .ok (.ifCond .eq 13, 3) := by decide +kernel
theorem dL_law_349 : decode cL_law 349 = .ok (.iload 9, 2) := by decide +kernel
theorem dL_law_351 : decode cL_law 351 = .ok (.iload 4, 2) := by decide +kernel
theorem dL_law_353 : decode cL_law 353 = .ok (.iand, 1) := by decide +kernel
theorem dL_law_354 : decode cL_law 354 = .ok (.ifCond .ne 5, 3) := by decide +kernel
theorem dL_law_357 : decode cL_law 357 = .ok (.iconst 0, 1) := by decide +kernel
theorem dL_law_358 : decode cL_law 358 = .ok (.ireturn, 1) := by decide +kernel
theorem dL_law_359 : decode cL_law 359 = .ok (.iload 5, 2) := by decide +kernel
theorem dL_law_361 : decode cL_law 361 = .ok (.iload 11, 2) := by decide +kernel
theorem dL_law_363 : decode cL_law 363 = .ok (.iadd, 1) := by decide +kernel
theorem dL_law_364 : decode cL_law 364 = .ok (.istore 5, 2) := by decide +kernel
theorem dL_law_366 : decode cL_law 366 = .ok (.aload_n 1, 1) := by decide +kernel
theorem dL_law_367 : decode cL_law 367 = .ok (.iconst 0, 1) := by decide +kernel
theorem dL_law_368 : decode cL_law 368 = .ok (.invokevirtual 42, 3) := by decide +kernel
theorem dL_law_371 : decode cL_law 371 = .ok (.iload 5, 2) := by decide +kernel
theorem dL_law_373 : decode cL_law 373 = .ok (.if_icmp .ne 43, 3) := by decide +kernel
theorem dL_law_376 : decode cL_law 376 = .ok (.aload_n 1, 1) := by decide +kernel
theorem dL_law_377 : decode cL_law 377 = .ok (.iconst 4, 1) := by decide +kernel
theorem dL_law_378 : decode cL_law 378 = .ok (.invokevirtual 42, 3) := by decide +kernel
theorem dL_law_381 : decode cL_law 381 = .ok (.iload_n 3, 1) := by decide +kernel
theorem dL_law_382 : decode cL_law 382 = .ok (.if_icmp .ne 34, 3) := by decide +kernel
theorem dL_law_385 : decode cL_law 385 = .ok (.aload_n 1, 1) := by decide +kernel
theorem dL_law_386 : decode cL_law 386 = .ok (.iconst 5, 1) := by decide +kernel
theorem dL_law_387 : decode cL_law 387 = .ok (.invokevirtual 42, 3) := by decide +kernel
theorem dL_law_390 : decode cL_law 390 = .ok (.iload 4, 2) := by decide +kernel
theorem dL_law_392 : decode cL_law 392 = .ok (.if_icmp .ne 24, 3) := by decide +kernel
theorem dL_law_395 : decode cL_law 395 = .ok (.iload 8, 2) := by decide +kernel
theorem dL_law_397 : decode cL_law 397 = .ok (.bipush 12, 2) := by decide +kernel
theorem dL_law_399 : decode cL_law 399 = .ok (.if_icmp .ge 19, 3) := by decide +kernel
theorem dL_law_402 : decode cL_law 402 = .ok (.aload_n 1, 1) := by decide +kernel
theorem dL_law_403 : decode cL_law 403 = .ok (.iload 8, 2) := by decide +kernel
theorem dL_law_405 : decode cL_law 405 = .ok (.invokevirtual 45, 3) := by decide +kernel
theorem dL_law_408 : decode cL_law 408 = .ok (.aload 6, 2) := by decide +kernel
theorem dL_law_410 : decode cL_law 410 = .ok (.iload 8, 2) := by decide +kernel
theorem dL_law_412 : decode cL_law 412 = .ok (.iaload, 1) := by decide +kernel
theorem dL_law_413 : decode cL_law 413 = .ok (.if_icmp .eq 5, 3) := by decide +kernel
theorem dL_law_416 : decode cL_law 416 = .ok (.iconst 0, 1) := by decide +kernel
theorem dL_law_417 : decode cL_law 417 = .ok (.ireturn, 1) := by decide +kernel
theorem dL_law_418 : decode cL_law 418 = .ok (.iinc 7 1, 3) := by decide +kernel
theorem dL_law_421 : decode cL_law 421 = .ok (.goto (-383), 3) := by decide +kernel
theorem dL_law_424 : decode cL_law 424 = .ok (.iconst 0, 1) := by decide +kernel
theorem dL_law_425 : decode cL_law 425 = .ok (.istore 7, 2) := by decide +kernel
theorem dL_law_427 : decode cL_law 427 = .ok (.iconst 0, 1) := by decide +kernel
theorem dL_law_428 : decode cL_law 428 = .ok (.istore 8, 2) := by decide +kernel
theorem dL_law_430 : decode cL_law 430 = .ok (.iconst 0, 1) := by decide +kernel
theorem dL_law_431 : decode cL_law 431 = .ok (.istore 9, 2) := by decide +kernel
theorem dL_law_433 : decode cL_law 433 = .ok (.iload 9, 2) := by decide +kernel
theorem dL_law_435 : decode cL_law 435 = .ok (.bipush 12, 2) := by decide +kernel
theorem dL_law_437 : decode cL_law 437 = .ok (.if_icmp .ge 74, 3) := by decide +kernel
theorem dL_law_440 : decode cL_law 440 = .ok (.iload 7, 2) := by decide +kernel
theorem dL_law_442 : decode cL_law 442 = .ok (.aload 6, 2) := by decide +kernel
theorem dL_law_444 : decode cL_law 444 = .ok (.iload 9, 2) := by decide +kernel
theorem dL_law_446 : decode cL_law 446 = .ok (.iaload, 1) := by decide +kernel
theorem dL_law_447 : decode cL_law 447 = .ok (.iadd, 1) := by decide +kernel
theorem dL_law_448 : decode cL_law 448 = .ok (.istore 7, 2) := by decide +kernel
theorem dL_law_450 : decode cL_law 450 = .ok (.iconst 0, 1) := by decide +kernel
theorem dL_law_451 : decode cL_law 451 = .ok (.istore 10, 2) := by decide +kernel
theorem dL_law_453 : decode cL_law 453 = .ok (.iconst 0, 1) := by decide +kernel
theorem dL_law_454 : decode cL_law 454 = .ok (.istore 11, 2) := by decide +kernel
theorem dL_law_456 : decode cL_law 456 = .ok (.iload 11, 2) := by decide +kernel
theorem dL_law_458 : decode cL_law 458 = .ok (.iload_n 2, 1) := by decide +kernel
theorem dL_law_459 : decode cL_law 459 = .ok (.if_icmp .ge 30, 3) := by decide +kernel
theorem dL_law_462 : decode cL_law 462 = .ok (.iload 10, 2) := by decide +kernel
theorem dL_law_464 : decode cL_law 464 = .ok (.aload_n 0, 1) := by decide +kernel
theorem dL_law_465 : decode cL_law 465 = .ok (.iload 11, 2) := by decide +kernel
theorem dL_law_467 : decode cL_law 467 = .ok (.invokestatic 19, 3) := by decide +kernel
theorem dL_law_470 : decode cL_law 470 = .ok (.iload 9, 2) := by decide +kernel
theorem dL_law_472 : decode cL_law 472 = .ok (.ishr, 1) := by decide +kernel
theorem dL_law_473 : decode cL_law 473 = .ok (.iload_n 3, 1) := by decide +kernel
theorem dL_law_474 : decode cL_law 474 = .ok (.iload 9, 2) := by decide +kernel
theorem dL_law_476 : decode cL_law 476 = .ok (.ishr, 1) := by decide +kernel
theorem dL_law_477 : decode cL_law 477 = .ok (.iand, 1) := by decide +kernel
theorem dL_law_478 : decode cL_law 478 = .ok (.iconst 1, 1) := by decide +kernel
theorem dL_law_479 : decode cL_law 479 = .ok (.iand, 1) := by decide +kernel
theorem dL_law_480 : decode cL_law 480 = .ok (.iadd, 1) := by decide +kernel
theorem dL_law_481 : decode cL_law 481 = .ok (.istore 10, 2) := by decide +kernel
theorem dL_law_483 : decode cL_law 483 = .ok (.iinc 11 1, 3) := by decide +kernel
theorem dL_law_486 : decode cL_law 486 = .ok (.goto (-30), 3) := by decide +kernel
theorem dL_law_489 : decode cL_law 489 = .ok (.iload 10, 2) := by decide +kernel
theorem dL_law_491 : decode cL_law 491 = .ok (.iload 8, 2) := by decide +kernel
theorem dL_law_493 : decode cL_law 493 = .ok (.if_icmp .le 8, 3) := by decide +kernel
theorem dL_law_496 : decode cL_law 496 = .ok (.iload 10, 2) := by decide +kernel
theorem dL_law_498 : decode cL_law 498 = .ok (.goto 5, 3) := by decide +kernel
theorem dL_law_501 : decode cL_law 501 = .ok (.iload 8, 2) := by decide +kernel
theorem dL_law_503 : decode cL_law 503 = .ok (.istore 8, 2) := by decide +kernel
theorem dL_law_505 : decode cL_law 505 = .ok (.iinc 9 1, 3) := by decide +kernel
theorem dL_law_508 : decode cL_law 508 = .ok (.goto (-75), 3) := by decide +kernel
theorem dL_law_511 : decode cL_law 511 = .ok (.iconst 0, 1) := by decide +kernel
theorem dL_law_512 : decode cL_law 512 = .ok (.istore 9, 2) := by decide +kernel
theorem dL_law_514 : decode cL_law 514 = .ok (.iconst 0, 1) := by decide +kernel
theorem dL_law_515 : decode cL_law 515 = .ok (.istore 10, 2) := by decide +kernel
theorem dL_law_517 : decode cL_law 517 = .ok (.iload 10, 2) := by decide +kernel
theorem dL_law_519 : decode cL_law 519 = .ok (.iload_n 2, 1) := by decide +kernel
theorem dL_law_520 : decode cL_law 520 = .ok (.if_icmp .ge 199, 3) := by decide +kernel
theorem dL_law_523 : decode cL_law 523 = .ok (.iconst 0, 1) := by decide +kernel
theorem dL_law_524 : decode cL_law 524 = .ok (.istore 11, 2) := by decide +kernel
theorem dL_law_526 : decode cL_law 526 = .ok (.iconst 0, 1) := by decide +kernel
theorem dL_law_527 : decode cL_law 527 = .ok (.istore 12, 2) := by decide +kernel
theorem dL_law_529 : decode cL_law 529 = .ok (.iload 12, 2) := by decide +kernel
theorem dL_law_531 : decode cL_law 531 = .ok (.bipush 12, 2) := by decide +kernel
theorem dL_law_533 : decode cL_law 533 = .ok (.if_icmp .ge 31, 3) := by decide +kernel
theorem dL_law_536 : decode cL_law 536 = .ok (.iload 11, 2) := by decide +kernel
theorem dL_law_538 : decode cL_law 538 = .ok (.aload_n 0, 1) := by decide +kernel
theorem dL_law_539 : decode cL_law 539 = .ok (.iload 10, 2) := by decide +kernel
theorem dL_law_541 : decode cL_law 541 = .ok (.invokestatic 19, 3) := by decide +kernel
theorem dL_law_544 : decode cL_law 544 = .ok (.iload 12, 2) := by decide +kernel
theorem dL_law_546 : decode cL_law 546 = .ok (.ishr, 1) := by decide +kernel
theorem dL_law_547 : decode cL_law 547 = .ok (.iconst 1, 1) := by decide +kernel
theorem dL_law_548 : decode cL_law 548 = .ok (.iand, 1) := by decide +kernel
theorem dL_law_549 : decode cL_law 549 = .ok (.aload 6, 2) := by decide +kernel
theorem dL_law_551 : decode cL_law 551 = .ok (.iload 12, 2) := by decide +kernel
theorem dL_law_553 : decode cL_law 553 = .ok (.iaload, 1) := by decide +kernel
theorem dL_law_554 : decode cL_law 554 = .ok (.imul, 1) := by decide +kernel
theorem dL_law_555 : decode cL_law 555 = .ok (.iadd, 1) := by decide +kernel
theorem dL_law_556 : decode cL_law 556 = .ok (.istore 11, 2) := by decide +kernel
theorem dL_law_558 : decode cL_law 558 = .ok (.iinc 12 1, 3) := by decide +kernel
theorem dL_law_561 : decode cL_law 561 = .ok (.goto (-32), 3) := by decide +kernel
theorem dL_law_564 : decode cL_law 564 = .ok (.iload 4, 2) := by decide +kernel
theorem dL_law_566 : decode cL_law 566 = .ok (.iload 10, 2) := by decide +kernel
theorem dL_law_568 : decode cL_law 568 = .ok (.ishr, 1) := by decide +kernel
theorem dL_law_569 : decode cL_law 569 = .ok (.iconst 1, 1) := by decide +kernel
theorem dL_law_570 : decode cL_law 570 = .ok (.iand, 1) := by decide +kernel
theorem dL_law_571 : decode cL_law 571 = .ok (.iconst 1, 1) := by decide +kernel
theorem dL_law_572 : decode cL_law 572 = .ok (.if_icmp .ne 7, 3) := by decide +kernel
theorem dL_law_575 : decode cL_law 575 = .ok (.iconst 1, 1) := by decide +kernel
theorem dL_law_576 : decode cL_law 576 = .ok (.goto 4, 3) := by decide +kernel
theorem dL_law_579 : decode cL_law 579 = .ok (.iconst 0, 1) := by decide +kernel
theorem dL_law_580 : decode cL_law 580 = .ok (.istore 12, 2) := by decide +kernel
theorem dL_law_582 : decode cL_law 582 = .ok (.iload 12, 2) := by decide +kernel
theorem dL_law_584 : decode cL_law 584 = .ok (.ifCond .eq 7, 3) := by decide +kernel
theorem dL_law_587 : decode cL_law 587 = .ok (.iconst 3, 1) := by decide +kernel
theorem dL_law_588 : decode cL_law 588 = .ok (.goto 21, 3) := by decide +kernel
theorem dL_law_591 : decode cL_law 591 = .ok (.iconst 2, 1) := by decide +kernel
theorem dL_law_592 : decode cL_law 592 = .ok (.iload 11, 2) := by decide +kernel
theorem dL_law_594 : decode cL_law 594 = .ok (.imul, 1) := by decide +kernel
theorem dL_law_595 : decode cL_law 595 = .ok (.aload_n 0, 1) := by decide +kernel
theorem dL_law_596 : decode cL_law 596 = .ok (.iload 10, 2) := by decide +kernel
theorem dL_law_598 : decode cL_law 598 = .ok (.invokestatic 33, 3) := by decide +kernel
theorem dL_law_601 : decode cL_law 601 = .ok (.if_icmp .lt 7, 3) := by decide +kernel
theorem dL_law_604 : decode cL_law 604 = .ok (.iconst 2, 1) := by decide +kernel
theorem dL_law_605 : decode cL_law 605 = .ok (.goto 4, 3) := by decide +kernel
theorem dL_law_608 : decode cL_law 608 = .ok (.iconst 1, 1) := by decide +kernel
theorem dL_law_609 : decode cL_law 609 = .ok (.istore 13, 2) := by decide +kernel
theorem dL_law_611 : decode cL_law 611 = .ok (.iload 9, 2) := by decide +kernel
theorem dL_law_613 : decode cL_law 613 = .ok (.iload 13, 2) := by decide +kernel
theorem dL_law_615 : decode cL_law 615 = .ok (.iconst 2, 1) := by decide +kernel
theorem dL_law_616 : decode cL_law 616 = .ok (.if_icmp .ne 7, 3) := by decide +kernel
theorem dL_law_619 : decode cL_law 619 = .ok (.iconst 1, 1) := by decide +kernel
theorem dL_law_620 : decode cL_law 620 = .ok (.goto 4, 3) := by decide +kernel
theorem dL_law_623 : decode cL_law 623 = .ok (.iconst 0, 1) := by decide +kernel
theorem dL_law_624 : decode cL_law 624 = .ok (.iadd, 1) := by decide +kernel
theorem dL_law_625 : decode cL_law 625 = .ok (.istore 9, 2) := by decide +kernel
theorem dL_law_627 : decode cL_law 627 = .ok (.iload 11, 2) := by decide +kernel
theorem dL_law_629 : decode cL_law 629 = .ok (.aload_n 0, 1) := by decide +kernel
theorem dL_law_630 : decode cL_law 630 = .ok (.iload 10, 2) := by decide +kernel
theorem dL_law_632 : decode cL_law 632 = .ok (.invokestatic 33, 3) := by decide +kernel
theorem dL_law_635 : decode cL_law 635 = .ok (.if_icmp .gt 76, 3) := by decide +kernel
theorem dL_law_638 : decode cL_law 638 = .ok (.iload 12, 2) := by decide +kernel
theorem dL_law_640 : decode cL_law 640 = .ok (.ifCond .eq 14, 3) := by decide +kernel
theorem dL_law_643 : decode cL_law 643 = .ok (.iload 11, 2) := by decide +kernel
theorem dL_law_645 : decode cL_law 645 = .ok (.aload_n 0, 1) := by decide +kernel
theorem dL_law_646 : decode cL_law 646 = .ok (.iload 10, 2) := by decide +kernel
theorem dL_law_648 : decode cL_law 648 = .ok (.invokestatic 33, 3) := by decide +kernel
theorem dL_law_651 : decode cL_law 651 = .ok (.if_icmp .ne 60, 3) := by decide +kernel
theorem dL_law_654 : decode cL_law 654 = .ok (.aload_n 1, 1) := by decide +kernel
theorem dL_law_655 : decode cL_law 655 = .ok (.iload 10, 2) := by decide +kernel
theorem dL_law_657 : decode cL_law 657 = .ok (.iconst 2, 1) := by decide +kernel
theorem dL_law_658 : decode cL_law 658 = .ok (.invokevirtual 48, 3) := by decide +kernel
theorem dL_law_661 : decode cL_law 661 = .ok (.iload 11, 2) := by decide +kernel
theorem dL_law_663 : decode cL_law 663 = .ok (.if_icmp .ne 48, 3) := by decide +kernel
theorem dL_law_666 : decode cL_law 666 = .ok (.aload_n 1, 1) := by decide +kernel
theorem dL_law_667 : decode cL_law 667 = .ok (.iload 10, 2) := by decide +kernel
theorem dL_law_669 : decode cL_law 669 = .ok (.iconst 3, 1) := by decide +kernel
theorem dL_law_670 : decode cL_law 670 = .ok (.invokevirtual 48, 3) := by decide +kernel
theorem dL_law_673 : decode cL_law 673 = .ok (.iload 12, 2) := by decide +kernel
theorem dL_law_675 : decode cL_law 675 = .ok (.ifCond .eq 7, 3) := by decide +kernel
theorem dL_law_678 : decode cL_law 678 = .ok (.iconst 1, 1) := by decide +kernel
theorem dL_law_679 : decode cL_law 679 = .ok (.goto 4, 3) := by decide +kernel
theorem dL_law_682 : decode cL_law 682 = .ok (.iconst 0, 1) := by decide +kernel
theorem dL_law_683 : decode cL_law 683 = .ok (.if_icmp .ne 28, 3) := by decide +kernel
theorem dL_law_686 : decode cL_law 686 = .ok (.aload_n 1, 1) := by decide +kernel
theorem dL_law_687 : decode cL_law 687 = .ok (.iload 10, 2) := by decide +kernel
theorem dL_law_689 : decode cL_law 689 = .ok (.invokevirtual 51, 3) := by decide +kernel
theorem dL_law_692 : decode cL_law 692 = .ok (.iload 13, 2) := by decide +kernel
theorem dL_law_694 : decode cL_law 694 = .ok (.if_icmp .ne 17, 3) := by decide +kernel
theorem dL_law_697 : decode cL_law 697 = .ok (.aload_n 1, 1) := by decide +kernel
theorem dL_law_698 : decode cL_law 698 = .ok (.aload_n 0, 1) := by decide +kernel
theorem dL_law_699 : decode cL_law 699 = .ok (.iload 10, 2) := by decide +kernel
theorem dL_law_701 : decode cL_law 701 = .ok (.iload 13, 2) := by decide +kernel
theorem dL_law_703 : decode cL_law 703 = .ok (.iload 11, 2) := by decide +kernel
theorem dL_law_705 : decode cL_law 705 = .ok (.invokestatic 54, 3) := by decide +kernel
theorem dL_law_708 : decode cL_law 708 = .ok (.ifCond .ne 5, 3) := by decide +kernel
theorem dL_law_711 : decode cL_law 711 = .ok (.iconst 0, 1) := by decide +kernel
theorem dL_law_712 : decode cL_law 712 = .ok (.ireturn, 1) := by decide +kernel
theorem dL_law_713 : decode cL_law 713 = .ok (.iinc 10 1, 3) := by decide +kernel
theorem dL_law_716 : decode cL_law 716 = .ok (.goto (-199), 3) := by decide +kernel
theorem dL_law_719 : decode cL_law 719 = .ok (.ldc 32, 2) := by decide +kernel
theorem dL_law_721 : decode cL_law 721 = .ok (.istore 10, 2) := by decide +kernel
theorem dL_law_723 : decode cL_law 723 = .ok (.iconst 0, 1) := by decide +kernel
theorem dL_law_724 : decode cL_law 724 = .ok (.istore 11, 2) := by decide +kernel
theorem dL_law_726 : decode cL_law 726 = .ok (.iload 11, 2) := by decide +kernel
theorem dL_law_728 : decode cL_law 728 = .ok (.iconst 1, 1) := by decide +kernel
theorem dL_law_729 : decode cL_law 729 = .ok (.iload_n 2, 1) := by decide +kernel
theorem dL_law_730 : decode cL_law 730 = .ok (.ishl, 1) := by decide +kernel
theorem dL_law_731 : decode cL_law 731 = .ok (.if_icmp .ge 100, 3) := by decide +kernel
theorem dL_law_734 : decode cL_law 734 = .ok (.iconst 0, 1) := by decide +kernel
theorem dL_law_735 : decode cL_law 735 = .ok (.istore 12, 2) := by decide +kernel
theorem dL_law_737 : decode cL_law 737 = .ok (.iconst 0, 1) := by decide +kernel
theorem dL_law_738 : decode cL_law 738 = .ok (.istore 13, 2) := by decide +kernel
theorem dL_law_740 : decode cL_law 740 = .ok (.iconst 0, 1) := by decide +kernel
theorem dL_law_741 : decode cL_law 741 = .ok (.istore 14, 2) := by decide +kernel
theorem dL_law_743 : decode cL_law 743 = .ok (.iload 14, 2) := by decide +kernel
theorem dL_law_745 : decode cL_law 745 = .ok (.iload_n 2, 1) := by decide +kernel
theorem dL_law_746 : decode cL_law 746 = .ok (.if_icmp .ge 54, 3) := by decide +kernel
theorem dL_law_749 : decode cL_law 749 = .ok (.iload 12, 2) := by decide +kernel
theorem dL_law_751 : decode cL_law 751 = .ok (.iload 11, 2) := by decide +kernel
theorem dL_law_753 : decode cL_law 753 = .ok (.iload 14, 2) := by decide +kernel
theorem dL_law_755 : decode cL_law 755 = .ok (.ishr, 1) := by decide +kernel
theorem dL_law_756 : decode cL_law 756 = .ok (.iconst 1, 1) := by decide +kernel
theorem dL_law_757 : decode cL_law 757 = .ok (.iand, 1) := by decide +kernel
theorem dL_law_758 : decode cL_law 758 = .ok (.aload_n 0, 1) := by decide +kernel
theorem dL_law_759 : decode cL_law 759 = .ok (.iload 14, 2) := by decide +kernel
theorem dL_law_761 : decode cL_law 761 = .ok (.invokestatic 33, 3) := by decide +kernel
theorem dL_law_764 : decode cL_law 764 = .ok (.imul, 1) := by decide +kernel
theorem dL_law_765 : decode cL_law 765 = .ok (.iadd, 1) := by decide +kernel
theorem dL_law_766 : decode cL_law 766 = .ok (.istore 12, 2) := by decide +kernel
theorem dL_law_768 : decode cL_law 768 = .ok (.iload 13, 2) := by decide +kernel
theorem dL_law_770 : decode cL_law 770 = .ok (.iload 11, 2) := by decide +kernel
theorem dL_law_772 : decode cL_law 772 = .ok (.iload 14, 2) := by decide +kernel
theorem dL_law_774 : decode cL_law 774 = .ok (.ishr, 1) := by decide +kernel
theorem dL_law_775 : decode cL_law 775 = .ok (.iconst 1, 1) := by decide +kernel
theorem dL_law_776 : decode cL_law 776 = .ok (.iand, 1) := by decide +kernel
theorem dL_law_777 : decode cL_law 777 = .ok (.iconst 1, 1) := by decide +kernel
theorem dL_law_778 : decode cL_law 778 = .ok (.if_icmp .ne 12, 3) := by decide +kernel
theorem dL_law_781 : decode cL_law 781 = .ok (.aload_n 0, 1) := by decide +kernel
theorem dL_law_782 : decode cL_law 782 = .ok (.iload 14, 2) := by decide +kernel
theorem dL_law_784 : decode cL_law 784 = .ok (.invokestatic 19, 3) := by decide +kernel
theorem dL_law_787 : decode cL_law 787 = .ok (.goto 4, 3) := by decide +kernel
theorem dL_law_790 : decode cL_law 790 = .ok (.iconst 0, 1) := by decide +kernel
theorem dL_law_791 : decode cL_law 791 = .ok (.ior, 1) := by decide +kernel
theorem dL_law_792 : decode cL_law 792 = .ok (.istore 13, 2) := by decide +kernel
theorem dL_law_794 : decode cL_law 794 = .ok (.iinc 14 1, 3) := by decide +kernel
theorem dL_law_797 : decode cL_law 797 = .ok (.goto (-54), 3) := by decide +kernel
theorem dL_law_800 : decode cL_law 800 = .ok (.iload_n 3, 1) := by decide +kernel
theorem dL_law_801 : decode cL_law 801 = .ok (.iload 13, 2) := by decide +kernel
theorem dL_law_803 : decode cL_law 803 = .ok (.iconst (-1), 1) := by decide +kernel
theorem dL_law_804 : decode cL_law 804 = .ok (.ixor, 1) := by decide +kernel
theorem dL_law_805 : decode cL_law 805 = .ok (.iand, 1) := by decide +kernel
theorem dL_law_806 : decode cL_law 806 = .ok (.ifCond .ne 15, 3) := by decide +kernel
theorem dL_law_809 : decode cL_law 809 = .ok (.iload 12, 2) := by decide +kernel
theorem dL_law_811 : decode cL_law 811 = .ok (.iload 10, 2) := by decide +kernel
theorem dL_law_813 : decode cL_law 813 = .ok (.if_icmp .ge 8, 3) := by decide +kernel
theorem dL_law_816 : decode cL_law 816 = .ok (.iload 12, 2) := by decide +kernel
theorem dL_law_818 : decode cL_law 818 = .ok (.goto 5, 3) := by decide +kernel
theorem dL_law_821 : decode cL_law 821 = .ok (.iload 10, 2) := by decide +kernel
theorem dL_law_823 : decode cL_law 823 = .ok (.istore 10, 2) := by decide +kernel
theorem dL_law_825 : decode cL_law 825 = .ok (.iinc 11 1, 3) := by decide +kernel
theorem dL_law_828 : decode cL_law 828 = .ok (.goto (-102), 3) := by decide +kernel
theorem dL_law_831 : decode cL_law 831 = .ok (.aload_n 1, 1) := by decide +kernel
theorem dL_law_832 : decode cL_law 832 = .ok (.iconst 1, 1) := by decide +kernel
theorem dL_law_833 : decode cL_law 833 = .ok (.invokevirtual 42, 3) := by decide +kernel
theorem dL_law_836 : decode cL_law 836 = .ok (.iload 7, 2) := by decide +kernel
theorem dL_law_838 : decode cL_law 838 = .ok (.if_icmp .ne 76, 3) := by decide +kernel
theorem dL_law_841 : decode cL_law 841 = .ok (.aload_n 1, 1) := by decide +kernel
theorem dL_law_842 : decode cL_law 842 = .ok (.iconst 2, 1) := by decide +kernel
theorem dL_law_843 : decode cL_law 843 = .ok (.invokevirtual 42, 3) := by decide +kernel
theorem dL_law_846 : decode cL_law 846 = .ok (.iload 10, 2) := by decide +kernel
theorem dL_law_848 : decode cL_law 848 = .ok (.if_icmp .ne 66, 3) := by decide +kernel
theorem dL_law_851 : decode cL_law 851 = .ok (.aload_n 1, 1) := by decide +kernel
theorem dL_law_852 : decode cL_law 852 = .ok (.iconst 3, 1) := by decide +kernel
theorem dL_law_853 : decode cL_law 853 = .ok (.invokevirtual 42, 3) := by decide +kernel
theorem dL_law_856 : decode cL_law 856 = .ok (.iload 8, 2) := by decide +kernel
theorem dL_law_858 : decode cL_law 858 = .ok (.if_icmp .ne 56, 3) := by decide +kernel
theorem dL_law_861 : decode cL_law 861 = .ok (.iload 5, 2) := by decide +kernel
theorem dL_law_863 : decode cL_law 863 = .ok (.iload 8, 2) := by decide +kernel
theorem dL_law_865 : decode cL_law 865 = .ok (.iload 7, 2) := by decide +kernel
theorem dL_law_867 : decode cL_law 867 = .ok (.imul, 1) := by decide +kernel
theorem dL_law_868 : decode cL_law 868 = .ok (.if_icmp .gt 46, 3) := by decide +kernel
theorem dL_law_871 : decode cL_law 871 = .ok (.iload 7, 2) := by decide +kernel
theorem dL_law_873 : decode cL_law 873 = .ok (.iload 10, 2) := by decide +kernel
theorem dL_law_875 : decode cL_law 875 = .ok (.if_icmp .gt 39, 3) := by decide +kernel
theorem dL_law_878 : decode cL_law 878 = .ok (.iload 10, 2) := by decide +kernel
theorem dL_law_880 : decode cL_law 880 = .ok (.iload 5, 2) := by decide +kernel
theorem dL_law_882 : decode cL_law 882 = .ok (.if_icmp .gt 32, 3) := by decide +kernel
theorem dL_law_885 : decode cL_law 885 = .ok (.aload_n 1, 1) := by decide +kernel
theorem dL_law_886 : decode cL_law 886 = .ok (.iconst 3, 1) := by decide +kernel
theorem dL_law_887 : decode cL_law 887 = .ok (.invokevirtual 58, 3) := by decide +kernel
theorem dL_law_890 : decode cL_law 890 = .ok (.iload 9, 2) := by decide +kernel
theorem dL_law_892 : decode cL_law 892 = .ok (.if_icmp .ne 22, 3) := by decide +kernel
theorem dL_law_895 : decode cL_law 895 = .ok (.iload_n 3, 1) := by decide +kernel
theorem dL_law_896 : decode cL_law 896 = .ok (.ifCond .eq 14, 3) := by decide +kernel
theorem dL_law_899 : decode cL_law 899 = .ok (.aload_n 1, 1) := by decide +kernel
theorem dL_law_900 : decode cL_law 900 = .ok (.iconst 1, 1) := by decide +kernel
theorem dL_law_901 : decode cL_law 901 = .ok (.iconst 1, 1) := by decide +kernel
theorem dL_law_902 : decode cL_law 902 = .ok (.invokevirtual 22, 3) := by decide +kernel
theorem dL_law_905 : decode cL_law 905 = .ok (.ldc 41, 2) := by decide +kernel
theorem dL_law_907 : decode cL_law 907 = .ok (.if_icmp .ne 7, 3) := by decide +kernel
theorem dL_law_910 : decode cL_law 910 = .ok (.iconst 1, 1) := by decide +kernel
theorem dL_law_911 : decode cL_law 911 = .ok (.goto 4, 3) := by decide +kernel
theorem dL_law_914 : decode cL_law 914 = .ok (.iconst 0, 1) := by decide +kernel
theorem dL_law_915 : decode cL_law 915 = .ok (.ireturn, 1) := by decide +kernel
theorem dL_asked_0 : decode cL_asked 0 = .ok (.iconst 0, 1) := by decide +kernel
theorem dL_asked_1 : decode cL_asked 1 = .ok (.istore 5, 2) := by decide +kernel
theorem dL_asked_3 : decode cL_asked 3 = .ok (.iconst 0, 1) := by decide +kernel
theorem dL_asked_4 : decode cL_asked 4 = .ok (.istore 6, 2) := by decide +kernel
theorem dL_asked_6 : decode cL_asked 6 = .ok (.iload 6, 2) := by decide +kernel
theorem dL_asked_8 : decode cL_asked 8 = .ok (.bipush 12, 2) := by decide +kernel
theorem dL_asked_10 : decode cL_asked 10 = .ok (.if_icmp .ge 24, 3) := by decide +kernel
theorem dL_asked_13 : decode cL_asked 13 = .ok (.iload 5, 2) := by decide +kernel
theorem dL_asked_15 : decode cL_asked 15 = .ok (.aload_n 1, 1) := by decide +kernel
theorem dL_asked_16 : decode cL_asked 16 = .ok (.iload_n 2, 1) := by decide +kernel
theorem dL_asked_17 : decode cL_asked 17 = .ok (.invokestatic 19, 3) := by decide +kernel
theorem dL_asked_20 : decode cL_asked 20 = .ok (.iload 6, 2) := by decide +kernel
theorem dL_asked_22 : decode cL_asked 22 = .ok (.ishr, 1) := by decide +kernel
theorem dL_asked_23 : decode cL_asked 23 = .ok (.iconst 1, 1) := by decide +kernel
theorem dL_asked_24 : decode cL_asked 24 = .ok (.iand, 1) := by decide +kernel
theorem dL_asked_25 : decode cL_asked 25 = .ok (.iadd, 1) := by decide +kernel
theorem dL_asked_26 : decode cL_asked 26 = .ok (.istore 5, 2) := by decide +kernel
theorem dL_asked_28 : decode cL_asked 28 = .ok (.iinc 6 1, 3) := by decide +kernel
theorem dL_asked_31 : decode cL_asked 31 = .ok (.goto (-25), 3) := by decide +kernel
theorem dL_asked_34 : decode cL_asked 34 = .ok (.iload 5, 2) := by decide +kernel
theorem dL_asked_36 : decode cL_asked 36 = .ok (.iload_n 3, 1) := by decide +kernel
theorem dL_asked_37 : decode cL_asked 37 = .ok (.iconst 2, 1) := by decide +kernel
theorem dL_asked_38 : decode cL_asked 38 = .ok (.if_icmp .ne 8, 3) := by decide +kernel
theorem dL_asked_41 : decode cL_asked 41 = .ok (.bipush 100, 2) := by decide +kernel
theorem dL_asked_43 : decode cL_asked 43 = .ok (.goto 19, 3) := by decide +kernel
theorem dL_asked_46 : decode cL_asked 46 = .ok (.iload_n 3, 1) := by decide +kernel
theorem dL_asked_47 : decode cL_asked 47 = .ok (.iconst 3, 1) := by decide +kernel
theorem dL_asked_48 : decode cL_asked 48 = .ok (.if_icmp .ne 13, 3) := by decide +kernel
theorem dL_asked_51 : decode cL_asked 51 = .ok (.iconst 2, 1) := by decide +kernel
theorem dL_asked_52 : decode cL_asked 52 = .ok (.aload_n 1, 1) := by decide +kernel
theorem dL_asked_53 : decode cL_asked 53 = .ok (.iload_n 2, 1) := by decide +kernel
theorem dL_asked_54 : decode cL_asked 54 = .ok (.invokestatic 33, 3) := by decide +kernel
theorem dL_asked_57 : decode cL_asked 57 = .ok (.imul, 1) := by decide +kernel
theorem dL_asked_58 : decode cL_asked 58 = .ok (.goto 4, 3) := by decide +kernel
theorem dL_asked_61 : decode cL_asked 61 = .ok (.iconst 0, 1) := by decide +kernel
theorem dL_asked_62 : decode cL_asked 62 = .ok (.iadd, 1) := by decide +kernel
theorem dL_asked_63 : decode cL_asked 63 = .ok (.istore 6, 2) := by decide +kernel
theorem dL_asked_65 : decode cL_asked 65 = .ok (.iload_n 3, 1) := by decide +kernel
theorem dL_asked_66 : decode cL_asked 66 = .ok (.iconst 3, 1) := by decide +kernel
theorem dL_asked_67 : decode cL_asked 67 = .ok (.if_icmp .ne 13, 3) := by decide +kernel
theorem dL_asked_70 : decode cL_asked 70 = .ok (.iconst 2, 1) := by decide +kernel
theorem dL_asked_71 : decode cL_asked 71 = .ok (.aload_n 1, 1) := by decide +kernel
theorem dL_asked_72 : decode cL_asked 72 = .ok (.iload_n 2, 1) := by decide +kernel
theorem dL_asked_73 : decode cL_asked 73 = .ok (.invokestatic 33, 3) := by decide +kernel
theorem dL_asked_76 : decode cL_asked 76 = .ok (.imul, 1) := by decide +kernel
theorem dL_asked_77 : decode cL_asked 77 = .ok (.goto 23, 3) := by decide +kernel
theorem dL_asked_80 : decode cL_asked 80 = .ok (.aload_n 1, 1) := by decide +kernel
theorem dL_asked_81 : decode cL_asked 81 = .ok (.iload_n 2, 1) := by decide +kernel
theorem dL_asked_82 : decode cL_asked 82 = .ok (.invokestatic 33, 3) := by decide +kernel
theorem dL_asked_85 : decode cL_asked 85 = .ok (.iload 4, 2) := by decide +kernel
theorem dL_asked_87 : decode cL_asked 87 = .ok (.isub, 1) := by decide +kernel
theorem dL_asked_88 : decode cL_asked 88 = .ok (.iload_n 3, 1) := by decide +kernel
theorem dL_asked_89 : decode cL_asked 89 = .ok (.iconst 2, 1) := by decide +kernel
theorem dL_asked_90 : decode cL_asked 90 = .ok (.if_icmp .ne 8, 3) := by decide +kernel
theorem dL_asked_93 : decode cL_asked 93 = .ok (.iload 6, 2) := by decide +kernel
theorem dL_asked_95 : decode cL_asked 95 = .ok (.goto 4, 3) := by decide +kernel
theorem dL_asked_98 : decode cL_asked 98 = .ok (.iconst 0, 1) := by decide +kernel
theorem dL_asked_99 : decode cL_asked 99 = .ok (.iadd, 1) := by decide +kernel
theorem dL_asked_100 : decode cL_asked 100 = .ok (.istore 7, 2) := by decide +kernel
theorem dL_asked_102 : decode cL_asked 102 = .ok (.aload_n 0, 1) := by decide +kernel
theorem dL_asked_103 : decode cL_asked 103 = .ok (.iload_n 2, 1) := by decide +kernel
theorem dL_asked_104 : decode cL_asked 104 = .ok (.iconst 0, 1) := by decide +kernel
theorem dL_asked_105 : decode cL_asked 105 = .ok (.invokevirtual 61, 3) := by decide +kernel
theorem dL_asked_108 : decode cL_asked 108 = .ok (.iload 7, 2) := by decide +kernel
theorem dL_asked_110 : decode cL_asked 110 = .ok (.if_icmp .ne 116, 3) := by decide +kernel
theorem dL_asked_113 : decode cL_asked 113 = .ok (.aload_n 0, 1) := by decide +kernel
theorem dL_asked_114 : decode cL_asked 114 = .ok (.iconst 0, 1) := by decide +kernel
theorem dL_asked_115 : decode cL_asked 115 = .ok (.invokevirtual 64, 3) := by decide +kernel
theorem dL_asked_118 : decode cL_asked 118 = .ok (.iload_n 3, 1) := by decide +kernel
theorem dL_asked_119 : decode cL_asked 119 = .ok (.iconst 3, 1) := by decide +kernel
theorem dL_asked_120 : decode cL_asked 120 = .ok (.if_icmp .ne 8, 3) := by decide +kernel
theorem dL_asked_123 : decode cL_asked 123 = .ok (.bipush 13, 2) := by decide +kernel
theorem dL_asked_125 : decode cL_asked 125 = .ok (.goto 15, 3) := by decide +kernel
theorem dL_asked_128 : decode cL_asked 128 = .ok (.iload_n 3, 1) := by decide +kernel
theorem dL_asked_129 : decode cL_asked 129 = .ok (.iconst 2, 1) := by decide +kernel
theorem dL_asked_130 : decode cL_asked 130 = .ok (.if_icmp .ne 8, 3) := by decide +kernel
theorem dL_asked_133 : decode cL_asked 133 = .ok (.bipush 12, 2) := by decide +kernel
theorem dL_asked_135 : decode cL_asked 135 = .ok (.goto 5, 3) := by decide +kernel
theorem dL_asked_138 : decode cL_asked 138 = .ok (.bipush 11, 2) := by decide +kernel
theorem dL_asked_140 : decode cL_asked 140 = .ok (.if_icmp .ne 86, 3) := by decide +kernel
theorem dL_asked_143 : decode cL_asked 143 = .ok (.aload_n 0, 1) := by decide +kernel
theorem dL_asked_144 : decode cL_asked 144 = .ok (.iload_n 2, 1) := by decide +kernel
theorem dL_asked_145 : decode cL_asked 145 = .ok (.iconst 1, 1) := by decide +kernel
theorem dL_asked_146 : decode cL_asked 146 = .ok (.invokevirtual 61, 3) := by decide +kernel
theorem dL_asked_149 : decode cL_asked 149 = .ok (.iload 6, 2) := by decide +kernel
theorem dL_asked_151 : decode cL_asked 151 = .ok (.if_icmp .ne 75, 3) := by decide +kernel
theorem dL_asked_154 : decode cL_asked 154 = .ok (.aload_n 0, 1) := by decide +kernel
theorem dL_asked_155 : decode cL_asked 155 = .ok (.iconst 0, 1) := by decide +kernel
theorem dL_asked_156 : decode cL_asked 156 = .ok (.invokevirtual 64, 3) := by decide +kernel
theorem dL_asked_159 : decode cL_asked 159 = .ok (.iload_n 3, 1) := by decide +kernel
theorem dL_asked_160 : decode cL_asked 160 = .ok (.iconst 3, 1) := by decide +kernel
theorem dL_asked_161 : decode cL_asked 161 = .ok (.if_icmp .ne 8, 3) := by decide +kernel
theorem dL_asked_164 : decode cL_asked 164 = .ok (.bipush 22, 2) := by decide +kernel
theorem dL_asked_166 : decode cL_asked 166 = .ok (.goto 15, 3) := by decide +kernel
theorem dL_asked_169 : decode cL_asked 169 = .ok (.iload_n 3, 1) := by decide +kernel
theorem dL_asked_170 : decode cL_asked 170 = .ok (.iconst 2, 1) := by decide +kernel
theorem dL_asked_171 : decode cL_asked 171 = .ok (.if_icmp .ne 8, 3) := by decide +kernel
theorem dL_asked_174 : decode cL_asked 174 = .ok (.bipush 21, 2) := by decide +kernel
theorem dL_asked_176 : decode cL_asked 176 = .ok (.goto 5, 3) := by decide +kernel
theorem dL_asked_179 : decode cL_asked 179 = .ok (.bipush 20, 2) := by decide +kernel
theorem dL_asked_181 : decode cL_asked 181 = .ok (.if_icmp .ne 45, 3) := by decide +kernel
theorem dL_asked_184 : decode cL_asked 184 = .ok (.aload_n 0, 1) := by decide +kernel
theorem dL_asked_185 : decode cL_asked 185 = .ok (.iload_n 2, 1) := by decide +kernel
theorem dL_asked_186 : decode cL_asked 186 = .ok (.iload_n 3, 1) := by decide +kernel
theorem dL_asked_187 : decode cL_asked 187 = .ok (.invokevirtual 67, 3) := by decide +kernel
theorem dL_asked_190 : decode cL_asked 190 = .ok (.aload_n 1, 1) := by decide +kernel
theorem dL_asked_191 : decode cL_asked 191 = .ok (.iload_n 2, 1) := by decide +kernel
theorem dL_asked_192 : decode cL_asked 192 = .ok (.invokestatic 33, 3) := by decide +kernel
theorem dL_asked_195 : decode cL_asked 195 = .ok (.if_icmp .ne 31, 3) := by decide +kernel
theorem dL_asked_198 : decode cL_asked 198 = .ok (.aload_n 0, 1) := by decide +kernel
theorem dL_asked_199 : decode cL_asked 199 = .ok (.iload_n 2, 1) := by decide +kernel
theorem dL_asked_200 : decode cL_asked 200 = .ok (.iconst 1, 1) := by decide +kernel
theorem dL_asked_201 : decode cL_asked 201 = .ok (.invokevirtual 67, 3) := by decide +kernel
theorem dL_asked_204 : decode cL_asked 204 = .ok (.iload_n 3, 1) := by decide +kernel
theorem dL_asked_205 : decode cL_asked 205 = .ok (.iconst 3, 1) := by decide +kernel
theorem dL_asked_206 : decode cL_asked 206 = .ok (.if_icmp .ne 8, 3) := by decide +kernel
theorem dL_asked_209 : decode cL_asked 209 = .ok (.ldc 70, 2) := by decide +kernel
theorem dL_asked_211 : decode cL_asked 211 = .ok (.goto 8, 3) := by decide +kernel
theorem dL_asked_214 : decode cL_asked 214 = .ok (.aload_n 1, 1) := by decide +kernel
theorem dL_asked_215 : decode cL_asked 215 = .ok (.iload_n 2, 1) := by decide +kernel
theorem dL_asked_216 : decode cL_asked 216 = .ok (.invokestatic 33, 3) := by decide +kernel
theorem dL_asked_219 : decode cL_asked 219 = .ok (.if_icmp .ne 7, 3) := by decide +kernel
theorem dL_asked_222 : decode cL_asked 222 = .ok (.iconst 1, 1) := by decide +kernel
theorem dL_asked_223 : decode cL_asked 223 = .ok (.goto 4, 3) := by decide +kernel
theorem dL_asked_226 : decode cL_asked 226 = .ok (.iconst 0, 1) := by decide +kernel
theorem dL_asked_227 : decode cL_asked 227 = .ok (.ireturn, 1) := by decide +kernel
end
section
/-! A calculus over the kit's rows: one fixed world (shp: the shape of every cell), a memory of ints, places for addresses. -/
abbrev Mem : Type := Nat → Nat → Int32
def mu (σ : Mem) (p i : Nat) (v : Int32) : Mem := fun q j => if q = p ∧ j = i then v else σ q j
def mf (σ : Mem) (p : Nat) (g : Nat → Int32) : Mem := fun q => if q = p then g else σ q
/-- an object: its class, its fields (none: an int; some q: the place that it holds); an array: its kind (0 int, 1 boolean), its length; a row of rows: the first's place, how many -/
abbrev Sh : Type := (Nat × List (Option Nat)) ⊕ ((Nat × Nat) ⊕ (Nat × Nat))
def fv (ad : Nat → Nat) (σ : Mem) (p i : Nat) : Option Nat → Value
  | none => .int (σ p i)
  | some q => .ref (ad q)
def fl (ad : Nat → Nat) (σ : Mem) (p : Nat) : Nat → List (Option Nat) → List Value
  | _, [] => []
  | i, o :: r => fv ad σ p i o :: fl ad σ p (i + 1) r
theorem fl_get (ad : Nat → Nat) (σ : Mem) (p : Nat) : ∀ (fs : List (Option Nat)) (i k : Nat), (fl ad σ p i fs)[k]? = (fs[k]?).map (fv ad σ p (i + k))
  | [], i, k => by simp [fl]
  | o :: r, i, 0 => by simp [fl]
  | o :: r, i, k + 1 => by
    show (fl ad σ p (i + 1) r)[k]? = _
    rw [fl_get ad σ p r (i + 1) k, List.getElem?_cons_succ, show i + 1 + k = i + (k + 1) by omega]
theorem fl_len (ad : Nat → Nat) (σ : Mem) (p : Nat) : ∀ (fs : List (Option Nat)) (i : Nat), (fl ad σ p i fs).length = fs.length
  | [], _ => rfl
  | _ :: r, i => by simp [fl, fl_len ad σ p r (i + 1)]
def ent (ad : Nat → Nat) (cs : Nat → ClassId) (σ : Mem) (p : Nat) : Sh → va_E
  | .inl o => .inr (o.1, fl ad σ p 0 o.2)
  | .inr (.inl a) => .inl (cs a.1, (a.2, .inl (σ p)))
  | .inr (.inr r) => .inl (cs 2, (r.2, .inr (.inr (.inr (.inr (fun j => some (ad (r.1 + j))))))))
def wl (ad : Nat → Nat) (cs : Nat → ClassId) (σ : Mem) : Nat → List Sh → va_W
  | _, [] => []
  | p, sh :: r => (ad p, ent ad cs σ p sh) :: wl ad cs σ (p + 1) r
theorem wl_get (ad : Nat → Nat) (cs : Nat → ClassId) (σ : Mem) : ∀ (l : List Sh) (p k : Nat), (wl ad cs σ p l)[k]? = (l[k]?).map (fun sh => (ad (p + k), ent ad cs σ (p + k) sh))
  | [], p, k => by simp [wl]
  | sh :: r, p, 0 => by simp [wl]
  | sh :: r, p, k + 1 => by
    show (wl ad cs σ (p + 1) r)[k]? = _
    rw [wl_get ad cs σ r (p + 1) k, List.getElem?_cons_succ, show p + 1 + k = p + (k + 1) by omega]
theorem wl_at {ad : Nat → Nat} {cs : Nat → ClassId} {σ : Mem} {l : List Sh} {k : Nat} {sh : Sh} (h : l[k]? = some sh) : (wl ad cs σ 0 l)[k]? = some (ad k, ent ad cs σ k sh) := by
  rw [wl_get, h, Nat.zero_add]; rfl
theorem fl_congr {ad : Nat → Nat} {σ σ' : Mem} {p : Nat} (h : σ p = σ' p) : ∀ (fs : List (Option Nat)) (i : Nat), fl ad σ p i fs = fl ad σ' p i fs
  | [], _ => rfl
  | o :: r, i => by
    show fv ad σ p i o :: _ = fv ad σ' p i o :: _
    rw [fl_congr h r (i + 1)]
    cases o <;> simp [fv, h]
theorem ent_congr {ad : Nat → Nat} {cs : Nat → ClassId} {σ σ' : Mem} {p : Nat} (h : σ p = σ' p) : ∀ sh : Sh, ent ad cs σ p sh = ent ad cs σ' p sh
  | .inl o => by show Sum.inr (o.1, fl ad σ p 0 o.2) = Sum.inr (o.1, fl ad σ' p 0 o.2); rw [fl_congr h]
  | .inr (.inl a) => by simp only [ent, h]
  | .inr (.inr r) => rfl
theorem wl_set {ad : Nat → Nat} {cs : Nat → ClassId} {σ σ' : Mem} {l : List Sh} {p : Nat} {sh : Sh} (h : l[p]? = some sh) (hq : ∀ q, q ≠ p → σ q = σ' q) {e : va_E} (he : e = ent ad cs σ' p sh) : (wl ad cs σ 0 l).set p (ad p, e) = wl ad cs σ' 0 l := by
  subst he
  apply List.ext_getElem?
  intro i
  have hlen : ∀ (l : List Sh) (n : Nat), (wl ad cs σ n l).length = l.length := by
    intro l
    induction l with
    | nil => intro n; rfl
    | cons a r ih => intro n; simp [wl, ih]
  by_cases hi : i = p
  · subst hi
    rw [List.getElem?_set_self (by rw [hlen]; exact (List.getElem?_eq_some_iff.mp h).1), wl_at h]
  · rw [List.getElem?_set_ne (Ne.symm hi), wl_get, wl_get, Nat.zero_add]
    cases l[i]? with
    | none => rfl
    | some s2 => simp only [Option.map_some, ent_congr (hq i hi) s2]
theorem fl_set {ad : Nat → Nat} {σ : Mem} {p k : Nat} {v : Int32} {fs : List (Option Nat)} (hk : fs[k]? = some none) : (fl ad σ p 0 fs).set k (.int v) = fl ad (mu σ p k v) p 0 fs := by
  apply List.ext_getElem?
  intro i
  by_cases hi : i = k
  · subst hi
    rw [List.getElem?_set_self (by rw [fl_len]; exact (List.getElem?_eq_some_iff.mp hk).1), fl_get, hk]
    simp [fv, mu]
  · rw [List.getElem?_set_ne (Ne.symm hi), fl_get, fl_get, Nat.zero_add]
    cases fs[i]? with
    | none => rfl
    | some o => cases o <;> simp [fv, mu, hi]
theorem mu_row (σ : Mem) (p i : Nat) (v : Int32) : mu σ p i v p = upd (σ p) i v := by
  funext j
  simp [mu, upd]
theorem mu_ne {σ : Mem} {p i q : Nat} {v : Int32} (h : q ≠ p) : σ q = mu σ p i v q := by
  funext j
  simp [mu, h]
theorem mf_row (σ : Mem) (p : Nat) (g : Nat → Int32) : mf σ p g p = g := by simp [mf]
theorem mf_ne {σ : Mem} {p q : Nat} {g : Nat → Int32} (h : q ≠ p) : σ q = mf σ p g q := by simp [mf, h]
/-! the world of this claim -/
def shp : List Sh := [
  .inl (5, [some 1, some 2, some 3, some 4, some 5, none]),
  .inl (3, [some 6, some 15, some 16]),
  .inl (2, [some 17, some 18, some 19, none, none, none, none, none, none]),
  .inl (1, [some 20, some 21, some 22, some 23, some 24, some 25, none, none, none, none, none]),
  .inl (4, [some 26, some 37, some 38, some 39, some 50, none, none, none, none, none, none, none]),
  .inl (0, [some 51, none]),
  .inr (.inr (7, 8)), .inr (.inl (0, 60)), .inr (.inl (0, 60)), .inr (.inl (0, 60)), .inr (.inl (0, 60)), .inr (.inl (0, 60)), .inr (.inl (0, 60)), .inr (.inl (0, 60)), .inr (.inl (0, 60)),
  .inr (.inl (0, 8)), .inr (.inl (0, 8)),
  .inr (.inl (0, 10)), .inr (.inl (0, 10)), .inr (.inl (0, 12)),
  .inr (.inl (0, 4)), .inr (.inl (0, 4)), .inr (.inl (0, 128)), .inr (.inl (1, 128)), .inr (.inl (0, 128)), .inr (.inl (0, 5)),
  .inr (.inr (27, 10)), .inr (.inl (0, 10)), .inr (.inl (0, 10)), .inr (.inl (0, 10)), .inr (.inl (0, 10)), .inr (.inl (0, 10)), .inr (.inl (0, 10)), .inr (.inl (0, 10)), .inr (.inl (0, 10)), .inr (.inl (0, 10)), .inr (.inl (0, 10)),
  .inr (.inl (0, 10)), .inr (.inl (0, 10)),
  .inr (.inr (40, 10)), .inr (.inl (0, 10)), .inr (.inl (0, 10)), .inr (.inl (0, 10)), .inr (.inl (0, 10)), .inr (.inl (0, 10)), .inr (.inl (0, 10)), .inr (.inl (0, 10)), .inr (.inl (0, 10)), .inr (.inl (0, 10)), .inr (.inl (0, 10)),
  .inr (.inl (0, 10)),
  .inr (.inl (0, 16))]
theorem shp_len : shp.length = 52 := by decide +kernel
theorem shp_items {j : Nat} (h : j < 8) : shp[7 + j]? = some (.inr (.inl (0, 60))) := by
  rcases (show j = 0 ∨ j = 1 ∨ j = 2 ∨ j = 3 ∨ j = 4 ∨ j = 5 ∨ j = 6 ∨ j = 7 by omega) with rfl | rfl | rfl | rfl | rfl | rfl | rfl | rfl <;> rfl
theorem shp_ways {j : Nat} (h : j < 10) : shp[27 + j]? = some (.inr (.inl (0, 10))) := by
  rcases (show j = 0 ∨ j = 1 ∨ j = 2 ∨ j = 3 ∨ j = 4 ∨ j = 5 ∨ j = 6 ∨ j = 7 ∨ j = 8 ∨ j = 9 by omega) with rfl | rfl | rfl | rfl | rfl | rfl | rfl | rfl | rfl | rfl <;> rfl
theorem shp_near {j : Nat} (h : j < 10) : shp[40 + j]? = some (.inr (.inl (0, 10))) := by
  rcases (show j = 0 ∨ j = 1 ∨ j = 2 ∨ j = 3 ∨ j = 4 ∨ j = 5 ∨ j = 6 ∨ j = 7 ∨ j = 8 ∨ j = 9 by omega) with rfl | rfl | rfl | rfl | rfl | rfl | rfl | rfl | rfl | rfl <;> rfl
def cvv (ad : Nat → Nat) : Value → Value
  | .ref a => .ref (ad a)
  | v => v
theorem cvv_cat (ad : Nat → Nat) (v : Value) : (cvv ad v).category = v.category := by cases v <;> rfl
/-! locals -/
def nth : List (Option Value) → Nat → Option Value
  | [], _ => none
  | a :: _, 0 => a
  | _ :: l, n + 1 => nth l n
def sett : List (Option Value) → Nat → Value → List (Option Value)
  | [], _, _ => []
  | _ :: l, 0, v => some v :: l
  | a :: l, n + 1, v => a :: sett l n v
def nol : List (Option Value) → Bool
  | [] => true
  | some (.long _) :: _ => false
  | some (.double _) :: _ => false
  | _ :: l => nol l
def lvl (ad : Nat → Nat) : Nat → List (Option Value) → List (Nat × Value)
  | _, [] => []
  | i, none :: r => lvl ad (i + 1) r
  | i, some v :: r => (i, cvv ad v) :: lvl ad (i + 1) r
theorem lvl_mem {ad : Nat → Nat} : ∀ {ls : List (Option Value)} {k : Nat} {q : Nat × Value}, q ∈ lvl ad k ls ↔ ∃ (j : Nat) (v : Value), nth ls j = some v ∧ q = (k + j, cvv ad v)
  | [], k, q => by simp [lvl, nth]
  | none :: r, k, q => by
    show q ∈ lvl ad (k + 1) r ↔ _
    rw [lvl_mem (ls := r)]
    constructor
    · rintro ⟨j, v, h1, h2⟩
      exact ⟨j + 1, v, h1, by rw [h2, show k + 1 + j = k + (j + 1) by omega]⟩
    · rintro ⟨j, v, h1, h2⟩
      cases j with
      | zero => cases h1
      | succ j => exact ⟨j, v, h1, by rw [h2, show k + 1 + j = k + (j + 1) by omega]⟩
  | some w :: r, k, q => by
    show q ∈ (k, cvv ad w) :: lvl ad (k + 1) r ↔ _
    rw [List.mem_cons, lvl_mem (ls := r)]
    constructor
    · rintro (h | ⟨j, v, h1, h2⟩)
      · exact ⟨0, w, rfl, h⟩
      · exact ⟨j + 1, v, h1, by rw [h2, show k + 1 + j = k + (j + 1) by omega]⟩
    · rintro ⟨j, v, h1, h2⟩
      cases j with
      | zero => cases h1; exact Or.inl h2
      | succ j => exact Or.inr ⟨j, v, h1, by rw [h2, show k + 1 + j = k + (j + 1) by omega]⟩
theorem nth_sett : ∀ (ls : List (Option Value)) (i j : Nat) (v : Value), nth (sett ls i v) j = if j = i ∧ i < ls.length then some v else nth ls j
  | [], i, j, v => by simp [sett, nth]
  | a :: l, 0, 0, v => by simp [sett, nth]
  | a :: l, 0, j + 1, v => by simp [sett, nth]
  | a :: l, i + 1, 0, v => by simp [sett, nth]
  | a :: l, i + 1, j + 1, v => by
    show nth (sett l i v) j = _
    rw [nth_sett l i j v]
    simp [nth]
theorem sett_len : ∀ (ls : List (Option Value)) (i : Nat) (v : Value), (sett ls i v).length = ls.length
  | [], _, _ => rfl
  | _ :: _, 0, _ => rfl
  | _ :: l, i + 1, v => by simp [sett, sett_len l i v]
theorem nol_at : ∀ {ls : List (Option Value)} {j : Nat} {v : Value}, nol ls = true → nth ls j = some v → v.category = 1
  | [], j, v, _, h => by cases h
  | o :: l, 0, v, hn, h => by
    cases h
    cases v <;> first | rfl | (simp [nol] at hn)
  | o :: l, j + 1, v, hn, h => by
    have hl : nol l = true := by
      cases o with
      | none => exact hn
      | some w => cases w <;> first | exact hn | (simp [nol] at hn)
    exact nol_at hl h
theorem lv_keep {ls : Array Slot} {nL : Nat} {l l' : List (Nat × Value)} (h : lv_has ls nL l) (hs : ∀ q ∈ l', q ∈ l) : lv_has ls nL l' := ⟨h.1, h.2.1, fun q hq => h.2.2 q (hs q hq)⟩
theorem lvl_sett {ad : Nat → Nat} {ls : List (Option Value)} {i : Nat} {v : Value} (hn : nol ls = true) : ∀ q ∈ lvl ad 0 (sett ls i v), q ∈ (i, cvv ad v) :: (lvl ad 0 ls).filter (fun q => !(q.1 == i) && !(q.1 + 1 == i && q.2.category == 2)) := by
  intro q hq
  obtain ⟨j, w, h1, h2⟩ := lvl_mem.mp hq
  rw [nth_sett] at h1
  rw [Nat.zero_add] at h2
  by_cases hj : j = i ∧ i < ls.length
  · rw [if_pos hj] at h1
    cases h1
    rw [h2, hj.1]
    exact List.mem_cons_self
  · rw [if_neg hj] at h1
    by_cases hji : j = i
    · have : ls.length ≤ j := by
        rcases Nat.lt_or_ge j ls.length with h | h
        · exact absurd ⟨hji, by omega⟩ hj
        · exact h
      have hz : ∀ (l : List (Option Value)) (n : Nat), l.length ≤ n → nth l n = none := by
        intro l
        induction l with
        | nil => intro n _; rfl
        | cons a r ih =>
          intro n hn
          cases n with
          | zero => simp at hn
          | succ n => exact ih n (by simp at hn; omega)
      rw [hz ls j this] at h1
      cases h1
    · refine List.mem_cons_of_mem _ (List.mem_filter.mpr ⟨lvl_mem.mpr ⟨j, w, h1, by rw [h2, Nat.zero_add]⟩, ?_⟩)
      have hc : (cvv ad w).category = 1 := by rw [cvv_cat]; exact nol_at hn h1
      rw [h2]
      simp [hji, hc]
theorem lvl_nth {ad : Nat → Nat} {ls : List (Option Value)} {lsA : Array Slot} {nL i : Nat} {v : Value} (h : lv_has lsA nL (lvl ad 0 ls)) (hi : nth ls i = some v) : lsA[i]? = some (.val (cvv ad v)) :=
  h.2.2 (i, cvv ad v) (lvl_mem.mpr ⟨i, v, hi, by rw [Nat.zero_add]⟩)
def nestWord : Cond → Bool
  | .fieldLinkNest _ _ _ _ _ _ => true
  | .methodLinkNest _ _ _ _ => true
  | _ => false
/-- the words that a callee may take over: such as stay true behind a step -/
def lw_w : List Cond := lw_tbl.filter (fun w => goodWord w || nestWord w)
theorem lw_mem {w : Cond} (i : Nat) (h : lw_tbl[i]? = some w) (hg : (goodWord w || nestWord w) = true) : w ∈ lw_w := List.mem_filter.mpr ⟨List.mem_of_getElem? h, hg⟩
/-! the judgement: from this pc, these locals, this stack, this memory the method comes to its end -/
abbrev XC : Type := Program × Launch × Env × Room × State × MethodId × Array Value × List Frame × Method × Code × Nat × Nat × (State → Prop) × (Nat → Prop) × va_G × (Nat → Nat) × (Nat → ClassId) × Heap
def tys3 (cs : Nat → ClassId) : List (ClassId × FieldType) := [(cs 0, .int), (cs 1, .boolean), (cs 2, .array .int)]
def Vw (X : XC) (pc : Nat) (ls : List (Option Value)) (st : List Value) (σ : Mem) : Prop := match X with
  | (p, l, e, R, s, m, args, below, meth, c, cells, slots, Q, A, D, ad, cs, H0) =>
    ∀ (H : Heap) (locs : List Loc) (lsA : Array Slot), va_P D vwCl (wl ad cs σ 0 shp) H → va_S A H0 H locs → lv_has lsA ls.length (lvl ad 0 ls) → W p l e R s m args below meth c H locs cells slots Q (F0 m pc lsA (st.map (cvv ad)))
def Cok (X : XC) (own : String) (cc : ByteArray) (nL : Nat) : Prop := match X with
  | (p, _, _, R, s, m, args, _, _, c, cells, slots, _, A, D, ad, cs, _) =>
    p.tables.exec = Jvm.exec ∧ c.code = cc ∧ c.maxLocals = nL ∧ s.vm.findClass own = some m.cls ∧ (∀ w ∈ lw_w, w.before args s = true) ∧ va_K D vwCl (tys3 cs) s ∧ (∀ i j : Nat, i < 52 → j < 52 → ad i = ad j → i = j) ∧ (∀ i : Nat, i < 52 → A (ad i)) ∧ cells ≤ R.cells ∧ slots ≤ R.slots
def Rok (X : XC) (d : Nat) : Prop := match X with
  | (_, _, _, R, _, _, _, _, _, _, _, _, _, _, _, _, _, _) => d ≤ R.frames ∧ 40 * d ≤ R.locals
def inW (ad : Nat → Nat) : Nat → Prop := fun q => ∃ i : Nat, i < 52 ∧ ad i = q
def Qg (D : va_G) (ad : Nat → Nat) (cs : Nat → ClassId) (A : Nat → Prop) (P : Option Value → Mem → Prop) : Array Value → State → Outcome → State → Prop := fun _ st oc t =>
  (∃ (r : Option Value) (σ : Mem), oc = .returned (r.map (cvv ad)) ∧ P r σ ∧ va_P D vwCl (wl ad cs σ 0 shp) t.heap ∧ va_K D vwCl (tys3 cs) t) ∧ va_F A st t
def Ret (X : XC) (ret : Option FieldType) (P : Option Value → Mem → Prop) : Prop := match X with
  | (_, _, _, _, s, _, args, below, meth, _, cells, slots, Q, A, D, ad, cs, H0) => meth.sig.returnType = ret ∧ meth.locks = false ∧ H0 = s.heap ∧ cells = 0 ∧ slots = 0 ∧ Q = MQ below (Qg D ad cs A P) args s 0 0 A
def rmd (d : Nat) : Room := { frames := d, cells := 0, slots := 0, locals := 40 * d }
/-- a method's contract: from these arguments and this memory it answers r and leaves the memory σ', with P r σ' -/
def Cc (y : MethodName) (cc : ByteArray) (mx : Nat) (ret : Option FieldType) (d : Nat) (args : List Value) (σ : Mem) (P : Option Value → Mem → Prop) : Prop :=
  ∀ (l : Launch) (D : va_G) (ad : Nat → Nat) (cs : Nat → ClassId), (∀ i j : Nat, i < 52 → j < 52 → ad i = ad j → i = j) →
    Met l y (Cond.code y cc mx ret :: lw_w) (rmd d) (va_Pc (args.map (cvv ad)) (fun U => va_P D vwCl (wl ad cs σ 0 shp) U.heap ∧ va_K D vwCl (tys3 cs) U)) (Qg D ad cs (inW ad) P) 0 0 (inW ad)
theorem wl_D {A : Nat → Prop} {ad : Nat → Nat} {cs : Nat → ClassId} {σ : Mem} (h1 : ∀ i j : Nat, i < 52 → j < 52 → ad i = ad j → i = j) (h2 : ∀ i : Nat, i < 52 → A (ad i)) : va_D A (wl ad cs σ 0 shp) := by
  have key : ∀ (k : Nat) (q : Nat × va_E), (wl ad cs σ 0 shp)[k]? = some q → k < 52 ∧ q.1 = ad k := by
    intro k q hk
    rw [wl_get, Nat.zero_add] at hk
    cases hs : shp[k]? with
    | none => rw [hs] at hk; cases hk
    | some sh =>
      rw [hs] at hk
      cases hk
      exact ⟨by rw [← shp_len]; exact (List.getElem?_eq_some_iff.mp hs).1, rfl⟩
  refine ⟨fun i j p q hi hj hpq => ?_, fun k q hk => ?_⟩
  · obtain ⟨a1, a2⟩ := key i p hi
    obtain ⟨b1, b2⟩ := key j q hj
    exact h1 i j a1 b1 (by rw [← a2, ← b2]; exact hpq)
  · obtain ⟨a1, a2⟩ := key k q hk
    rw [a2]
    exact h2 k a1
theorem inW_A {ad : Nat → Nat} {A : Nat → Prop} (h2 : ∀ i : Nat, i < 52 → A (ad i)) : ∀ q, inW ad q → A q := by
  rintro q ⟨i, h, rfl⟩
  exact h2 i h
/-- a field of a class of the world, as the table has it -/
def Fld (own : String) (index ci k : Nat) : Prop := ∃ (C : String) (T : u_T) (N : Nat), vwCl[ci]? = some (C, T, N) ∧ k < N ∧ (∀ w ∈ u_ws C T N, w ∈ lw_w) ∧ (∃ ty : Nat → FieldType, ∀ k, k < N → parseFieldDescriptor (T k).2.2.1 = some (ty k)) ∧ (∀ a, a < N → ∀ b, b < N → a ≠ b → (T a).2.1 ≠ (T b).2.1) ∧
  (Cond.fieldLink own index (T k).1 (T k).2.1 (T k).2.2.1 ∈ lw_w ∨ ∃ host, Cond.fieldLinkNest own index (T k).1 (T k).2.1 (T k).2.2.1 host ∈ lw_w)
/-- an int field that is written -/
def Fint (ci k : Nat) : Prop := ∀ (C : String) (T : u_T) (N : Nat), vwCl[ci]? = some (C, T, N) → (T k).2.2.2 = false ∧ parseFieldDescriptor (T k).2.2.1 = some .int
def Mth (own : String) (index : Nat) (y : MethodName) (cc : ByteArray) (mx : Nat) (ret : Option FieldType) (n : Nat) : Prop :=
  (y.cls ≠ "java/lang/invoke/MethodHandle" ∧ y.cls ≠ "java/lang/invoke/VarHandle" ∧ (parseMethodDescriptor y.desc).map (fun d => d.parameters.length) = some n) ∧ mx ≤ 21 ∧ Cond.code y cc mx ret ∈ lw_w ∧ Cond.initialized y.cls ∈ lw_w ∧
  (Cond.methodLink own index y ∈ lw_w ∨ ∃ host, Cond.methodLinkNest own index y host ∈ lw_w)
def MthV (own : String) (index : Nat) (y : MethodName) (ci : Nat) (cc : ByteArray) (mx : Nat) (ret : Option FieldType) (n : Nat) : Prop :=
  Mth own index y cc mx ret n ∧ (∃ (T : u_T) (N : Nat), vwCl[ci]? = some (y.cls, T, N)) ∧ Cond.instanceMethod y ∈ lw_w ∧ Cond.selects y.cls y y ∈ lw_w
def MthS (own : String) (index : Nat) (y : MethodName) (cc : ByteArray) (mx : Nat) (ret : Option FieldType) (n : Nat) : Prop := Mth own index y cc mx ret n ∧ Cond.static y ∈ lw_w
theorem lw_good : lw_w.all (fun w => goodWord w || nestWord w) = true := by
  unfold lw_w
  rw [List.all_eq_true]
  intro w hw
  exact (List.mem_filter.mp hw).2
theorem nest_warm {w : Cond} (hn : nestWord w = true) {args : Array Value} {s : State} (h : w.before args s = true) (a' : Array Value) (U : State) (hW : s.WarmedH U.vm) : w.before a' U = true := by
  cases w <;> first
    | exact va_Nw.use rfl (va_Nw.warmF hW (va_Nw.of rfl h))
    | exact va_Nw.use rfl (va_Nw.warmM hW (va_Nw.of rfl h))
    | (cases hn)
theorem lw_warm {args : Array Value} {s : State} (hts : ∀ w ∈ lw_w, w.before args s = true) (w : Cond) (hw : w ∈ lw_w) (a' : Array Value) (U : State) (hW : s.WarmedH U.vm) : w.before a' U = true := by
  have h1 := List.all_eq_true.mp lw_good w hw
  rcases Bool.or_eq_true _ _ ▸ h1 with h2 | h2
  · exact word_at hW (good_of_word h2) (hts w hw)
  · exact nest_warm h2 (hts w hw) a' U hW
theorem lw_max_st : Cond.static Lib.Math.max.name ∈ lw_w := lw_mem 278 (by decide +kernel) (by decide +kernel)
theorem lw_max_in : Cond.initialized "java/lang/Math" ∈ lw_w := lw_mem 19 (by decide +kernel) (by decide +kernel)
theorem lw_max_co : Cond.code Lib.Math.max.name Lib.Math.max.code 2 (some .int) ∈ lw_w := lw_mem 279 (by decide +kernel) (by decide +kernel)
theorem lw_min_st : Cond.static Lib.Math.min.name ∈ lw_w := lw_mem 247 (by decide +kernel) (by decide +kernel)
theorem lw_min_in : Cond.initialized "java/lang/Math" ∈ lw_w := lw_mem 19 (by decide +kernel) (by decide +kernel)
theorem lw_min_co : Cond.code Lib.Math.min.name Lib.Math.min.code 2 (some .int) ∈ lw_w := lw_mem 248 (by decide +kernel) (by decide +kernel)

theorem V_iconst {X : XC} {own : String} {cc : ByteArray} {nL pc : Nat} {ls : List (Option Value)} {st : List Value} {σ : Mem} {n : Int} {v : Int32} (hX : Cok X own cc nL) (hd : decode cc pc = .ok (.iconst n, 1)) (hv : Int32.ofInt n = v) (kk : Vw X (pc + 1) ls (.int v :: st) σ) : Vw X pc ls (st) σ := by
  obtain ⟨p, l, e, R, s, m, args, below, meth, c, cells, slots, Q, A, D, ad, cs, H0⟩ := X
  intro H locs lsA hP hS hl
  exact lv_iconst hX.1 hX.2.1 hd hv (kk H locs lsA hP hS hl)
theorem V_bipush {X : XC} {own : String} {cc : ByteArray} {nL pc : Nat} {ls : List (Option Value)} {st : List Value} {σ : Mem} {n : Int} {v : Int32} (hX : Cok X own cc nL) (hd : decode cc pc = .ok (.bipush n, 2)) (hv : (Int8.ofInt n).toInt32 = v) (kk : Vw X (pc + 2) ls (.int v :: st) σ) : Vw X pc ls (st) σ := by
  obtain ⟨p, l, e, R, s, m, args, below, meth, c, cells, slots, Q, A, D, ad, cs, H0⟩ := X
  intro H locs lsA hP hS hl
  exact lv_bipush hX.1 hX.2.1 hd hv (kk H locs lsA hP hS hl)
theorem V_sipush {X : XC} {own : String} {cc : ByteArray} {nL pc : Nat} {ls : List (Option Value)} {st : List Value} {σ : Mem} {n : Int} {v : Int32} (hX : Cok X own cc nL) (hd : decode cc pc = .ok (.sipush n, 3)) (hv : (Int16.ofInt n).toInt32 = v) (kk : Vw X (pc + 3) ls (.int v :: st) σ) : Vw X pc ls (st) σ := by
  obtain ⟨p, l, e, R, s, m, args, below, meth, c, cells, slots, Q, A, D, ad, cs, H0⟩ := X
  intro H locs lsA hP hS hl
  exact lv_sipush hX.1 hX.2.1 hd hv (kk H locs lsA hP hS hl)
theorem V_lconst {X : XC} {own : String} {cc : ByteArray} {nL pc : Nat} {ls : List (Option Value)} {st : List Value} {σ : Mem} {n : Fin 2} {v : Int64} (hX : Cok X own cc nL) (hd : decode cc pc = .ok (.lconst n, 1)) (hv : Int64.ofNat (n : Nat) = v) (kk : Vw X (pc + 1) ls (.long v :: st) σ) : Vw X pc ls (st) σ := by
  obtain ⟨p, l, e, R, s, m, args, below, meth, c, cells, slots, Q, A, D, ad, cs, H0⟩ := X
  intro H locs lsA hP hS hl
  exact lv_lconst hX.1 hX.2.1 hd hv (kk H locs lsA hP hS hl)
theorem V_iadd {X : XC} {own : String} {cc : ByteArray} {nL pc : Nat} {ls : List (Option Value)} {st : List Value} {σ : Mem} {x y : Int32} (hX : Cok X own cc nL) (hd : decode cc pc = .ok (.iadd, 1)) (kk : Vw X (pc + 1) ls (.int (x + y) :: st) σ) : Vw X pc ls (.int y :: .int x :: st) σ := by
  obtain ⟨p, l, e, R, s, m, args, below, meth, c, cells, slots, Q, A, D, ad, cs, H0⟩ := X
  intro H locs lsA hP hS hl
  exact lv_iadd hX.1 hX.2.1 hd (kk H locs lsA hP hS hl)
theorem V_isub {X : XC} {own : String} {cc : ByteArray} {nL pc : Nat} {ls : List (Option Value)} {st : List Value} {σ : Mem} {x y : Int32} (hX : Cok X own cc nL) (hd : decode cc pc = .ok (.isub, 1)) (kk : Vw X (pc + 1) ls (.int (x - y) :: st) σ) : Vw X pc ls (.int y :: .int x :: st) σ := by
  obtain ⟨p, l, e, R, s, m, args, below, meth, c, cells, slots, Q, A, D, ad, cs, H0⟩ := X
  intro H locs lsA hP hS hl
  exact lv_isub hX.1 hX.2.1 hd (kk H locs lsA hP hS hl)
theorem V_imul {X : XC} {own : String} {cc : ByteArray} {nL pc : Nat} {ls : List (Option Value)} {st : List Value} {σ : Mem} {x y : Int32} (hX : Cok X own cc nL) (hd : decode cc pc = .ok (.imul, 1)) (kk : Vw X (pc + 1) ls (.int (x * y) :: st) σ) : Vw X pc ls (.int y :: .int x :: st) σ := by
  obtain ⟨p, l, e, R, s, m, args, below, meth, c, cells, slots, Q, A, D, ad, cs, H0⟩ := X
  intro H locs lsA hP hS hl
  exact lv_imul hX.1 hX.2.1 hd (kk H locs lsA hP hS hl)
theorem V_iand {X : XC} {own : String} {cc : ByteArray} {nL pc : Nat} {ls : List (Option Value)} {st : List Value} {σ : Mem} {x y : Int32} (hX : Cok X own cc nL) (hd : decode cc pc = .ok (.iand, 1)) (kk : Vw X (pc + 1) ls (.int (x &&& y) :: st) σ) : Vw X pc ls (.int y :: .int x :: st) σ := by
  obtain ⟨p, l, e, R, s, m, args, below, meth, c, cells, slots, Q, A, D, ad, cs, H0⟩ := X
  intro H locs lsA hP hS hl
  exact lv_iand hX.1 hX.2.1 hd (kk H locs lsA hP hS hl)
theorem V_ior {X : XC} {own : String} {cc : ByteArray} {nL pc : Nat} {ls : List (Option Value)} {st : List Value} {σ : Mem} {x y : Int32} (hX : Cok X own cc nL) (hd : decode cc pc = .ok (.ior, 1)) (kk : Vw X (pc + 1) ls (.int (x ||| y) :: st) σ) : Vw X pc ls (.int y :: .int x :: st) σ := by
  obtain ⟨p, l, e, R, s, m, args, below, meth, c, cells, slots, Q, A, D, ad, cs, H0⟩ := X
  intro H locs lsA hP hS hl
  exact lv_ior hX.1 hX.2.1 hd (kk H locs lsA hP hS hl)
theorem V_ixor {X : XC} {own : String} {cc : ByteArray} {nL pc : Nat} {ls : List (Option Value)} {st : List Value} {σ : Mem} {x y : Int32} (hX : Cok X own cc nL) (hd : decode cc pc = .ok (.ixor, 1)) (kk : Vw X (pc + 1) ls (.int (x ^^^ y) :: st) σ) : Vw X pc ls (.int y :: .int x :: st) σ := by
  obtain ⟨p, l, e, R, s, m, args, below, meth, c, cells, slots, Q, A, D, ad, cs, H0⟩ := X
  intro H locs lsA hP hS hl
  exact lv_ixor hX.1 hX.2.1 hd (kk H locs lsA hP hS hl)
theorem V_ishl {X : XC} {own : String} {cc : ByteArray} {nL pc : Nat} {ls : List (Option Value)} {st : List Value} {σ : Mem} {x y : Int32} (hX : Cok X own cc nL) (hd : decode cc pc = .ok (.ishl, 1)) (kk : Vw X (pc + 1) ls (.int (x <<< (y &&& 31)) :: st) σ) : Vw X pc ls (.int y :: .int x :: st) σ := by
  obtain ⟨p, l, e, R, s, m, args, below, meth, c, cells, slots, Q, A, D, ad, cs, H0⟩ := X
  intro H locs lsA hP hS hl
  exact lv_ishl hX.1 hX.2.1 hd (kk H locs lsA hP hS hl)
theorem V_ishr {X : XC} {own : String} {cc : ByteArray} {nL pc : Nat} {ls : List (Option Value)} {st : List Value} {σ : Mem} {x y : Int32} (hX : Cok X own cc nL) (hd : decode cc pc = .ok (.ishr, 1)) (kk : Vw X (pc + 1) ls (.int (x >>> (y &&& 31)) :: st) σ) : Vw X pc ls (.int y :: .int x :: st) σ := by
  obtain ⟨p, l, e, R, s, m, args, below, meth, c, cells, slots, Q, A, D, ad, cs, H0⟩ := X
  intro H locs lsA hP hS hl
  exact lv_ishr hX.1 hX.2.1 hd (kk H locs lsA hP hS hl)
theorem V_idiv {X : XC} {own : String} {cc : ByteArray} {nL pc : Nat} {ls : List (Option Value)} {st : List Value} {σ : Mem} {x y : Int32} (hX : Cok X own cc nL) (hd : decode cc pc = .ok (.idiv, 1)) (hne : ¬ y = 0) (kk : Vw X (pc + 1) ls (.int (x / y) :: st) σ) : Vw X pc ls (.int y :: .int x :: st) σ := by
  obtain ⟨p, l, e, R, s, m, args, below, meth, c, cells, slots, Q, A, D, ad, cs, H0⟩ := X
  intro H locs lsA hP hS hl
  exact lv_idiv hX.1 hX.2.1 hd hne (kk H locs lsA hP hS hl)
theorem V_irem {X : XC} {own : String} {cc : ByteArray} {nL pc : Nat} {ls : List (Option Value)} {st : List Value} {σ : Mem} {x y : Int32} (hX : Cok X own cc nL) (hd : decode cc pc = .ok (.irem, 1)) (hne : ¬ y = 0) (kk : Vw X (pc + 1) ls (.int (x - x / y * y) :: st) σ) : Vw X pc ls (.int y :: .int x :: st) σ := by
  obtain ⟨p, l, e, R, s, m, args, below, meth, c, cells, slots, Q, A, D, ad, cs, H0⟩ := X
  intro H locs lsA hP hS hl
  exact lv_irem hX.1 hX.2.1 hd hne (kk H locs lsA hP hS hl)
theorem V_iushr {X : XC} {own : String} {cc : ByteArray} {nL pc : Nat} {ls : List (Option Value)} {st : List Value} {σ : Mem} {x y : Int32} (hX : Cok X own cc nL) (hd : decode cc pc = .ok (.iushr, 1)) (kk : Vw X (pc + 1) ls (.int ((x.toUInt32 >>> (y.toUInt32 &&& Int32.toUInt32 31)).toInt32) :: st) σ) : Vw X pc ls (.int y :: .int x :: st) σ := by
  obtain ⟨p, l, e, R, s, m, args, below, meth, c, cells, slots, Q, A, D, ad, cs, H0⟩ := X
  intro H locs lsA hP hS hl
  exact lv_iushr hX.1 hX.2.1 hd rfl (kk H locs lsA hP hS hl)
theorem V_i2l {X : XC} {own : String} {cc : ByteArray} {nL pc : Nat} {ls : List (Option Value)} {st : List Value} {σ : Mem} {x : Int32} (hX : Cok X own cc nL) (hd : decode cc pc = .ok (.i2l, 1)) (kk : Vw X (pc + 1) ls (.long x.toInt64 :: st) σ) : Vw X pc ls (.int x :: st) σ := by
  obtain ⟨p, l, e, R, s, m, args, below, meth, c, cells, slots, Q, A, D, ad, cs, H0⟩ := X
  intro H locs lsA hP hS hl
  exact lv_i2l hX.1 hX.2.1 hd rfl (kk H locs lsA hP hS hl)
theorem V_i2b {X : XC} {own : String} {cc : ByteArray} {nL pc : Nat} {ls : List (Option Value)} {st : List Value} {σ : Mem} {x : Int32} (hX : Cok X own cc nL) (hd : decode cc pc = .ok (.i2b, 1)) (kk : Vw X (pc + 1) ls (.int x.toInt8.toInt32 :: st) σ) : Vw X pc ls (.int x :: st) σ := by
  obtain ⟨p, l, e, R, s, m, args, below, meth, c, cells, slots, Q, A, D, ad, cs, H0⟩ := X
  intro H locs lsA hP hS hl
  exact lv_i2b hX.1 hX.2.1 hd rfl (kk H locs lsA hP hS hl)
theorem V_i2s {X : XC} {own : String} {cc : ByteArray} {nL pc : Nat} {ls : List (Option Value)} {st : List Value} {σ : Mem} {x : Int32} (hX : Cok X own cc nL) (hd : decode cc pc = .ok (.i2s, 1)) (kk : Vw X (pc + 1) ls (.int x.toInt16.toInt32 :: st) σ) : Vw X pc ls (.int x :: st) σ := by
  obtain ⟨p, l, e, R, s, m, args, below, meth, c, cells, slots, Q, A, D, ad, cs, H0⟩ := X
  intro H locs lsA hP hS hl
  exact lv_i2s hX.1 hX.2.1 hd rfl (kk H locs lsA hP hS hl)
theorem V_ladd {X : XC} {own : String} {cc : ByteArray} {nL pc : Nat} {ls : List (Option Value)} {st : List Value} {σ : Mem} {x y : Int64} (hX : Cok X own cc nL) (hd : decode cc pc = .ok (.ladd, 1)) (kk : Vw X (pc + 1) ls (.long (x + y) :: st) σ) : Vw X pc ls (.long y :: .long x :: st) σ := by
  obtain ⟨p, l, e, R, s, m, args, below, meth, c, cells, slots, Q, A, D, ad, cs, H0⟩ := X
  intro H locs lsA hP hS hl
  exact lv_ladd hX.1 hX.2.1 hd (kk H locs lsA hP hS hl)
theorem V_lcmp {X : XC} {own : String} {cc : ByteArray} {nL pc : Nat} {ls : List (Option Value)} {st : List Value} {σ : Mem} {x y : Int64} (hX : Cok X own cc nL) (hd : decode cc pc = .ok (.lcmp, 1)) (kk : Vw X (pc + 1) ls (.int (lg_cmp x y) :: st) σ) : Vw X pc ls (.long y :: .long x :: st) σ := by
  obtain ⟨p, l, e, R, s, m, args, below, meth, c, cells, slots, Q, A, D, ad, cs, H0⟩ := X
  intro H locs lsA hP hS hl
  exact W.lcmp hX.1 hX.2.1 hd (kk H locs lsA hP hS hl)
theorem V_dup {X : XC} {own : String} {cc : ByteArray} {nL pc : Nat} {ls : List (Option Value)} {st : List Value} {σ : Mem} {v : Value} (hX : Cok X own cc nL) (hd : decode cc pc = .ok (.dup, 1)) (hc : v.category = 1) (kk : Vw X (pc + 1) ls (v :: v :: st) σ) : Vw X pc ls (v :: st) σ := by
  obtain ⟨p, l, e, R, s, m, args, below, meth, c, cells, slots, Q, A, D, ad, cs, H0⟩ := X
  intro H locs lsA hP hS hl
  exact lv_dup hX.1 hX.2.1 hd (by rw [cvv_cat]; exact hc) (kk H locs lsA hP hS hl)
theorem V_dup2 {X : XC} {own : String} {cc : ByteArray} {nL pc : Nat} {ls : List (Option Value)} {st : List Value} {σ : Mem} {v u : Value} (hX : Cok X own cc nL) (hd : decode cc pc = .ok (.dup2, 1)) (hc : v.category = 1) (hc2 : u.category = 1) (kk : Vw X (pc + 1) ls (v :: u :: v :: u :: st) σ) : Vw X pc ls (v :: u :: st) σ := by
  obtain ⟨p, l, e, R, s, m, args, below, meth, c, cells, slots, Q, A, D, ad, cs, H0⟩ := X
  intro H locs lsA hP hS hl
  exact lv_dup2_11 hX.1 hX.2.1 hd (by rw [cvv_cat]; exact hc) (by rw [cvv_cat]; exact hc2) (kk H locs lsA hP hS hl)
theorem V_iload_n {X : XC} {own : String} {cc : ByteArray} {nL pc : Nat} {ls : List (Option Value)} {st : List Value} {σ : Mem} {k : Fin 4} {i : Nat} {x : Int32} (hX : Cok X own cc nL) (hd : decode cc pc = .ok (.iload_n k, 1)) (hi : (k : Nat) = i) (h : nth ls i = some (.int x)) (kk : Vw X (pc + 1) ls (.int x :: st) σ) : Vw X pc ls st σ := by
  obtain ⟨p, l, e, R, s, m, args, below, meth, c, cells, slots, Q, A, D, ad, cs, H0⟩ := X
  intro H locs lsA hP hS hl
  exact lv_iload_n hX.1 hX.2.1 hd hi (lvl_nth hl h) (kk H locs lsA hP hS hl)
theorem V_iload {X : XC} {own : String} {cc : ByteArray} {nL pc : Nat} {ls : List (Option Value)} {st : List Value} {σ : Mem} {i : Nat} {x : Int32} (hX : Cok X own cc nL) (hd : decode cc pc = .ok (.iload i, 2)) (h : nth ls i = some (.int x)) (kk : Vw X (pc + 2) ls (.int x :: st) σ) : Vw X pc ls st σ := by
  obtain ⟨p, l, e, R, s, m, args, below, meth, c, cells, slots, Q, A, D, ad, cs, H0⟩ := X
  intro H locs lsA hP hS hl
  exact lv_iload hX.1 hX.2.1 hd (lvl_nth hl h) (kk H locs lsA hP hS hl)
theorem V_aload_n {X : XC} {own : String} {cc : ByteArray} {nL pc : Nat} {ls : List (Option Value)} {st : List Value} {σ : Mem} {k : Fin 4} {i : Nat} {x : Nat} (hX : Cok X own cc nL) (hd : decode cc pc = .ok (.aload_n k, 1)) (hi : (k : Nat) = i) (h : nth ls i = some (.ref x)) (kk : Vw X (pc + 1) ls (.ref x :: st) σ) : Vw X pc ls st σ := by
  obtain ⟨p, l, e, R, s, m, args, below, meth, c, cells, slots, Q, A, D, ad, cs, H0⟩ := X
  intro H locs lsA hP hS hl
  exact lv_aload_n hX.1 hX.2.1 hd hi (lvl_nth hl h) (kk H locs lsA hP hS hl)
theorem V_aload {X : XC} {own : String} {cc : ByteArray} {nL pc : Nat} {ls : List (Option Value)} {st : List Value} {σ : Mem} {i : Nat} {x : Nat} (hX : Cok X own cc nL) (hd : decode cc pc = .ok (.aload i, 2)) (h : nth ls i = some (.ref x)) (kk : Vw X (pc + 2) ls (.ref x :: st) σ) : Vw X pc ls st σ := by
  obtain ⟨p, l, e, R, s, m, args, below, meth, c, cells, slots, Q, A, D, ad, cs, H0⟩ := X
  intro H locs lsA hP hS hl
  exact lv_aload hX.1 hX.2.1 hd (lvl_nth hl h) (kk H locs lsA hP hS hl)
theorem V_lload_n {X : XC} {own : String} {cc : ByteArray} {nL pc : Nat} {ls : List (Option Value)} {st : List Value} {σ : Mem} {k : Fin 4} {i : Nat} {x : Int64} (hX : Cok X own cc nL) (hd : decode cc pc = .ok (.lload_n k, 1)) (hi : (k : Nat) = i) (h : nth ls i = some (.long x)) (kk : Vw X (pc + 1) ls (.long x :: st) σ) : Vw X pc ls st σ := by
  obtain ⟨p, l, e, R, s, m, args, below, meth, c, cells, slots, Q, A, D, ad, cs, H0⟩ := X
  intro H locs lsA hP hS hl
  exact lv_lload_n hX.1 hX.2.1 hd hi (lvl_nth hl h) (kk H locs lsA hP hS hl)
theorem V_lload {X : XC} {own : String} {cc : ByteArray} {nL pc : Nat} {ls : List (Option Value)} {st : List Value} {σ : Mem} {i : Nat} {x : Int64} (hX : Cok X own cc nL) (hd : decode cc pc = .ok (.lload i, 2)) (h : nth ls i = some (.long x)) (kk : Vw X (pc + 2) ls (.long x :: st) σ) : Vw X pc ls st σ := by
  obtain ⟨p, l, e, R, s, m, args, below, meth, c, cells, slots, Q, A, D, ad, cs, H0⟩ := X
  intro H locs lsA hP hS hl
  exact lv_lload hX.1 hX.2.1 hd (lvl_nth hl h) (kk H locs lsA hP hS hl)
theorem V_istore_n {X : XC} {own : String} {cc : ByteArray} {nL pc : Nat} {ls : List (Option Value)} {st : List Value} {σ : Mem} {k : Fin 4} {i : Nat} {x : Int32} {ls2 : List (Option Value)} (hX : Cok X own cc nL) (hd : decode cc pc = .ok (.istore_n k, 1)) (hi : (k : Nat) = i) (hn : nol ls = true) (hlt : i < ls.length) (he : sett ls i (.int x) = ls2) (kk : Vw X (pc + 1) ls2 st σ) : Vw X pc ls (.int x :: st) σ := by
  obtain ⟨p, l, e, R, s, m, args, below, meth, c, cells, slots, Q, A, D, ad, cs, H0⟩ := X
  subst he
  intro H locs lsA hP hS hl
  exact lv_istore_n hX.1 hX.2.1 hd hi hl hlt rfl (fun ls9 h9 => kk H locs ls9 hP hS (by rw [sett_len]; exact lv_keep h9 (lvl_sett hn)))
theorem V_istore {X : XC} {own : String} {cc : ByteArray} {nL pc : Nat} {ls : List (Option Value)} {st : List Value} {σ : Mem} {i : Nat} {x : Int32} {ls2 : List (Option Value)} (hX : Cok X own cc nL) (hd : decode cc pc = .ok (.istore i, 2)) (hn : nol ls = true) (hlt : i < ls.length) (he : sett ls i (.int x) = ls2) (kk : Vw X (pc + 2) ls2 st σ) : Vw X pc ls (.int x :: st) σ := by
  obtain ⟨p, l, e, R, s, m, args, below, meth, c, cells, slots, Q, A, D, ad, cs, H0⟩ := X
  subst he
  intro H locs lsA hP hS hl
  exact lv_istore hX.1 hX.2.1 hd hl hlt rfl (fun ls9 h9 => kk H locs ls9 hP hS (by rw [sett_len]; exact lv_keep h9 (lvl_sett hn)))
theorem V_astore_n {X : XC} {own : String} {cc : ByteArray} {nL pc : Nat} {ls : List (Option Value)} {st : List Value} {σ : Mem} {k : Fin 4} {i : Nat} {x : Nat} {ls2 : List (Option Value)} (hX : Cok X own cc nL) (hd : decode cc pc = .ok (.astore_n k, 1)) (hi : (k : Nat) = i) (hn : nol ls = true) (hlt : i < ls.length) (he : sett ls i (.ref x) = ls2) (kk : Vw X (pc + 1) ls2 st σ) : Vw X pc ls (.ref x :: st) σ := by
  obtain ⟨p, l, e, R, s, m, args, below, meth, c, cells, slots, Q, A, D, ad, cs, H0⟩ := X
  subst he
  intro H locs lsA hP hS hl
  exact lv_astore_n hX.1 hX.2.1 hd hi hl hlt rfl (fun ls9 h9 => kk H locs ls9 hP hS (by rw [sett_len]; exact lv_keep h9 (lvl_sett hn)))
theorem V_astore {X : XC} {own : String} {cc : ByteArray} {nL pc : Nat} {ls : List (Option Value)} {st : List Value} {σ : Mem} {i : Nat} {x : Nat} {ls2 : List (Option Value)} (hX : Cok X own cc nL) (hd : decode cc pc = .ok (.astore i, 2)) (hn : nol ls = true) (hlt : i < ls.length) (he : sett ls i (.ref x) = ls2) (kk : Vw X (pc + 2) ls2 st σ) : Vw X pc ls (.ref x :: st) σ := by
  obtain ⟨p, l, e, R, s, m, args, below, meth, c, cells, slots, Q, A, D, ad, cs, H0⟩ := X
  subst he
  intro H locs lsA hP hS hl
  exact lv_astore hX.1 hX.2.1 hd hl hlt rfl (fun ls9 h9 => kk H locs ls9 hP hS (by rw [sett_len]; exact lv_keep h9 (lvl_sett hn)))
theorem V_iinc {X : XC} {own : String} {cc : ByteArray} {nL pc : Nat} {ls : List (Option Value)} {st : List Value} {σ : Mem} {i : Nat} {n : Int} {x v : Int32} {ls2 : List (Option Value)} (hX : Cok X own cc nL) (hd : decode cc pc = .ok (.iinc i n, 3)) (hn : nol ls = true) (h : nth ls i = some (.int x)) (hv : x + Int32.ofInt n = v) (hlt : i < ls.length) (he : sett ls i (.int v) = ls2) (kk : Vw X (pc + 3) ls2 st σ) : Vw X pc ls st σ := by
  obtain ⟨p, l, e, R, s, m, args, below, meth, c, cells, slots, Q, A, D, ad, cs, H0⟩ := X
  subst he
  intro H locs lsA hP hS hl
  obtain ⟨k, hk⟩ := List.getElem?_of_mem (lvl_mem.mpr ⟨i, .int x, h, rfl⟩ : _ ∈ lvl ad 0 ls)
  rw [Nat.zero_add] at hk
  exact lv_iinc hX.1 hX.2.1 hd hl hk hv hlt rfl (fun ls9 h9 => kk H locs ls9 hP hS (by rw [sett_len]; exact lv_keep h9 (lvl_sett hn)))
theorem V_istore0 {X : XC} {own : String} {cc : ByteArray} {nL pc : Nat} {b : Option Value} {r : List (Option Value)} {st : List Value} {σ : Mem} {x : Int32} (hX : Cok X own cc nL) (hd : decode cc pc = .ok (.istore_n 0, 1)) (hn : nol (b :: r) = true) (kk : Vw X (pc + 1) (some (.int x) :: r) st σ) : Vw X pc (b :: r) (.int x :: st) σ := V_istore_n (i := 0) hX hd rfl hn (by simp only [List.length_cons]; omega) rfl kk
theorem V_iinc0 {X : XC} {own : String} {cc : ByteArray} {nL pc : Nat} {r : List (Option Value)} {st : List Value} {σ : Mem} {n : Int} {x v : Int32} (hX : Cok X own cc nL) (hd : decode cc pc = .ok (.iinc 0 n, 3)) (hn : nol (some (.int x) :: r) = true) (hv : x + Int32.ofInt n = v) (kk : Vw X (pc + 3) (some (.int v) :: r) st σ) : Vw X pc (some (.int x) :: r) st σ := V_iinc (i := 0) hX hd hn rfl hv (by simp only [List.length_cons]; omega) rfl kk
theorem V_istore1 {X : XC} {own : String} {cc : ByteArray} {nL pc : Nat} {a0 : Option Value} {b : Option Value} {r : List (Option Value)} {st : List Value} {σ : Mem} {x : Int32} (hX : Cok X own cc nL) (hd : decode cc pc = .ok (.istore_n 1, 1)) (hn : nol (a0 :: b :: r) = true) (kk : Vw X (pc + 1) (a0 :: some (.int x) :: r) st σ) : Vw X pc (a0 :: b :: r) (.int x :: st) σ := V_istore_n (i := 1) hX hd rfl hn (by simp only [List.length_cons]; omega) rfl kk
theorem V_iinc1 {X : XC} {own : String} {cc : ByteArray} {nL pc : Nat} {a0 : Option Value} {r : List (Option Value)} {st : List Value} {σ : Mem} {n : Int} {x v : Int32} (hX : Cok X own cc nL) (hd : decode cc pc = .ok (.iinc 1 n, 3)) (hn : nol (a0 :: some (.int x) :: r) = true) (hv : x + Int32.ofInt n = v) (kk : Vw X (pc + 3) (a0 :: some (.int v) :: r) st σ) : Vw X pc (a0 :: some (.int x) :: r) st σ := V_iinc (i := 1) hX hd hn rfl hv (by simp only [List.length_cons]; omega) rfl kk
theorem V_istore2 {X : XC} {own : String} {cc : ByteArray} {nL pc : Nat} {a0 a1 : Option Value} {b : Option Value} {r : List (Option Value)} {st : List Value} {σ : Mem} {x : Int32} (hX : Cok X own cc nL) (hd : decode cc pc = .ok (.istore_n 2, 1)) (hn : nol (a0 :: a1 :: b :: r) = true) (kk : Vw X (pc + 1) (a0 :: a1 :: some (.int x) :: r) st σ) : Vw X pc (a0 :: a1 :: b :: r) (.int x :: st) σ := V_istore_n (i := 2) hX hd rfl hn (by simp only [List.length_cons]; omega) rfl kk
theorem V_iinc2 {X : XC} {own : String} {cc : ByteArray} {nL pc : Nat} {a0 a1 : Option Value} {r : List (Option Value)} {st : List Value} {σ : Mem} {n : Int} {x v : Int32} (hX : Cok X own cc nL) (hd : decode cc pc = .ok (.iinc 2 n, 3)) (hn : nol (a0 :: a1 :: some (.int x) :: r) = true) (hv : x + Int32.ofInt n = v) (kk : Vw X (pc + 3) (a0 :: a1 :: some (.int v) :: r) st σ) : Vw X pc (a0 :: a1 :: some (.int x) :: r) st σ := V_iinc (i := 2) hX hd hn rfl hv (by simp only [List.length_cons]; omega) rfl kk
theorem V_istore3 {X : XC} {own : String} {cc : ByteArray} {nL pc : Nat} {a0 a1 a2 : Option Value} {b : Option Value} {r : List (Option Value)} {st : List Value} {σ : Mem} {x : Int32} (hX : Cok X own cc nL) (hd : decode cc pc = .ok (.istore_n 3, 1)) (hn : nol (a0 :: a1 :: a2 :: b :: r) = true) (kk : Vw X (pc + 1) (a0 :: a1 :: a2 :: some (.int x) :: r) st σ) : Vw X pc (a0 :: a1 :: a2 :: b :: r) (.int x :: st) σ := V_istore_n (i := 3) hX hd rfl hn (by simp only [List.length_cons]; omega) rfl kk
theorem V_iinc3 {X : XC} {own : String} {cc : ByteArray} {nL pc : Nat} {a0 a1 a2 : Option Value} {r : List (Option Value)} {st : List Value} {σ : Mem} {n : Int} {x v : Int32} (hX : Cok X own cc nL) (hd : decode cc pc = .ok (.iinc 3 n, 3)) (hn : nol (a0 :: a1 :: a2 :: some (.int x) :: r) = true) (hv : x + Int32.ofInt n = v) (kk : Vw X (pc + 3) (a0 :: a1 :: a2 :: some (.int v) :: r) st σ) : Vw X pc (a0 :: a1 :: a2 :: some (.int x) :: r) st σ := V_iinc (i := 3) hX hd hn rfl hv (by simp only [List.length_cons]; omega) rfl kk
theorem V_istore4 {X : XC} {own : String} {cc : ByteArray} {nL pc : Nat} {a0 a1 a2 a3 : Option Value} {b : Option Value} {r : List (Option Value)} {st : List Value} {σ : Mem} {x : Int32} (hX : Cok X own cc nL) (hd : decode cc pc = .ok (.istore 4, 2)) (hn : nol (a0 :: a1 :: a2 :: a3 :: b :: r) = true) (kk : Vw X (pc + 2) (a0 :: a1 :: a2 :: a3 :: some (.int x) :: r) st σ) : Vw X pc (a0 :: a1 :: a2 :: a3 :: b :: r) (.int x :: st) σ := V_istore (i := 4) hX hd hn (by simp only [List.length_cons]; omega) rfl kk
theorem V_iinc4 {X : XC} {own : String} {cc : ByteArray} {nL pc : Nat} {a0 a1 a2 a3 : Option Value} {r : List (Option Value)} {st : List Value} {σ : Mem} {n : Int} {x v : Int32} (hX : Cok X own cc nL) (hd : decode cc pc = .ok (.iinc 4 n, 3)) (hn : nol (a0 :: a1 :: a2 :: a3 :: some (.int x) :: r) = true) (hv : x + Int32.ofInt n = v) (kk : Vw X (pc + 3) (a0 :: a1 :: a2 :: a3 :: some (.int v) :: r) st σ) : Vw X pc (a0 :: a1 :: a2 :: a3 :: some (.int x) :: r) st σ := V_iinc (i := 4) hX hd hn rfl hv (by simp only [List.length_cons]; omega) rfl kk
theorem V_istore5 {X : XC} {own : String} {cc : ByteArray} {nL pc : Nat} {a0 a1 a2 a3 a4 : Option Value} {b : Option Value} {r : List (Option Value)} {st : List Value} {σ : Mem} {x : Int32} (hX : Cok X own cc nL) (hd : decode cc pc = .ok (.istore 5, 2)) (hn : nol (a0 :: a1 :: a2 :: a3 :: a4 :: b :: r) = true) (kk : Vw X (pc + 2) (a0 :: a1 :: a2 :: a3 :: a4 :: some (.int x) :: r) st σ) : Vw X pc (a0 :: a1 :: a2 :: a3 :: a4 :: b :: r) (.int x :: st) σ := V_istore (i := 5) hX hd hn (by simp only [List.length_cons]; omega) rfl kk
theorem V_iinc5 {X : XC} {own : String} {cc : ByteArray} {nL pc : Nat} {a0 a1 a2 a3 a4 : Option Value} {r : List (Option Value)} {st : List Value} {σ : Mem} {n : Int} {x v : Int32} (hX : Cok X own cc nL) (hd : decode cc pc = .ok (.iinc 5 n, 3)) (hn : nol (a0 :: a1 :: a2 :: a3 :: a4 :: some (.int x) :: r) = true) (hv : x + Int32.ofInt n = v) (kk : Vw X (pc + 3) (a0 :: a1 :: a2 :: a3 :: a4 :: some (.int v) :: r) st σ) : Vw X pc (a0 :: a1 :: a2 :: a3 :: a4 :: some (.int x) :: r) st σ := V_iinc (i := 5) hX hd hn rfl hv (by simp only [List.length_cons]; omega) rfl kk
theorem V_istore6 {X : XC} {own : String} {cc : ByteArray} {nL pc : Nat} {a0 a1 a2 a3 a4 a5 : Option Value} {b : Option Value} {r : List (Option Value)} {st : List Value} {σ : Mem} {x : Int32} (hX : Cok X own cc nL) (hd : decode cc pc = .ok (.istore 6, 2)) (hn : nol (a0 :: a1 :: a2 :: a3 :: a4 :: a5 :: b :: r) = true) (kk : Vw X (pc + 2) (a0 :: a1 :: a2 :: a3 :: a4 :: a5 :: some (.int x) :: r) st σ) : Vw X pc (a0 :: a1 :: a2 :: a3 :: a4 :: a5 :: b :: r) (.int x :: st) σ := V_istore (i := 6) hX hd hn (by simp only [List.length_cons]; omega) rfl kk
theorem V_iinc6 {X : XC} {own : String} {cc : ByteArray} {nL pc : Nat} {a0 a1 a2 a3 a4 a5 : Option Value} {r : List (Option Value)} {st : List Value} {σ : Mem} {n : Int} {x v : Int32} (hX : Cok X own cc nL) (hd : decode cc pc = .ok (.iinc 6 n, 3)) (hn : nol (a0 :: a1 :: a2 :: a3 :: a4 :: a5 :: some (.int x) :: r) = true) (hv : x + Int32.ofInt n = v) (kk : Vw X (pc + 3) (a0 :: a1 :: a2 :: a3 :: a4 :: a5 :: some (.int v) :: r) st σ) : Vw X pc (a0 :: a1 :: a2 :: a3 :: a4 :: a5 :: some (.int x) :: r) st σ := V_iinc (i := 6) hX hd hn rfl hv (by simp only [List.length_cons]; omega) rfl kk
theorem V_istore7 {X : XC} {own : String} {cc : ByteArray} {nL pc : Nat} {a0 a1 a2 a3 a4 a5 a6 : Option Value} {b : Option Value} {r : List (Option Value)} {st : List Value} {σ : Mem} {x : Int32} (hX : Cok X own cc nL) (hd : decode cc pc = .ok (.istore 7, 2)) (hn : nol (a0 :: a1 :: a2 :: a3 :: a4 :: a5 :: a6 :: b :: r) = true) (kk : Vw X (pc + 2) (a0 :: a1 :: a2 :: a3 :: a4 :: a5 :: a6 :: some (.int x) :: r) st σ) : Vw X pc (a0 :: a1 :: a2 :: a3 :: a4 :: a5 :: a6 :: b :: r) (.int x :: st) σ := V_istore (i := 7) hX hd hn (by simp only [List.length_cons]; omega) rfl kk
theorem V_iinc7 {X : XC} {own : String} {cc : ByteArray} {nL pc : Nat} {a0 a1 a2 a3 a4 a5 a6 : Option Value} {r : List (Option Value)} {st : List Value} {σ : Mem} {n : Int} {x v : Int32} (hX : Cok X own cc nL) (hd : decode cc pc = .ok (.iinc 7 n, 3)) (hn : nol (a0 :: a1 :: a2 :: a3 :: a4 :: a5 :: a6 :: some (.int x) :: r) = true) (hv : x + Int32.ofInt n = v) (kk : Vw X (pc + 3) (a0 :: a1 :: a2 :: a3 :: a4 :: a5 :: a6 :: some (.int v) :: r) st σ) : Vw X pc (a0 :: a1 :: a2 :: a3 :: a4 :: a5 :: a6 :: some (.int x) :: r) st σ := V_iinc (i := 7) hX hd hn rfl hv (by simp only [List.length_cons]; omega) rfl kk
theorem V_istore8 {X : XC} {own : String} {cc : ByteArray} {nL pc : Nat} {a0 a1 a2 a3 a4 a5 a6 a7 : Option Value} {b : Option Value} {r : List (Option Value)} {st : List Value} {σ : Mem} {x : Int32} (hX : Cok X own cc nL) (hd : decode cc pc = .ok (.istore 8, 2)) (hn : nol (a0 :: a1 :: a2 :: a3 :: a4 :: a5 :: a6 :: a7 :: b :: r) = true) (kk : Vw X (pc + 2) (a0 :: a1 :: a2 :: a3 :: a4 :: a5 :: a6 :: a7 :: some (.int x) :: r) st σ) : Vw X pc (a0 :: a1 :: a2 :: a3 :: a4 :: a5 :: a6 :: a7 :: b :: r) (.int x :: st) σ := V_istore (i := 8) hX hd hn (by simp only [List.length_cons]; omega) rfl kk
theorem V_iinc8 {X : XC} {own : String} {cc : ByteArray} {nL pc : Nat} {a0 a1 a2 a3 a4 a5 a6 a7 : Option Value} {r : List (Option Value)} {st : List Value} {σ : Mem} {n : Int} {x v : Int32} (hX : Cok X own cc nL) (hd : decode cc pc = .ok (.iinc 8 n, 3)) (hn : nol (a0 :: a1 :: a2 :: a3 :: a4 :: a5 :: a6 :: a7 :: some (.int x) :: r) = true) (hv : x + Int32.ofInt n = v) (kk : Vw X (pc + 3) (a0 :: a1 :: a2 :: a3 :: a4 :: a5 :: a6 :: a7 :: some (.int v) :: r) st σ) : Vw X pc (a0 :: a1 :: a2 :: a3 :: a4 :: a5 :: a6 :: a7 :: some (.int x) :: r) st σ := V_iinc (i := 8) hX hd hn rfl hv (by simp only [List.length_cons]; omega) rfl kk
theorem V_istore9 {X : XC} {own : String} {cc : ByteArray} {nL pc : Nat} {a0 a1 a2 a3 a4 a5 a6 a7 a8 : Option Value} {b : Option Value} {r : List (Option Value)} {st : List Value} {σ : Mem} {x : Int32} (hX : Cok X own cc nL) (hd : decode cc pc = .ok (.istore 9, 2)) (hn : nol (a0 :: a1 :: a2 :: a3 :: a4 :: a5 :: a6 :: a7 :: a8 :: b :: r) = true) (kk : Vw X (pc + 2) (a0 :: a1 :: a2 :: a3 :: a4 :: a5 :: a6 :: a7 :: a8 :: some (.int x) :: r) st σ) : Vw X pc (a0 :: a1 :: a2 :: a3 :: a4 :: a5 :: a6 :: a7 :: a8 :: b :: r) (.int x :: st) σ := V_istore (i := 9) hX hd hn (by simp only [List.length_cons]; omega) rfl kk
theorem V_iinc9 {X : XC} {own : String} {cc : ByteArray} {nL pc : Nat} {a0 a1 a2 a3 a4 a5 a6 a7 a8 : Option Value} {r : List (Option Value)} {st : List Value} {σ : Mem} {n : Int} {x v : Int32} (hX : Cok X own cc nL) (hd : decode cc pc = .ok (.iinc 9 n, 3)) (hn : nol (a0 :: a1 :: a2 :: a3 :: a4 :: a5 :: a6 :: a7 :: a8 :: some (.int x) :: r) = true) (hv : x + Int32.ofInt n = v) (kk : Vw X (pc + 3) (a0 :: a1 :: a2 :: a3 :: a4 :: a5 :: a6 :: a7 :: a8 :: some (.int v) :: r) st σ) : Vw X pc (a0 :: a1 :: a2 :: a3 :: a4 :: a5 :: a6 :: a7 :: a8 :: some (.int x) :: r) st σ := V_iinc (i := 9) hX hd hn rfl hv (by simp only [List.length_cons]; omega) rfl kk
theorem V_istore10 {X : XC} {own : String} {cc : ByteArray} {nL pc : Nat} {a0 a1 a2 a3 a4 a5 a6 a7 a8 a9 : Option Value} {b : Option Value} {r : List (Option Value)} {st : List Value} {σ : Mem} {x : Int32} (hX : Cok X own cc nL) (hd : decode cc pc = .ok (.istore 10, 2)) (hn : nol (a0 :: a1 :: a2 :: a3 :: a4 :: a5 :: a6 :: a7 :: a8 :: a9 :: b :: r) = true) (kk : Vw X (pc + 2) (a0 :: a1 :: a2 :: a3 :: a4 :: a5 :: a6 :: a7 :: a8 :: a9 :: some (.int x) :: r) st σ) : Vw X pc (a0 :: a1 :: a2 :: a3 :: a4 :: a5 :: a6 :: a7 :: a8 :: a9 :: b :: r) (.int x :: st) σ := V_istore (i := 10) hX hd hn (by simp only [List.length_cons]; omega) rfl kk
theorem V_iinc10 {X : XC} {own : String} {cc : ByteArray} {nL pc : Nat} {a0 a1 a2 a3 a4 a5 a6 a7 a8 a9 : Option Value} {r : List (Option Value)} {st : List Value} {σ : Mem} {n : Int} {x v : Int32} (hX : Cok X own cc nL) (hd : decode cc pc = .ok (.iinc 10 n, 3)) (hn : nol (a0 :: a1 :: a2 :: a3 :: a4 :: a5 :: a6 :: a7 :: a8 :: a9 :: some (.int x) :: r) = true) (hv : x + Int32.ofInt n = v) (kk : Vw X (pc + 3) (a0 :: a1 :: a2 :: a3 :: a4 :: a5 :: a6 :: a7 :: a8 :: a9 :: some (.int v) :: r) st σ) : Vw X pc (a0 :: a1 :: a2 :: a3 :: a4 :: a5 :: a6 :: a7 :: a8 :: a9 :: some (.int x) :: r) st σ := V_iinc (i := 10) hX hd hn rfl hv (by simp only [List.length_cons]; omega) rfl kk
theorem V_istore11 {X : XC} {own : String} {cc : ByteArray} {nL pc : Nat} {a0 a1 a2 a3 a4 a5 a6 a7 a8 a9 a10 : Option Value} {b : Option Value} {r : List (Option Value)} {st : List Value} {σ : Mem} {x : Int32} (hX : Cok X own cc nL) (hd : decode cc pc = .ok (.istore 11, 2)) (hn : nol (a0 :: a1 :: a2 :: a3 :: a4 :: a5 :: a6 :: a7 :: a8 :: a9 :: a10 :: b :: r) = true) (kk : Vw X (pc + 2) (a0 :: a1 :: a2 :: a3 :: a4 :: a5 :: a6 :: a7 :: a8 :: a9 :: a10 :: some (.int x) :: r) st σ) : Vw X pc (a0 :: a1 :: a2 :: a3 :: a4 :: a5 :: a6 :: a7 :: a8 :: a9 :: a10 :: b :: r) (.int x :: st) σ := V_istore (i := 11) hX hd hn (by simp only [List.length_cons]; omega) rfl kk
theorem V_iinc11 {X : XC} {own : String} {cc : ByteArray} {nL pc : Nat} {a0 a1 a2 a3 a4 a5 a6 a7 a8 a9 a10 : Option Value} {r : List (Option Value)} {st : List Value} {σ : Mem} {n : Int} {x v : Int32} (hX : Cok X own cc nL) (hd : decode cc pc = .ok (.iinc 11 n, 3)) (hn : nol (a0 :: a1 :: a2 :: a3 :: a4 :: a5 :: a6 :: a7 :: a8 :: a9 :: a10 :: some (.int x) :: r) = true) (hv : x + Int32.ofInt n = v) (kk : Vw X (pc + 3) (a0 :: a1 :: a2 :: a3 :: a4 :: a5 :: a6 :: a7 :: a8 :: a9 :: a10 :: some (.int v) :: r) st σ) : Vw X pc (a0 :: a1 :: a2 :: a3 :: a4 :: a5 :: a6 :: a7 :: a8 :: a9 :: a10 :: some (.int x) :: r) st σ := V_iinc (i := 11) hX hd hn rfl hv (by simp only [List.length_cons]; omega) rfl kk
theorem V_istore12 {X : XC} {own : String} {cc : ByteArray} {nL pc : Nat} {a0 a1 a2 a3 a4 a5 a6 a7 a8 a9 a10 a11 : Option Value} {b : Option Value} {r : List (Option Value)} {st : List Value} {σ : Mem} {x : Int32} (hX : Cok X own cc nL) (hd : decode cc pc = .ok (.istore 12, 2)) (hn : nol (a0 :: a1 :: a2 :: a3 :: a4 :: a5 :: a6 :: a7 :: a8 :: a9 :: a10 :: a11 :: b :: r) = true) (kk : Vw X (pc + 2) (a0 :: a1 :: a2 :: a3 :: a4 :: a5 :: a6 :: a7 :: a8 :: a9 :: a10 :: a11 :: some (.int x) :: r) st σ) : Vw X pc (a0 :: a1 :: a2 :: a3 :: a4 :: a5 :: a6 :: a7 :: a8 :: a9 :: a10 :: a11 :: b :: r) (.int x :: st) σ := V_istore (i := 12) hX hd hn (by simp only [List.length_cons]; omega) rfl kk
theorem V_iinc12 {X : XC} {own : String} {cc : ByteArray} {nL pc : Nat} {a0 a1 a2 a3 a4 a5 a6 a7 a8 a9 a10 a11 : Option Value} {r : List (Option Value)} {st : List Value} {σ : Mem} {n : Int} {x v : Int32} (hX : Cok X own cc nL) (hd : decode cc pc = .ok (.iinc 12 n, 3)) (hn : nol (a0 :: a1 :: a2 :: a3 :: a4 :: a5 :: a6 :: a7 :: a8 :: a9 :: a10 :: a11 :: some (.int x) :: r) = true) (hv : x + Int32.ofInt n = v) (kk : Vw X (pc + 3) (a0 :: a1 :: a2 :: a3 :: a4 :: a5 :: a6 :: a7 :: a8 :: a9 :: a10 :: a11 :: some (.int v) :: r) st σ) : Vw X pc (a0 :: a1 :: a2 :: a3 :: a4 :: a5 :: a6 :: a7 :: a8 :: a9 :: a10 :: a11 :: some (.int x) :: r) st σ := V_iinc (i := 12) hX hd hn rfl hv (by simp only [List.length_cons]; omega) rfl kk
theorem V_goto {X : XC} {own : String} {cc : ByteArray} {nL pc : Nat} {ls : List (Option Value)} {st : List Value} {σ : Mem} {off : Int} {tgt : Nat} (hX : Cok X own cc nL) (hd : decode cc pc = .ok (.goto off, 3)) (ht : (pc : Int) + off = (tgt : Int)) (kk : Vw X tgt ls st σ) : Vw X pc ls st σ := by
  obtain ⟨p, l, e, R, s, m, args, below, meth, c, cells, slots, Q, A, D, ad, cs, H0⟩ := X
  intro H locs lsA hP hS hl
  exact lv_goto hX.1 hX.2.1 hd ht (kk H locs lsA hP hS hl)
theorem V_icmp_eq {X : XC} {own : String} {cc : ByteArray} {nL pc : Nat} {ls : List (Option Value)} {st : List Value} {σ : Mem} {x y : Int32} {off : Int} {tgt : Nat} (hX : Cok X own cc nL) (hd : decode cc pc = .ok (.if_icmp .eq off, 3)) (ht : (pc : Int) + off = (tgt : Int)) (kt : x = y → Vw X tgt ls st σ) (kf : ¬ x = y → Vw X (pc + 3) ls st σ) : Vw X pc ls (.int y :: .int x :: st) σ := by
  obtain ⟨p, l, e, R, s, m, args, below, meth, c, cells, slots, Q, A, D, ad, cs, H0⟩ := X
  intro H locs lsA hP hS hl
  exact lv_icmp_eq hX.1 hX.2.1 hd ht (fun h => kt h H locs lsA hP hS hl) (fun h => kf h H locs lsA hP hS hl)
theorem V_if_eq {X : XC} {own : String} {cc : ByteArray} {nL pc : Nat} {ls : List (Option Value)} {st : List Value} {σ : Mem} {x : Int32} {off : Int} {tgt : Nat} (hX : Cok X own cc nL) (hd : decode cc pc = .ok (.ifCond .eq off, 3)) (ht : (pc : Int) + off = (tgt : Int)) (kt : x = 0 → Vw X tgt ls st σ) (kf : ¬ x = 0 → Vw X (pc + 3) ls st σ) : Vw X pc ls (.int x :: st) σ := by
  obtain ⟨p, l, e, R, s, m, args, below, meth, c, cells, slots, Q, A, D, ad, cs, H0⟩ := X
  intro H locs lsA hP hS hl
  exact lv_if_eq hX.1 hX.2.1 hd ht (fun h => kt h H locs lsA hP hS hl) (fun h => kf h H locs lsA hP hS hl)
theorem V_icmp_ne {X : XC} {own : String} {cc : ByteArray} {nL pc : Nat} {ls : List (Option Value)} {st : List Value} {σ : Mem} {x y : Int32} {off : Int} {tgt : Nat} (hX : Cok X own cc nL) (hd : decode cc pc = .ok (.if_icmp .ne off, 3)) (ht : (pc : Int) + off = (tgt : Int)) (kt : ¬ x = y → Vw X tgt ls st σ) (kf : x = y → Vw X (pc + 3) ls st σ) : Vw X pc ls (.int y :: .int x :: st) σ := by
  obtain ⟨p, l, e, R, s, m, args, below, meth, c, cells, slots, Q, A, D, ad, cs, H0⟩ := X
  intro H locs lsA hP hS hl
  exact lv_icmp_ne hX.1 hX.2.1 hd ht (fun h => kt h H locs lsA hP hS hl) (fun h => kf h H locs lsA hP hS hl)
theorem V_if_ne {X : XC} {own : String} {cc : ByteArray} {nL pc : Nat} {ls : List (Option Value)} {st : List Value} {σ : Mem} {x : Int32} {off : Int} {tgt : Nat} (hX : Cok X own cc nL) (hd : decode cc pc = .ok (.ifCond .ne off, 3)) (ht : (pc : Int) + off = (tgt : Int)) (kt : ¬ x = 0 → Vw X tgt ls st σ) (kf : x = 0 → Vw X (pc + 3) ls st σ) : Vw X pc ls (.int x :: st) σ := by
  obtain ⟨p, l, e, R, s, m, args, below, meth, c, cells, slots, Q, A, D, ad, cs, H0⟩ := X
  intro H locs lsA hP hS hl
  exact lv_if_ne hX.1 hX.2.1 hd ht (fun h => kt h H locs lsA hP hS hl) (fun h => kf h H locs lsA hP hS hl)
theorem V_icmp_lt {X : XC} {own : String} {cc : ByteArray} {nL pc : Nat} {ls : List (Option Value)} {st : List Value} {σ : Mem} {x y : Int32} {off : Int} {tgt : Nat} (hX : Cok X own cc nL) (hd : decode cc pc = .ok (.if_icmp .lt off, 3)) (ht : (pc : Int) + off = (tgt : Int)) (kt : x < y → Vw X tgt ls st σ) (kf : ¬ x < y → Vw X (pc + 3) ls st σ) : Vw X pc ls (.int y :: .int x :: st) σ := by
  obtain ⟨p, l, e, R, s, m, args, below, meth, c, cells, slots, Q, A, D, ad, cs, H0⟩ := X
  intro H locs lsA hP hS hl
  exact lv_icmp_lt hX.1 hX.2.1 hd ht (fun h => kt h H locs lsA hP hS hl) (fun h => kf h H locs lsA hP hS hl)
theorem V_if_lt {X : XC} {own : String} {cc : ByteArray} {nL pc : Nat} {ls : List (Option Value)} {st : List Value} {σ : Mem} {x : Int32} {off : Int} {tgt : Nat} (hX : Cok X own cc nL) (hd : decode cc pc = .ok (.ifCond .lt off, 3)) (ht : (pc : Int) + off = (tgt : Int)) (kt : x < 0 → Vw X tgt ls st σ) (kf : ¬ x < 0 → Vw X (pc + 3) ls st σ) : Vw X pc ls (.int x :: st) σ := by
  obtain ⟨p, l, e, R, s, m, args, below, meth, c, cells, slots, Q, A, D, ad, cs, H0⟩ := X
  intro H locs lsA hP hS hl
  exact lv_if_lt hX.1 hX.2.1 hd ht (fun h => kt h H locs lsA hP hS hl) (fun h => kf h H locs lsA hP hS hl)
theorem V_icmp_ge {X : XC} {own : String} {cc : ByteArray} {nL pc : Nat} {ls : List (Option Value)} {st : List Value} {σ : Mem} {x y : Int32} {off : Int} {tgt : Nat} (hX : Cok X own cc nL) (hd : decode cc pc = .ok (.if_icmp .ge off, 3)) (ht : (pc : Int) + off = (tgt : Int)) (kt : y ≤ x → Vw X tgt ls st σ) (kf : ¬ y ≤ x → Vw X (pc + 3) ls st σ) : Vw X pc ls (.int y :: .int x :: st) σ := by
  obtain ⟨p, l, e, R, s, m, args, below, meth, c, cells, slots, Q, A, D, ad, cs, H0⟩ := X
  intro H locs lsA hP hS hl
  exact lv_icmp_ge hX.1 hX.2.1 hd ht (fun h => kt h H locs lsA hP hS hl) (fun h => kf h H locs lsA hP hS hl)
theorem V_if_ge {X : XC} {own : String} {cc : ByteArray} {nL pc : Nat} {ls : List (Option Value)} {st : List Value} {σ : Mem} {x : Int32} {off : Int} {tgt : Nat} (hX : Cok X own cc nL) (hd : decode cc pc = .ok (.ifCond .ge off, 3)) (ht : (pc : Int) + off = (tgt : Int)) (kt : 0 ≤ x → Vw X tgt ls st σ) (kf : ¬ 0 ≤ x → Vw X (pc + 3) ls st σ) : Vw X pc ls (.int x :: st) σ := by
  obtain ⟨p, l, e, R, s, m, args, below, meth, c, cells, slots, Q, A, D, ad, cs, H0⟩ := X
  intro H locs lsA hP hS hl
  exact lv_if_ge hX.1 hX.2.1 hd ht (fun h => kt h H locs lsA hP hS hl) (fun h => kf h H locs lsA hP hS hl)
theorem V_icmp_gt {X : XC} {own : String} {cc : ByteArray} {nL pc : Nat} {ls : List (Option Value)} {st : List Value} {σ : Mem} {x y : Int32} {off : Int} {tgt : Nat} (hX : Cok X own cc nL) (hd : decode cc pc = .ok (.if_icmp .gt off, 3)) (ht : (pc : Int) + off = (tgt : Int)) (kt : y < x → Vw X tgt ls st σ) (kf : ¬ y < x → Vw X (pc + 3) ls st σ) : Vw X pc ls (.int y :: .int x :: st) σ := by
  obtain ⟨p, l, e, R, s, m, args, below, meth, c, cells, slots, Q, A, D, ad, cs, H0⟩ := X
  intro H locs lsA hP hS hl
  exact lv_icmp_gt hX.1 hX.2.1 hd ht (fun h => kt h H locs lsA hP hS hl) (fun h => kf h H locs lsA hP hS hl)
theorem V_if_gt {X : XC} {own : String} {cc : ByteArray} {nL pc : Nat} {ls : List (Option Value)} {st : List Value} {σ : Mem} {x : Int32} {off : Int} {tgt : Nat} (hX : Cok X own cc nL) (hd : decode cc pc = .ok (.ifCond .gt off, 3)) (ht : (pc : Int) + off = (tgt : Int)) (kt : 0 < x → Vw X tgt ls st σ) (kf : ¬ 0 < x → Vw X (pc + 3) ls st σ) : Vw X pc ls (.int x :: st) σ := by
  obtain ⟨p, l, e, R, s, m, args, below, meth, c, cells, slots, Q, A, D, ad, cs, H0⟩ := X
  intro H locs lsA hP hS hl
  exact lv_if_gt hX.1 hX.2.1 hd ht (fun h => kt h H locs lsA hP hS hl) (fun h => kf h H locs lsA hP hS hl)
theorem V_icmp_le {X : XC} {own : String} {cc : ByteArray} {nL pc : Nat} {ls : List (Option Value)} {st : List Value} {σ : Mem} {x y : Int32} {off : Int} {tgt : Nat} (hX : Cok X own cc nL) (hd : decode cc pc = .ok (.if_icmp .le off, 3)) (ht : (pc : Int) + off = (tgt : Int)) (kt : x ≤ y → Vw X tgt ls st σ) (kf : ¬ x ≤ y → Vw X (pc + 3) ls st σ) : Vw X pc ls (.int y :: .int x :: st) σ := by
  obtain ⟨p, l, e, R, s, m, args, below, meth, c, cells, slots, Q, A, D, ad, cs, H0⟩ := X
  intro H locs lsA hP hS hl
  exact lv_icmp_le hX.1 hX.2.1 hd ht (fun h => kt h H locs lsA hP hS hl) (fun h => kf h H locs lsA hP hS hl)
theorem V_if_le {X : XC} {own : String} {cc : ByteArray} {nL pc : Nat} {ls : List (Option Value)} {st : List Value} {σ : Mem} {x : Int32} {off : Int} {tgt : Nat} (hX : Cok X own cc nL) (hd : decode cc pc = .ok (.ifCond .le off, 3)) (ht : (pc : Int) + off = (tgt : Int)) (kt : x ≤ 0 → Vw X tgt ls st σ) (kf : ¬ x ≤ 0 → Vw X (pc + 3) ls st σ) : Vw X pc ls (.int x :: st) σ := by
  obtain ⟨p, l, e, R, s, m, args, below, meth, c, cells, slots, Q, A, D, ad, cs, H0⟩ := X
  intro H locs lsA hP hS hl
  exact lv_if_le hX.1 hX.2.1 hd ht (fun h => kt h H locs lsA hP hS hl) (fun h => kf h H locs lsA hP hS hl)
theorem V_tableOut {X : XC} {own : String} {cc : ByteArray} {nL pc : Nat} {ls : List (Option Value)} {st : List Value} {σ : Mem} {dflt lo hi : Int} {offs : Array Int} {len : Nat} {x : Int32} {tgt : Nat} (hX : Cok X own cc nL) (hd : decode cc pc = .ok (.tableswitch dflt lo hi offs, len)) (h : x.toInt < lo ∨ hi < x.toInt) (ht : (pc : Int) + dflt = (tgt : Int)) (kk : Vw X tgt ls st σ) : Vw X pc ls (.int x :: st) σ := by
  obtain ⟨p, l, e, R, s, m, args, below, meth, c, cells, slots, Q, A, D, ad, cs, H0⟩ := X
  intro H locs lsA hP hS hl
  exact lv_tableOut hX.1 hX.2.1 hd h ht (kk H locs lsA hP hS hl)
theorem V_tableIn {X : XC} {own : String} {cc : ByteArray} {nL pc : Nat} {ls : List (Option Value)} {st : List Value} {σ : Mem} {dflt lo hi : Int} {offs : Array Int} {len : Nat} {x : Int32} {off : Int} {tgt : Nat} (hX : Cok X own cc nL) (hd : decode cc pc = .ok (.tableswitch dflt lo hi offs, len)) (h1 : ¬ x.toInt < lo) (h2 : ¬ hi < x.toInt) (ho : offs[(x.toInt - lo).toNat]? = some off) (ht : (pc : Int) + off = (tgt : Int)) (kk : Vw X tgt ls st σ) : Vw X pc ls (.int x :: st) σ := by
  obtain ⟨p, l, e, R, s, m, args, below, meth, c, cells, slots, Q, A, D, ad, cs, H0⟩ := X
  intro H locs lsA hP hS hl
  exact lv_tableIn hX.1 hX.2.1 hd h1 h2 ho ht (kk H locs lsA hP hS hl)
theorem V_lookup {X : XC} {own : String} {cc : ByteArray} {nL pc : Nat} {ls : List (Option Value)} {st : List Value} {σ : Mem} {dflt : Int} {ps : Array (Int × Int)} {len : Nat} {x : Int32} {off : Int} {tgt : Nat} (hX : Cok X own cc nL) (hd : decode cc pc = .ok (.lookupswitch dflt ps, len)) (hp : (ps.toList.zip (ps.toList.drop 1)).all (fun (a, next) => a.1 < next.1) = true) (ho : Op.lookupswitch.offset ps.toList dflt x.toInt = off) (ht : (pc : Int) + off = (tgt : Int)) (kk : Vw X tgt ls st σ) : Vw X pc ls (.int x :: st) σ := by
  obtain ⟨p, l, e, R, s, m, args, below, meth, c, cells, slots, Q, A, D, ad, cs, H0⟩ := X
  intro H locs lsA hP hS hl
  exact lv_lookup hX.1 hX.2.1 hd hp ho ht (kk H locs lsA hP hS hl)
theorem V_ldc {X : XC} {own : String} {cc : ByteArray} {nL pc : Nat} {ls : List (Option Value)} {st : List Value} {σ : Mem} {index : Nat} {v : Int32} (hX : Cok X own cc nL) (hw : Cond.constant own index v ∈ lw_w) (hd : decode cc pc = .ok (.ldc index, 2)) (kk : Vw X (pc + 2) ls (.int v :: st) σ) : Vw X pc ls st σ := by
  obtain ⟨p, l, e, R, s, m, args, below, meth, c, cells, slots, Q, A, D, ad, cs, H0⟩ := X
  intro H locs lsA hP hS hl
  exact lv_ldc hX.1 hX.2.1 hX.2.2.2.1 (hX.2.2.2.2.1 _ hw) hd (kk H locs lsA hP hS hl)
theorem V_ldc2 {X : XC} {own : String} {cc : ByteArray} {nL pc : Nat} {ls : List (Option Value)} {st : List Value} {σ : Mem} {index : Nat} {v : Int64} (hX : Cok X own cc nL) (hw : Cond.constantLong own index v ∈ lw_w) (hd : decode cc pc = .ok (.ldc2_w index, 3)) (kk : Vw X (pc + 3) ls (.long v :: st) σ) : Vw X pc ls st σ := by
  obtain ⟨p, l, e, R, s, m, args, below, meth, c, cells, slots, Q, A, D, ad, cs, H0⟩ := X
  intro H locs lsA hP hS hl
  exact lv_ldc2 hX.1 hX.2.1 hX.2.2.2.1 (hX.2.2.2.2.1 _ hw) hd (kk H locs lsA hP hS hl)
theorem V_getf {X : XC} {own : String} {cc : ByteArray} {nL pc : Nat} {ls : List (Option Value)} {st : List Value} {σ : Mem} {index ci k a : Nat} {fs : List (Option Nat)} (hX : Cok X own cc nL) (hf : Fld own index ci k) (hd : decode cc pc = .ok (.getfield index, 3)) (hs : shp[a]? = some (.inl (ci, fs))) (hv : fs[k]? = some none) (kk : Vw X (pc + 3) ls (.int (σ a k) :: st) σ) : Vw X pc ls (.ref a :: st) σ := by
  obtain ⟨p, l, e, R, s, m, args, below, meth, c, cells, slots, Q, A, D, ad, cs, H0⟩ := X
  intro H locs lsA hP hS hl
  obtain ⟨C, T, N, hc, hk, hin, -, -, hlink⟩ := hf
  obtain ⟨hx, hb, hml, hown, hts, hK, hinj, hA, hcl, hsl⟩ := hX
  have he := wl_at (ad := ad) (cs := cs) (σ := σ) hs
  have hv2 : (fl ad σ a 0 fs)[k]? = some (cvv ad (.int (σ a k))) := by rw [fl_get, hv, Nat.zero_add]; rfl
  rcases hlink with hlink | ⟨host, hlink⟩
  · exact va_get hx hb hts hin hown hK hP a he hc k hk (hts _ hlink) (fun _ h => h) hv2 hd (kk H locs lsA hP hS hl)
  · exact va_getN hx hb hts hin hown hK hP a he hc k hk (hts _ hlink) (fun _ h => h) hv2 hd (kk H locs lsA hP hS hl)
theorem V_getr {X : XC} {own : String} {cc : ByteArray} {nL pc : Nat} {ls : List (Option Value)} {st : List Value} {σ : Mem} {index ci k a : Nat} {fs : List (Option Nat)} {q : Nat} (hX : Cok X own cc nL) (hf : Fld own index ci k) (hd : decode cc pc = .ok (.getfield index, 3)) (hs : shp[a]? = some (.inl (ci, fs))) (hv : fs[k]? = some (some q)) (kk : Vw X (pc + 3) ls (.ref q :: st) σ) : Vw X pc ls (.ref a :: st) σ := by
  obtain ⟨p, l, e, R, s, m, args, below, meth, c, cells, slots, Q, A, D, ad, cs, H0⟩ := X
  intro H locs lsA hP hS hl
  obtain ⟨C, T, N, hc, hk, hin, -, -, hlink⟩ := hf
  obtain ⟨hx, hb, hml, hown, hts, hK, hinj, hA, hcl, hsl⟩ := hX
  have he := wl_at (ad := ad) (cs := cs) (σ := σ) hs
  have hv2 : (fl ad σ a 0 fs)[k]? = some (cvv ad (.ref q)) := by rw [fl_get, hv, Nat.zero_add]; rfl
  rcases hlink with hlink | ⟨host, hlink⟩
  · exact va_get hx hb hts hin hown hK hP a he hc k hk (hts _ hlink) (fun _ h => h) hv2 hd (kk H locs lsA hP hS hl)
  · exact va_getN hx hb hts hin hown hK hP a he hc k hk (hts _ hlink) (fun _ h => h) hv2 hd (kk H locs lsA hP hS hl)
theorem V_putf {X : XC} {own : String} {cc : ByteArray} {nL pc : Nat} {ls : List (Option Value)} {st : List Value} {σ : Mem} {index ci k a : Nat} {fs : List (Option Nat)} {x : Int32} (hX : Cok X own cc nL) (hf : Fld own index ci k) (hi : Fint ci k) (hd : decode cc pc = .ok (.putfield index, 3)) (hs : shp[a]? = some (.inl (ci, fs))) (hv : fs[k]? = some none) (kk : Vw X (pc + 3) ls st (mu σ a k x)) : Vw X pc ls (.int x :: .ref a :: st) σ := by
  obtain ⟨p, l, e, R, s, m, args, below, meth, c, cells, slots, Q, A, D, ad, cs, H0⟩ := X
  intro H locs lsA hP hS hl
  obtain ⟨C, T, N, hc, hk, hin, ⟨ty, hty⟩, hnm, hlink⟩ := hf
  obtain ⟨hx, hb, hml, hown, hts, hK, hinj, hA, hcl, hsl⟩ := hX
  have he := wl_at (ad := ad) (cs := cs) (σ := σ) hs
  have hD : va_D A (wl ad cs σ 0 shp) := wl_D hinj hA
  have hset : (wl ad cs σ 0 shp).set a (ad a, .inr (ci, (fl ad σ a 0 fs).set k (.int x))) = wl ad cs (mu σ a k x) 0 shp := wl_set hs (fun q hq => mu_ne hq) (by rw [fl_set hv]; rfl)
  have hlen : k < (fl ad σ a 0 fs).length := by rw [fl_len]; exact (List.getElem?_eq_some_iff.mp hv).1
  rcases hlink with hlink | ⟨host, hlink⟩
  · exact va_put hx hb hts hin ty hty hnm hown hK hP hD hS a he hc k hk (hts _ hlink) (fun _ h => h) (hi C T N hc).1 (hi C T N hc).2 (show narrow .int (.int x) = .int x from rfl) (show fits .int (.int x) = true from rfl) hlen hd (fun H1 locs1 hP1 _ hS1 => kk H1 locs1 lsA (by rw [← hset]; exact hP1) hS1 hl)
  · exact va_putN hx hb hts hin ty hty hnm hown hK hP hD hS a he hc k hk (hts _ hlink) (fun _ h => h) (hi C T N hc).1 (hi C T N hc).2 (show narrow .int (.int x) = .int x from rfl) (show fits .int (.int x) = true from rfl) hlen hd (fun H1 locs1 hP1 _ hS1 => kk H1 locs1 lsA (by rw [← hset]; exact hP1) hS1 hl)
theorem V_iald {X : XC} {own : String} {cc : ByteArray} {nL pc : Nat} {ls : List (Option Value)} {st : List Value} {σ : Mem} {a n j : Nat} {i : Int32} (hX : Cok X own cc nL) (hd : decode cc pc = .ok (.iaload, 1)) (hs : shp[a]? = some (.inr (.inl (0, n)))) (hi : i = nI j) (hj : j < n) (hn : n < 2 ^ 31) (kk : Vw X (pc + 1) ls (.int (σ a j) :: st) σ) : Vw X pc ls (.int i :: .ref a :: st) σ := by
  obtain ⟨p, l, e, R, s, m, args, below, meth, c, cells, slots, Q, A, D, ad, cs, H0⟩ := X
  intro H locs lsA hP hS hl
  subst hi
  have he := wl_at (ad := ad) (cs := cs) (σ := σ) hs
  refine va_iald hX.1 hX.2.1 hX.2.2.2.2.2.1 hP a 0 he rfl (vp_in_nI hj hn) hd ?_
  rw [nI_clamp (by omega)]
  exact kk H locs lsA hP hS hl
theorem V_zald {X : XC} {own : String} {cc : ByteArray} {nL pc : Nat} {ls : List (Option Value)} {st : List Value} {σ : Mem} {a n j : Nat} {i : Int32} (hX : Cok X own cc nL) (hd : decode cc pc = .ok (.baload, 1)) (hs : shp[a]? = some (.inr (.inl (1, n)))) (hi : i = nI j) (hj : j < n) (hn : n < 2 ^ 31) (kk : Vw X (pc + 1) ls (.int (σ a j) :: st) σ) : Vw X pc ls (.int i :: .ref a :: st) σ := by
  obtain ⟨p, l, e, R, s, m, args, below, meth, c, cells, slots, Q, A, D, ad, cs, H0⟩ := X
  intro H locs lsA hP hS hl
  subst hi
  have he := wl_at (ad := ad) (cs := cs) (σ := σ) hs
  refine va_zald hX.1 hX.2.1 hX.2.2.2.2.2.1 hP a 1 he rfl (vp_in_nI hj hn) hd ?_
  rw [nI_clamp (by omega)]
  exact kk H locs lsA hP hS hl
theorem V_aald {X : XC} {own : String} {cc : ByteArray} {nL pc : Nat} {ls : List (Option Value)} {st : List Value} {σ : Mem} {a r n j : Nat} {i : Int32} (hX : Cok X own cc nL) (hd : decode cc pc = .ok (.aaload, 1)) (hs : shp[a]? = some (.inr (.inr (r, n)))) (hi : i = nI j) (hj : j < n) (hn : n < 2 ^ 31) (kk : Vw X (pc + 1) ls (.ref (r + j) :: st) σ) : Vw X pc ls (.int i :: .ref a :: st) σ := by
  obtain ⟨p, l, e, R, s, m, args, below, meth, c, cells, slots, Q, A, D, ad, cs, H0⟩ := X
  intro H locs lsA hP hS hl
  subst hi
  have he := wl_at (ad := ad) (cs := cs) (σ := σ) hs
  have hc : (nI j).toNatClampNeg = j := nI_clamp (by omega)
  exact W.aald (v := .ref (ad (r + j))) (ty := .array .int) hX.1 hX.2.1 (hP a _ he) ((hX.2.2.2.2.2.1.2 2 _ rfl).1 n (fun j => va_rf (some (ad (r + j))))) rfl (fun q => by cases q) (by show ¬ (nI j < 0 ∨ (arrV _ _ _).slots.size ≤ _); rw [arrV_size]; exact nI_in hj hn) (by show (arrV _ _ _).slots[_]? = _; rw [hc, arrV_read _ _ hj]; rfl) rfl rfl hd (kk H locs lsA hP hS hl)
theorem V_iast {X : XC} {own : String} {cc : ByteArray} {nL pc : Nat} {ls : List (Option Value)} {st : List Value} {σ : Mem} {a n j : Nat} {i x : Int32} (hX : Cok X own cc nL) (hd : decode cc pc = .ok (.iastore, 1)) (hs : shp[a]? = some (.inr (.inl (0, n)))) (hi : i = nI j) (hj : j < n) (hn : n < 2 ^ 31) (kk : Vw X (pc + 1) ls st (mu σ a j x)) : Vw X pc ls (.int x :: .int i :: .ref a :: st) σ := by
  obtain ⟨p, l, e, R, s, m, args, below, meth, c, cells, slots, Q, A, D, ad, cs, H0⟩ := X
  intro H locs lsA hP hS hl
  subst hi
  have he := wl_at (ad := ad) (cs := cs) (σ := σ) hs
  have hset : (wl ad cs σ 0 shp).set a (ad a, .inl (cs 0, n, .inl (upd (σ a) (nI j).toNatClampNeg x))) = wl ad cs (mu σ a j x) 0 shp := wl_set hs (fun q hq => mu_ne hq) (by rw [nI_clamp (by omega)]; simp only [ent, mu_row])
  exact va_iast hX.1 hX.2.1 hX.2.2.2.2.2.1 hP (wl_D hX.2.2.2.2.2.2.1 hX.2.2.2.2.2.2.2.1) hS a 0 he rfl (vp_in_nI hj hn) hd (fun H1 locs1 hP1 _ hS1 => kk H1 locs1 lsA (by rw [← hset]; exact hP1) hS1 hl)
theorem V_zast {X : XC} {own : String} {cc : ByteArray} {nL pc : Nat} {ls : List (Option Value)} {st : List Value} {σ : Mem} {a n j : Nat} {i x : Int32} (hX : Cok X own cc nL) (hd : decode cc pc = .ok (.bastore, 1)) (hs : shp[a]? = some (.inr (.inl (1, n)))) (hi : i = nI j) (hj : j < n) (hn : n < 2 ^ 31) (hx : vp_nar .boolean x = x) (kk : Vw X (pc + 1) ls st (mu σ a j x)) : Vw X pc ls (.int x :: .int i :: .ref a :: st) σ := by
  obtain ⟨p, l, e, R, s, m, args, below, meth, c, cells, slots, Q, A, D, ad, cs, H0⟩ := X
  intro H locs lsA hP hS hl
  subst hi
  have he := wl_at (ad := ad) (cs := cs) (σ := σ) hs
  have hset : (wl ad cs σ 0 shp).set a (ad a, .inl (cs 1, n, .inl (upd (σ a) (nI j).toNatClampNeg (vp_nar .boolean x)))) = wl ad cs (mu σ a j x) 0 shp := wl_set hs (fun q hq => mu_ne hq) (by rw [nI_clamp (by omega), hx]; simp only [ent, mu_row])
  exact va_zast hX.1 hX.2.1 hX.2.2.2.2.2.1 hP (wl_D hX.2.2.2.2.2.2.1 hX.2.2.2.2.2.2.2.1) hS a 1 he rfl (vp_in_nI hj hn) hd (fun H1 locs1 hP1 _ hS1 => kk H1 locs1 lsA (by rw [← hset]; exact hP1) hS1 hl)
def csum (l : List Value) : Nat := (l.map fun v => v.category).sum
theorem csum_map (ad : Nat → Nat) (l : List Value) : ((l.map (cvv ad)).map fun v => v.category).sum = csum l := by
  unfold csum
  rw [List.map_map]
  congr 1
  exact List.map_congr_left (fun v _ => cvv_cat ad v)
theorem V_mmax {X : XC} {own : String} {cc : ByteArray} {nL pc : Nat} {ls : List (Option Value)} {st : List Value} {σ : Mem} {index : Nat} {x y : Int32} (hX : Cok X own cc nL) (hR : Rok X 1) (hw : Cond.methodLink own index Lib.Math.max.name ∈ lw_w) (hd : decode cc pc = .ok (.invokestatic index, 3)) (hnl : ls.length = nL) (hcat : csum st ≤ 8) (kk : Vw X (pc + 3) ls (.int (if x < y then y else x) :: st) σ) : Vw X pc ls (.int y :: .int x :: st) σ := by
  obtain ⟨p, l, e, R, s, m, args, below, meth, c, cells, slots, Q, A, D, ad, cs, H0⟩ := X
  intro H locs lsA hP hS hl
  obtain ⟨hx, hb, hml, hown, hts, hK, hinj, hA, hcl, hsl⟩ := hX
  exact va_mmax hx hb (by rw [hml, ← hnl]; exact hl.1.symm) hown (hts _ hw) (hts _ lw_max_st) (hts _ lw_max_in) (hts _ lw_max_co) hR.1 (by rw [csum_map]; have := hR.2; omega) hcl hsl hd (kk H locs lsA hP hS hl)
theorem V_mmin {X : XC} {own : String} {cc : ByteArray} {nL pc : Nat} {ls : List (Option Value)} {st : List Value} {σ : Mem} {index : Nat} {x y : Int32} (hX : Cok X own cc nL) (hR : Rok X 1) (hw : Cond.methodLink own index Lib.Math.min.name ∈ lw_w) (hd : decode cc pc = .ok (.invokestatic index, 3)) (hnl : ls.length = nL) (hcat : csum st ≤ 8) (kk : Vw X (pc + 3) ls (.int (if y < x then y else x) :: st) σ) : Vw X pc ls (.int y :: .int x :: st) σ := by
  obtain ⟨p, l, e, R, s, m, args, below, meth, c, cells, slots, Q, A, D, ad, cs, H0⟩ := X
  intro H locs lsA hP hS hl
  obtain ⟨hx, hb, hml, hown, hts, hK, hinj, hA, hcl, hsl⟩ := hX
  exact va_mmin hx hb (by rw [hml, ← hnl]; exact hl.1.symm) hown (hts _ hw) (hts _ lw_min_st) (hts _ lw_min_in) (hts _ lw_min_co) hR.1 (by rw [csum_map]; have := hR.2; omega) hcl hsl hd (kk H locs lsA hP hS hl)
theorem V_iret {X : XC} {own : String} {cc : ByteArray} {nL pc : Nat} {ls : List (Option Value)} {st : List Value} {σ : Mem} {v : Int32} {ty : FieldType} {P : Option Value → Mem → Prop} (hX : Cok X own cc nL) (hr : Ret X (some ty) P) (hn : narrow ty (.int v) = .int v) (hd : decode cc pc = .ok (.ireturn, 1)) (hp : P (some (.int v)) σ) : Vw X pc ls [.int v] σ := by
  obtain ⟨p, l, e, R, s, m, args, below, meth, c, cells, slots, Q, A, D, ad, cs, H0⟩ := X
  intro H locs lsA hP hS hl
  obtain ⟨h1, h2, h3, h4, h5, h6⟩ := hr
  subst h3; subst h4; subst h5; subst h6
  exact W.zret hX.1 hX.2.1 h1 hn (fun t ht hW => ⟨⟨(some (.int v)), σ, rfl, hp, by rw [ht]; exact hP, va_K.moved hW.alike hX.2.2.2.2.2.1⟩, hS.F ht⟩) hS.2.2 hd (hlocks := h2)
theorem V_vret {X : XC} {own : String} {cc : ByteArray} {nL pc : Nat} {ls : List (Option Value)} {st : List Value} {σ : Mem} {P : Option Value → Mem → Prop} (hX : Cok X own cc nL) (hr : Ret X none P) (hd : decode cc pc = .ok (.return_, 1)) (hp : P none σ) : Vw X pc ls [] σ := by
  obtain ⟨p, l, e, R, s, m, args, below, meth, c, cells, slots, Q, A, D, ad, cs, H0⟩ := X
  intro H locs lsA hP hS hl
  obtain ⟨h1, h2, h3, h4, h5, h6⟩ := hr
  subst h3; subst h4; subst h5; subst h6
  exact W.vret hX.1 hX.2.1 h1 (fun t ht hW => ⟨⟨none, σ, rfl, hp, by rw [ht]; exact hP, va_K.moved hW.alike hX.2.2.2.2.2.1⟩, hS.F ht⟩) hS.2.2 hd (hlocks := h2)
theorem Cc.intro {y : MethodName} {cc : ByteArray} {mx : Nat} {ret : Option FieldType} {d : Nat} {args : List Value} {σ : Mem} {P : Option Value → Mem → Prop} (hy : plainName y.cls = true) (ls0 : List (Option Value)) (he : ∀ ad : Nat → Nat, lvl ad 0 ls0 = lv_args 0 (args.map (cvv ad))) (hlen : ls0.length = mx) (hle : ∀ ad : Nat → Nat, (lg_sl (args.map (cvv ad))).length ≤ mx)
    (h : ∀ X : XC, Cok X y.cls cc mx → Rok X d → Ret X ret P → Vw X 0 ls0 [] σ) : Cc y cc mx ret d args σ P := by
  intro l D ad cs hinj
  refine Met.ofW (cc := cc) (maxL := mx) (ret := ret) hy rfl ?_
  intro p e s m args' below meth c s₁ B hml hv
  obtain ⟨rfl, hP, hK⟩ := hv
  have hts := atoms_spec (ws := Cond.code y cc mx ret :: lw_w) B.pre
  have hown : s.vm.findClass y.cls = some m.cls := findClass_of_methodNamed B.named
  have hl := lv_entry (args.map (cvv ad)) (n := mx) (hle ad)
  rw [lg_entry_eq]
  generalize (lg_sl (args.map (cvv ad)) ++ List.replicate (mx - (lg_sl (args.map (cvv ad))).length) Slot.unset).toArray = ls at hl ⊢
  rw [← he ad] at hl
  exact h (p, l, e, (headSpec (Cond.code y cc mx ret :: lw_w) (rmd d)).room, s, m, (args.map (cvv ad)).toArray, below, meth, c, 0, 0, MQ below (Qg D ad cs (inW ad) P) (args.map (cvv ad)).toArray s 0 0 (inW ad), inW ad, D, ad, cs, s.heap)
    ⟨B.exec, B.bytes, hml, hown, fun w hw => hts w (List.mem_cons_of_mem _ hw), hK, hinj, fun i hi => ⟨i, hi, rfl⟩, Nat.zero_le _, Nat.zero_le _⟩ ⟨Nat.le_refl _, Nat.le_refl _⟩ ⟨B.returns, B.notSynchronized, rfl, rfl, rfl, rfl⟩ s.heap [] ls hP va_S.rf (by rw [hlen]; exact hl)
theorem Cc.mono {y : MethodName} {cc : ByteArray} {mx : Nat} {ret : Option FieldType} {d : Nat} {args : List Value} {σ : Mem} {P P' : Option Value → Mem → Prop} (h : Cc y cc mx ret d args σ P) (hPP : ∀ r σ', P r σ' → P' r σ') : Cc y cc mx ret d args σ P' := by
  intro l D ad cs hinj
  intro p e ha hc hk s m args' below hf hfit happ hq
  obtain ⟨k, o, h1, h2, h3, h4⟩ := h l D ad cs hinj p e ha hc hk s m args' below hf hfit happ hq
  obtain ⟨⟨⟨r, σ', a1, a2, a3⟩, a4⟩, a5⟩ := h4
  exact ⟨k, o, h1, h2, h3, ⟨⟨r, σ', a1, hPP r σ' a2, a3⟩, a4⟩, a5⟩
theorem Pc_blind {D : va_G} {ad : Nat → Nat} {cs : Nat → ClassId} {σ : Mem} {av : List Value} : FrameBlind (va_Pc av (fun U => va_P D vwCl (wl ad cs σ 0 shp) U.heap ∧ va_K D vwCl (tys3 cs) U)) := fun a U g mk q => by
  obtain ⟨q0, qP, qK⟩ := q
  exact ⟨q0, qP, va_K.moved (u := U) (U := U.calling g mk a) (Vm.Alike.refl U.vm) qK⟩
theorem V_callV {X : XC} {own : String} {cc : ByteArray} {nL pc : Nat} {ls : List (Option Value)} {st : List Value} {σ : Mem} {index n d mx : Nat} {y : MethodName} {bytes : ByteArray} {ret : Option FieldType} {As rest : List Value} {P : Option Value → Mem → Prop} {ci b : Nat} {fs : List (Option Nat)} (hX : Cok X own cc nL) (hR : Rok X (d + 1)) (hm : MthV own index y ci bytes mx ret n) (hC : Cc y bytes mx ret d (.ref b :: As) σ P) (hd : decode cc pc = .ok (.invokevirtual index, 3)) (hs : shp[b]? = some (.inl (ci, fs))) (hn : As.length = n) (hnl : ls.length = nL) (hst : st = As.reverse ++ .ref b :: rest) (hcat : csum rest ≤ 8) (kk : ∀ (r : Option Value) (σ2 : Mem), P r σ2 → Vw X (pc + 3) ls (r.toList ++ rest) σ2) : Vw X pc ls st σ := by
  obtain ⟨p, l, e, R, s, m, args, below, meth, c, cells, slots, Q, A, D, ad, cs, H0⟩ := X
  intro H locs lsA hP hS hl
  obtain ⟨hx, hb, hml, hown, hts, hK, hinj, hA, hcl, hsl⟩ := hX
  have hM := hC l D ad cs hinj
  have hroom : (rmd d).frames + 1 ≤ R.frames ∧ 8 + (mx + 11) + (rmd d).locals ≤ R.locals := ⟨hR.1, by have h9 := hR.2; have h8 := hm.1.2.1; show 8 + (mx + 11) + 40 * d ≤ R.locals; omega⟩
  have hGw : ∀ w ∈ Cond.code y bytes mx ret :: lw_w, w ∈ lw_w := fun w hw => (List.mem_cons.mp hw).elim (fun e => by rw [e]; exact hm.1.2.2.1) id
  have hstk : st.map (cvv ad) = (As.map (cvv ad)).reverse ++ .ref (ad b) :: rest.map (cvv ad) := by rw [hst]; simp [List.map_append, List.map_reverse, cvv]
  have hcat2 : 2 * (F0 m pc lsA (rest.map (cvv ad))).monitorRoom + ((rest.map (cvv ad)).map fun v => v.category).sum ≤ 8 := by
    show 2 * 0 + _ ≤ 8
    rw [csum_map]
    omega
  have hws : ∀ w ∈ Cond.code y bytes mx ret :: lw_w, ∀ (a' : Array Value) (U : State), s.WarmedH U.vm → w.before a' U = true := fun w hw a' U hW => lw_warm hts w (hGw w hw) a' U hW
  have hlen9 : ∀ sig, parseMethodDescriptor y.desc = some sig → n = sig.parameters.length := fun sig h => by
    have h2 := hm.1.1.2.2
    rw [h] at h2
    exact (Option.some.inj h2).symm
  have hfix : CallFix p m c cc nL s args lw_w own := ⟨hx, hb, hml, hown, hts⟩
  have run : va_Run p l e R s m args below meth c H locs cells slots 0 0 (F0 m pc lsA (st.map (cvv ad))) (rest.map (cvv ad)) (Qg D ad cs (inW ad) P (Value.ref (ad b) :: As.map (cvv ad)).toArray) (inW ad) := by
    obtain ⟨⟨hd1, hmx, hco, hini, hlk⟩, ⟨T9, N9, hcl9⟩, hins, hsel⟩ := hm
    have he := wl_at (ad := ad) (cs := cs) (σ := σ) hs
    have hrecv : ∃ cellB : Cell, H[ad b]? = some cellB ∧ cellB.vm.isStatics = false ∧ s.vm.findClass y.cls = some cellB.cls := va_recv hK hP hcl9 he
    have hpre : PreV s H y.cls (ad b) (va_Pc (.ref (ad b) :: As.map (cvv ad)) (fun U => va_P D vwCl (wl ad cs σ 0 shp) U.heap ∧ va_K D vwCl (tys3 cs) U)) (As.map (cvv ad)) := ⟨Pc_blind, hrecv, fun U hU hW => ⟨rfl, by rw [hU]; exact hP, va_K.moved hW.alike hK⟩⟩
    rcases hlk with hlk | ⟨host, hlk⟩
    · exact va_runV hfix hM (C := y.cls) ⟨⟨rfl, rfl, hroom.1, hroom.2, hws, List.mem_cons_self, hts _ hco, hts _ hini, ⟨hd1.1, hd1.2.1⟩, hlen9, hts _ hlk⟩, hts _ hins, hts _ hsel⟩ hpre rfl (by rw [List.length_map]; exact hn) (by rw [← hnl]; exact hl.1) hstk hcat2 hd ⟨hcl, hsl⟩
    · exact va_runVN hfix hM (C := y.cls) ⟨⟨⟨rfl, rfl, hroom.1, hroom.2, hws, List.mem_cons_self⟩, hts _ hco, hts _ hini, ⟨hd1.1, hd1.2.1⟩, hlen9, hts _ hlk⟩, hts _ hins, hts _ hsel⟩ hpre rfl (by rw [List.length_map]; exact hn) (by rw [← hnl]; exact hl.1) hstk hcat2 hd ⟨hcl, hsl⟩
  intro T hT XS
  obtain ⟨v, st₀, t, T', L, h0, X', hL, e1, e2, ⟨⟨r, σ', hoc, hPr, hP', hK'⟩, hz, hk⟩, stp⟩ := run T hT XS
  have hv : v = r.map (cvv ad) := Outcome.returned.inj hoc
  rw [h0] at hz hk
  obtain ⟨t2, a1, b1⟩ := kk r σ' hPr T'.heap (locs ++ L) lsA (by rw [e1]; exact hP')
    ⟨Nat.le_trans hS.1 (by rw [e1]; exact hz), fun q h1 h2 => by rw [e1, hk q (Nat.lt_of_lt_of_le h1 hS.1) (fun z => h2 (inW_A hA q z))]; exact hS.2.1 q h1 h2, fun q hq => by
      rcases List.mem_append.mp hq with h | h
      · exact hS.2.2 q h
      · exact inW_A hA _ (hL q h)⟩ hl T' rfl X'
  refine ⟨t2, stp t2 ?_, b1⟩
  have hst2 : v.toList ++ rest.map (cvv ad) = (r.toList ++ rest).map (cvv ad) := by
    rw [hv]
    cases r <;> rfl
  rw [hst2]
  exact a1
theorem V_callS {X : XC} {own : String} {cc : ByteArray} {nL pc : Nat} {ls : List (Option Value)} {st : List Value} {σ : Mem} {index n d mx : Nat} {y : MethodName} {bytes : ByteArray} {ret : Option FieldType} {As rest : List Value} {P : Option Value → Mem → Prop} (hX : Cok X own cc nL) (hR : Rok X (d + 1)) (hm : MthS own index y bytes mx ret n) (hC : Cc y bytes mx ret d (As) σ P) (hd : decode cc pc = .ok (.invokestatic index, 3)) (hn : As.length = n) (hnl : ls.length = nL) (hst : st = As.reverse ++ rest) (hcat : csum rest ≤ 8) (kk : ∀ (r : Option Value) (σ2 : Mem), P r σ2 → Vw X (pc + 3) ls (r.toList ++ rest) σ2) : Vw X pc ls st σ := by
  obtain ⟨p, l, e, R, s, m, args, below, meth, c, cells, slots, Q, A, D, ad, cs, H0⟩ := X
  intro H locs lsA hP hS hl
  obtain ⟨hx, hb, hml, hown, hts, hK, hinj, hA, hcl, hsl⟩ := hX
  have hM := hC l D ad cs hinj
  have hroom : (rmd d).frames + 1 ≤ R.frames ∧ 8 + (mx + 11) + (rmd d).locals ≤ R.locals := ⟨hR.1, by have h9 := hR.2; have h8 := hm.1.2.1; show 8 + (mx + 11) + 40 * d ≤ R.locals; omega⟩
  have hGw : ∀ w ∈ Cond.code y bytes mx ret :: lw_w, w ∈ lw_w := fun w hw => (List.mem_cons.mp hw).elim (fun e => by rw [e]; exact hm.1.2.2.1) id
  have hstk : st.map (cvv ad) = (As.map (cvv ad)).reverse ++ rest.map (cvv ad) := by rw [hst]; simp [List.map_append, List.map_reverse, cvv]
  have hcat2 : 2 * (F0 m pc lsA (rest.map (cvv ad))).monitorRoom + ((rest.map (cvv ad)).map fun v => v.category).sum ≤ 8 := by
    show 2 * 0 + _ ≤ 8
    rw [csum_map]
    omega
  have hws : ∀ w ∈ Cond.code y bytes mx ret :: lw_w, ∀ (a' : Array Value) (U : State), s.WarmedH U.vm → w.before a' U = true := fun w hw a' U hW => lw_warm hts w (hGw w hw) a' U hW
  have hlen9 : ∀ sig, parseMethodDescriptor y.desc = some sig → n = sig.parameters.length := fun sig h => by
    have h2 := hm.1.1.2.2
    rw [h] at h2
    exact (Option.some.inj h2).symm
  have hfix : CallFix p m c cc nL s args lw_w own := ⟨hx, hb, hml, hown, hts⟩
  have run : va_Run p l e R s m args below meth c H locs cells slots 0 0 (F0 m pc lsA (st.map (cvv ad))) (rest.map (cvv ad)) (Qg D ad cs (inW ad) P (As.map (cvv ad)).toArray) (inW ad) := by
    obtain ⟨⟨hd1, hmx, hco, hini, hlk⟩, hstat⟩ := hm
    have hpre : PreS s H (va_Pc (As.map (cvv ad)) (fun U => va_P D vwCl (wl ad cs σ 0 shp) U.heap ∧ va_K D vwCl (tys3 cs) U)) (As.map (cvv ad)) := ⟨Pc_blind, fun U hU hW => ⟨rfl, by rw [hU]; exact hP, va_K.moved hW.alike hK⟩⟩
    rcases hlk with hlk | ⟨host, hlk⟩
    · exact va_runS hfix hM ⟨⟨rfl, rfl, hroom.1, hroom.2, hws, List.mem_cons_self, hts _ hco, hts _ hini, ⟨hd1.1, hd1.2.1⟩, hlen9, hts _ hlk⟩, hts _ hstat⟩ hpre rfl (by rw [List.length_map]; exact hn) (by rw [← hnl]; exact hl.1) hstk hcat2 hd ⟨hcl, hsl⟩
    · exact va_runSN hfix hM ⟨⟨⟨rfl, rfl, hroom.1, hroom.2, hws, List.mem_cons_self⟩, hts _ hco, hts _ hini, ⟨hd1.1, hd1.2.1⟩, hlen9, hts _ hlk⟩, hts _ hstat, trivial⟩ hpre rfl (by rw [List.length_map]; exact hn) (by rw [← hnl]; exact hl.1) hstk hcat2 hd ⟨hcl, hsl⟩
  intro T hT XS
  obtain ⟨v, st₀, t, T', L, h0, X', hL, e1, e2, ⟨⟨r, σ', hoc, hPr, hP', hK'⟩, hz, hk⟩, stp⟩ := run T hT XS
  have hv : v = r.map (cvv ad) := Outcome.returned.inj hoc
  rw [h0] at hz hk
  obtain ⟨t2, a1, b1⟩ := kk r σ' hPr T'.heap (locs ++ L) lsA (by rw [e1]; exact hP')
    ⟨Nat.le_trans hS.1 (by rw [e1]; exact hz), fun q h1 h2 => by rw [e1, hk q (Nat.lt_of_lt_of_le h1 hS.1) (fun z => h2 (inW_A hA q z))]; exact hS.2.1 q h1 h2, fun q hq => by
      rcases List.mem_append.mp hq with h | h
      · exact hS.2.2 q h
      · exact inW_A hA _ (hL q h)⟩ hl T' rfl X'
  refine ⟨t2, stp t2 ?_, b1⟩
  have hst2 : v.toList ++ rest.map (cvv ad) = (r.toList ++ rest).map (cvv ad) := by
    rw [hv]
    cases r <;> rfl
  rw [hst2]
  exact a1
end
section
theorem iuX0 : ∀ w ∈ u_ws RX0 TX0 2, w ∈ lw_w := by decide +kernel
theorem iuX1 : ∀ w ∈ u_ws RX1 TX1 11, w ∈ lw_w := by decide +kernel
theorem iuX2 : ∀ w ∈ u_ws RX2 TX2 9, w ∈ lw_w := by decide +kernel
theorem iuX3 : ∀ w ∈ u_ws RX3 TX3 3, w ∈ lw_w := by decide +kernel
theorem iuX4 : ∀ w ∈ u_ws RX4 TX4 12, w ∈ lw_w := by decide +kernel
theorem iuX5 : ∀ w ∈ u_ws RX5 TX5 6, w ∈ lw_w := by decide +kernel
theorem fX3_11 : Fld RX3 11 3 0 := ⟨RX3, TX3, 3, rfl, Nat.le_of_ble_eq_true rfl, iuX3, ⟨tyX3, tyX3_ok⟩, nmX3, Or.inl (lw_mem 37 (by decide +kernel) (by decide +kernel))⟩
theorem fX3_16 : Fld RX3 16 3 1 := ⟨RX3, TX3, 3, rfl, Nat.le_of_ble_eq_true rfl, iuX3, ⟨tyX3, tyX3_ok⟩, nmX3, Or.inl (lw_mem 38 (by decide +kernel) (by decide +kernel))⟩
theorem fX3_20 : Fld RX3 20 3 2 := ⟨RX3, TX3, 3, rfl, Nat.le_of_ble_eq_true rfl, iuX3, ⟨tyX3, tyX3_ok⟩, nmX3, Or.inl (lw_mem 39 (by decide +kernel) (by decide +kernel))⟩
theorem fX2_9 : Fld RX2 9 2 0 := ⟨RX2, TX2, 9, rfl, Nat.le_of_ble_eq_true rfl, iuX2, ⟨tyX2, tyX2_ok⟩, nmX2, Or.inl (lw_mem 54 (by decide +kernel) (by decide +kernel))⟩
theorem fX0_48 : Fld RX0 48 2 0 := ⟨RX2, TX2, 9, rfl, Nat.le_of_ble_eq_true rfl, iuX2, ⟨tyX2, tyX2_ok⟩, nmX2, Or.inr ⟨"BuyAsAsked", lw_mem 55 (by decide +kernel) (by decide +kernel)⟩⟩
theorem fX5_126 : Fld RX5 126 2 0 := ⟨RX2, TX2, 9, rfl, Nat.le_of_ble_eq_true rfl, iuX2, ⟨tyX2, tyX2_ok⟩, nmX2, Or.inr ⟨"BuyAsAsked", lw_mem 56 (by decide +kernel) (by decide +kernel)⟩⟩
theorem fX2_15 : Fld RX2 15 2 1 := ⟨RX2, TX2, 9, rfl, Nat.le_of_ble_eq_true rfl, iuX2, ⟨tyX2, tyX2_ok⟩, nmX2, Or.inl (lw_mem 57 (by decide +kernel) (by decide +kernel))⟩
theorem fX0_57 : Fld RX0 57 2 1 := ⟨RX2, TX2, 9, rfl, Nat.le_of_ble_eq_true rfl, iuX2, ⟨tyX2, tyX2_ok⟩, nmX2, Or.inr ⟨"BuyAsAsked", lw_mem 58 (by decide +kernel) (by decide +kernel)⟩⟩
theorem fX5_130 : Fld RX5 130 2 1 := ⟨RX2, TX2, 9, rfl, Nat.le_of_ble_eq_true rfl, iuX2, ⟨tyX2, tyX2_ok⟩, nmX2, Or.inr ⟨"BuyAsAsked", lw_mem 59 (by decide +kernel) (by decide +kernel)⟩⟩
theorem fX2_18 : Fld RX2 18 2 2 := ⟨RX2, TX2, 9, rfl, Nat.le_of_ble_eq_true rfl, iuX2, ⟨tyX2, tyX2_ok⟩, nmX2, Or.inl (lw_mem 60 (by decide +kernel) (by decide +kernel))⟩
theorem fX5_139 : Fld RX5 139 2 2 := ⟨RX2, TX2, 9, rfl, Nat.le_of_ble_eq_true rfl, iuX2, ⟨tyX2, tyX2_ok⟩, nmX2, Or.inr ⟨"BuyAsAsked", lw_mem 61 (by decide +kernel) (by decide +kernel)⟩⟩
theorem fX2_21 : Fld RX2 21 2 3 := ⟨RX2, TX2, 9, rfl, Nat.le_of_ble_eq_true rfl, iuX2, ⟨tyX2, tyX2_ok⟩, nmX2, Or.inl (lw_mem 62 (by decide +kernel) (by decide +kernel))⟩
theorem gi2_3 : Fint 2 3 := fun C T N h => by
  have h2 : (RX2, TX2, 9) = (C, T, N) := Option.some.inj h
  cases h2
  exact ⟨rfl, by decide +kernel⟩
theorem fX5_87 : Fld RX5 87 2 3 := ⟨RX2, TX2, 9, rfl, Nat.le_of_ble_eq_true rfl, iuX2, ⟨tyX2, tyX2_ok⟩, nmX2, Or.inr ⟨"BuyAsAsked", lw_mem 63 (by decide +kernel) (by decide +kernel)⟩⟩
theorem fX2_29 : Fld RX2 29 2 4 := ⟨RX2, TX2, 9, rfl, Nat.le_of_ble_eq_true rfl, iuX2, ⟨tyX2, tyX2_ok⟩, nmX2, Or.inl (lw_mem 64 (by decide +kernel) (by decide +kernel))⟩
theorem gi2_4 : Fint 2 4 := fun C T N h => by
  have h2 : (RX2, TX2, 9) = (C, T, N) := Option.some.inj h
  cases h2
  exact ⟨rfl, by decide +kernel⟩
theorem fX2_38 : Fld RX2 38 2 5 := ⟨RX2, TX2, 9, rfl, Nat.le_of_ble_eq_true rfl, iuX2, ⟨tyX2, tyX2_ok⟩, nmX2, Or.inl (lw_mem 65 (by decide +kernel) (by decide +kernel))⟩
theorem gi2_5 : Fint 2 5 := fun C T N h => by
  have h2 : (RX2, TX2, 9) = (C, T, N) := Option.some.inj h
  cases h2
  exact ⟨rfl, by decide +kernel⟩
theorem fX5_83 : Fld RX5 83 2 5 := ⟨RX2, TX2, 9, rfl, Nat.le_of_ble_eq_true rfl, iuX2, ⟨tyX2, tyX2_ok⟩, nmX2, Or.inr ⟨"BuyAsAsked", lw_mem 66 (by decide +kernel) (by decide +kernel)⟩⟩
theorem fX2_35 : Fld RX2 35 2 6 := ⟨RX2, TX2, 9, rfl, Nat.le_of_ble_eq_true rfl, iuX2, ⟨tyX2, tyX2_ok⟩, nmX2, Or.inl (lw_mem 67 (by decide +kernel) (by decide +kernel))⟩
theorem gi2_6 : Fint 2 6 := fun C T N h => by
  have h2 : (RX2, TX2, 9) = (C, T, N) := Option.some.inj h
  cases h2
  exact ⟨rfl, by decide +kernel⟩
theorem fX5_120 : Fld RX5 120 2 6 := ⟨RX2, TX2, 9, rfl, Nat.le_of_ble_eq_true rfl, iuX2, ⟨tyX2, tyX2_ok⟩, nmX2, Or.inr ⟨"BuyAsAsked", lw_mem 68 (by decide +kernel) (by decide +kernel)⟩⟩
theorem fX2_41 : Fld RX2 41 2 7 := ⟨RX2, TX2, 9, rfl, Nat.le_of_ble_eq_true rfl, iuX2, ⟨tyX2, tyX2_ok⟩, nmX2, Or.inl (lw_mem 69 (by decide +kernel) (by decide +kernel))⟩
theorem gi2_7 : Fint 2 7 := fun C T N h => by
  have h2 : (RX2, TX2, 9) = (C, T, N) := Option.some.inj h
  cases h2
  exact ⟨rfl, by decide +kernel⟩
theorem fX2_51 : Fld RX2 51 2 8 := ⟨RX2, TX2, 9, rfl, Nat.le_of_ble_eq_true rfl, iuX2, ⟨tyX2, tyX2_ok⟩, nmX2, Or.inl (lw_mem 70 (by decide +kernel) (by decide +kernel))⟩
theorem gi2_8 : Fint 2 8 := fun C T N h => by
  have h2 : (RX2, TX2, 9) = (C, T, N) := Option.some.inj h
  cases h2
  exact ⟨rfl, by decide +kernel⟩
theorem fX5_107 : Fld RX5 107 2 8 := ⟨RX2, TX2, 9, rfl, Nat.le_of_ble_eq_true rfl, iuX2, ⟨tyX2, tyX2_ok⟩, nmX2, Or.inr ⟨"BuyAsAsked", lw_mem 71 (by decide +kernel) (by decide +kernel)⟩⟩
theorem fX1_9 : Fld RX1 9 1 0 := ⟨RX1, TX1, 11, rfl, Nat.le_of_ble_eq_true rfl, iuX1, ⟨tyX1, tyX1_ok⟩, nmX1, Or.inl (lw_mem 97 (by decide +kernel) (by decide +kernel))⟩
theorem fX1_15 : Fld RX1 15 1 1 := ⟨RX1, TX1, 11, rfl, Nat.le_of_ble_eq_true rfl, iuX1, ⟨tyX1, tyX1_ok⟩, nmX1, Or.inl (lw_mem 98 (by decide +kernel) (by decide +kernel))⟩
theorem fX1_18 : Fld RX1 18 1 2 := ⟨RX1, TX1, 11, rfl, Nat.le_of_ble_eq_true rfl, iuX1, ⟨tyX1, tyX1_ok⟩, nmX1, Or.inl (lw_mem 99 (by decide +kernel) (by decide +kernel))⟩
theorem fX1_21 : Fld RX1 21 1 3 := ⟨RX1, TX1, 11, rfl, Nat.le_of_ble_eq_true rfl, iuX1, ⟨tyX1, tyX1_ok⟩, nmX1, Or.inl (lw_mem 100 (by decide +kernel) (by decide +kernel))⟩
theorem fX1_25 : Fld RX1 25 1 4 := ⟨RX1, TX1, 11, rfl, Nat.le_of_ble_eq_true rfl, iuX1, ⟨tyX1, tyX1_ok⟩, nmX1, Or.inl (lw_mem 101 (by decide +kernel) (by decide +kernel))⟩
theorem fX1_28 : Fld RX1 28 1 5 := ⟨RX1, TX1, 11, rfl, Nat.le_of_ble_eq_true rfl, iuX1, ⟨tyX1, tyX1_ok⟩, nmX1, Or.inl (lw_mem 102 (by decide +kernel) (by decide +kernel))⟩
theorem fX5_148 : Fld RX5 148 1 6 := ⟨RX1, TX1, 11, rfl, Nat.le_of_ble_eq_true rfl, iuX1, ⟨tyX1, tyX1_ok⟩, nmX1, Or.inr ⟨"BuyAsAsked", lw_mem 103 (by decide +kernel) (by decide +kernel)⟩⟩
theorem gi1_6 : Fint 1 6 := fun C T N h => by
  have h2 : (RX1, TX1, 11) = (C, T, N) := Option.some.inj h
  cases h2
  exact ⟨rfl, by decide +kernel⟩
theorem fX1_31 : Fld RX1 31 1 7 := ⟨RX1, TX1, 11, rfl, Nat.le_of_ble_eq_true rfl, iuX1, ⟨tyX1, tyX1_ok⟩, nmX1, Or.inl (lw_mem 104 (by decide +kernel) (by decide +kernel))⟩
theorem gi1_7 : Fint 1 7 := fun C T N h => by
  have h2 : (RX1, TX1, 11) = (C, T, N) := Option.some.inj h
  cases h2
  exact ⟨rfl, by decide +kernel⟩
theorem fX4_11 : Fld RX4 11 4 0 := ⟨RX4, TX4, 12, rfl, Nat.le_of_ble_eq_true rfl, iuX4, ⟨tyX4, tyX4_ok⟩, nmX4, Or.inl (lw_mem 136 (by decide +kernel) (by decide +kernel))⟩
theorem fX4_16 : Fld RX4 16 4 1 := ⟨RX4, TX4, 12, rfl, Nat.le_of_ble_eq_true rfl, iuX4, ⟨tyX4, tyX4_ok⟩, nmX4, Or.inl (lw_mem 137 (by decide +kernel) (by decide +kernel))⟩
theorem fX4_20 : Fld RX4 20 4 2 := ⟨RX4, TX4, 12, rfl, Nat.le_of_ble_eq_true rfl, iuX4, ⟨tyX4, tyX4_ok⟩, nmX4, Or.inl (lw_mem 138 (by decide +kernel) (by decide +kernel))⟩
theorem fX4_23 : Fld RX4 23 4 3 := ⟨RX4, TX4, 12, rfl, Nat.le_of_ble_eq_true rfl, iuX4, ⟨tyX4, tyX4_ok⟩, nmX4, Or.inl (lw_mem 139 (by decide +kernel) (by decide +kernel))⟩
theorem fX4_26 : Fld RX4 26 4 4 := ⟨RX4, TX4, 12, rfl, Nat.le_of_ble_eq_true rfl, iuX4, ⟨tyX4, tyX4_ok⟩, nmX4, Or.inl (lw_mem 140 (by decide +kernel) (by decide +kernel))⟩
theorem fX5_165 : Fld RX5 165 4 5 := ⟨RX4, TX4, 12, rfl, Nat.le_of_ble_eq_true rfl, iuX4, ⟨tyX4, tyX4_ok⟩, nmX4, Or.inr ⟨"BuyAsAsked", lw_mem 141 (by decide +kernel) (by decide +kernel)⟩⟩
theorem gi4_5 : Fint 4 5 := fun C T N h => by
  have h2 : (RX4, TX4, 12) = (C, T, N) := Option.some.inj h
  cases h2
  exact ⟨rfl, by decide +kernel⟩
theorem fX5_223 : Fld RX5 223 4 6 := ⟨RX4, TX4, 12, rfl, Nat.le_of_ble_eq_true rfl, iuX4, ⟨tyX4, tyX4_ok⟩, nmX4, Or.inr ⟨"BuyAsAsked", lw_mem 142 (by decide +kernel) (by decide +kernel)⟩⟩
theorem gi4_6 : Fint 4 6 := fun C T N h => by
  have h2 : (RX4, TX4, 12) = (C, T, N) := Option.some.inj h
  cases h2
  exact ⟨rfl, by decide +kernel⟩
theorem fX0_9 : Fld RX0 9 0 0 := ⟨RX0, TX0, 2, rfl, Nat.le_of_ble_eq_true rfl, iuX0, ⟨tyX0, tyX0_ok⟩, nmX0, Or.inl (lw_mem 174 (by decide +kernel) (by decide +kernel))⟩
theorem fX5_208 : Fld RX5 208 0 0 := ⟨RX0, TX0, 2, rfl, Nat.le_of_ble_eq_true rfl, iuX0, ⟨tyX0, tyX0_ok⟩, nmX0, Or.inr ⟨"BuyAsAsked", lw_mem 175 (by decide +kernel) (by decide +kernel)⟩⟩
theorem fX0_15 : Fld RX0 15 0 1 := ⟨RX0, TX0, 2, rfl, Nat.le_of_ble_eq_true rfl, iuX0, ⟨tyX0, tyX0_ok⟩, nmX0, Or.inl (lw_mem 176 (by decide +kernel) (by decide +kernel))⟩
theorem gi0_1 : Fint 0 1 := fun C T N h => by
  have h2 : (RX0, TX0, 2) = (C, T, N) := Option.some.inj h
  cases h2
  exact ⟨rfl, by decide +kernel⟩
theorem fX5_205 : Fld RX5 205 0 1 := ⟨RX0, TX0, 2, rfl, Nat.le_of_ble_eq_true rfl, iuX0, ⟨tyX0, tyX0_ok⟩, nmX0, Or.inr ⟨"BuyAsAsked", lw_mem 177 (by decide +kernel) (by decide +kernel)⟩⟩
theorem fX5_10 : Fld RX5 10 5 0 := ⟨RX5, TX5, 6, rfl, Nat.le_of_ble_eq_true rfl, iuX5, ⟨tyX5, tyX5_ok⟩, nmX5, Or.inl (lw_mem 183 (by decide +kernel) (by decide +kernel))⟩
theorem fX5_19 : Fld RX5 19 5 1 := ⟨RX5, TX5, 6, rfl, Nat.le_of_ble_eq_true rfl, iuX5, ⟨tyX5, tyX5_ok⟩, nmX5, Or.inl (lw_mem 184 (by decide +kernel) (by decide +kernel))⟩
theorem fX5_26 : Fld RX5 26 5 2 := ⟨RX5, TX5, 6, rfl, Nat.le_of_ble_eq_true rfl, iuX5, ⟨tyX5, tyX5_ok⟩, nmX5, Or.inl (lw_mem 185 (by decide +kernel) (by decide +kernel))⟩
theorem fX5_33 : Fld RX5 33 5 3 := ⟨RX5, TX5, 6, rfl, Nat.le_of_ble_eq_true rfl, iuX5, ⟨tyX5, tyX5_ok⟩, nmX5, Or.inl (lw_mem 186 (by decide +kernel) (by decide +kernel))⟩
theorem fX5_40 : Fld RX5 40 5 4 := ⟨RX5, TX5, 6, rfl, Nat.le_of_ble_eq_true rfl, iuX5, ⟨tyX5, tyX5_ok⟩, nmX5, Or.inl (lw_mem 187 (by decide +kernel) (by decide +kernel))⟩
theorem fX5_44 : Fld RX5 44 5 5 := ⟨RX5, TX5, 6, rfl, Nat.le_of_ble_eq_true rfl, iuX5, ⟨tyX5, tyX5_ok⟩, nmX5, Or.inl (lw_mem 188 (by decide +kernel) (by decide +kernel))⟩
theorem gi5_5 : Fint 5 5 := fun C T N h => by
  have h2 : (RX5, TX5, 6) = (C, T, N) := Option.some.inj h
  cases h2
  exact ⟨rfl, by decide +kernel⟩
theorem mL_22 : MthV RL 22 yX5_offer 5 cX5_offer 3 (some .int) 2 := ⟨⟨⟨by decide +kernel, by decide +kernel, by decide +kernel⟩, Nat.le_of_ble_eq_true rfl, lw_mem 205 (by decide +kernel) (by decide +kernel), lw_mem 13 (by decide +kernel) (by decide +kernel), Or.inl (lw_mem 202 (by decide +kernel) (by decide +kernel))⟩, ⟨TX5, 6, rfl⟩, lw_mem 203 (by decide +kernel) (by decide +kernel), lw_mem 204 (by decide +kernel) (by decide +kernel)⟩
theorem mX5_79 : MthS RX5 79 yX5_isWithin cX5_isWithin 3 (some .boolean) 3 := ⟨⟨⟨by decide +kernel, by decide +kernel, by decide +kernel⟩, Nat.le_of_ble_eq_true rfl, lw_mem 208 (by decide +kernel) (by decide +kernel), lw_mem 13 (by decide +kernel) (by decide +kernel), Or.inl (lw_mem 206 (by decide +kernel) (by decide +kernel))⟩, lw_mem 207 (by decide +kernel) (by decide +kernel)⟩
theorem kX5_52 : Cond.constant RX5 52 (-1000001) ∈ lw_w := lw_mem 209 (by decide +kernel) (by decide +kernel)
theorem kX5_86 : Cond.constant RX5 86 (-1000002) ∈ lw_w := lw_mem 210 (by decide +kernel) (by decide +kernel)
theorem mX5_90 : MthV RX5 90 yX2_add 2 cX2_add 3 (some .int) 2 := ⟨⟨⟨by decide +kernel, by decide +kernel, by decide +kernel⟩, Nat.le_of_ble_eq_true rfl, lw_mem 214 (by decide +kernel) (by decide +kernel), lw_mem 15 (by decide +kernel) (by decide +kernel), Or.inl (lw_mem 211 (by decide +kernel) (by decide +kernel))⟩, ⟨TX2, 9, rfl⟩, lw_mem 212 (by decide +kernel) (by decide +kernel), lw_mem 213 (by decide +kernel) (by decide +kernel)⟩
theorem kX5_94 : Cond.constant RX5 94 (-1000003) ∈ lw_w := lw_mem 215 (by decide +kernel) (by decide +kernel)
theorem mL_36 : MthV RL 36 yX5_demand 5 cX5_demand 2 (some .int) 1 := ⟨⟨⟨by decide +kernel, by decide +kernel, by decide +kernel⟩, Nat.le_of_ble_eq_true rfl, lw_mem 219 (by decide +kernel) (by decide +kernel), lw_mem 13 (by decide +kernel) (by decide +kernel), Or.inl (lw_mem 216 (by decide +kernel) (by decide +kernel))⟩, ⟨TX5, 6, rfl⟩, lw_mem 217 (by decide +kernel) (by decide +kernel), lw_mem 218 (by decide +kernel) (by decide +kernel)⟩
theorem mX5_48 : MthS RX5 48 yX5_isUnder cX5_isUnder 2 (some .boolean) 2 := ⟨⟨⟨by decide +kernel, by decide +kernel, by decide +kernel⟩, Nat.le_of_ble_eq_true rfl, lw_mem 222 (by decide +kernel) (by decide +kernel), lw_mem 13 (by decide +kernel) (by decide +kernel), Or.inl (lw_mem 220 (by decide +kernel) (by decide +kernel))⟩, lw_mem 221 (by decide +kernel) (by decide +kernel)⟩
theorem mX5_95 : MthV RX5 95 yX2_isOffered 2 cX2_isOffered 2 (some .boolean) 1 := ⟨⟨⟨by decide +kernel, by decide +kernel, by decide +kernel⟩, Nat.le_of_ble_eq_true rfl, lw_mem 226 (by decide +kernel) (by decide +kernel), lw_mem 15 (by decide +kernel) (by decide +kernel), Or.inl (lw_mem 223 (by decide +kernel) (by decide +kernel))⟩, ⟨TX2, 9, rfl⟩, lw_mem 224 (by decide +kernel) (by decide +kernel), lw_mem 225 (by decide +kernel) (by decide +kernel)⟩
theorem mX2_32 : MthS RX2 32 yX5_holds cX5_holds 2 (some .boolean) 2 := ⟨⟨⟨by decide +kernel, by decide +kernel, by decide +kernel⟩, Nat.le_of_ble_eq_true rfl, lw_mem 229 (by decide +kernel) (by decide +kernel), lw_mem 13 (by decide +kernel) (by decide +kernel), Or.inr ⟨"BuyAsAsked", lw_mem 227 (by decide +kernel) (by decide +kernel)⟩⟩, lw_mem 228 (by decide +kernel) (by decide +kernel)⟩
theorem mX5_98 : MthV RX5 98 yX2_meet 2 cX2_meet 3 (some .int) 1 := ⟨⟨⟨by decide +kernel, by decide +kernel, by decide +kernel⟩, Nat.le_of_ble_eq_true rfl, lw_mem 233 (by decide +kernel) (by decide +kernel), lw_mem 15 (by decide +kernel) (by decide +kernel), Or.inl (lw_mem 230 (by decide +kernel) (by decide +kernel))⟩, ⟨TX2, 9, rfl⟩, lw_mem 231 (by decide +kernel) (by decide +kernel), lw_mem 232 (by decide +kernel) (by decide +kernel)⟩
theorem mX2_44 : MthV RX2 44 yX2_leastGap 2 cX2_leastGap 4 (some .int) 1 := ⟨⟨⟨by decide +kernel, by decide +kernel, by decide +kernel⟩, Nat.le_of_ble_eq_true rfl, lw_mem 237 (by decide +kernel) (by decide +kernel), lw_mem 15 (by decide +kernel) (by decide +kernel), Or.inl (lw_mem 234 (by decide +kernel) (by decide +kernel))⟩, ⟨TX2, 9, rfl⟩, lw_mem 236 (by decide +kernel) (by decide +kernel), lw_mem 0 (by decide +kernel) (by decide +kernel)⟩
theorem mX2_54 : MthV RX2 54 yX2_filled 2 cX2_filled 2 (some .int) 1 := ⟨⟨⟨by decide +kernel, by decide +kernel, by decide +kernel⟩, Nat.le_of_ble_eq_true rfl, lw_mem 241 (by decide +kernel) (by decide +kernel), lw_mem 15 (by decide +kernel) (by decide +kernel), Or.inl (lw_mem 238 (by decide +kernel) (by decide +kernel))⟩, ⟨TX2, 9, rfl⟩, lw_mem 239 (by decide +kernel) (by decide +kernel), lw_mem 240 (by decide +kernel) (by decide +kernel)⟩
theorem mX2_63 : MthV RX2 63 yX2_pricesOf 2 cX2_pricesOf 4 (some .int) 1 := ⟨⟨⟨by decide +kernel, by decide +kernel, by decide +kernel⟩, Nat.le_of_ble_eq_true rfl, lw_mem 245 (by decide +kernel) (by decide +kernel), lw_mem 15 (by decide +kernel) (by decide +kernel), Or.inl (lw_mem 242 (by decide +kernel) (by decide +kernel))⟩, ⟨TX2, 9, rfl⟩, lw_mem 244 (by decide +kernel) (by decide +kernel), lw_mem 1 (by decide +kernel) (by decide +kernel)⟩
theorem mX2_48 : MthV RX2 48 yX2_buyTight 2 cX2_buyTight 4 (some .int) 1 := ⟨⟨⟨by decide +kernel, by decide +kernel, by decide +kernel⟩, Nat.le_of_ble_eq_true rfl, lw_mem 252 (by decide +kernel) (by decide +kernel), lw_mem 15 (by decide +kernel) (by decide +kernel), Or.inl (lw_mem 249 (by decide +kernel) (by decide +kernel))⟩, ⟨TX2, 9, rfl⟩, lw_mem 251 (by decide +kernel) (by decide +kernel), lw_mem 2 (by decide +kernel) (by decide +kernel)⟩
theorem mL_42 : MthV RL 42 yX5_covers 5 cX5_covers 2 (some .int) 1 := ⟨⟨⟨by decide +kernel, by decide +kernel, by decide +kernel⟩, Nat.le_of_ble_eq_true rfl, lw_mem 256 (by decide +kernel) (by decide +kernel), lw_mem 13 (by decide +kernel) (by decide +kernel), Or.inl (lw_mem 253 (by decide +kernel) (by decide +kernel))⟩, ⟨TX5, 6, rfl⟩, lw_mem 254 (by decide +kernel) (by decide +kernel), lw_mem 255 (by decide +kernel) (by decide +kernel)⟩
theorem mX5_110 : MthV RX5 110 yX2_pricesAdded 2 cX2_pricesAdded 1 (some .int) 0 := ⟨⟨⟨by decide +kernel, by decide +kernel, by decide +kernel⟩, Nat.le_of_ble_eq_true rfl, lw_mem 260 (by decide +kernel) (by decide +kernel), lw_mem 15 (by decide +kernel) (by decide +kernel), Or.inl (lw_mem 257 (by decide +kernel) (by decide +kernel))⟩, ⟨TX2, 9, rfl⟩, lw_mem 258 (by decide +kernel) (by decide +kernel), lw_mem 259 (by decide +kernel) (by decide +kernel)⟩
theorem mX5_114 : MthV RX5 114 yX2_least 2 cX2_least 1 (some .int) 0 := ⟨⟨⟨by decide +kernel, by decide +kernel, by decide +kernel⟩, Nat.le_of_ble_eq_true rfl, lw_mem 264 (by decide +kernel) (by decide +kernel), lw_mem 15 (by decide +kernel) (by decide +kernel), Or.inl (lw_mem 261 (by decide +kernel) (by decide +kernel))⟩, ⟨TX2, 9, rfl⟩, lw_mem 262 (by decide +kernel) (by decide +kernel), lw_mem 263 (by decide +kernel) (by decide +kernel)⟩
theorem mX2_66 : MthS RX2 66 yX2_leastFrom cX2_leastFrom 4 (some .int) 3 := ⟨⟨⟨by decide +kernel, by decide +kernel, by decide +kernel⟩, Nat.le_of_ble_eq_true rfl, lw_mem 267 (by decide +kernel) (by decide +kernel), lw_mem 15 (by decide +kernel) (by decide +kernel), Or.inl (lw_mem 265 (by decide +kernel) (by decide +kernel))⟩, lw_mem 266 (by decide +kernel) (by decide +kernel)⟩
theorem kX2_70 : Cond.constant RX2 70 (nI 1000000) ∈ lw_w := lw_mem 268 (by decide +kernel) (by decide +kernel)
theorem mX5_117 : MthV RX5 117 yX2_share 2 cX2_share 3 (some .int) 0 := ⟨⟨⟨by decide +kernel, by decide +kernel, by decide +kernel⟩, Nat.le_of_ble_eq_true rfl, lw_mem 272 (by decide +kernel) (by decide +kernel), lw_mem 15 (by decide +kernel) (by decide +kernel), Or.inl (lw_mem 269 (by decide +kernel) (by decide +kernel))⟩, ⟨TX2, 9, rfl⟩, lw_mem 270 (by decide +kernel) (by decide +kernel), lw_mem 271 (by decide +kernel) (by decide +kernel)⟩
theorem mX2_71 : MthV RX2 71 yX2_havers 2 cX2_havers 4 (some .int) 1 := ⟨⟨⟨by decide +kernel, by decide +kernel, by decide +kernel⟩, Nat.le_of_ble_eq_true rfl, lw_mem 276 (by decide +kernel) (by decide +kernel), lw_mem 15 (by decide +kernel) (by decide +kernel), Or.inl (lw_mem 273 (by decide +kernel) (by decide +kernel))⟩, ⟨TX2, 9, rfl⟩, lw_mem 275 (by decide +kernel) (by decide +kernel), lw_mem 3 (by decide +kernel) (by decide +kernel)⟩
theorem mL_48 : MthV RL 48 yX5_told 5 cX5_told 3 (some .int) 2 := ⟨⟨⟨by decide +kernel, by decide +kernel, by decide +kernel⟩, Nat.le_of_ble_eq_true rfl, lw_mem 283 (by decide +kernel) (by decide +kernel), lw_mem 13 (by decide +kernel) (by decide +kernel), Or.inl (lw_mem 280 (by decide +kernel) (by decide +kernel))⟩, ⟨TX5, 6, rfl⟩, lw_mem 281 (by decide +kernel) (by decide +kernel), lw_mem 282 (by decide +kernel) (by decide +kernel)⟩
theorem mX5_123 : MthV RX5 123 yX2_isSet 2 cX2_isSet 2 (some .boolean) 1 := ⟨⟨⟨by decide +kernel, by decide +kernel, by decide +kernel⟩, Nat.le_of_ble_eq_true rfl, lw_mem 287 (by decide +kernel) (by decide +kernel), lw_mem 15 (by decide +kernel) (by decide +kernel), Or.inl (lw_mem 284 (by decide +kernel) (by decide +kernel))⟩, ⟨TX2, 9, rfl⟩, lw_mem 285 (by decide +kernel) (by decide +kernel), lw_mem 286 (by decide +kernel) (by decide +kernel)⟩
theorem mX2_25 : MthS RX2 25 yX5_isUnder cX5_isUnder 2 (some .boolean) 2 := ⟨⟨⟨by decide +kernel, by decide +kernel, by decide +kernel⟩, Nat.le_of_ble_eq_true rfl, lw_mem 222 (by decide +kernel) (by decide +kernel), lw_mem 13 (by decide +kernel) (by decide +kernel), Or.inr ⟨"BuyAsAsked", lw_mem 288 (by decide +kernel) (by decide +kernel)⟩⟩, lw_mem 221 (by decide +kernel) (by decide +kernel)⟩
theorem mX5_133 : MthV RX5 133 yX2_filled 2 cX2_filled 2 (some .int) 1 := ⟨⟨⟨by decide +kernel, by decide +kernel, by decide +kernel⟩, Nat.le_of_ble_eq_true rfl, lw_mem 241 (by decide +kernel) (by decide +kernel), lw_mem 15 (by decide +kernel) (by decide +kernel), Or.inl (lw_mem 289 (by decide +kernel) (by decide +kernel))⟩, ⟨TX2, 9, rfl⟩, lw_mem 239 (by decide +kernel) (by decide +kernel), lw_mem 240 (by decide +kernel) (by decide +kernel)⟩
theorem mX5_136 : MthV RX5 136 yX2_isBought 2 cX2_isBought 2 (some .boolean) 1 := ⟨⟨⟨by decide +kernel, by decide +kernel, by decide +kernel⟩, Nat.le_of_ble_eq_true rfl, lw_mem 293 (by decide +kernel) (by decide +kernel), lw_mem 15 (by decide +kernel) (by decide +kernel), Or.inl (lw_mem 290 (by decide +kernel) (by decide +kernel))⟩, ⟨TX2, 9, rfl⟩, lw_mem 291 (by decide +kernel) (by decide +kernel), lw_mem 292 (by decide +kernel) (by decide +kernel)⟩
theorem mL_45 : MthV RL 45 yX5_price 5 cX5_price 2 (some .int) 1 := ⟨⟨⟨by decide +kernel, by decide +kernel, by decide +kernel⟩, Nat.le_of_ble_eq_true rfl, lw_mem 297 (by decide +kernel) (by decide +kernel), lw_mem 13 (by decide +kernel) (by decide +kernel), Or.inl (lw_mem 294 (by decide +kernel) (by decide +kernel))⟩, ⟨TX5, 6, rfl⟩, lw_mem 295 (by decide +kernel) (by decide +kernel), lw_mem 296 (by decide +kernel) (by decide +kernel)⟩
theorem mL_51 : MthV RL 51 yX5_kind 5 cX5_kind 2 (some .int) 1 := ⟨⟨⟨by decide +kernel, by decide +kernel, by decide +kernel⟩, Nat.le_of_ble_eq_true rfl, lw_mem 301 (by decide +kernel) (by decide +kernel), lw_mem 13 (by decide +kernel) (by decide +kernel), Or.inl (lw_mem 298 (by decide +kernel) (by decide +kernel))⟩, ⟨TX5, 6, rfl⟩, lw_mem 299 (by decide +kernel) (by decide +kernel), lw_mem 300 (by decide +kernel) (by decide +kernel)⟩
theorem mX5_192 : MthV RX5 192 yX2_kindOf 2 cX2_kindOf 2 (some .int) 1 := ⟨⟨⟨by decide +kernel, by decide +kernel, by decide +kernel⟩, Nat.le_of_ble_eq_true rfl, lw_mem 305 (by decide +kernel) (by decide +kernel), lw_mem 15 (by decide +kernel) (by decide +kernel), Or.inl (lw_mem 302 (by decide +kernel) (by decide +kernel))⟩, ⟨TX2, 9, rfl⟩, lw_mem 303 (by decide +kernel) (by decide +kernel), lw_mem 304 (by decide +kernel) (by decide +kernel)⟩
theorem mX2_77 : MthV RX2 77 yX2_isBought 2 cX2_isBought 2 (some .boolean) 1 := ⟨⟨⟨by decide +kernel, by decide +kernel, by decide +kernel⟩, Nat.le_of_ble_eq_true rfl, lw_mem 293 (by decide +kernel) (by decide +kernel), lw_mem 15 (by decide +kernel) (by decide +kernel), Or.inl (lw_mem 306 (by decide +kernel) (by decide +kernel))⟩, ⟨TX2, 9, rfl⟩, lw_mem 291 (by decide +kernel) (by decide +kernel), lw_mem 292 (by decide +kernel) (by decide +kernel)⟩
theorem mL_58 : MthV RL 58 yX5_count 5 cX5_count 2 (some .int) 1 := ⟨⟨⟨by decide +kernel, by decide +kernel, by decide +kernel⟩, Nat.le_of_ble_eq_true rfl, lw_mem 310 (by decide +kernel) (by decide +kernel), lw_mem 13 (by decide +kernel) (by decide +kernel), Or.inl (lw_mem 307 (by decide +kernel) (by decide +kernel))⟩, ⟨TX5, 6, rfl⟩, lw_mem 308 (by decide +kernel) (by decide +kernel), lw_mem 309 (by decide +kernel) (by decide +kernel)⟩
theorem mX5_212 : MthV RX5 212 yX3_present 3 cX3_present 3 (some .int) 0 := ⟨⟨⟨by decide +kernel, by decide +kernel, by decide +kernel⟩, Nat.le_of_ble_eq_true rfl, lw_mem 314 (by decide +kernel) (by decide +kernel), lw_mem 14 (by decide +kernel) (by decide +kernel), Or.inl (lw_mem 311 (by decide +kernel) (by decide +kernel))⟩, ⟨TX3, 3, rfl⟩, lw_mem 312 (by decide +kernel) (by decide +kernel), lw_mem 313 (by decide +kernel) (by decide +kernel)⟩
theorem mX3_23 : MthV RX3 23 yX3_isMissing 3 cX3_isMissing 2 (some .boolean) 1 := ⟨⟨⟨by decide +kernel, by decide +kernel, by decide +kernel⟩, Nat.le_of_ble_eq_true rfl, lw_mem 318 (by decide +kernel) (by decide +kernel), lw_mem 14 (by decide +kernel) (by decide +kernel), Or.inl (lw_mem 315 (by decide +kernel) (by decide +kernel))⟩, ⟨TX3, 3, rfl⟩, lw_mem 316 (by decide +kernel) (by decide +kernel), lw_mem 317 (by decide +kernel) (by decide +kernel)⟩
theorem mX5_215 : MthS RX5 215 yJ6_bitCount_0f7a4 cJ6_bitCount_0f7a4 1 (some .int) 1 := ⟨⟨⟨by decide +kernel, by decide +kernel, by decide +kernel⟩, Nat.le_of_ble_eq_true rfl, lw_mem 321 (by decide +kernel) (by decide +kernel), lw_mem 20 (by decide +kernel) (by decide +kernel), Or.inl (lw_mem 319 (by decide +kernel) (by decide +kernel))⟩, lw_mem 320 (by decide +kernel) (by decide +kernel)⟩
theorem kJ6_265 : Cond.constant RJ6 265 (nI 1431655765) ∈ lw_w := lw_mem 322 (by decide +kernel) (by decide +kernel)
theorem kJ6_266 : Cond.constant RJ6 266 (nI 858993459) ∈ lw_w := lw_mem 323 (by decide +kernel) (by decide +kernel)
theorem kJ6_267 : Cond.constant RJ6 267 (nI 252645135) ∈ lw_w := lw_mem 324 (by decide +kernel) (by decide +kernel)
theorem mX5_220 : MthV RX5 220 yX2_nears 2 cX2_nears 3 (some .int) 0 := ⟨⟨⟨by decide +kernel, by decide +kernel, by decide +kernel⟩, Nat.le_of_ble_eq_true rfl, lw_mem 328 (by decide +kernel) (by decide +kernel), lw_mem 15 (by decide +kernel) (by decide +kernel), Or.inl (lw_mem 325 (by decide +kernel) (by decide +kernel))⟩, ⟨TX2, 9, rfl⟩, lw_mem 326 (by decide +kernel) (by decide +kernel), lw_mem 327 (by decide +kernel) (by decide +kernel)⟩
theorem mX2_81 : MthV RX2 81 yX2_kindOf 2 cX2_kindOf 2 (some .int) 1 := ⟨⟨⟨by decide +kernel, by decide +kernel, by decide +kernel⟩, Nat.le_of_ble_eq_true rfl, lw_mem 305 (by decide +kernel) (by decide +kernel), lw_mem 15 (by decide +kernel) (by decide +kernel), Or.inl (lw_mem 329 (by decide +kernel) (by decide +kernel))⟩, ⟨TX2, 9, rfl⟩, lw_mem 303 (by decide +kernel) (by decide +kernel), lw_mem 304 (by decide +kernel) (by decide +kernel)⟩
theorem mL_9 : MthS RL 9 yL_cell cL_cell 2 (some .int) 2 := ⟨⟨⟨by decide +kernel, by decide +kernel, by decide +kernel⟩, Nat.le_of_ble_eq_true rfl, lw_mem 332 (by decide +kernel) (by decide +kernel), lw_mem 12 (by decide +kernel) (by decide +kernel), Or.inl (lw_mem 330 (by decide +kernel) (by decide +kernel))⟩, lw_mem 331 (by decide +kernel) (by decide +kernel)⟩
theorem kL_7 : Cond.constant RL 7 (nI 1013904223) ∈ lw_w := lw_mem 333 (by decide +kernel) (by decide +kernel)
theorem mL_15 : MthS RL 15 yL_low cL_low 2 (some .int) 2 := ⟨⟨⟨by decide +kernel, by decide +kernel, by decide +kernel⟩, Nat.le_of_ble_eq_true rfl, lw_mem 336 (by decide +kernel) (by decide +kernel), lw_mem 12 (by decide +kernel) (by decide +kernel), Or.inl (lw_mem 334 (by decide +kernel) (by decide +kernel))⟩, lw_mem 335 (by decide +kernel) (by decide +kernel)⟩
theorem kL_8 : Cond.constant RL 8 (nI 2147483647) ∈ lw_w := lw_mem 337 (by decide +kernel) (by decide +kernel)
theorem mL_28 : MthS RL 28 yL_shop cL_shop 5 (some .int) 2 := ⟨⟨⟨by decide +kernel, by decide +kernel, by decide +kernel⟩, Nat.le_of_ble_eq_true rfl, lw_mem 340 (by decide +kernel) (by decide +kernel), lw_mem 12 (by decide +kernel) (by decide +kernel), Or.inl (lw_mem 338 (by decide +kernel) (by decide +kernel))⟩, lw_mem 339 (by decide +kernel) (by decide +kernel)⟩
theorem mL_19 : MthS RL 19 yL_things cL_things 3 (some .int) 2 := ⟨⟨⟨by decide +kernel, by decide +kernel, by decide +kernel⟩, Nat.le_of_ble_eq_true rfl, lw_mem 343 (by decide +kernel) (by decide +kernel), lw_mem 12 (by decide +kernel) (by decide +kernel), Or.inl (lw_mem 341 (by decide +kernel) (by decide +kernel))⟩, lw_mem 342 (by decide +kernel) (by decide +kernel)⟩
theorem mL_33 : MthS RL 33 yL_cost cL_cost 2 (some .int) 2 := ⟨⟨⟨by decide +kernel, by decide +kernel, by decide +kernel⟩, Nat.le_of_ble_eq_true rfl, lw_mem 346 (by decide +kernel) (by decide +kernel), lw_mem 12 (by decide +kernel) (by decide +kernel), Or.inl (lw_mem 344 (by decide +kernel) (by decide +kernel))⟩, lw_mem 345 (by decide +kernel) (by decide +kernel)⟩
theorem mL_54 : MthS RL 54 yL_asked cL_asked 8 (some .boolean) 5 := ⟨⟨⟨by decide +kernel, by decide +kernel, by decide +kernel⟩, Nat.le_of_ble_eq_true rfl, lw_mem 349 (by decide +kernel) (by decide +kernel), lw_mem 12 (by decide +kernel) (by decide +kernel), Or.inl (lw_mem 347 (by decide +kernel) (by decide +kernel))⟩, lw_mem 348 (by decide +kernel) (by decide +kernel)⟩
theorem mL_61 : MthV RL 61 yX5_ask 5 cX5_ask 3 (some .int) 2 := ⟨⟨⟨by decide +kernel, by decide +kernel, by decide +kernel⟩, Nat.le_of_ble_eq_true rfl, lw_mem 353 (by decide +kernel) (by decide +kernel), lw_mem 13 (by decide +kernel) (by decide +kernel), Or.inl (lw_mem 350 (by decide +kernel) (by decide +kernel))⟩, ⟨TX5, 6, rfl⟩, lw_mem 351 (by decide +kernel) (by decide +kernel), lw_mem 352 (by decide +kernel) (by decide +kernel)⟩
theorem mX5_198 : MthV RX5 198 yX0_askWorth 0 cX0_askWorth 3 (some .int) 2 := ⟨⟨⟨by decide +kernel, by decide +kernel, by decide +kernel⟩, Nat.le_of_ble_eq_true rfl, lw_mem 357 (by decide +kernel) (by decide +kernel), lw_mem 18 (by decide +kernel) (by decide +kernel), Or.inl (lw_mem 354 (by decide +kernel) (by decide +kernel))⟩, ⟨TX0, 2, rfl⟩, lw_mem 355 (by decide +kernel) (by decide +kernel), lw_mem 356 (by decide +kernel) (by decide +kernel)⟩
theorem mX0_19 : MthV RX0 19 yX2_kindOf 2 cX2_kindOf 2 (some .int) 1 := ⟨⟨⟨by decide +kernel, by decide +kernel, by decide +kernel⟩, Nat.le_of_ble_eq_true rfl, lw_mem 305 (by decide +kernel) (by decide +kernel), lw_mem 15 (by decide +kernel) (by decide +kernel), Or.inl (lw_mem 358 (by decide +kernel) (by decide +kernel))⟩, ⟨TX2, 9, rfl⟩, lw_mem 303 (by decide +kernel) (by decide +kernel), lw_mem 304 (by decide +kernel) (by decide +kernel)⟩
theorem mX0_25 : MthV RX0 25 yX0_worthOfOwn 0 cX0_worthOfOwn 3 (some .int) 2 := ⟨⟨⟨by decide +kernel, by decide +kernel, by decide +kernel⟩, Nat.le_of_ble_eq_true rfl, lw_mem 362 (by decide +kernel) (by decide +kernel), lw_mem 18 (by decide +kernel) (by decide +kernel), Or.inl (lw_mem 359 (by decide +kernel) (by decide +kernel))⟩, ⟨TX0, 2, rfl⟩, lw_mem 361 (by decide +kernel) (by decide +kernel), lw_mem 4 (by decide +kernel) (by decide +kernel)⟩
theorem mX0_44 : MthV RX0 44 yX0_begin 0 cX0_begin 2 none 1 := ⟨⟨⟨by decide +kernel, by decide +kernel, by decide +kernel⟩, Nat.le_of_ble_eq_true rfl, lw_mem 366 (by decide +kernel) (by decide +kernel), lw_mem 18 (by decide +kernel) (by decide +kernel), Or.inl (lw_mem 363 (by decide +kernel) (by decide +kernel))⟩, ⟨TX0, 2, rfl⟩, lw_mem 365 (by decide +kernel) (by decide +kernel), lw_mem 5 (by decide +kernel) (by decide +kernel)⟩
theorem mX0_51 : MthV RX0 51 yX0_worthOfAny 0 cX0_worthOfAny 3 (some .int) 2 := ⟨⟨⟨by decide +kernel, by decide +kernel, by decide +kernel⟩, Nat.le_of_ble_eq_true rfl, lw_mem 370 (by decide +kernel) (by decide +kernel), lw_mem 18 (by decide +kernel) (by decide +kernel), Or.inl (lw_mem 367 (by decide +kernel) (by decide +kernel))⟩, ⟨TX0, 2, rfl⟩, lw_mem 369 (by decide +kernel) (by decide +kernel), lw_mem 6 (by decide +kernel) (by decide +kernel)⟩
theorem mX0_29 : MthV RX0 29 yX0_worthOfNear 0 cX0_worthOfNear 3 (some .int) 2 := ⟨⟨⟨by decide +kernel, by decide +kernel, by decide +kernel⟩, Nat.le_of_ble_eq_true rfl, lw_mem 374 (by decide +kernel) (by decide +kernel), lw_mem 18 (by decide +kernel) (by decide +kernel), Or.inl (lw_mem 371 (by decide +kernel) (by decide +kernel))⟩, ⟨TX0, 2, rfl⟩, lw_mem 373 (by decide +kernel) (by decide +kernel), lw_mem 7 (by decide +kernel) (by decide +kernel)⟩
theorem mX0_32 : MthV RX0 32 yX0_worthOfOpen 0 cX0_worthOfOpen 3 (some .int) 2 := ⟨⟨⟨by decide +kernel, by decide +kernel, by decide +kernel⟩, Nat.le_of_ble_eq_true rfl, lw_mem 378 (by decide +kernel) (by decide +kernel), lw_mem 18 (by decide +kernel) (by decide +kernel), Or.inl (lw_mem 375 (by decide +kernel) (by decide +kernel))⟩, ⟨TX0, 2, rfl⟩, lw_mem 377 (by decide +kernel) (by decide +kernel), lw_mem 8 (by decide +kernel) (by decide +kernel)⟩
theorem mX0_54 : MthV RX0 54 yX2_filled 2 cX2_filled 2 (some .int) 1 := ⟨⟨⟨by decide +kernel, by decide +kernel, by decide +kernel⟩, Nat.le_of_ble_eq_true rfl, lw_mem 241 (by decide +kernel) (by decide +kernel), lw_mem 15 (by decide +kernel) (by decide +kernel), Or.inl (lw_mem 379 (by decide +kernel) (by decide +kernel))⟩, ⟨TX2, 9, rfl⟩, lw_mem 239 (by decide +kernel) (by decide +kernel), lw_mem 240 (by decide +kernel) (by decide +kernel)⟩
theorem mX0_38 : MthV RX0 38 yX0_markOfNear 0 cX0_markOfNear 3 (some .int) 2 := ⟨⟨⟨by decide +kernel, by decide +kernel, by decide +kernel⟩, Nat.le_of_ble_eq_true rfl, lw_mem 383 (by decide +kernel) (by decide +kernel), lw_mem 18 (by decide +kernel) (by decide +kernel), Or.inl (lw_mem 380 (by decide +kernel) (by decide +kernel))⟩, ⟨TX0, 2, rfl⟩, lw_mem 382 (by decide +kernel) (by decide +kernel), lw_mem 9 (by decide +kernel) (by decide +kernel)⟩
theorem mX0_41 : MthV RX0 41 yX0_markOfAny 0 cX0_markOfAny 3 (some .int) 2 := ⟨⟨⟨by decide +kernel, by decide +kernel, by decide +kernel⟩, Nat.le_of_ble_eq_true rfl, lw_mem 387 (by decide +kernel) (by decide +kernel), lw_mem 18 (by decide +kernel) (by decide +kernel), Or.inl (lw_mem 384 (by decide +kernel) (by decide +kernel))⟩, ⟨TX0, 2, rfl⟩, lw_mem 386 (by decide +kernel) (by decide +kernel), lw_mem 10 (by decide +kernel) (by decide +kernel)⟩
theorem mX0_60 : MthS RX0 60 yJ6_bitCount_0f7a4 cJ6_bitCount_0f7a4 1 (some .int) 1 := ⟨⟨⟨by decide +kernel, by decide +kernel, by decide +kernel⟩, Nat.le_of_ble_eq_true rfl, lw_mem 321 (by decide +kernel) (by decide +kernel), lw_mem 20 (by decide +kernel) (by decide +kernel), Or.inl (lw_mem 388 (by decide +kernel) (by decide +kernel))⟩, lw_mem 320 (by decide +kernel) (by decide +kernel)⟩
theorem mX5_202 : MthV RX5 202 yX0_askMark 0 cX0_askMark 3 (some .int) 2 := ⟨⟨⟨by decide +kernel, by decide +kernel, by decide +kernel⟩, Nat.le_of_ble_eq_true rfl, lw_mem 392 (by decide +kernel) (by decide +kernel), lw_mem 18 (by decide +kernel) (by decide +kernel), Or.inl (lw_mem 389 (by decide +kernel) (by decide +kernel))⟩, ⟨TX0, 2, rfl⟩, lw_mem 390 (by decide +kernel) (by decide +kernel), lw_mem 391 (by decide +kernel) (by decide +kernel)⟩
theorem mX0_35 : MthV RX0 35 yX0_markOfOwn 0 cX0_markOfOwn 3 (some .int) 2 := ⟨⟨⟨by decide +kernel, by decide +kernel, by decide +kernel⟩, Nat.le_of_ble_eq_true rfl, lw_mem 396 (by decide +kernel) (by decide +kernel), lw_mem 18 (by decide +kernel) (by decide +kernel), Or.inl (lw_mem 393 (by decide +kernel) (by decide +kernel))⟩, ⟨TX0, 2, rfl⟩, lw_mem 395 (by decide +kernel) (by decide +kernel), lw_mem 11 (by decide +kernel) (by decide +kernel)⟩
theorem mL_64 : MthV RL 64 yX5_trace 5 cX5_trace 2 (some .int) 1 := ⟨⟨⟨by decide +kernel, by decide +kernel, by decide +kernel⟩, Nat.le_of_ble_eq_true rfl, lw_mem 400 (by decide +kernel) (by decide +kernel), lw_mem 13 (by decide +kernel) (by decide +kernel), Or.inl (lw_mem 397 (by decide +kernel) (by decide +kernel))⟩, ⟨TX5, 6, rfl⟩, lw_mem 398 (by decide +kernel) (by decide +kernel), lw_mem 399 (by decide +kernel) (by decide +kernel)⟩
theorem kX5_211 : Cond.constant RX5 211 (-1000000) ∈ lw_w := lw_mem 401 (by decide +kernel) (by decide +kernel)
theorem mL_67 : MthV RL 67 yX5_as 5 cX5_as 3 (some .int) 2 := ⟨⟨⟨by decide +kernel, by decide +kernel, by decide +kernel⟩, Nat.le_of_ble_eq_true rfl, lw_mem 405 (by decide +kernel) (by decide +kernel), lw_mem 13 (by decide +kernel) (by decide +kernel), Or.inl (lw_mem 402 (by decide +kernel) (by decide +kernel))⟩, ⟨TX5, 6, rfl⟩, lw_mem 403 (by decide +kernel) (by decide +kernel), lw_mem 404 (by decide +kernel) (by decide +kernel)⟩
theorem mX5_195 : MthV RX5 195 yX2_isOfKind 2 cX2_isOfKind 4 (some .boolean) 2 := ⟨⟨⟨by decide +kernel, by decide +kernel, by decide +kernel⟩, Nat.le_of_ble_eq_true rfl, lw_mem 409 (by decide +kernel) (by decide +kernel), lw_mem 15 (by decide +kernel) (by decide +kernel), Or.inl (lw_mem 406 (by decide +kernel) (by decide +kernel))⟩, ⟨TX2, 9, rfl⟩, lw_mem 407 (by decide +kernel) (by decide +kernel), lw_mem 408 (by decide +kernel) (by decide +kernel)⟩
theorem kX5_57 : Cond.constant RX5 57 (-1000010) ∈ lw_w := lw_mem 410 (by decide +kernel) (by decide +kernel)
theorem kL_70 : Cond.constant RL 70 (-1000013) ∈ lw_w := lw_mem 411 (by decide +kernel) (by decide +kernel)
theorem kL_32 : Cond.constant RL 32 (nI 1000000) ∈ lw_w := lw_mem 412 (by decide +kernel) (by decide +kernel)
theorem kL_40 : Cond.constant RL 40 (-1000001) ∈ lw_w := lw_mem 413 (by decide +kernel) (by decide +kernel)
theorem kL_41 : Cond.constant RL 41 (-1000002) ∈ lw_w := lw_mem 414 (by decide +kernel) (by decide +kernel)
end
section
/-! ===== Int32 by its bits: bt x i ===== -/
def bt (x : Int32) (i : Nat) : Bool := x.toBitVec.getLsbD i
theorem b_ext {x y : Int32} (h : ∀ i, i < 32 → bt x i = bt y i) : x = y := Int32.toBitVec_inj.mp (BitVec.eq_of_getLsbD_eq (fun i hi => h i hi))
theorem b_or (x y : Int32) (i : Nat) : bt (x ||| y) i = (bt x i || bt y i) := by unfold bt; rw [Int32.toBitVec_or, BitVec.getLsbD_or]
theorem b_and (x y : Int32) (i : Nat) : bt (x &&& y) i = (bt x i && bt y i) := by unfold bt; rw [Int32.toBitVec_and, BitVec.getLsbD_and]
theorem b_xor (x y : Int32) (i : Nat) : bt (x ^^^ y) i = (bt x i ^^ bt y i) := by unfold bt; rw [Int32.toBitVec_xor, BitVec.getLsbD_xor]
theorem b_big {x : Int32} {i : Nat} (h : 32 ≤ i) : bt x i = false := BitVec.getLsbD_of_ge _ _ h
theorem b_255 (i : Nat) : bt 255 i = decide (i < 8) := by
  rcases Nat.lt_or_ge i 32 with h | h
  · exact (by decide +kernel : ∀ i, i < 32 → bt 255 i = decide (i < 8)) i h
  · rw [b_big h, decide_eq_false (by omega)]
theorem b_65535 (i : Nat) : bt 65535 i = decide (i < 16) := by
  rcases Nat.lt_or_ge i 32 with h | h
  · exact (by decide +kernel : ∀ i, i < 32 → bt 65535 i = decide (i < 16)) i h
  · rw [b_big h, decide_eq_false (by omega)]
theorem b_m1 : ∀ i, i < 32 → bt (-1) i = true := by decide +kernel
theorem b_0 (i : Nat) : bt 0 i = false := BitVec.getLsbD_zero
theorem s_l : ∀ n, n < 32 → ((nI n &&& 31).toBitVec.smod 32).toNat = n := by decide +kernel
theorem s_u : ∀ n, n < 32 → (((nI n).toUInt32 &&& Int32.toUInt32 31).toBitVec % 32).toNat = n := by decide +kernel
theorem b_shl (n : Nat) (hn : n < 32) (x : Int32) {i : Nat} (hi : i < 32) : bt (x <<< (nI n &&& 31)) i = (decide (n ≤ i) && bt x (i - n)) := by
  unfold bt
  rw [Int32.toBitVec_shiftLeft]
  show (x.toBitVec <<< ((nI n &&& 31).toBitVec.smod 32).toNat).getLsbD i = _
  rw [s_l n hn, BitVec.getLsbD_shiftLeft]
  rcases Nat.lt_or_ge i n with h | h
  · simp [h, Nat.not_le.mpr h]
  · simp [hi, h, Nat.not_lt.mpr h]
theorem b_ushr (n : Nat) (hn : n < 32) (x : Int32) (i : Nat) : bt ((x.toUInt32 >>> ((nI n).toUInt32 &&& Int32.toUInt32 31)).toInt32) i = bt x (n + i) := by
  show (x.toUInt32 >>> ((nI n).toUInt32 &&& Int32.toUInt32 31)).toBitVec.getLsbD i = x.toUInt32.toBitVec.getLsbD (n + i)
  rw [UInt32.toBitVec_shiftRight]
  show (x.toUInt32.toBitVec >>> (((nI n).toUInt32 &&& Int32.toUInt32 31).toBitVec % 32).toNat).getLsbD i = _
  rw [s_u n hn, BitVec.getLsbD_ushiftRight]
theorem b_sshr (n : Nat) (hn : n < 32) (x : Int32) {i : Nat} (hi : i < 32) : bt (x >>> (nI n &&& 31)) i = if n + i < 32 then bt x (n + i) else bt x 31 := by
  unfold bt
  rw [Int32.toBitVec_shiftRight]
  show (x.toBitVec.sshiftRight ((nI n &&& 31).toBitVec.smod 32).toNat).getLsbD i = _
  rw [s_l n hn, BitVec.getLsbD_sshiftRight, BitVec.msb_eq_getLsbD_last]
  simp [hi]
theorem b_shl8 (x : Int32) {i : Nat} (hi : i < 32) : bt (x <<< ((8 : Int32) &&& 31)) i = (decide (8 ≤ i) && bt x (i - 8)) := b_shl 8 (by omega) x hi
theorem b_shl16 (x : Int32) {i : Nat} (hi : i < 32) : bt (x <<< ((16 : Int32) &&& 31)) i = (decide (16 ≤ i) && bt x (i - 16)) := b_shl 16 (by omega) x hi
theorem b_shl24 (x : Int32) {i : Nat} (hi : i < 32) : bt (x <<< ((24 : Int32) &&& 31)) i = (decide (24 ≤ i) && bt x (i - 24)) := b_shl 24 (by omega) x hi
theorem b_sshr8 (x : Int32) {i : Nat} (hi : i < 32) : bt (x >>> ((8 : Int32) &&& 31)) i = if 8 + i < 32 then bt x (8 + i) else bt x 31 := b_sshr 8 (by omega) x hi
/-! ===== forms of the calculus for plain answers, whether, and numbers ===== -/
theorem Rok.mono {X : XC} {a b : Nat} (h : Rok X b) (hab : a ≤ b) : Rok X a := by
  obtain ⟨p, l, e, R, s, m, args, below, meth, c, cells, slots, Q, A, D, ad, cs, H0⟩ := X
  exact ⟨Nat.le_trans hab h.1, Nat.le_trans (Nat.mul_le_mul_left 40 hab) h.2⟩
def rI (v : Int32) (σ0 : Mem) : Option Value → Mem → Prop := fun r σ => r = some (.int v) ∧ σ = σ0
def rV (σ0 : Mem) : Option Value → Mem → Prop := fun r σ => r = none ∧ σ = σ0
def rP (P : Int32 → Mem → Prop) : Option Value → Mem → Prop := fun r σ => ∃ v : Int32, r = some (.int v) ∧ P v σ
def rQ (P : Mem → Prop) : Option Value → Mem → Prop := fun r σ => r = none ∧ P σ
def bI (b : Bool) : Int32 := cond b (nI 1) (nI 0)
theorem bI_nar (b : Bool) : narrow .boolean (.int (bI b)) = .int (bI b) := by cases b <;> decide +kernel
theorem bI_z {b : Bool} : bI b = 0 ↔ b = false := by cases b <;> decide +kernel
theorem iinc1 (n : Nat) : nI n + Int32.ofInt 1 = nI (n + 1) := nI_1 n
theorem iincm1 (n : Nat) : nI (n + 1) + Int32.ofInt (-1) = nI n := pk_m1 n
theorem V_callVi {X : XC} {own : String} {cc : ByteArray} {nL pc : Nat} {ls : List (Option Value)} {st : List Value} {σ : Mem} {index n d mx : Nat} {y : MethodName} {bytes : ByteArray} {ret : Option FieldType} {As rest : List Value} {ci b : Nat} {fs : List (Option Nat)} {v : Int32} {σ2 : Mem} (hX : Cok X own cc nL) (hR : Rok X (d + 1)) (hm : MthV own index y ci bytes mx ret n) (hC : Cc y bytes mx ret d (.ref b :: As) σ (rI v σ2)) (hd : decode cc pc = .ok (.invokevirtual index, 3)) (hs : shp[b]? = some (.inl (ci, fs))) (hn : As.length = n) (hnl : ls.length = nL) (hst : st = As.reverse ++ .ref b :: rest) (hcat : csum rest ≤ 8) (kk : Vw X (pc + 3) ls (.int v :: rest) σ2) : Vw X pc ls st σ :=
  V_callV hX hR hm hC hd hs hn hnl hst hcat (fun r σ3 h => by obtain ⟨rfl, rfl⟩ := h; exact kk)
theorem V_callVv {X : XC} {own : String} {cc : ByteArray} {nL pc : Nat} {ls : List (Option Value)} {st : List Value} {σ : Mem} {index n d mx : Nat} {y : MethodName} {bytes : ByteArray} {ret : Option FieldType} {As rest : List Value} {ci b : Nat} {fs : List (Option Nat)} {σ2 : Mem} (hX : Cok X own cc nL) (hR : Rok X (d + 1)) (hm : MthV own index y ci bytes mx ret n) (hC : Cc y bytes mx ret d (.ref b :: As) σ (rV σ2)) (hd : decode cc pc = .ok (.invokevirtual index, 3)) (hs : shp[b]? = some (.inl (ci, fs))) (hn : As.length = n) (hnl : ls.length = nL) (hst : st = As.reverse ++ .ref b :: rest) (hcat : csum rest ≤ 8) (kk : Vw X (pc + 3) ls rest σ2) : Vw X pc ls st σ :=
  V_callV hX hR hm hC hd hs hn hnl hst hcat (fun r σ3 h => by obtain ⟨rfl, rfl⟩ := h; exact kk)
theorem V_callVp {X : XC} {own : String} {cc : ByteArray} {nL pc : Nat} {ls : List (Option Value)} {st : List Value} {σ : Mem} {index n d mx : Nat} {y : MethodName} {bytes : ByteArray} {ret : Option FieldType} {As rest : List Value} {ci b : Nat} {fs : List (Option Nat)} {P : Int32 → Mem → Prop} (hX : Cok X own cc nL) (hR : Rok X (d + 1)) (hm : MthV own index y ci bytes mx ret n) (hC : Cc y bytes mx ret d (.ref b :: As) σ (rP P)) (hd : decode cc pc = .ok (.invokevirtual index, 3)) (hs : shp[b]? = some (.inl (ci, fs))) (hn : As.length = n) (hnl : ls.length = nL) (hst : st = As.reverse ++ .ref b :: rest) (hcat : csum rest ≤ 8) (kk : ∀ (v : Int32) (σ2 : Mem), P v σ2 → Vw X (pc + 3) ls (.int v :: rest) σ2) : Vw X pc ls st σ :=
  V_callV hX hR hm hC hd hs hn hnl hst hcat (fun r σ3 h => by obtain ⟨v, rfl, h⟩ := h; exact kk v σ3 h)
theorem V_callVq {X : XC} {own : String} {cc : ByteArray} {nL pc : Nat} {ls : List (Option Value)} {st : List Value} {σ : Mem} {index n d mx : Nat} {y : MethodName} {bytes : ByteArray} {ret : Option FieldType} {As rest : List Value} {ci b : Nat} {fs : List (Option Nat)} {P : Mem → Prop} (hX : Cok X own cc nL) (hR : Rok X (d + 1)) (hm : MthV own index y ci bytes mx ret n) (hC : Cc y bytes mx ret d (.ref b :: As) σ (rQ P)) (hd : decode cc pc = .ok (.invokevirtual index, 3)) (hs : shp[b]? = some (.inl (ci, fs))) (hn : As.length = n) (hnl : ls.length = nL) (hst : st = As.reverse ++ .ref b :: rest) (hcat : csum rest ≤ 8) (kk : ∀ σ2 : Mem, P σ2 → Vw X (pc + 3) ls rest σ2) : Vw X pc ls st σ :=
  V_callV hX hR hm hC hd hs hn hnl hst hcat (fun r σ3 h => by obtain ⟨rfl, h⟩ := h; exact kk σ3 h)
theorem V_callSi {X : XC} {own : String} {cc : ByteArray} {nL pc : Nat} {ls : List (Option Value)} {st : List Value} {σ : Mem} {index n d mx : Nat} {y : MethodName} {bytes : ByteArray} {ret : Option FieldType} {As rest : List Value} {v : Int32} {σ2 : Mem} (hX : Cok X own cc nL) (hR : Rok X (d + 1)) (hm : MthS own index y bytes mx ret n) (hC : Cc y bytes mx ret d (As) σ (rI v σ2)) (hd : decode cc pc = .ok (.invokestatic index, 3)) (hn : As.length = n) (hnl : ls.length = nL) (hst : st = As.reverse ++ rest) (hcat : csum rest ≤ 8) (kk : Vw X (pc + 3) ls (.int v :: rest) σ2) : Vw X pc ls st σ :=
  V_callS hX hR hm hC hd hn hnl hst hcat (fun r σ3 h => by obtain ⟨rfl, rfl⟩ := h; exact kk)
theorem V_callSv {X : XC} {own : String} {cc : ByteArray} {nL pc : Nat} {ls : List (Option Value)} {st : List Value} {σ : Mem} {index n d mx : Nat} {y : MethodName} {bytes : ByteArray} {ret : Option FieldType} {As rest : List Value} {σ2 : Mem} (hX : Cok X own cc nL) (hR : Rok X (d + 1)) (hm : MthS own index y bytes mx ret n) (hC : Cc y bytes mx ret d (As) σ (rV σ2)) (hd : decode cc pc = .ok (.invokestatic index, 3)) (hn : As.length = n) (hnl : ls.length = nL) (hst : st = As.reverse ++ rest) (hcat : csum rest ≤ 8) (kk : Vw X (pc + 3) ls rest σ2) : Vw X pc ls st σ :=
  V_callS hX hR hm hC hd hn hnl hst hcat (fun r σ3 h => by obtain ⟨rfl, rfl⟩ := h; exact kk)
theorem V_callSp {X : XC} {own : String} {cc : ByteArray} {nL pc : Nat} {ls : List (Option Value)} {st : List Value} {σ : Mem} {index n d mx : Nat} {y : MethodName} {bytes : ByteArray} {ret : Option FieldType} {As rest : List Value} {P : Int32 → Mem → Prop} (hX : Cok X own cc nL) (hR : Rok X (d + 1)) (hm : MthS own index y bytes mx ret n) (hC : Cc y bytes mx ret d (As) σ (rP P)) (hd : decode cc pc = .ok (.invokestatic index, 3)) (hn : As.length = n) (hnl : ls.length = nL) (hst : st = As.reverse ++ rest) (hcat : csum rest ≤ 8) (kk : ∀ (v : Int32) (σ2 : Mem), P v σ2 → Vw X (pc + 3) ls (.int v :: rest) σ2) : Vw X pc ls st σ :=
  V_callS hX hR hm hC hd hn hnl hst hcat (fun r σ3 h => by obtain ⟨v, rfl, h⟩ := h; exact kk v σ3 h)
theorem V_callSq {X : XC} {own : String} {cc : ByteArray} {nL pc : Nat} {ls : List (Option Value)} {st : List Value} {σ : Mem} {index n d mx : Nat} {y : MethodName} {bytes : ByteArray} {ret : Option FieldType} {As rest : List Value} {P : Mem → Prop} (hX : Cok X own cc nL) (hR : Rok X (d + 1)) (hm : MthS own index y bytes mx ret n) (hC : Cc y bytes mx ret d (As) σ (rQ P)) (hd : decode cc pc = .ok (.invokestatic index, 3)) (hn : As.length = n) (hnl : ls.length = nL) (hst : st = As.reverse ++ rest) (hcat : csum rest ≤ 8) (kk : ∀ σ2 : Mem, P σ2 → Vw X (pc + 3) ls rest σ2) : Vw X pc ls st σ :=
  V_callS hX hR hm hC hd hn hnl hst hcat (fun r σ3 h => by obtain ⟨rfl, h⟩ := h; exact kk σ3 h)
theorem V_if_eqB {X : XC} {own : String} {cc : ByteArray} {nL pc : Nat} {ls : List (Option Value)} {st : List Value} {σ : Mem} {b : Bool} {off : Int} {tgt : Nat} (hX : Cok X own cc nL) (hd : decode cc pc = .ok (.ifCond .eq off, 3)) (ht : (pc : Int) + off = (tgt : Int)) (kt : b = false → Vw X tgt ls st σ) (kf : b = true → Vw X (pc + 3) ls st σ) : Vw X pc ls (.int (bI b) :: st) σ :=
  V_if_eq hX hd ht (fun h => kt (bI_z.mp h)) (fun h => kf (by cases b with
    | true => rfl
    | false => exact absurd (bI_z.mpr rfl) h))
theorem V_if_neB {X : XC} {own : String} {cc : ByteArray} {nL pc : Nat} {ls : List (Option Value)} {st : List Value} {σ : Mem} {b : Bool} {off : Int} {tgt : Nat} (hX : Cok X own cc nL) (hd : decode cc pc = .ok (.ifCond .ne off, 3)) (ht : (pc : Int) + off = (tgt : Int)) (kt : b = true → Vw X tgt ls st σ) (kf : b = false → Vw X (pc + 3) ls st σ) : Vw X pc ls (.int (bI b) :: st) σ :=
  V_if_ne hX hd ht (fun h => kt (by cases b with
    | true => rfl
    | false => exact absurd (bI_z.mpr rfl) h)) (fun h => kf (bI_z.mp h))
theorem V_icmp_eqN {X : XC} {own : String} {cc : ByteArray} {nL pc : Nat} {ls : List (Option Value)} {st : List Value} {σ : Mem} {a b : Nat} {off : Int} {tgt : Nat} (hX : Cok X own cc nL) (hd : decode cc pc = .ok (.if_icmp .eq off, 3)) (ht : (pc : Int) + off = (tgt : Int)) (ha : a < 2 ^ 31) (hb : b < 2 ^ 31) (kt : a = b → Vw X tgt ls st σ) (kf : a ≠ b → Vw X (pc + 3) ls st σ) : Vw X pc ls (.int (nI b) :: .int (nI a) :: st) σ :=
  V_icmp_eq hX hd ht (fun h => kt ((nI_eq ha hb).mp h)) (fun h => kf (fun q => h ((nI_eq ha hb).mpr q)))
theorem V_icmp_neN {X : XC} {own : String} {cc : ByteArray} {nL pc : Nat} {ls : List (Option Value)} {st : List Value} {σ : Mem} {a b : Nat} {off : Int} {tgt : Nat} (hX : Cok X own cc nL) (hd : decode cc pc = .ok (.if_icmp .ne off, 3)) (ht : (pc : Int) + off = (tgt : Int)) (ha : a < 2 ^ 31) (hb : b < 2 ^ 31) (kt : a ≠ b → Vw X tgt ls st σ) (kf : a = b → Vw X (pc + 3) ls st σ) : Vw X pc ls (.int (nI b) :: .int (nI a) :: st) σ :=
  V_icmp_ne hX hd ht (fun h => kt (fun q => h ((nI_eq ha hb).mpr q))) (fun h => kf ((nI_eq ha hb).mp h))
theorem V_icmp_ltN {X : XC} {own : String} {cc : ByteArray} {nL pc : Nat} {ls : List (Option Value)} {st : List Value} {σ : Mem} {a b : Nat} {off : Int} {tgt : Nat} (hX : Cok X own cc nL) (hd : decode cc pc = .ok (.if_icmp .lt off, 3)) (ht : (pc : Int) + off = (tgt : Int)) (ha : a < 2 ^ 31) (hb : b < 2 ^ 31) (kt : a < b → Vw X tgt ls st σ) (kf : b ≤ a → Vw X (pc + 3) ls st σ) : Vw X pc ls (.int (nI b) :: .int (nI a) :: st) σ :=
  V_icmp_lt hX hd ht (fun h => kt ((nI_ltI ha hb).mp h)) (fun h => kf (Nat.not_lt.mp (fun q => h ((nI_ltI ha hb).mpr q))))
theorem V_icmp_geN {X : XC} {own : String} {cc : ByteArray} {nL pc : Nat} {ls : List (Option Value)} {st : List Value} {σ : Mem} {a b : Nat} {off : Int} {tgt : Nat} (hX : Cok X own cc nL) (hd : decode cc pc = .ok (.if_icmp .ge off, 3)) (ht : (pc : Int) + off = (tgt : Int)) (ha : a < 2 ^ 31) (hb : b < 2 ^ 31) (kt : b ≤ a → Vw X tgt ls st σ) (kf : a < b → Vw X (pc + 3) ls st σ) : Vw X pc ls (.int (nI b) :: .int (nI a) :: st) σ :=
  V_icmp_ge hX hd ht (fun h => kt ((nI_leI hb ha).mp h)) (fun h => kf (Nat.not_le.mp (fun q => h ((nI_leI hb ha).mpr q))))
theorem V_icmp_gtN {X : XC} {own : String} {cc : ByteArray} {nL pc : Nat} {ls : List (Option Value)} {st : List Value} {σ : Mem} {a b : Nat} {off : Int} {tgt : Nat} (hX : Cok X own cc nL) (hd : decode cc pc = .ok (.if_icmp .gt off, 3)) (ht : (pc : Int) + off = (tgt : Int)) (ha : a < 2 ^ 31) (hb : b < 2 ^ 31) (kt : b < a → Vw X tgt ls st σ) (kf : a ≤ b → Vw X (pc + 3) ls st σ) : Vw X pc ls (.int (nI b) :: .int (nI a) :: st) σ :=
  V_icmp_gt hX hd ht (fun h => kt ((nI_ltI hb ha).mp h)) (fun h => kf (Nat.not_lt.mp (fun q => h ((nI_ltI hb ha).mpr q))))
theorem V_icmp_leN {X : XC} {own : String} {cc : ByteArray} {nL pc : Nat} {ls : List (Option Value)} {st : List Value} {σ : Mem} {a b : Nat} {off : Int} {tgt : Nat} (hX : Cok X own cc nL) (hd : decode cc pc = .ok (.if_icmp .le off, 3)) (ht : (pc : Int) + off = (tgt : Int)) (ha : a < 2 ^ 31) (hb : b < 2 ^ 31) (kt : a ≤ b → Vw X tgt ls st σ) (kf : b < a → Vw X (pc + 3) ls st σ) : Vw X pc ls (.int (nI b) :: .int (nI a) :: st) σ :=
  V_icmp_le hX hd ht (fun h => kt ((nI_leI ha hb).mp h)) (fun h => kf (Nat.not_le.mp (fun q => h ((nI_leI ha hb).mpr q))))
theorem mu_at {σ : Mem} {p i : Nat} {v : Int32} : mu σ p i v p i = v := by simp [mu]
theorem mu_np {σ : Mem} {p q i j : Nat} {v : Int32} (h : q ≠ p) : mu σ p i v q j = σ q j := by simp [mu, h]
theorem mu_ni {σ : Mem} {p i j : Nat} {v : Int32} (h : j ≠ i) : mu σ p i v p j = σ p j := by simp [mu, h]
end
section
theorem mX2_57 : Cond.methodLink RX2 57 Lib.Math.min.name ∈ lw_w := lw_mem 246 (by decide +kernel) (by decide +kernel)
theorem mX2_74 : Cond.methodLink RX2 74 Lib.Math.max.name ∈ lw_w := lw_mem 277 (by decide +kernel) (by decide +kernel)

set_option maxRecDepth 100000 in
set_option maxHeartbeats 4000000 in
theorem c_isUnder (x b : Int32) (σ : Mem) : Cc yX5_isUnder cX5_isUnder 2 (some .boolean) 0 [.int x, .int b] σ (rI (bI (decide (0 ≤ x ∧ x < b))) σ) := by
  refine Cc.intro (by decide +kernel) [some (.int x), some (.int b)] (fun _ => rfl) rfl (fun _ => Nat.le_of_ble_eq_true rfl) ?_
  intro X hX hR hr
  refine V_iload_n (pc := 0) (i := 0) hX dX5_isUnder_0 rfl rfl ?_
  refine V_if_lt (pc := 1) (tgt := 13) hX dX5_isUnder_1 (by decide) (fun h1 => ?_) (fun h1 => ?_)
  · refine V_iconst (pc := 13) (v := (nI 0)) hX dX5_isUnder_13 (by decide +kernel) ?_
    exact V_iret (pc := 14) (st := []) hX hr (by first | rfl | exact bI_nar _ | decide +kernel) dX5_isUnder_14 (⟨by rw [decide_eq_false (fun h => Int32.not_le.mpr h1 h.1)]; rfl, rfl⟩)
  · refine V_iload_n (pc := 4) (i := 0) hX dX5_isUnder_4 rfl rfl ?_
    refine V_iload_n (pc := 5) (i := 1) hX dX5_isUnder_5 rfl rfl ?_
    refine V_icmp_ge (pc := 6) (tgt := 13) hX dX5_isUnder_6 (by decide) (fun h6 => ?_) (fun h6 => ?_)
    · refine V_iconst (pc := 13) (v := (nI 0)) hX dX5_isUnder_13 (by decide +kernel) ?_
      exact V_iret (pc := 14) (st := []) hX hr (by first | rfl | exact bI_nar _ | decide +kernel) dX5_isUnder_14 (⟨by rw [decide_eq_false (fun h => Int32.not_le.mpr h.2 h6)]; rfl, rfl⟩)
    · refine V_iconst (pc := 9) (v := (nI 1)) hX dX5_isUnder_9 (by decide +kernel) ?_
      refine V_goto (pc := 10) (tgt := 14) hX dX5_isUnder_10 (by decide) ?_
      exact V_iret (pc := 14) (st := []) hX hr (by first | rfl | exact bI_nar _ | decide +kernel) dX5_isUnder_14 (⟨by rw [decide_eq_true (⟨Int32.not_lt.mp h1, Int32.not_le.mp h6⟩)]; rfl, rfl⟩)

set_option maxRecDepth 100000 in
set_option maxHeartbeats 4000000 in
theorem c_isWithin (x a b : Int32) (σ : Mem) : Cc yX5_isWithin cX5_isWithin 3 (some .boolean) 0 [.int x, .int a, .int b] σ (rI (bI (decide (a ≤ x ∧ x ≤ b))) σ) := by
  refine Cc.intro (by decide +kernel) [some (.int x), some (.int a), some (.int b)] (fun _ => rfl) rfl (fun _ => Nat.le_of_ble_eq_true rfl) ?_
  intro X hX hR hr
  refine V_iload_n (pc := 0) (i := 0) hX dX5_isWithin_0 rfl rfl ?_
  refine V_iload_n (pc := 1) (i := 1) hX dX5_isWithin_1 rfl rfl ?_
  refine V_icmp_lt (pc := 2) (tgt := 14) hX dX5_isWithin_2 (by decide) (fun h2 => ?_) (fun h2 => ?_)
  · refine V_iconst (pc := 14) (v := (nI 0)) hX dX5_isWithin_14 (by decide +kernel) ?_
    exact V_iret (pc := 15) (st := []) hX hr (by first | rfl | exact bI_nar _ | decide +kernel) dX5_isWithin_15 (⟨by rw [decide_eq_false (fun h => Int32.not_le.mpr h2 h.1)]; rfl, rfl⟩)
  · refine V_iload_n (pc := 5) (i := 0) hX dX5_isWithin_5 rfl rfl ?_
    refine V_iload_n (pc := 6) (i := 2) hX dX5_isWithin_6 rfl rfl ?_
    refine V_icmp_gt (pc := 7) (tgt := 14) hX dX5_isWithin_7 (by decide) (fun h7 => ?_) (fun h7 => ?_)
    · refine V_iconst (pc := 14) (v := (nI 0)) hX dX5_isWithin_14 (by decide +kernel) ?_
      exact V_iret (pc := 15) (st := []) hX hr (by first | rfl | exact bI_nar _ | decide +kernel) dX5_isWithin_15 (⟨by rw [decide_eq_false (fun h => Int32.not_le.mpr h7 h.2)]; rfl, rfl⟩)
    · refine V_iconst (pc := 10) (v := (nI 1)) hX dX5_isWithin_10 (by decide +kernel) ?_
      refine V_goto (pc := 11) (tgt := 15) hX dX5_isWithin_11 (by decide) ?_
      exact V_iret (pc := 15) (st := []) hX hr (by first | rfl | exact bI_nar _ | decide +kernel) dX5_isWithin_15 (⟨by rw [decide_eq_true (⟨Int32.not_lt.mp h2, Int32.not_lt.mp h7⟩)]; rfl, rfl⟩)

theorem bit1 (x : Int32) : (x &&& nI 1 = 0) ↔ bt x 0 = false := by
  constructor
  · intro h
    have h1 : bt (x &&& nI 1) 0 = false := by rw [h]; exact b_0 0
    rw [b_and] at h1
    have h2 : bt (nI 1) 0 = true := by decide +kernel
    rw [h2, Bool.and_true] at h1
    exact h1
  · intro h
    apply b_ext
    intro i hi
    rw [b_and, b_0]
    by_cases h0 : i = 0
    · subst h0; rw [h]; rfl
    · have h2 : ∀ i, i < 32 → i ≠ 0 → bt (nI 1) i = false := by decide +kernel
      rw [h2 i hi h0, Bool.and_false]

set_option maxRecDepth 100000 in
set_option maxHeartbeats 4000000 in
theorem c_holds (x : Int32) (k : Nat) (hk : k < 32) (σ : Mem) : Cc yX5_holds cX5_holds 2 (some .boolean) 0 [.int x, .int (nI k)] σ (rI (bI (bt x k)) σ) := by
  refine Cc.intro (by decide +kernel) [some (.int x), some (.int (nI k))] (fun _ => rfl) rfl (fun _ => Nat.le_of_ble_eq_true rfl) ?_
  intro X hX hR hr
  refine V_iload_n (pc := 0) (i := 0) hX dX5_holds_0 rfl rfl ?_
  refine V_iload_n (pc := 1) (i := 1) hX dX5_holds_1 rfl rfl ?_
  refine V_iushr (pc := 2) hX dX5_holds_2 ?_
  refine V_iconst (pc := 3) (v := (nI 1)) hX dX5_holds_3 (by decide +kernel) ?_
  refine V_iand (pc := 4) hX dX5_holds_4 ?_
  refine V_if_eq (pc := 5) (tgt := 12) hX dX5_holds_5 (by decide) (fun h5 => ?_) (fun h5 => ?_)
  · refine V_iconst (pc := 12) (v := (nI 0)) hX dX5_holds_12 (by decide +kernel) ?_
    exact V_iret (pc := 13) (st := []) hX hr (by first | rfl | exact bI_nar _ | decide +kernel) dX5_holds_13 (⟨by
      rw [bit1, b_ushr k hk, Nat.add_zero] at h5
      rw [h5]; rfl, rfl⟩)
  · refine V_iconst (pc := 8) (v := (nI 1)) hX dX5_holds_8 (by decide +kernel) ?_
    refine V_goto (pc := 9) (tgt := 13) hX dX5_holds_9 (by decide) ?_
    exact V_iret (pc := 13) (st := []) hX hr (by first | rfl | exact bI_nar _ | decide +kernel) dX5_holds_13 (⟨by
      rw [bit1, b_ushr k hk, Nat.add_zero] at h5
      rw [Bool.not_eq_false] at h5
      rw [h5]; rfl, rfl⟩)
end
section
/-! ===== SETS (the class's): answers as functions of the memory ===== -/
/-- the prices of the first t things that are among the bits, added -/
def pf (b : Int32) (pr : Nat → Int32) : Nat → Int32
  | 0 => nI 0
  | t + 1 => if bt b t then pf b pr t + pr t else pf b pr t
def imin (x y : Int32) : Int32 := if y < x then y else x
def imax (x y : Int32) : Int32 := if x < y then y else x
/-- the least gap of the first k sets that have t -/
def lgap (c th : Nat → Int32) (pr : Nat → Int32) (t : Nat) : Nat → Int32
  | 0 => nI 1000
  | k + 1 => if bt (th k) t then imin (lgap c th pr t k) (c k - pf (th k) pr 12) else lgap c th pr t k
def havf (th : Nat → Int32) (t : Nat) : Nat → Nat
  | 0 => 0
  | k + 1 => if bt (th k) t then havf th t k + 1 else havf th t k
theorem havf_le (th : Nat → Int32) (t : Nat) : ∀ k, havf th t k ≤ k
  | 0 => Nat.le_refl _
  | k + 1 => by
    have := havf_le th t k
    unfold havf
    split <;> omega
def sharf (d : Int32) (th : Nat → Int32) (n : Nat) : Nat → Int32
  | 0 => nI 0
  | t + 1 => if bt d t then imax (sharf d th n t) (nI (havf th t n)) else sharf d th n t
/-- the kind as it is told -/
def kindf (bo : Int32) (s : Nat) (f c : Int32) : Int32 := if bt bo s then nI 3 else if nI 2 * f < c then nI 1 else nI 2
def nearf (bo : Int32) (c th : Nat → Int32) (pr : Nat → Int32) : Nat → Nat
  | 0 => 0
  | k + 1 => if kindf bo k (pf (th k) pr 12) (c k) = nI 2 then nearf bo c th pr k + 1 else nearf bo c th pr k
theorem nearf_le (bo : Int32) (c th : Nat → Int32) (pr : Nat → Int32) : ∀ k, nearf bo c th pr k ≤ k
  | 0 => Nat.le_refl _
  | k + 1 => by
    have := nearf_le bo c th pr k
    unfold nearf
    split <;> omega
/-- buying: the sets among the first k that have t and are tight: what is bought, what is met, what it costs -/
def tight (c th : Nat → Int32) (pr : Nat → Int32) (t k : Nat) : Bool := bt (th k) t && decide (pf (th k) pr 12 = c k)
def buyB (c th : Nat → Int32) (pr : Nat → Int32) (t : Nat) (b : Int32) : Nat → Int32
  | 0 => b
  | k + 1 => if tight c th pr t k then buyB c th pr t b k ||| (nI 1 <<< (nI k &&& 31)) else buyB c th pr t b k
def buyM (c th : Nat → Int32) (pr : Nat → Int32) (t : Nat) (b : Int32) : Nat → Int32
  | 0 => b
  | k + 1 => if tight c th pr t k then buyM c th pr t b k ||| th k else buyM c th pr t b k
def buyC (c th : Nat → Int32) (pr : Nat → Int32) (t : Nat) : Nat → Int32
  | 0 => nI 0
  | k + 1 => if tight c th pr t k then buyC c th pr t k + c k else buyC c th pr t k

theorem mu_f (σ : Mem) (p i : Nat) (v : Int32) (q : Nat) : mu σ p i v q = if q = p then upd (σ p) i v else σ q := by
  by_cases h : q = p
  · subst h; simp [mu_row]
  · rw [if_neg h, ← mu_ne h]
theorem upd_at (f : Nat → Int32) (k : Nat) (x : Int32) (j : Nat) : upd f k x j = if j = k then x else f j := rfl
theorem mu_mu (σ : Mem) (p i : Nat) (v w : Int32) : mu (mu σ p i v) p i w = mu σ p i w := by
  funext q j
  simp only [mu]
  split <;> simp_all
theorem mu_comm (σ : Mem) {p i q j : Nat} (v w : Int32) (h : ¬ (p = q ∧ i = j)) : mu (mu σ p i v) q j w = mu (mu σ q j w) p i v := by
  funext a b
  simp only [mu]
  by_cases h1 : a = q ∧ b = j
  · rw [if_pos h1, if_neg (fun h2 => h ⟨h2.1.symm.trans h1.1, h2.2.symm.trans h1.2⟩), if_pos h1]
  · rw [if_neg h1, if_neg h1]
theorem mu_self (σ : Mem) (p i : Nat) : mu σ p i (σ p i) = σ := by
  funext a b
  simp only [mu]
  split
  · rename_i h; rw [h.1, h.2]
  · rfl
theorem Vw.mem {X : XC} {pc : Nat} {ls : List (Option Value)} {st : List Value} {σ σ' : Mem} (e : σ' = σ) (h : Vw X pc ls st σ') : Vw X pc ls st σ := e ▸ h

set_option maxRecDepth 100000 in
set_option maxHeartbeats 4000000 in
theorem l_pricesOf {b : Int32} {X : XC} {P : Option Value → Mem → Prop} {σ : Mem} (hX : Cok X RX2 cX2_pricesOf 4) (hR : Rok X 1) (hr : Ret X (some .int) P) (hp : P (some (.int (pf b (σ 19) 12))) σ) (k : Nat) (hk : k ≤ 12) : Vw X 4 [some (.ref 2), some (.int b), some (.int (pf b (σ 19) k)), some (.int (nI k))] [] σ := by
  refine V_iload_n (pc := 4) (i := 3) hX dX2_pricesOf_4 rfl rfl ?_
  refine V_bipush (pc := 5) (v := (nI 12)) hX dX2_pricesOf_5 (by decide +kernel) ?_
  refine V_icmp_geN (pc := 7) (tgt := 33) hX dX2_pricesOf_7 (by decide) (by omega) (by omega) (fun h7 => ?_) (fun h7 => ?_)
  · obtain rfl : k = 12 := by omega
    refine V_iload_n (pc := 33) (i := 2) hX dX2_pricesOf_33 rfl rfl ?_
    exact V_iret (pc := 34) (st := []) hX hr (by first | rfl | exact bI_nar _ | decide +kernel) dX2_pricesOf_34 (hp)
  · refine V_iload_n (pc := 10) (i := 1) hX dX2_pricesOf_10 rfl rfl ?_
    refine V_iload_n (pc := 11) (i := 3) hX dX2_pricesOf_11 rfl rfl ?_
    refine V_callSi (pc := 12) hX (hR.mono (by decide)) mX2_32 (c_holds _ _ (by omega) _) dX2_pricesOf_12 rfl rfl rfl (Nat.le_of_ble_eq_true rfl) ?_
    refine V_if_eqB (pc := 15) (tgt := 27) hX dX2_pricesOf_15 (by decide) (fun h15 => ?_) (fun h15 => ?_)
    · refine V_iinc3 (pc := 27) hX dX2_pricesOf_27 rfl (iinc1 _) ?_
      refine V_goto (pc := 30) (tgt := 4) hX dX2_pricesOf_30 (by decide) ?_
      have ih := l_pricesOf hX hR hr hp (k + 1) (by omega)
      simp only [pf, h15, ↓reduceIte, Bool.false_eq_true] at ih
      exact ih
    · refine V_iload_n (pc := 18) (i := 2) hX dX2_pricesOf_18 rfl rfl ?_
      refine V_aload_n (pc := 19) (i := 0) hX dX2_pricesOf_19 rfl rfl ?_
      refine V_getr (pc := 20) hX fX2_18 dX2_pricesOf_20 rfl rfl ?_
      refine V_iload_n (pc := 23) (i := 3) hX dX2_pricesOf_23 rfl rfl ?_
      refine V_iald (pc := 24) hX dX2_pricesOf_24 (rfl) (rfl) (by omega) (by decide) ?_
      refine V_iadd (pc := 25) hX dX2_pricesOf_25 ?_
      refine V_istore2 (pc := 26) hX dX2_pricesOf_26 rfl ?_
      refine V_iinc3 (pc := 27) hX dX2_pricesOf_27 rfl (iinc1 _) ?_
      refine V_goto (pc := 30) (tgt := 4) hX dX2_pricesOf_30 (by decide) ?_
      have ih := l_pricesOf hX hR hr hp (k + 1) (by omega)
      simp only [pf, h15, ↓reduceIte, Bool.false_eq_true] at ih
      exact ih
termination_by 12 - k

set_option maxRecDepth 100000 in
set_option maxHeartbeats 4000000 in
theorem c_pricesOf (b : Int32) (σ : Mem) : Cc yX2_pricesOf cX2_pricesOf 4 (some .int) 1 [.ref 2, .int b] σ (rI (pf b (σ 19) 12) σ) := by
  refine Cc.intro (by decide +kernel) [some (.ref 2), some (.int b), none, none] (fun _ => rfl) rfl (fun _ => Nat.le_of_ble_eq_true rfl) ?_
  intro X hX hR hr
  refine V_iconst (pc := 0) (v := (nI 0)) hX dX2_pricesOf_0 (by decide +kernel) ?_
  refine V_istore2 (pc := 1) hX dX2_pricesOf_1 rfl ?_
  refine V_iconst (pc := 2) (v := (nI 0)) hX dX2_pricesOf_2 (by decide +kernel) ?_
  refine V_istore3 (pc := 3) hX dX2_pricesOf_3 rfl ?_
  exact l_pricesOf hX hR hr ⟨rfl, rfl⟩ 0 (by omega)

set_option maxRecDepth 100000 in
set_option maxHeartbeats 4000000 in
theorem c_filled (s : Nat) (hs : s < 10) (σ : Mem) : Cc yX2_filled cX2_filled 2 (some .int) 2 [.ref 2, .int (nI s)] σ (rI (pf (σ 18 s) (σ 19) 12) σ) := by
  refine Cc.intro (by decide +kernel) [some (.ref 2), some (.int (nI s))] (fun _ => rfl) rfl (fun _ => Nat.le_of_ble_eq_true rfl) ?_
  intro X hX hR hr
  refine V_aload_n (pc := 0) (i := 0) hX dX2_filled_0 rfl rfl ?_
  refine V_aload_n (pc := 1) (i := 0) hX dX2_filled_1 rfl rfl ?_
  refine V_getr (pc := 2) hX fX2_15 dX2_filled_2 rfl rfl ?_
  refine V_iload_n (pc := 5) (i := 1) hX dX2_filled_5 rfl rfl ?_
  refine V_iald (pc := 6) hX dX2_filled_6 (rfl) (rfl) (by omega) (by decide) ?_
  refine V_callVi (pc := 7) hX (hR.mono (by decide)) mX2_63 (c_pricesOf _ _) dX2_filled_7 rfl rfl rfl rfl (Nat.le_of_ble_eq_true rfl) ?_
  exact V_iret (pc := 10) (st := []) hX hr (by first | rfl | exact bI_nar _ | decide +kernel) dX2_filled_10 (⟨rfl, rfl⟩)

set_option maxRecDepth 100000 in
set_option maxHeartbeats 4000000 in
theorem c_pricesAdded (σ : Mem) : Cc yX2_pricesAdded cX2_pricesAdded 1 (some .int) 2 [.ref 2] σ (rI (pf (nI 4095) (σ 19) 12) σ) := by
  refine Cc.intro (by decide +kernel) [some (.ref 2)] (fun _ => rfl) rfl (fun _ => Nat.le_of_ble_eq_true rfl) ?_
  intro X hX hR hr
  refine V_aload_n (pc := 0) (i := 0) hX dX2_pricesAdded_0 rfl rfl ?_
  refine V_sipush (pc := 1) (v := (nI 4095)) hX dX2_pricesAdded_1 (by decide +kernel) ?_
  refine V_callVi (pc := 4) hX (hR.mono (by decide)) mX2_63 (c_pricesOf _ _) dX2_pricesAdded_4 rfl rfl rfl rfl (Nat.le_of_ble_eq_true rfl) ?_
  exact V_iret (pc := 7) (st := []) hX hr (by first | rfl | exact bI_nar _ | decide +kernel) dX2_pricesAdded_7 (⟨rfl, rfl⟩)

set_option maxRecDepth 100000 in
set_option maxHeartbeats 4000000 in
theorem c_isSet (x : Int32) (σ : Mem) : Cc yX2_isSet cX2_isSet 2 (some .boolean) 1 [.ref 2, .int x] σ (rI (bI (decide (0 ≤ x ∧ x < σ 2 3))) σ) := by
  refine Cc.intro (by decide +kernel) [some (.ref 2), some (.int x)] (fun _ => rfl) rfl (fun _ => Nat.le_of_ble_eq_true rfl) ?_
  intro X hX hR hr
  refine V_iload_n (pc := 0) (i := 1) hX dX2_isSet_0 rfl rfl ?_
  refine V_aload_n (pc := 1) (i := 0) hX dX2_isSet_1 rfl rfl ?_
  refine V_getf (pc := 2) hX fX2_21 dX2_isSet_2 rfl rfl ?_
  refine V_callSi (pc := 5) hX (hR.mono (by decide)) mX2_25 (c_isUnder _ _ _) dX2_isSet_5 rfl rfl rfl (Nat.le_of_ble_eq_true rfl) ?_
  exact V_iret (pc := 8) (st := []) hX hr (by first | rfl | exact bI_nar _ | decide +kernel) dX2_isSet_8 (⟨rfl, rfl⟩)

set_option maxRecDepth 100000 in
set_option maxHeartbeats 4000000 in
theorem c_isOffered (t : Nat) (ht : t < 12) (σ : Mem) : Cc yX2_isOffered cX2_isOffered 2 (some .boolean) 1 [.ref 2, .int (nI t)] σ (rI (bI (bt (σ 2 4) t)) σ) := by
  refine Cc.intro (by decide +kernel) [some (.ref 2), some (.int (nI t))] (fun _ => rfl) rfl (fun _ => Nat.le_of_ble_eq_true rfl) ?_
  intro X hX hR hr
  refine V_aload_n (pc := 0) (i := 0) hX dX2_isOffered_0 rfl rfl ?_
  refine V_getf (pc := 1) hX fX2_29 dX2_isOffered_1 rfl rfl ?_
  refine V_iload_n (pc := 4) (i := 1) hX dX2_isOffered_4 rfl rfl ?_
  refine V_callSi (pc := 5) hX (hR.mono (by decide)) mX2_32 (c_holds _ _ (by omega) _) dX2_isOffered_5 rfl rfl rfl (Nat.le_of_ble_eq_true rfl) ?_
  exact V_iret (pc := 8) (st := []) hX hr (by first | rfl | exact bI_nar _ | decide +kernel) dX2_isOffered_8 (⟨rfl, rfl⟩)

set_option maxRecDepth 100000 in
set_option maxHeartbeats 4000000 in
theorem c_isBought (t : Nat) (ht : t < 10) (σ : Mem) : Cc yX2_isBought cX2_isBought 2 (some .boolean) 1 [.ref 2, .int (nI t)] σ (rI (bI (bt (σ 2 6) t)) σ) := by
  refine Cc.intro (by decide +kernel) [some (.ref 2), some (.int (nI t))] (fun _ => rfl) rfl (fun _ => Nat.le_of_ble_eq_true rfl) ?_
  intro X hX hR hr
  refine V_aload_n (pc := 0) (i := 0) hX dX2_isBought_0 rfl rfl ?_
  refine V_getf (pc := 1) hX fX2_35 dX2_isBought_1 rfl rfl ?_
  refine V_iload_n (pc := 4) (i := 1) hX dX2_isBought_4 rfl rfl ?_
  refine V_callSi (pc := 5) hX (hR.mono (by decide)) mX2_32 (c_holds _ _ (by omega) _) dX2_isBought_5 rfl rfl rfl (Nat.le_of_ble_eq_true rfl) ?_
  exact V_iret (pc := 8) (st := []) hX hr (by first | rfl | exact bI_nar _ | decide +kernel) dX2_isBought_8 (⟨rfl, rfl⟩)

set_option maxRecDepth 100000 in
set_option maxHeartbeats 4000000 in
theorem l_leastGap {n t : Nat} {X : XC} {P : Option Value → Mem → Prop} {σ : Mem} (hX : Cok X RX2 cX2_leastGap 4) (hR : Rok X 4) (hr : Ret X (some .int) P) (hn : σ 2 3 = nI n) (hn10 : n ≤ 10) (ht : t < 12) (hp : P (some (.int (lgap (σ 17) (σ 18) (σ 19) t n))) σ) (k : Nat) (hk : k ≤ n) : Vw X 6 [some (.ref 2), some (.int (nI t)), some (.int (lgap (σ 17) (σ 18) (σ 19) t k)), some (.int (nI k))] [] σ := by
  refine V_iload_n (pc := 6) (i := 3) hX dX2_leastGap_6 rfl rfl ?_
  refine V_aload_n (pc := 7) (i := 0) hX dX2_leastGap_7 rfl rfl ?_
  refine V_getf (pc := 8) hX fX2_21 dX2_leastGap_8 rfl rfl ?_
  rw [hn]
  refine V_icmp_geN (pc := 11) (tgt := 50) hX dX2_leastGap_11 (by decide) (by omega) (by omega) (fun h11 => ?_) (fun h11 => ?_)
  · obtain rfl : k = n := by omega
    refine V_iload_n (pc := 50) (i := 2) hX dX2_leastGap_50 rfl rfl ?_
    exact V_iret (pc := 51) (st := []) hX hr (by first | rfl | exact bI_nar _ | decide +kernel) dX2_leastGap_51 (hp)
  · refine V_aload_n (pc := 14) (i := 0) hX dX2_leastGap_14 rfl rfl ?_
    refine V_getr (pc := 15) hX fX2_15 dX2_leastGap_15 rfl rfl ?_
    refine V_iload_n (pc := 18) (i := 3) hX dX2_leastGap_18 rfl rfl ?_
    refine V_iald (pc := 19) hX dX2_leastGap_19 (rfl) (rfl) (by omega) (by decide) ?_
    refine V_iload_n (pc := 20) (i := 1) hX dX2_leastGap_20 rfl rfl ?_
    refine V_callSi (pc := 21) hX (hR.mono (by decide)) mX2_32 (c_holds _ _ (by omega) _) dX2_leastGap_21 rfl rfl rfl (Nat.le_of_ble_eq_true rfl) ?_
    refine V_if_eqB (pc := 24) (tgt := 44) hX dX2_leastGap_24 (by decide) (fun h24 => ?_) (fun h24 => ?_)
    · refine V_iinc3 (pc := 44) hX dX2_leastGap_44 rfl (iinc1 _) ?_
      refine V_goto (pc := 47) (tgt := 6) hX dX2_leastGap_47 (by decide) ?_
      have ih := l_leastGap hX hR hr hn hn10 ht hp (k + 1) (by omega)
      simp only [lgap, h24, ↓reduceIte, Bool.false_eq_true] at ih
      exact ih
    · refine V_iload_n (pc := 27) (i := 2) hX dX2_leastGap_27 rfl rfl ?_
      refine V_aload_n (pc := 28) (i := 0) hX dX2_leastGap_28 rfl rfl ?_
      refine V_getr (pc := 29) hX fX2_9 dX2_leastGap_29 rfl rfl ?_
      refine V_iload_n (pc := 32) (i := 3) hX dX2_leastGap_32 rfl rfl ?_
      refine V_iald (pc := 33) hX dX2_leastGap_33 (rfl) (rfl) (by omega) (by decide) ?_
      refine V_aload_n (pc := 34) (i := 0) hX dX2_leastGap_34 rfl rfl ?_
      refine V_iload_n (pc := 35) (i := 3) hX dX2_leastGap_35 rfl rfl ?_
      refine V_callVi (pc := 36) hX (hR.mono (by decide)) mX2_54 (c_filled _ (by omega) _) dX2_leastGap_36 rfl rfl rfl rfl (Nat.le_of_ble_eq_true rfl) ?_
      refine V_isub (pc := 39) hX dX2_leastGap_39 ?_
      refine V_mmin (pc := 40) hX (hR.mono (by decide)) mX2_57 dX2_leastGap_40 rfl (Nat.le_of_ble_eq_true rfl) ?_
      refine V_istore2 (pc := 43) hX dX2_leastGap_43 rfl ?_
      refine V_iinc3 (pc := 44) hX dX2_leastGap_44 rfl (iinc1 _) ?_
      refine V_goto (pc := 47) (tgt := 6) hX dX2_leastGap_47 (by decide) ?_
      have ih := l_leastGap hX hR hr hn hn10 ht hp (k + 1) (by omega)
      simp only [lgap, h24, ↓reduceIte, Bool.false_eq_true] at ih
      exact ih
termination_by n - k

set_option maxRecDepth 100000 in
set_option maxHeartbeats 4000000 in
theorem c_leastGap (n t : Nat) (σ : Mem) (hn : σ 2 3 = nI n) (hn10 : n ≤ 10) (ht : t < 12) : Cc yX2_leastGap cX2_leastGap 4 (some .int) 4 [.ref 2, .int (nI t)] σ (rI (lgap (σ 17) (σ 18) (σ 19) t n) σ) := by
  refine Cc.intro (by decide +kernel) [some (.ref 2), some (.int (nI t)), none, none] (fun _ => rfl) rfl (fun _ => Nat.le_of_ble_eq_true rfl) ?_
  intro X hX hR hr
  refine V_sipush (pc := 0) (v := (nI 1000)) hX dX2_leastGap_0 (by decide +kernel) ?_
  refine V_istore2 (pc := 3) hX dX2_leastGap_3 rfl ?_
  refine V_iconst (pc := 4) (v := (nI 0)) hX dX2_leastGap_4 (by decide +kernel) ?_
  refine V_istore3 (pc := 5) hX dX2_leastGap_5 rfl ?_
  exact l_leastGap hX hR hr hn hn10 ht ⟨rfl, rfl⟩ 0 (by omega)

def mbuy (σ : Mem) (t k : Nat) : Mem := mu (mu σ 2 6 (buyB (σ 17) (σ 18) (σ 19) t (σ 2 6) k)) 2 7 (buyM (σ 17) (σ 18) (σ 19) t (σ 2 7) k)
theorem mbuy_0 (σ : Mem) (t : Nat) : mbuy σ t 0 = σ := by
  unfold mbuy buyB buyM
  rw [mu_self]
  exact mu_self σ 2 7
theorem mbuy_t {σ : Mem} {t k : Nat} (h1 : bt (σ 18 k) t = true) (h2 : pf (σ 18 k) (σ 19) 12 = σ 17 k) : mbuy σ t (k + 1) = mu (mu (mbuy σ t k) 2 6 (mbuy σ t k 2 6 ||| (nI 1 <<< (nI k &&& 31)))) 2 7 (mbuy σ t k 2 7 ||| σ 18 k) := by
  have ht : tight (σ 17) (σ 18) (σ 19) t k = true := by simp [tight, h1, h2]
  unfold mbuy
  simp only [buyB, buyM, ht, ↓reduceIte]
  funext q j
  simp only [mu]
  by_cases a : q = 2 <;> by_cases b : j = 6 <;> by_cases c : j = 7 <;> simp_all
theorem mbuy_f {σ : Mem} {t k : Nat} (h1 : bt (σ 18 k) t = false ∨ pf (σ 18 k) (σ 19) 12 ≠ σ 17 k) : mbuy σ t (k + 1) = mbuy σ t k := by
  have ht : tight (σ 17) (σ 18) (σ 19) t k = false := by
    rcases h1 with h | h <;> simp [tight, h]
  unfold mbuy
  simp only [buyB, buyM, ht, Bool.false_eq_true, ↓reduceIte]
theorem mbuy_r {σ : Mem} {t k q : Nat} (h : q ≠ 2) : mbuy σ t k q = σ q := by
  unfold mbuy
  rw [← mu_ne h, ← mu_ne h]
theorem mbuy_c {σ : Mem} {t k j : Nat} (h : j ≠ 6) (h2 : j ≠ 7) : mbuy σ t k 2 j = σ 2 j := by
  unfold mbuy
  simp [mu, h, h2]
end
section
set_option maxRecDepth 100000 in
set_option maxHeartbeats 4000000 in
theorem l_buyTight {n t : Nat} {X : XC} {P : Option Value → Mem → Prop} {σ : Mem} (hX : Cok X RX2 cX2_buyTight 4) (hR : Rok X 4) (hr : Ret X (some .int) P) (hn : σ 2 3 = nI n) (hn10 : n ≤ 10) (ht : t < 12) (hp : P (some (.int (buyC (σ 17) (σ 18) (σ 19) t n))) (mbuy σ t n)) (k : Nat) (hk : k ≤ n) : Vw X 4 [some (.ref 2), some (.int (nI t)), some (.int (buyC (σ 17) (σ 18) (σ 19) t k)), some (.int (nI k))] [] (mbuy σ t k) := by
  have r17 : mbuy σ t k 17 = σ 17 := mbuy_r (by decide)
  have r18 : mbuy σ t k 18 = σ 18 := mbuy_r (by decide)
  have r19 : mbuy σ t k 19 = σ 19 := mbuy_r (by decide)
  have r23 : mbuy σ t k 2 3 = nI n := by rw [mbuy_c (by decide) (by decide)]; exact hn
  refine V_iload_n (pc := 4) (i := 3) hX dX2_buyTight_4 rfl rfl ?_
  refine V_aload_n (pc := 5) (i := 0) hX dX2_buyTight_5 rfl rfl ?_
  refine V_getf (pc := 6) hX fX2_21 dX2_buyTight_6 rfl rfl ?_
  rw [r23]
  refine V_icmp_geN (pc := 9) (tgt := 81) hX dX2_buyTight_9 (by decide) (by omega) (by omega) (fun h9 => ?_) (fun h9 => ?_)
  · obtain rfl : k = n := by omega
    refine V_iload_n (pc := 81) (i := 2) hX dX2_buyTight_81 rfl rfl ?_
    exact V_iret (pc := 82) (st := []) hX hr (by first | rfl | exact bI_nar _ | decide +kernel) dX2_buyTight_82 (hp)
  · refine V_aload_n (pc := 12) (i := 0) hX dX2_buyTight_12 rfl rfl ?_
    refine V_getr (pc := 13) hX fX2_15 dX2_buyTight_13 rfl rfl ?_
    refine V_iload_n (pc := 16) (i := 3) hX dX2_buyTight_16 rfl rfl ?_
    refine V_iald (pc := 17) hX dX2_buyTight_17 (rfl) (rfl) (by omega) (by decide) ?_
    refine V_iload_n (pc := 18) (i := 1) hX dX2_buyTight_18 rfl rfl ?_
    refine V_callSi (pc := 19) hX (hR.mono (by omega)) mX2_32 (c_holds _ _ (by omega) _) dX2_buyTight_19 rfl rfl rfl (Nat.le_of_ble_eq_true rfl) ?_
    refine V_if_eqB (pc := 22) (tgt := 75) hX dX2_buyTight_22 (by decide) (fun h22 => ?_) (fun h22 => ?_)
    · refine V_iinc3 (pc := 75) hX dX2_buyTight_75 rfl (iinc1 _) ?_
      refine V_goto (pc := 78) (tgt := 4) hX dX2_buyTight_78 (by decide) ?_
      have ih := l_buyTight hX hR hr hn hn10 ht hp (k + 1) (by omega)
      rw [r18] at h22
      rw [mbuy_f (Or.inl h22)] at ih
      simp only [buyC, tight, h22, Bool.false_and, Bool.false_eq_true, ↓reduceIte] at ih
      exact ih
    · refine V_aload_n (pc := 25) (i := 0) hX dX2_buyTight_25 rfl rfl ?_
      refine V_iload_n (pc := 26) (i := 3) hX dX2_buyTight_26 rfl rfl ?_
      refine V_callVi (pc := 27) hX (hR.mono (by omega)) mX2_54 (c_filled _ (by omega) _) dX2_buyTight_27 rfl rfl rfl rfl (Nat.le_of_ble_eq_true rfl) ?_
      refine V_aload_n (pc := 30) (i := 0) hX dX2_buyTight_30 rfl rfl ?_
      refine V_getr (pc := 31) hX fX2_9 dX2_buyTight_31 rfl rfl ?_
      refine V_iload_n (pc := 34) (i := 3) hX dX2_buyTight_34 rfl rfl ?_
      refine V_iald (pc := 35) hX dX2_buyTight_35 (rfl) (rfl) (by omega) (by decide) ?_
      refine V_icmp_ne (pc := 36) (tgt := 75) hX dX2_buyTight_36 (by decide) (fun h36 => ?_) (fun h36 => ?_)
      · refine V_iinc3 (pc := 75) hX dX2_buyTight_75 rfl (iinc1 _) ?_
        refine V_goto (pc := 78) (tgt := 4) hX dX2_buyTight_78 (by decide) ?_
        have ih := l_buyTight hX hR hr hn hn10 ht hp (k + 1) (by omega)
        rw [r17, r18, r19] at h36
        rw [mbuy_f (Or.inr h36)] at ih
        simp only [buyC, tight, decide_eq_false h36, Bool.and_false, Bool.false_eq_true, ↓reduceIte] at ih
        exact ih
      · refine V_aload_n (pc := 39) (i := 0) hX dX2_buyTight_39 rfl rfl ?_
        refine V_dup (pc := 40) hX dX2_buyTight_40 rfl ?_
        refine V_getf (pc := 41) hX fX2_35 dX2_buyTight_41 rfl rfl ?_
        refine V_iconst (pc := 44) (v := (nI 1)) hX dX2_buyTight_44 (by decide +kernel) ?_
        refine V_iload_n (pc := 45) (i := 3) hX dX2_buyTight_45 rfl rfl ?_
        refine V_ishl (pc := 46) hX dX2_buyTight_46 ?_
        refine V_ior (pc := 47) hX dX2_buyTight_47 ?_
        refine V_putf (pc := 48) hX fX2_35 gi2_6 dX2_buyTight_48 rfl rfl ?_
        refine V_aload_n (pc := 51) (i := 0) hX dX2_buyTight_51 rfl rfl ?_
        refine V_dup (pc := 52) hX dX2_buyTight_52 rfl ?_
        refine V_getf (pc := 53) hX fX2_41 dX2_buyTight_53 rfl rfl ?_
        refine V_aload_n (pc := 56) (i := 0) hX dX2_buyTight_56 rfl rfl ?_
        refine V_getr (pc := 57) hX fX2_15 dX2_buyTight_57 rfl rfl ?_
        refine V_iload_n (pc := 60) (i := 3) hX dX2_buyTight_60 rfl rfl ?_
        refine V_iald (pc := 61) hX dX2_buyTight_61 (rfl) (rfl) (by omega) (by decide) ?_
        refine V_ior (pc := 62) hX dX2_buyTight_62 ?_
        refine V_putf (pc := 63) hX fX2_41 gi2_7 dX2_buyTight_63 rfl rfl ?_
        refine V_iload_n (pc := 66) (i := 2) hX dX2_buyTight_66 rfl rfl ?_
        refine V_aload_n (pc := 67) (i := 0) hX dX2_buyTight_67 rfl rfl ?_
        refine V_getr (pc := 68) hX fX2_9 dX2_buyTight_68 rfl rfl ?_
        refine V_iload_n (pc := 71) (i := 3) hX dX2_buyTight_71 rfl rfl ?_
        refine V_iald (pc := 72) hX dX2_buyTight_72 (rfl) (rfl) (by omega) (by decide) ?_
        refine V_iadd (pc := 73) hX dX2_buyTight_73 ?_
        refine V_istore2 (pc := 74) hX dX2_buyTight_74 rfl ?_
        refine V_iinc3 (pc := 75) hX dX2_buyTight_75 rfl (iinc1 _) ?_
        refine V_goto (pc := 78) (tgt := 4) hX dX2_buyTight_78 (by decide) ?_
        have ih := l_buyTight hX hR hr hn hn10 ht hp (k + 1) (by omega)
        rw [r18] at h22
        rw [r17, r18, r19] at h36
        rw [mbuy_t h22 h36] at ih
        simp only [buyC, tight, h22, decide_eq_true h36, Bool.and_true, ↓reduceIte] at ih
        simp only [mu_f, upd_at, r17, r18, Nat.reduceEqDiff, ↓reduceIte]
        exact ih
termination_by n - k
set_option maxRecDepth 100000 in
set_option maxHeartbeats 4000000 in
theorem c_buyTight (n t : Nat) (σ : Mem) (hn : σ 2 3 = nI n) (hn10 : n ≤ 10) (ht : t < 12) : Cc yX2_buyTight cX2_buyTight 4 (some .int) 4 [.ref 2, .int (nI t)] σ (rI (buyC (σ 17) (σ 18) (σ 19) t n) (mbuy σ t n)) := by
  refine Cc.intro (by decide +kernel) [some (.ref 2), some (.int (nI t)), none, none] (fun _ => rfl) rfl (fun _ => Nat.le_of_ble_eq_true rfl) ?_
  intro X hX hR hr
  refine V_iconst (pc := 0) (v := (nI 0)) hX dX2_buyTight_0 (by decide +kernel) ?_
  refine V_istore2 (pc := 1) hX dX2_buyTight_1 rfl ?_
  refine V_iconst (pc := 2) (v := (nI 0)) hX dX2_buyTight_2 (by decide +kernel) ?_
  refine V_istore3 (pc := 3) hX dX2_buyTight_3 rfl ?_
  refine Vw.mem (mbuy_0 σ t) ?_
  exact l_buyTight hX hR hr hn hn10 ht ⟨rfl, rfl⟩ 0 (by omega)
/-- the memory when a thing is asked for, that no bought set has, ahead of the buying -/
def mask (σ : Mem) (t : Nat) : Mem := mu σ 2 5 (σ 2 5 ||| (nI 1 <<< (nI t &&& 31)))
def mraise (σ : Mem) (n t : Nat) : Mem := mu (mask σ t) 19 t (σ 19 t + lgap (σ 17) (σ 18) (σ 19) t n)
def cmeetV (σ : Mem) (n t : Nat) : Int32 := if bt (σ 2 7) t then nI 0 else buyC (σ 17) (σ 18) (mraise σ n t 19) t n
def cmeetM (σ : Mem) (n t : Nat) : Mem := if bt (σ 2 7) t then mask σ t else mu (mbuy (mraise σ n t) t n) 2 8 (σ 2 8 + buyC (σ 17) (σ 18) (mraise σ n t 19) t n)
theorem mask_r {σ : Mem} {t q : Nat} (h : q ≠ 2) : mask σ t q = σ q := (mu_ne h).symm
theorem mask_c {σ : Mem} {t j : Nat} (h : j ≠ 5) : mask σ t 2 j = σ 2 j := mu_ni h
theorem mraise_r {σ : Mem} {n t q : Nat} (h : q ≠ 19) : mraise σ n t q = mask σ t q := (mu_ne h).symm
set_option maxRecDepth 100000 in
set_option maxHeartbeats 4000000 in
theorem c_meet (n t : Nat) (σ : Mem) (hn : σ 2 3 = nI n) (hn10 : n ≤ 10) (ht : t < 12) : Cc yX2_meet cX2_meet 3 (some .int) 5 [.ref 2, .int (nI t)] σ (rI (cmeetV σ n t) (cmeetM σ n t)) := by
  refine Cc.intro (by decide +kernel) [some (.ref 2), some (.int (nI t)), none] (fun _ => rfl) rfl (fun _ => Nat.le_of_ble_eq_true rfl) ?_
  intro X hX hR hr
  have hn1 : mask σ t 2 3 = nI n := by rw [mask_c (by decide)]; exact hn
  have a17 : mask σ t 17 = σ 17 := mask_r (by decide)
  have a18 : mask σ t 18 = σ 18 := mask_r (by decide)
  have a19 : mask σ t 19 = σ 19 := mask_r (by decide)
  have b17 : mraise σ n t 17 = σ 17 := by rw [mraise_r (by decide), a17]
  have b18 : mraise σ n t 18 = σ 18 := by rw [mraise_r (by decide), a18]
  have b2 : mraise σ n t 2 = mask σ t 2 := mraise_r (by decide)
  have hn2 : mraise σ n t 2 3 = nI n := by rw [b2, hn1]
  have b28 : mbuy (mraise σ n t) t n 2 8 = σ 2 8 := by rw [mbuy_c (by decide) (by decide), b2, mask_c (by decide)]
  have e7 : mask σ t 2 7 = σ 2 7 := mask_c (by decide)
  refine V_aload_n (pc := 0) (i := 0) hX dX2_meet_0 rfl rfl ?_
  refine V_dup (pc := 1) hX dX2_meet_1 rfl ?_
  refine V_getf (pc := 2) hX fX2_38 dX2_meet_2 rfl rfl ?_
  refine V_iconst (pc := 5) (v := (nI 1)) hX dX2_meet_5 (by decide +kernel) ?_
  refine V_iload_n (pc := 6) (i := 1) hX dX2_meet_6 rfl rfl ?_
  refine V_ishl (pc := 7) hX dX2_meet_7 ?_
  refine V_ior (pc := 8) hX dX2_meet_8 ?_
  refine V_putf (pc := 9) hX fX2_38 gi2_5 dX2_meet_9 rfl rfl ?_
  refine Vw.mem (rfl : mask σ t = _) ?_
  refine V_aload_n (pc := 12) (i := 0) hX dX2_meet_12 rfl rfl ?_
  refine V_getf (pc := 13) hX fX2_41 dX2_meet_13 rfl rfl ?_
  refine V_iload_n (pc := 16) (i := 1) hX dX2_meet_16 rfl rfl ?_
  refine V_callSi (pc := 17) hX (hR.mono (by omega)) mX2_32 (c_holds _ _ (by omega) _) dX2_meet_17 rfl rfl rfl (Nat.le_of_ble_eq_true rfl) ?_
  refine V_if_eqB (pc := 20) (tgt := 25) hX dX2_meet_20 (by decide) (fun h20 => ?_) (fun h20 => ?_)
  · refine V_aload_n (pc := 25) (i := 0) hX dX2_meet_25 rfl rfl ?_
    refine V_getr (pc := 26) hX fX2_18 dX2_meet_26 rfl rfl ?_
    refine V_iload_n (pc := 29) (i := 1) hX dX2_meet_29 rfl rfl ?_
    refine V_dup2 (pc := 30) hX dX2_meet_30 rfl rfl ?_
    refine V_iald (pc := 31) hX dX2_meet_31 (rfl) (rfl) (by omega) (by decide) ?_
    refine V_aload_n (pc := 32) (i := 0) hX dX2_meet_32 rfl rfl ?_
    refine V_iload_n (pc := 33) (i := 1) hX dX2_meet_33 rfl rfl ?_
    refine V_callVi (pc := 34) hX (hR.mono (by omega)) mX2_44 (c_leastGap n _ _ hn1 hn10 ht) dX2_meet_34 rfl rfl rfl rfl (Nat.le_of_ble_eq_true rfl) ?_
    refine V_iadd (pc := 37) hX dX2_meet_37 ?_
    refine V_iast (pc := 38) hX dX2_meet_38 (rfl) (rfl) (by omega) (by decide) ?_
    refine Vw.mem (σ' := mraise σ n t) (by unfold mraise; rw [a17, a18, a19]) ?_
    refine V_aload_n (pc := 39) (i := 0) hX dX2_meet_39 rfl rfl ?_
    refine V_iload_n (pc := 40) (i := 1) hX dX2_meet_40 rfl rfl ?_
    refine V_callVi (pc := 41) hX (hR.mono (by omega)) mX2_48 (c_buyTight n _ _ hn2 hn10 ht) dX2_meet_41 rfl rfl rfl rfl (Nat.le_of_ble_eq_true rfl) ?_
    refine V_istore2 (pc := 44) hX dX2_meet_44 rfl ?_
    refine V_aload_n (pc := 45) (i := 0) hX dX2_meet_45 rfl rfl ?_
    refine V_dup (pc := 46) hX dX2_meet_46 rfl ?_
    refine V_getf (pc := 47) hX fX2_51 dX2_meet_47 rfl rfl ?_
    refine V_iload_n (pc := 50) (i := 2) hX dX2_meet_50 rfl rfl ?_
    refine V_iadd (pc := 51) hX dX2_meet_51 ?_
    refine V_putf (pc := 52) hX fX2_51 gi2_8 dX2_meet_52 rfl rfl ?_
    refine V_iload_n (pc := 55) (i := 2) hX dX2_meet_55 rfl rfl ?_
    exact V_iret (pc := 56) (st := []) hX hr (by first | rfl | exact bI_nar _ | decide +kernel) dX2_meet_56 (⟨by rw [cmeetV, ← e7, h20, b17, b18]; rfl, by rw [cmeetM, ← e7, h20, b17, b18, b28]; rfl⟩)
  · refine V_iconst (pc := 23) (v := (nI 0)) hX dX2_meet_23 (by decide +kernel) ?_
    exact V_iret (pc := 24) (st := []) hX hr (by first | rfl | exact bI_nar _ | decide +kernel) dX2_meet_24 (⟨by rw [cmeetV, ← e7, h20]; rfl, by rw [cmeetM, ← e7, h20]; rfl⟩)
set_option maxRecDepth 100000 in
set_option maxHeartbeats 4000000 in
theorem l_havers {n t : Nat} {X : XC} {P : Option Value → Mem → Prop} {σ : Mem} (hX : Cok X RX2 cX2_havers 4) (hR : Rok X 1) (hr : Ret X (some .int) P) (hn : σ 2 3 = nI n) (hn10 : n ≤ 10) (ht : t < 12) (hp : P (some (.int (nI (havf (σ 18) t n)))) σ) (k : Nat) (hk : k ≤ n) : Vw X 4 [some (.ref 2), some (.int (nI t)), some (.int (nI (havf (σ 18) t k))), some (.int (nI k))] [] σ := by
  refine V_iload_n (pc := 4) (i := 3) hX dX2_havers_4 rfl rfl ?_
  refine V_aload_n (pc := 5) (i := 0) hX dX2_havers_5 rfl rfl ?_
  refine V_getf (pc := 6) hX fX2_21 dX2_havers_6 rfl rfl ?_
  rw [hn]
  refine V_icmp_geN (pc := 9) (tgt := 34) hX dX2_havers_9 (by decide) (by omega) (by omega) (fun h9 => ?_) (fun h9 => ?_)
  · obtain rfl : k = n := by omega
    refine V_iload_n (pc := 34) (i := 2) hX dX2_havers_34 rfl rfl ?_
    exact V_iret (pc := 35) (st := []) hX hr (by first | rfl | exact bI_nar _ | decide +kernel) dX2_havers_35 (hp)
  · refine V_aload_n (pc := 12) (i := 0) hX dX2_havers_12 rfl rfl ?_
    refine V_getr (pc := 13) hX fX2_15 dX2_havers_13 rfl rfl ?_
    refine V_iload_n (pc := 16) (i := 3) hX dX2_havers_16 rfl rfl ?_
    refine V_iald (pc := 17) hX dX2_havers_17 (rfl) (rfl) (by omega) (by decide) ?_
    refine V_iload_n (pc := 18) (i := 1) hX dX2_havers_18 rfl rfl ?_
    refine V_callSi (pc := 19) hX (hR.mono (by omega)) mX2_32 (c_holds _ _ (by omega) _) dX2_havers_19 rfl rfl rfl (Nat.le_of_ble_eq_true rfl) ?_
    refine V_if_eqB (pc := 22) (tgt := 28) hX dX2_havers_22 (by decide) (fun h22 => ?_) (fun h22 => ?_)
    · refine V_iinc3 (pc := 28) hX dX2_havers_28 rfl (iinc1 _) ?_
      refine V_goto (pc := 31) (tgt := 4) hX dX2_havers_31 (by decide) ?_
      have ih := l_havers hX hR hr hn hn10 ht hp (k + 1) (by omega)
      simp only [havf, h22, ↓reduceIte, Bool.false_eq_true] at ih
      exact ih
    · refine V_iinc2 (pc := 25) hX dX2_havers_25 rfl (iinc1 _) ?_
      refine V_iinc3 (pc := 28) hX dX2_havers_28 rfl (iinc1 _) ?_
      refine V_goto (pc := 31) (tgt := 4) hX dX2_havers_31 (by decide) ?_
      have ih := l_havers hX hR hr hn hn10 ht hp (k + 1) (by omega)
      simp only [havf, h22, ↓reduceIte, Bool.false_eq_true] at ih
      exact ih
termination_by n - k
set_option maxRecDepth 100000 in
set_option maxHeartbeats 4000000 in
theorem c_havers (n t : Nat) (σ : Mem) (hn : σ 2 3 = nI n) (hn10 : n ≤ 10) (ht : t < 12) : Cc yX2_havers cX2_havers 4 (some .int) 1 [.ref 2, .int (nI t)] σ (rI (nI (havf (σ 18) t n)) σ) := by
  refine Cc.intro (by decide +kernel) [some (.ref 2), some (.int (nI t)), none, none] (fun _ => rfl) rfl (fun _ => Nat.le_of_ble_eq_true rfl) ?_
  intro X hX hR hr
  refine V_iconst (pc := 0) (v := (nI 0)) hX dX2_havers_0 (by decide +kernel) ?_
  refine V_istore2 (pc := 1) hX dX2_havers_1 rfl ?_
  refine V_iconst (pc := 2) (v := (nI 0)) hX dX2_havers_2 (by decide +kernel) ?_
  refine V_istore3 (pc := 3) hX dX2_havers_3 rfl ?_
  exact l_havers hX hR hr hn hn10 ht ⟨rfl, rfl⟩ 0 (by omega)
set_option maxRecDepth 100000 in
set_option maxHeartbeats 4000000 in
theorem l_share {n : Nat} {X : XC} {P : Option Value → Mem → Prop} {σ : Mem} (hX : Cok X RX2 cX2_share 3) (hR : Rok X 2) (hr : Ret X (some .int) P) (hn : σ 2 3 = nI n) (hn10 : n ≤ 10) (hp : P (some (.int (sharf (σ 2 5) (σ 18) n 12))) σ) (k : Nat) (hk : k ≤ 12) : Vw X 4 [some (.ref 2), some (.int (sharf (σ 2 5) (σ 18) n k)), some (.int (nI k))] [] σ := by
  refine V_iload_n (pc := 4) (i := 2) hX dX2_share_4 rfl rfl ?_
  refine V_bipush (pc := 5) (v := (nI 12)) hX dX2_share_5 (by decide +kernel) ?_
  refine V_icmp_geN (pc := 7) (tgt := 37) hX dX2_share_7 (by decide) (by omega) (by omega) (fun h7 => ?_) (fun h7 => ?_)
  · obtain rfl : k = 12 := by omega
    refine V_iload_n (pc := 37) (i := 1) hX dX2_share_37 rfl rfl ?_
    exact V_iret (pc := 38) (st := []) hX hr (by first | rfl | exact bI_nar _ | decide +kernel) dX2_share_38 (hp)
  · refine V_aload_n (pc := 10) (i := 0) hX dX2_share_10 rfl rfl ?_
    refine V_getf (pc := 11) hX fX2_38 dX2_share_11 rfl rfl ?_
    refine V_iload_n (pc := 14) (i := 2) hX dX2_share_14 rfl rfl ?_
    refine V_callSi (pc := 15) hX (hR.mono (by omega)) mX2_32 (c_holds _ _ (by omega) _) dX2_share_15 rfl rfl rfl (Nat.le_of_ble_eq_true rfl) ?_
    refine V_if_eqB (pc := 18) (tgt := 31) hX dX2_share_18 (by decide) (fun h18 => ?_) (fun h18 => ?_)
    · refine V_iinc2 (pc := 31) hX dX2_share_31 rfl (iinc1 _) ?_
      refine V_goto (pc := 34) (tgt := 4) hX dX2_share_34 (by decide) ?_
      have ih := l_share hX hR hr hn hn10 hp (k + 1) (by omega)
      simp only [sharf, h18, ↓reduceIte, Bool.false_eq_true] at ih
      exact ih
    · refine V_iload_n (pc := 21) (i := 1) hX dX2_share_21 rfl rfl ?_
      refine V_aload_n (pc := 22) (i := 0) hX dX2_share_22 rfl rfl ?_
      refine V_iload_n (pc := 23) (i := 2) hX dX2_share_23 rfl rfl ?_
      refine V_callVi (pc := 24) hX (hR.mono (by omega)) mX2_71 (c_havers n _ _ hn hn10 (by omega)) dX2_share_24 rfl rfl rfl rfl (Nat.le_of_ble_eq_true rfl) ?_
      refine V_mmax (pc := 27) hX (hR.mono (by omega)) mX2_74 dX2_share_27 rfl (Nat.le_of_ble_eq_true rfl) ?_
      refine V_istore1 (pc := 30) hX dX2_share_30 rfl ?_
      refine V_iinc2 (pc := 31) hX dX2_share_31 rfl (iinc1 _) ?_
      refine V_goto (pc := 34) (tgt := 4) hX dX2_share_34 (by decide) ?_
      have ih := l_share hX hR hr hn hn10 hp (k + 1) (by omega)
      simp only [sharf, h18, ↓reduceIte, Bool.false_eq_true] at ih
      exact ih
termination_by 12 - k
set_option maxRecDepth 100000 in
set_option maxHeartbeats 4000000 in
theorem c_share (n : Nat) (σ : Mem) (hn : σ 2 3 = nI n) (hn10 : n ≤ 10) : Cc yX2_share cX2_share 3 (some .int) 2 [.ref 2] σ (rI (sharf (σ 2 5) (σ 18) n 12) σ) := by
  refine Cc.intro (by decide +kernel) [some (.ref 2), none, none] (fun _ => rfl) rfl (fun _ => Nat.le_of_ble_eq_true rfl) ?_
  intro X hX hR hr
  refine V_iconst (pc := 0) (v := (nI 0)) hX dX2_share_0 (by decide +kernel) ?_
  refine V_istore1 (pc := 1) hX dX2_share_1 rfl ?_
  refine V_iconst (pc := 2) (v := (nI 0)) hX dX2_share_2 (by decide +kernel) ?_
  refine V_istore2 (pc := 3) hX dX2_share_3 rfl ?_
  exact l_share hX hR hr hn hn10 ⟨rfl, rfl⟩ 0 (by omega)
set_option maxRecDepth 100000 in
set_option maxHeartbeats 4000000 in
theorem c_kindOf (s : Nat) (σ : Mem) (hs : s < 10) : Cc yX2_kindOf cX2_kindOf 2 (some .int) 3 [.ref 2, .int (nI s)] σ (rI (kindf (σ 2 6) s (pf (σ 18 s) (σ 19) 12) (σ 17 s)) σ) := by
  refine Cc.intro (by decide +kernel) [some (.ref 2), some (.int (nI s))] (fun _ => rfl) rfl (fun _ => Nat.le_of_ble_eq_true rfl) ?_
  intro X hX hR hr
  refine V_aload_n (pc := 0) (i := 0) hX dX2_kindOf_0 rfl rfl ?_
  refine V_iload_n (pc := 1) (i := 1) hX dX2_kindOf_1 rfl rfl ?_
  refine V_callVi (pc := 2) hX (hR.mono (by omega)) mX2_77 (c_isBought _ hs _) dX2_kindOf_2 rfl rfl rfl rfl (Nat.le_of_ble_eq_true rfl) ?_
  refine V_if_eqB (pc := 5) (tgt := 10) hX dX2_kindOf_5 (by decide) (fun h5 => ?_) (fun h5 => ?_)
  · refine V_iconst (pc := 10) (v := (nI 2)) hX dX2_kindOf_10 (by decide +kernel) ?_
    refine V_aload_n (pc := 11) (i := 0) hX dX2_kindOf_11 rfl rfl ?_
    refine V_iload_n (pc := 12) (i := 1) hX dX2_kindOf_12 rfl rfl ?_
    refine V_callVi (pc := 13) hX (hR.mono (by omega)) mX2_54 (c_filled _ hs _) dX2_kindOf_13 rfl rfl rfl rfl (Nat.le_of_ble_eq_true rfl) ?_
    refine V_imul (pc := 16) hX dX2_kindOf_16 ?_
    refine V_aload_n (pc := 17) (i := 0) hX dX2_kindOf_17 rfl rfl ?_
    refine V_getr (pc := 18) hX fX2_9 dX2_kindOf_18 rfl rfl ?_
    refine V_iload_n (pc := 21) (i := 1) hX dX2_kindOf_21 rfl rfl ?_
    refine V_iald (pc := 22) hX dX2_kindOf_22 (rfl) (rfl) (by omega) (by decide) ?_
    refine V_icmp_lt (pc := 23) (tgt := 30) hX dX2_kindOf_23 (by decide) (fun h23 => ?_) (fun h23 => ?_)
    · refine V_iconst (pc := 30) (v := (nI 1)) hX dX2_kindOf_30 (by decide +kernel) ?_
      exact V_iret (pc := 31) (st := []) hX hr (by first | rfl | exact bI_nar _ | decide +kernel) dX2_kindOf_31 (⟨by simp only [kindf, h5, h23, Bool.false_eq_true, ↓reduceIte], rfl⟩)
    · refine V_iconst (pc := 26) (v := (nI 2)) hX dX2_kindOf_26 (by decide +kernel) ?_
      refine V_goto (pc := 27) (tgt := 31) hX dX2_kindOf_27 (by decide) ?_
      exact V_iret (pc := 31) (st := []) hX hr (by first | rfl | exact bI_nar _ | decide +kernel) dX2_kindOf_31 (⟨by simp only [kindf, h5, h23, Bool.false_eq_true, ↓reduceIte], rfl⟩)
  · refine V_iconst (pc := 8) (v := (nI 3)) hX dX2_kindOf_8 (by decide +kernel) ?_
    exact V_iret (pc := 9) (st := []) hX hr (by first | rfl | exact bI_nar _ | decide +kernel) dX2_kindOf_9 (⟨by simp only [kindf, h5, ↓reduceIte], rfl⟩)
def kisf (k own : Int32) : Bool := decide (k = 0 ∨ k = own ∨ (k = nI 1 ∧ own = nI 2))
set_option maxRecDepth 100000 in
set_option maxHeartbeats 4000000 in
theorem c_isOfKind (s : Nat) (k : Int32) (σ : Mem) (hs : s < 10) : Cc yX2_isOfKind cX2_isOfKind 4 (some .boolean) 4 [.ref 2, .int (nI s), .int k] σ (rI (bI (kisf k (kindf (σ 2 6) s (pf (σ 18 s) (σ 19) 12) (σ 17 s)))) σ) := by
  refine Cc.intro (by decide +kernel) [some (.ref 2), some (.int (nI s)), some (.int k), none] (fun _ => rfl) rfl (fun _ => Nat.le_of_ble_eq_true rfl) ?_
  intro X hX hR hr
  refine V_aload_n (pc := 0) (i := 0) hX dX2_isOfKind_0 rfl rfl ?_
  refine V_iload_n (pc := 1) (i := 1) hX dX2_isOfKind_1 rfl rfl ?_
  refine V_callVi (pc := 2) hX (hR.mono (by omega)) mX2_81 (c_kindOf _ _ hs) dX2_isOfKind_2 rfl rfl rfl rfl (Nat.le_of_ble_eq_true rfl) ?_
  refine V_istore3 (pc := 5) hX dX2_isOfKind_5 rfl ?_
  refine V_iload_n (pc := 6) (i := 2) hX dX2_isOfKind_6 rfl rfl ?_
  refine V_if_eq (pc := 7) (tgt := 25) hX dX2_isOfKind_7 (by decide) (fun h7 => ?_) (fun h7 => ?_)
  · refine V_iconst (pc := 25) (v := (nI 1)) hX dX2_isOfKind_25 (by decide +kernel) ?_
    refine V_goto (pc := 26) (tgt := 30) hX dX2_isOfKind_26 (by decide) ?_
    exact V_iret (pc := 30) (st := []) hX hr (by first | rfl | exact bI_nar _ | decide +kernel) dX2_isOfKind_30 (⟨by rw [kisf, decide_eq_true (Or.inl h7)]; rfl, rfl⟩)
  · refine V_iload_n (pc := 10) (i := 2) hX dX2_isOfKind_10 rfl rfl ?_
    refine V_iload_n (pc := 11) (i := 3) hX dX2_isOfKind_11 rfl rfl ?_
    refine V_icmp_eq (pc := 12) (tgt := 25) hX dX2_isOfKind_12 (by decide) (fun h12 => ?_) (fun h12 => ?_)
    · refine V_iconst (pc := 25) (v := (nI 1)) hX dX2_isOfKind_25 (by decide +kernel) ?_
      refine V_goto (pc := 26) (tgt := 30) hX dX2_isOfKind_26 (by decide) ?_
      exact V_iret (pc := 30) (st := []) hX hr (by first | rfl | exact bI_nar _ | decide +kernel) dX2_isOfKind_30 (⟨by rw [kisf, decide_eq_true (Or.inr (Or.inl h12))]; rfl, rfl⟩)
    · refine V_iload_n (pc := 15) (i := 2) hX dX2_isOfKind_15 rfl rfl ?_
      refine V_iconst (pc := 16) (v := (nI 1)) hX dX2_isOfKind_16 (by decide +kernel) ?_
      refine V_icmp_ne (pc := 17) (tgt := 29) hX dX2_isOfKind_17 (by decide) (fun h17 => ?_) (fun h17 => ?_)
      · refine V_iconst (pc := 29) (v := (nI 0)) hX dX2_isOfKind_29 (by decide +kernel) ?_
        exact V_iret (pc := 30) (st := []) hX hr (by first | rfl | exact bI_nar _ | decide +kernel) dX2_isOfKind_30 (⟨by rw [kisf, decide_eq_false (fun h => h.elim h7 (fun h => h.elim h12 (fun h => h17 h.1)))]; rfl, rfl⟩)
      · refine V_iload_n (pc := 20) (i := 3) hX dX2_isOfKind_20 rfl rfl ?_
        refine V_iconst (pc := 21) (v := (nI 2)) hX dX2_isOfKind_21 (by decide +kernel) ?_
        refine V_icmp_ne (pc := 22) (tgt := 29) hX dX2_isOfKind_22 (by decide) (fun h22 => ?_) (fun h22 => ?_)
        · refine V_iconst (pc := 29) (v := (nI 0)) hX dX2_isOfKind_29 (by decide +kernel) ?_
          exact V_iret (pc := 30) (st := []) hX hr (by first | rfl | exact bI_nar _ | decide +kernel) dX2_isOfKind_30 (⟨by rw [kisf, decide_eq_false (fun h => h.elim h7 (fun h => h.elim h12 (fun h => h22 h.2)))]; rfl, rfl⟩)
        · refine V_iconst (pc := 25) (v := (nI 1)) hX dX2_isOfKind_25 (by decide +kernel) ?_
          refine V_goto (pc := 26) (tgt := 30) hX dX2_isOfKind_26 (by decide) ?_
          exact V_iret (pc := 30) (st := []) hX hr (by first | rfl | exact bI_nar _ | decide +kernel) dX2_isOfKind_30 (⟨by rw [kisf, decide_eq_true (Or.inr (Or.inr ⟨h17, h22⟩))]; rfl, rfl⟩)
set_option maxRecDepth 100000 in
set_option maxHeartbeats 4000000 in
theorem l_nears {n : Nat} {X : XC} {P : Option Value → Mem → Prop} {σ : Mem} (hX : Cok X RX2 cX2_nears 3) (hR : Rok X 4) (hr : Ret X (some .int) P) (hn : σ 2 3 = nI n) (hn10 : n ≤ 10) (hp : P (some (.int (nI (nearf (σ 2 6) (σ 17) (σ 18) (σ 19) n)))) σ) (k : Nat) (hk : k ≤ n) : Vw X 4 [some (.ref 2), some (.int (nI (nearf (σ 2 6) (σ 17) (σ 18) (σ 19) k))), some (.int (nI k))] [] σ := by
  refine V_iload_n (pc := 4) (i := 2) hX dX2_nears_4 rfl rfl ?_
  refine V_aload_n (pc := 5) (i := 0) hX dX2_nears_5 rfl rfl ?_
  refine V_getf (pc := 6) hX fX2_21 dX2_nears_6 rfl rfl ?_
  rw [hn]
  refine V_icmp_geN (pc := 9) (tgt := 30) hX dX2_nears_9 (by decide) (by omega) (by omega) (fun h9 => ?_) (fun h9 => ?_)
  · obtain rfl : k = n := by omega
    refine V_iload_n (pc := 30) (i := 1) hX dX2_nears_30 rfl rfl ?_
    exact V_iret (pc := 31) (st := []) hX hr (by first | rfl | exact bI_nar _ | decide +kernel) dX2_nears_31 (hp)
  · refine V_aload_n (pc := 12) (i := 0) hX dX2_nears_12 rfl rfl ?_
    refine V_iload_n (pc := 13) (i := 2) hX dX2_nears_13 rfl rfl ?_
    refine V_callVi (pc := 14) hX (hR.mono (by omega)) mX2_81 (c_kindOf _ _ (by omega)) dX2_nears_14 rfl rfl rfl rfl (Nat.le_of_ble_eq_true rfl) ?_
    refine V_iconst (pc := 17) (v := (nI 2)) hX dX2_nears_17 (by decide +kernel) ?_
    refine V_icmp_ne (pc := 18) (tgt := 24) hX dX2_nears_18 (by decide) (fun h18 => ?_) (fun h18 => ?_)
    · refine V_iinc2 (pc := 24) hX dX2_nears_24 rfl (iinc1 _) ?_
      refine V_goto (pc := 27) (tgt := 4) hX dX2_nears_27 (by decide) ?_
      have ih := l_nears hX hR hr hn hn10 hp (k + 1) (by omega)
      simp only [nearf, h18, ↓reduceIte] at ih
      exact ih
    · refine V_iinc1 (pc := 21) hX dX2_nears_21 rfl (iinc1 _) ?_
      refine V_iinc2 (pc := 24) hX dX2_nears_24 rfl (iinc1 _) ?_
      refine V_goto (pc := 27) (tgt := 4) hX dX2_nears_27 (by decide) ?_
      have ih := l_nears hX hR hr hn hn10 hp (k + 1) (by omega)
      simp only [nearf, h18, ↓reduceIte] at ih
      exact ih
termination_by n - k
set_option maxRecDepth 100000 in
set_option maxHeartbeats 4000000 in
theorem c_nears (n : Nat) (σ : Mem) (hn : σ 2 3 = nI n) (hn10 : n ≤ 10) : Cc yX2_nears cX2_nears 3 (some .int) 4 [.ref 2] σ (rI (nI (nearf (σ 2 6) (σ 17) (σ 18) (σ 19) n)) σ) := by
  refine Cc.intro (by decide +kernel) [some (.ref 2), none, none] (fun _ => rfl) rfl (fun _ => Nat.le_of_ble_eq_true rfl) ?_
  intro X hX hR hr
  refine V_iconst (pc := 0) (v := (nI 0)) hX dX2_nears_0 (by decide +kernel) ?_
  refine V_istore1 (pc := 1) hX dX2_nears_1 rfl ?_
  refine V_iconst (pc := 2) (v := (nI 0)) hX dX2_nears_2 (by decide +kernel) ?_
  refine V_istore2 (pc := 3) hX dX2_nears_3 rfl ?_
  exact l_nears hX hR hr hn hn10 ⟨rfl, rfl⟩ 0 (by omega)
/-- the least cost of the last m of n sets that have all that is missing -/
def lff (c th : Nat → Int32) (n : Nat) : Nat → Int32 → Int32
  | 0, mis => if mis = 0 then nI 0 else nI 1000000
  | m + 1, mis => if mis = 0 then nI 0 else if th (n - (m + 1)) &&& mis = 0 then lff c th n m mis else imin (lff c th n m mis) (c (n - (m + 1)) + lff c th n m (mis &&& (th (n - (m + 1)) ^^^ (-1))))
set_option maxRecDepth 100000 in
set_option maxHeartbeats 4000000 in
theorem c_leastFrom (n : Nat) (σ : Mem) (hn : σ 2 3 = nI n) (hn10 : n ≤ 10) : ∀ (m : Nat) (hm : m ≤ n) (mis : Int32), Cc yX2_leastFrom cX2_leastFrom 4 (some .int) (m + 1) [.ref 2, .int (nI (n - m)), .int mis] σ (rI (lff (σ 17) (σ 18) n m mis) σ)
  | 0, hm, mis => by
    refine Cc.intro (by decide +kernel) [some (.ref 2), some (.int (nI (n - 0))), some (.int mis), none] (fun _ => rfl) rfl (fun _ => Nat.le_of_ble_eq_true rfl) ?_
    intro X hX hR hr
    refine V_iload_n (pc := 0) (i := 2) hX dX2_leastFrom_0 rfl rfl ?_
    refine V_if_ne (pc := 1) (tgt := 6) hX dX2_leastFrom_1 (by decide) (fun h1 => ?_) (fun h1 => ?_)
    · refine V_iload_n (pc := 6) (i := 1) hX dX2_leastFrom_6 rfl rfl ?_
      refine V_aload_n (pc := 7) (i := 0) hX dX2_leastFrom_7 rfl rfl ?_
      refine V_getf (pc := 8) hX fX2_21 dX2_leastFrom_8 rfl rfl ?_
      rw [hn]
      refine V_icmp_ltN (pc := 11) (tgt := 17) hX dX2_leastFrom_11 (by decide) (by omega) (by omega) (fun h11 => absurd h11 (by omega)) (fun h11 => ?_)
      refine V_ldc (pc := 14) hX kX2_70 dX2_leastFrom_14 ?_
      exact V_iret (pc := 16) (st := []) hX hr (by first | rfl | exact bI_nar _ | decide +kernel) dX2_leastFrom_16 (⟨by rw [lff, if_neg h1], rfl⟩)
    · refine V_iconst (pc := 4) (v := (nI 0)) hX dX2_leastFrom_4 (by decide +kernel) ?_
      exact V_iret (pc := 5) (st := []) hX hr (by first | rfl | exact bI_nar _ | decide +kernel) dX2_leastFrom_5 (⟨by rw [lff, if_pos h1], rfl⟩)
  | m + 1, hm, mis => by
    refine Cc.intro (by decide +kernel) [some (.ref 2), some (.int (nI (n - (m + 1)))), some (.int mis), none] (fun _ => rfl) rfl (fun _ => Nat.le_of_ble_eq_true rfl) ?_
    intro X hX hR hr
    have e1 : nI (n - (m + 1)) + nI 1 = nI (n - m) := by rw [nI_add]; congr 1; omega
    refine V_iload_n (pc := 0) (i := 2) hX dX2_leastFrom_0 rfl rfl ?_
    refine V_if_ne (pc := 1) (tgt := 6) hX dX2_leastFrom_1 (by decide) (fun h1 => ?_) (fun h1 => ?_)
    · refine V_iload_n (pc := 6) (i := 1) hX dX2_leastFrom_6 rfl rfl ?_
      refine V_aload_n (pc := 7) (i := 0) hX dX2_leastFrom_7 rfl rfl ?_
      refine V_getf (pc := 8) hX fX2_21 dX2_leastFrom_8 rfl rfl ?_
      rw [hn]
      refine V_icmp_ltN (pc := 11) (tgt := 17) hX dX2_leastFrom_11 (by decide) (by omega) (by omega) (fun h11 => ?_) (fun h11 => absurd h11 (by omega))
      refine V_aload_n (pc := 17) (i := 0) hX dX2_leastFrom_17 rfl rfl ?_
      refine V_iload_n (pc := 18) (i := 1) hX dX2_leastFrom_18 rfl rfl ?_
      refine V_iconst (pc := 19) (v := (nI 1)) hX dX2_leastFrom_19 (by decide +kernel) ?_
      refine V_iadd (pc := 20) hX dX2_leastFrom_20 ?_
      refine V_iload_n (pc := 21) (i := 2) hX dX2_leastFrom_21 rfl rfl ?_
      rw [e1]
      refine V_callSi (pc := 22) hX (hR.mono (by omega)) mX2_66 (c_leastFrom n σ hn hn10 m (by omega) mis) dX2_leastFrom_22 rfl rfl rfl (Nat.le_of_ble_eq_true rfl) ?_
      refine V_istore3 (pc := 25) hX dX2_leastFrom_25 rfl ?_
      refine V_aload_n (pc := 26) (i := 0) hX dX2_leastFrom_26 rfl rfl ?_
      refine V_getr (pc := 27) hX fX2_15 dX2_leastFrom_27 rfl rfl ?_
      refine V_iload_n (pc := 30) (i := 1) hX dX2_leastFrom_30 rfl rfl ?_
      refine V_iald (pc := 31) hX dX2_leastFrom_31 (rfl) (rfl) (by omega) (by decide) ?_
      refine V_iload_n (pc := 32) (i := 2) hX dX2_leastFrom_32 rfl rfl ?_
      refine V_iand (pc := 33) hX dX2_leastFrom_33 ?_
      refine V_if_ne (pc := 34) (tgt := 39) hX dX2_leastFrom_34 (by decide) (fun h34 => ?_) (fun h34 => ?_)
      · refine V_iload_n (pc := 39) (i := 3) hX dX2_leastFrom_39 rfl rfl ?_
        refine V_aload_n (pc := 40) (i := 0) hX dX2_leastFrom_40 rfl rfl ?_
        refine V_getr (pc := 41) hX fX2_9 dX2_leastFrom_41 rfl rfl ?_
        refine V_iload_n (pc := 44) (i := 1) hX dX2_leastFrom_44 rfl rfl ?_
        refine V_iald (pc := 45) hX dX2_leastFrom_45 (rfl) (rfl) (by omega) (by decide) ?_
        refine V_aload_n (pc := 46) (i := 0) hX dX2_leastFrom_46 rfl rfl ?_
        refine V_iload_n (pc := 47) (i := 1) hX dX2_leastFrom_47 rfl rfl ?_
        refine V_iconst (pc := 48) (v := (nI 1)) hX dX2_leastFrom_48 (by decide +kernel) ?_
        refine V_iadd (pc := 49) hX dX2_leastFrom_49 ?_
        refine V_iload_n (pc := 50) (i := 2) hX dX2_leastFrom_50 rfl rfl ?_
        refine V_aload_n (pc := 51) (i := 0) hX dX2_leastFrom_51 rfl rfl ?_
        refine V_getr (pc := 52) hX fX2_15 dX2_leastFrom_52 rfl rfl ?_
        refine V_iload_n (pc := 55) (i := 1) hX dX2_leastFrom_55 rfl rfl ?_
        refine V_iald (pc := 56) hX dX2_leastFrom_56 (rfl) (rfl) (by omega) (by decide) ?_
        refine V_iconst (pc := 57) (v := (-1)) hX dX2_leastFrom_57 (by decide +kernel) ?_
        refine V_ixor (pc := 58) hX dX2_leastFrom_58 ?_
        refine V_iand (pc := 59) hX dX2_leastFrom_59 ?_
        rw [e1]
        refine V_callSi (pc := 60) hX (hR.mono (by omega)) mX2_66 (c_leastFrom n σ hn hn10 m (by omega) _) dX2_leastFrom_60 rfl rfl rfl (Nat.le_of_ble_eq_true rfl) ?_
        refine V_iadd (pc := 63) hX dX2_leastFrom_63 ?_
        refine V_mmin (pc := 64) hX (hR.mono (by omega)) mX2_57 dX2_leastFrom_64 rfl (Nat.le_of_ble_eq_true rfl) ?_
        exact V_iret (pc := 67) (st := []) hX hr (by first | rfl | exact bI_nar _ | decide +kernel) dX2_leastFrom_67 (⟨by rw [lff, if_neg h1, if_neg h34]; rfl, rfl⟩)
      · refine V_iload_n (pc := 37) (i := 3) hX dX2_leastFrom_37 rfl rfl ?_
        exact V_iret (pc := 38) (st := []) hX hr (by first | rfl | exact bI_nar _ | decide +kernel) dX2_leastFrom_38 (⟨by rw [lff, if_neg h1, if_pos h34], rfl⟩)
    · refine V_iconst (pc := 4) (v := (nI 0)) hX dX2_leastFrom_4 (by decide +kernel) ?_
      exact V_iret (pc := 5) (st := []) hX hr (by first | rfl | exact bI_nar _ | decide +kernel) dX2_leastFrom_5 (⟨by rw [lff, if_pos h1], rfl⟩)
set_option maxRecDepth 100000 in
set_option maxHeartbeats 4000000 in
theorem c_least (n : Nat) (σ : Mem) (hn : σ 2 3 = nI n) (hn10 : n ≤ 10) : Cc yX2_least cX2_least 1 (some .int) 12 [.ref 2] σ (rI (lff (σ 17) (σ 18) n n (σ 2 5)) σ) := by
  refine Cc.intro (by decide +kernel) [some (.ref 2)] (fun _ => rfl) rfl (fun _ => Nat.le_of_ble_eq_true rfl) ?_
  intro X hX hR hr
  have h0 := c_leastFrom n σ hn hn10 n (Nat.le_refl _) (σ 2 5)
  rw [Nat.sub_self] at h0
  refine V_aload_n (pc := 0) (i := 0) hX dX2_least_0 rfl rfl ?_
  refine V_iconst (pc := 1) (v := (nI 0)) hX dX2_least_1 (by decide +kernel) ?_
  refine V_aload_n (pc := 2) (i := 0) hX dX2_least_2 rfl rfl ?_
  refine V_getf (pc := 3) hX fX2_38 dX2_least_3 rfl rfl ?_
  refine V_callSi (pc := 6) hX (hR.mono (by omega)) mX2_66 (h0) dX2_least_6 rfl rfl rfl (Nat.le_of_ble_eq_true rfl) ?_
  exact V_iret (pc := 9) (st := []) hX hr (by first | rfl | exact bI_nar _ | decide +kernel) dX2_least_9 (⟨rfl, rfl⟩)
def caddM (σ : Mem) (n : Nat) (c th : Int32) : Mem := mu (mu (mu (mu σ 17 n c) 18 n th) 2 4 (σ 2 4 ||| th)) 2 3 (nI (n + 1))
set_option maxRecDepth 100000 in
set_option maxHeartbeats 4000000 in
theorem c_add (n : Nat) (c th : Int32) (σ : Mem) (hn : σ 2 3 = nI n) (hn10 : n < 10) : Cc yX2_add cX2_add 3 (some .int) 0 [.ref 2, .int c, .int th] σ (rI (nI n) (caddM σ n c th)) := by
  refine Cc.intro (by decide +kernel) [some (.ref 2), some (.int c), some (.int th)] (fun _ => rfl) rfl (fun _ => Nat.le_of_ble_eq_true rfl) ?_
  intro X hX hR hr
  refine V_aload_n (pc := 0) (i := 0) hX dX2_add_0 rfl rfl ?_
  refine V_getr (pc := 1) hX fX2_9 dX2_add_1 rfl rfl ?_
  refine V_aload_n (pc := 4) (i := 0) hX dX2_add_4 rfl rfl ?_
  refine V_getf (pc := 5) hX fX2_21 dX2_add_5 rfl rfl ?_
  rw [hn]
  refine V_iload_n (pc := 8) (i := 1) hX dX2_add_8 rfl rfl ?_
  refine V_iast (pc := 9) hX dX2_add_9 (rfl) (rfl) (by omega) (by decide) ?_
  refine V_aload_n (pc := 10) (i := 0) hX dX2_add_10 rfl rfl ?_
  refine V_getr (pc := 11) hX fX2_15 dX2_add_11 rfl rfl ?_
  refine V_aload_n (pc := 14) (i := 0) hX dX2_add_14 rfl rfl ?_
  refine V_getf (pc := 15) hX fX2_21 dX2_add_15 rfl rfl ?_
  simp only [mu_f, Nat.reduceEqDiff, ↓reduceIte, hn]
  refine V_iload_n (pc := 18) (i := 2) hX dX2_add_18 rfl rfl ?_
  refine V_iast (pc := 19) hX dX2_add_19 (rfl) (rfl) (by omega) (by decide) ?_
  refine V_aload_n (pc := 20) (i := 0) hX dX2_add_20 rfl rfl ?_
  refine V_dup (pc := 21) hX dX2_add_21 rfl ?_
  refine V_getf (pc := 22) hX fX2_29 dX2_add_22 rfl rfl ?_
  simp only [mu_f, Nat.reduceEqDiff, ↓reduceIte]
  refine V_iload_n (pc := 25) (i := 2) hX dX2_add_25 rfl rfl ?_
  refine V_ior (pc := 26) hX dX2_add_26 ?_
  refine V_putf (pc := 27) hX fX2_29 gi2_4 dX2_add_27 rfl rfl ?_
  refine V_aload_n (pc := 30) (i := 0) hX dX2_add_30 rfl rfl ?_
  refine V_dup (pc := 31) hX dX2_add_31 rfl ?_
  refine V_getf (pc := 32) hX fX2_21 dX2_add_32 rfl rfl ?_
  simp only [mu_f, upd_at, Nat.reduceEqDiff, ↓reduceIte, hn]
  refine V_iconst (pc := 35) (v := (nI 1)) hX dX2_add_35 (by decide +kernel) ?_
  refine V_iadd (pc := 36) hX dX2_add_36 ?_
  rw [nI_add]
  refine V_putf (pc := 37) hX fX2_21 gi2_3 dX2_add_37 rfl rfl ?_
  refine V_aload_n (pc := 40) (i := 0) hX dX2_add_40 rfl rfl ?_
  refine V_getf (pc := 41) hX fX2_21 dX2_add_41 rfl rfl ?_
  simp only [mu_at]
  refine V_iconst (pc := 44) (v := (nI 1)) hX dX2_add_44 (by decide +kernel) ?_
  refine V_isub (pc := 45) hX dX2_add_45 ?_
  exact V_iret (pc := 46) (st := []) hX hr (by first | rfl | exact bI_nar _ | decide +kernel) dX2_add_46 (⟨by rw [pk_sub (by omega)]; rfl, rfl⟩)
end
section
/-! one bit by >>, ranges by toInt -/
theorem b_one (i : Nat) (hi : i < 32) : bt (nI 1) i = decide (i = 0) := (by decide +kernel : ∀ i, i < 32 → bt (nI 1) i = decide (i = 0)) i hi
theorem sbit {x : Int32} {k : Nat} (hk : k < 32) : (x >>> (nI k &&& 31)) &&& nI 1 = bI (bt x k) := by
  apply b_ext
  intro i hi
  rw [b_and, b_one i hi, b_sshr k hk x hi]
  by_cases h0 : i = 0
  · subst h0
    rw [Nat.add_zero, if_pos hk]
    cases bt x k <;> decide +kernel
  · rw [decide_eq_false h0, Bool.and_false]
    cases bt x k
    · exact (b_0 i).symm
    · show false = bt (nI 1) i
      rw [b_one i hi, decide_eq_false h0]
theorem bI_1 {b : Bool} : bI b = nI 1 ↔ b = true := by cases b <;> decide +kernel
theorem bI_inj {a b : Bool} : bI a = bI b ↔ a = b := by cases a <;> cases b <;> decide +kernel
theorem add0 (x : Int32) : x + nI 0 = x := by
  have : nI 0 = 0 := nI_0
  rw [this]; exact Int32.add_zero x
theorem bn {b : Bool} (h : ¬ b = true) : b = false := by cases b <;> simp_all
theorem bn' {b : Bool} (h : ¬ b = false) : b = true := by cases b <;> simp_all
def inr (x : Int32) (n : Nat) : Bool := decide (0 ≤ x.toInt ∧ x.toInt < (n : Int))
def inr2 (x : Int32) (a b : Nat) : Bool := decide ((a : Int) ≤ x.toInt ∧ x.toInt ≤ (b : Int))
theorem nI_of_toInt {x : Int32} {j : Nat} (h : x.toInt = (j : Int)) (hj : j < 2 ^ 31) : x = nI j := Int32.toInt_inj.mp (by rw [h, nI_toInt hj])
theorem inr_of {x : Int32} {n : Nat} (h : inr x n = true) (hn : n < 2 ^ 31) : ∃ j : Nat, j < n ∧ x = nI j := by
  have h1 := of_decide_eq_true h
  exact ⟨x.toInt.toNat, by omega, nI_of_toInt (by omega) (by omega)⟩
theorem inr_nI {j n : Nat} (h : j < n) (hn : n < 2 ^ 31) : inr (nI j) n = true := decide_eq_true (by rw [nI_toInt (by omega)]; omega)
theorem inr2_of {x : Int32} {a b : Nat} (h : inr2 x a b = true) (hb : b < 2 ^ 31) : ∃ j : Nat, a ≤ j ∧ j ≤ b ∧ x = nI j := by
  have h1 := of_decide_eq_true h
  exact ⟨x.toInt.toNat, by omega, by omega, nI_of_toInt (by omega) (by omega)⟩
theorem inr_lt {x b : Int32} {n : Nat} (hb : b = nI n) (hn : n < 2 ^ 31) : decide (0 ≤ x ∧ x < b) = inr x n := by
  subst hb
  unfold inr
  simp only [Int32.le_iff_toInt_le, Int32.lt_iff_toInt_lt, nI_toInt hn, Int32.toInt_zero]
theorem inr2_le {x : Int32} {a b : Nat} (ha : a < 2 ^ 31) (hb : b < 2 ^ 31) : decide (nI a ≤ x ∧ x ≤ nI b) = inr2 x a b := by
  unfold inr2
  simp only [Int32.le_iff_toInt_le, nI_toInt ha, nI_toInt hb]
theorem inr2_long {x : Int32} {a b : Nat} (ha : a < 2 ^ 31) (hb : b < 2 ^ 31) : decide (lN a ≤ x.toInt64 ∧ x.toInt64 ≤ lN b) = inr2 x a b := by
  unfold inr2
  simp only [Int64.le_iff_toInt_le, Int32.toInt_toInt64, lN_toInt ha, lN_toInt hb]
theorem nI_pred' {n : Nat} (hn : n < 2 ^ 31) : (nI n - nI 1).toInt = (n : Int) - 1 := by
  cases n with
  | zero => decide +kernel
  | succ n => rw [pk_sub (by omega), nI_toInt (by omega)]; omega
theorem inr_long {x : Int32} {n : Nat} (hn : n < 2 ^ 31) : decide (lN 0 ≤ x.toInt64 ∧ x.toInt64 ≤ (nI n - nI 1).toInt64) = inr x n := by
  unfold inr
  rw [decide_eq_decide]
  simp only [Int64.le_iff_toInt_le, Int32.toInt_toInt64, nI_pred' hn, lN_toInt (show 0 < 2 ^ 31 by decide)]
  omega
theorem inr2_0 {x : Int32} {b : Nat} : inr2 x 0 b = inr x (b + 1) := by
  unfold inr inr2
  rw [decide_eq_decide]
  omega
theorem c_isUnderN (x : Int32) (n : Nat) (hn : n < 2 ^ 31) (σ : Mem) : Cc yX5_isUnder cX5_isUnder 2 (some .boolean) 0 [.int x, .int (nI n)] σ (rI (bI (inr x n)) σ) := by
  have h := c_isUnder x (nI n) σ
  rwa [inr_lt rfl hn] at h
theorem c_isWithinN (x : Int32) (a b : Nat) (ha : a < 2 ^ 31) (hb : b < 2 ^ 31) (σ : Mem) : Cc yX5_isWithin cX5_isWithin 3 (some .boolean) 0 [.int x, .int (nI a), .int (nI b)] σ (rI (bI (inr2 x a b)) σ) := by
  have h := c_isWithin x (nI a) (nI b) σ
  rwa [inr2_le ha hb] at h
theorem V_icmp_neS {X : XC} {own : String} {cc : ByteArray} {nL pc : Nat} {ls : List (Option Value)} {st : List Value} {σ : Mem} {x : Int32} {k : Nat} {off : Int} {tgt : Nat} (hX : Cok X own cc nL) (hd : decode cc pc = .ok (.if_icmp .ne off, 3)) (ht : (pc : Int) + off = (tgt : Int)) (hk : k < 32) (kt : bt x k = false → Vw X tgt ls st σ) (kf : bt x k = true → Vw X (pc + 3) ls st σ) : Vw X pc ls (.int (nI 1) :: .int ((x >>> (nI k &&& 31)) &&& nI 1) :: st) σ :=
  V_icmp_ne hX hd ht (fun h => kt (bn (fun q => h (by rw [sbit hk]; exact bI_1.mpr q)))) (fun h => kf (by rw [sbit hk] at h; exact bI_1.mp h))
theorem V_icmp_eqS {X : XC} {own : String} {cc : ByteArray} {nL pc : Nat} {ls : List (Option Value)} {st : List Value} {σ : Mem} {x : Int32} {k : Nat} {off : Int} {tgt : Nat} (hX : Cok X own cc nL) (hd : decode cc pc = .ok (.if_icmp .eq off, 3)) (ht : (pc : Int) + off = (tgt : Int)) (hk : k < 32) (kt : bt x k = true → Vw X tgt ls st σ) (kf : bt x k = false → Vw X (pc + 3) ls st σ) : Vw X pc ls (.int (nI 1) :: .int ((x >>> (nI k &&& 31)) &&& nI 1) :: st) σ :=
  V_icmp_eq hX hd ht (fun h => kt (by rw [sbit hk] at h; exact bI_1.mp h)) (fun h => kf (bn (fun q => h (by rw [sbit hk]; exact bI_1.mpr q))))
theorem V_if_eqS {X : XC} {own : String} {cc : ByteArray} {nL pc : Nat} {ls : List (Option Value)} {st : List Value} {σ : Mem} {x : Int32} {k : Nat} {off : Int} {tgt : Nat} (hX : Cok X own cc nL) (hd : decode cc pc = .ok (.ifCond .eq off, 3)) (ht : (pc : Int) + off = (tgt : Int)) (hk : k < 32) (kt : bt x k = false → Vw X tgt ls st σ) (kf : bt x k = true → Vw X (pc + 3) ls st σ) : Vw X pc ls (.int ((x >>> (nI k &&& 31)) &&& nI 1) :: st) σ :=
  V_if_eq hX hd ht (fun h => kt (by rw [sbit hk] at h; exact bI_z.mp h)) (fun h => kf (bn' (fun q => h (by rw [sbit hk]; exact bI_z.mpr q))))
theorem V_if_neS {X : XC} {own : String} {cc : ByteArray} {nL pc : Nat} {ls : List (Option Value)} {st : List Value} {σ : Mem} {x : Int32} {k : Nat} {off : Int} {tgt : Nat} (hX : Cok X own cc nL) (hd : decode cc pc = .ok (.ifCond .ne off, 3)) (ht : (pc : Int) + off = (tgt : Int)) (hk : k < 32) (kt : bt x k = true → Vw X tgt ls st σ) (kf : bt x k = false → Vw X (pc + 3) ls st σ) : Vw X pc ls (.int ((x >>> (nI k &&& 31)) &&& nI 1) :: st) σ :=
  V_if_ne hX hd ht (fun h => kt (bn' (fun q => h (by rw [sbit hk]; exact bI_z.mpr q)))) (fun h => kf (by rw [sbit hk] at h; exact bI_z.mp h))
end
section
/-! ===== public methods of SETS, the class's ===== -/
def tn (x : Int32) : Nat := x.toInt.toNat
theorem tn_nI {j : Nat} (h : j < 2 ^ 31) : tn (nI j) = j := by unfold tn; rw [nI_toInt h]; rfl
theorem tsw_out {x : Int32} (n : Nat) (h : ∀ j : Nat, j ≤ n → ¬ x = nI j) (hn : n < 2 ^ 31 := by decide) : x.toInt < 0 ∨ (n : Int) < x.toInt := by
  by_cases h1 : x.toInt < 0
  · exact Or.inl h1
  · by_cases h2 : (n : Int) < x.toInt
    · exact Or.inr h2
    · exact absurd (nI_of_toInt (j := x.toInt.toNat) (by omega) (by omega)) (h x.toInt.toNat (by omega))
def priceF (pr : Nat → Int32) (x : Int32) : Int32 := if inr x 12 then pr (tn x) else (-1000001)
def toldF (n : Nat) (c th pr : Nat → Int32) (bo x w : Int32) : Int32 := if inr x n then (if w = nI 0 then c (tn x) else if w = nI 1 then th (tn x) else if w = nI 2 then pf (th (tn x)) pr 12 else if w = nI 3 then bI (bt bo (tn x)) else (-1000001)) else (-1000001)
def kindF (n : Nat) (c th pr : Nat → Int32) (bo x : Int32) : Int32 := if inr x n then kindf bo (tn x) (pf (th (tn x)) pr 12) (c (tn x)) else (-1000001)
set_option maxRecDepth 100000 in
set_option maxHeartbeats 4000000 in
theorem c_price (x : Int32) (σ : Mem) : Cc yX5_price cX5_price 2 (some .int) 1 [.ref 0, .int x] σ (rI (priceF (σ 19) x) σ) := by
  refine Cc.intro (by decide +kernel) [some (.ref 0), some (.int x)] (fun _ => rfl) rfl (fun _ => Nat.le_of_ble_eq_true rfl) ?_
  intro X hX hR hr
  refine V_iload_n (pc := 0) (i := 1) hX dX5_price_0 rfl rfl ?_
  refine V_bipush (pc := 1) (v := (nI 12)) hX dX5_price_1 (by decide +kernel) ?_
  refine V_callSi (pc := 3) hX (hR.mono (by omega)) mX5_48 (c_isUnderN x 12 (by decide) _) dX5_price_3 rfl rfl rfl (Nat.le_of_ble_eq_true rfl) ?_
  refine V_if_eqB (pc := 6) (tgt := 21) hX dX5_price_6 (by decide) (fun h6 => ?_) (fun h6 => ?_)
  · refine V_ldc (pc := 21) hX kX5_52 dX5_price_21 ?_
    exact V_iret (pc := 23) (st := []) hX hr (by first | rfl | exact bI_nar _ | decide +kernel) dX5_price_23 (⟨by rw [priceF, h6]; rfl, rfl⟩)
  · obtain ⟨j, hj, rfl⟩ := inr_of h6 (by decide)
    refine V_aload_n (pc := 9) (i := 0) hX dX5_price_9 rfl rfl ?_
    refine V_getr (pc := 10) hX fX5_19 dX5_price_10 rfl rfl ?_
    refine V_getr (pc := 13) hX fX5_139 dX5_price_13 rfl rfl ?_
    refine V_iload_n (pc := 16) (i := 1) hX dX5_price_16 rfl rfl ?_
    refine V_iald (pc := 17) hX dX5_price_17 (rfl) (rfl) (by omega) (by decide) ?_
    refine V_goto (pc := 18) (tgt := 23) hX dX5_price_18 (by decide) ?_
    exact V_iret (pc := 23) (st := []) hX hr (by first | rfl | exact bI_nar _ | decide +kernel) dX5_price_23 (⟨by rw [priceF, h6, if_pos rfl, tn_nI (by omega)], rfl⟩)
theorem c_isSetN (x : Int32) (n : Nat) (σ : Mem) (hn : σ 2 3 = nI n) (hn10 : n ≤ 10) : Cc yX2_isSet cX2_isSet 2 (some .boolean) 1 [.ref 2, .int x] σ (rI (bI (inr x n)) σ) := by
  have h := c_isSet x σ
  rwa [inr_lt hn (by omega)] at h
set_option maxRecDepth 100000 in
set_option maxHeartbeats 4000000 in
theorem c_told (n : Nat) (x w : Int32) (σ : Mem) (hn : σ 2 3 = nI n) (hn10 : n ≤ 10) : Cc yX5_told cX5_told 3 (some .int) 4 [.ref 0, .int x, .int w] σ (rI (toldF n (σ 17) (σ 18) (σ 19) (σ 2 6) x w) σ) := by
  refine Cc.intro (by decide +kernel) [some (.ref 0), some (.int x), some (.int w)] (fun _ => rfl) rfl (fun _ => Nat.le_of_ble_eq_true rfl) ?_
  intro X hX hR hr
  refine V_aload_n (pc := 0) (i := 0) hX dX5_told_0 rfl rfl ?_
  refine V_getr (pc := 1) hX fX5_19 dX5_told_1 rfl rfl ?_
  refine V_iload_n (pc := 4) (i := 1) hX dX5_told_4 rfl rfl ?_
  refine V_callVi (pc := 5) hX (hR.mono (by omega)) mX5_123 (c_isSetN x n _ hn hn10) dX5_told_5 rfl rfl rfl rfl (Nat.le_of_ble_eq_true rfl) ?_
  refine V_if_neB (pc := 8) (tgt := 14) hX dX5_told_8 (by decide) (fun h8 => ?_) (fun h8 => ?_)
  · obtain ⟨j, hj, rfl⟩ := inr_of h8 (by omega)
    refine V_iload_n (pc := 14) (i := 2) hX dX5_told_14 rfl rfl ?_
    rcases Classical.em (w = nI 0) with e15_0 | e15_0
    · refine V_tableIn (pc := 15) (off := 29) (tgt := 44) hX dX5_told_15 (by rw [e15_0]; decide +kernel) (by rw [e15_0]; decide +kernel) (by rw [e15_0]; decide +kernel) (by decide) ?_
      refine V_aload_n (pc := 44) (i := 0) hX dX5_told_44 rfl rfl ?_
      refine V_getr (pc := 45) hX fX5_19 dX5_told_45 rfl rfl ?_
      refine V_getr (pc := 48) hX fX5_126 dX5_told_48 rfl rfl ?_
      refine V_iload_n (pc := 51) (i := 1) hX dX5_told_51 rfl rfl ?_
      refine V_iald (pc := 52) hX dX5_told_52 (rfl) (rfl) (by omega) (by decide) ?_
      exact V_iret (pc := 53) (st := []) hX hr (by first | rfl | exact bI_nar _ | decide +kernel) dX5_told_53 (⟨by rw [toldF, h8, if_pos rfl, tn_nI (by omega), if_pos e15_0], rfl⟩)
    · skip
      rcases Classical.em (w = nI 1) with e15_1 | e15_1
      · refine V_tableIn (pc := 15) (off := 39) (tgt := 54) hX dX5_told_15 (by rw [e15_1]; decide +kernel) (by rw [e15_1]; decide +kernel) (by rw [e15_1]; decide +kernel) (by decide) ?_
        refine V_aload_n (pc := 54) (i := 0) hX dX5_told_54 rfl rfl ?_
        refine V_getr (pc := 55) hX fX5_19 dX5_told_55 rfl rfl ?_
        refine V_getr (pc := 58) hX fX5_130 dX5_told_58 rfl rfl ?_
        refine V_iload_n (pc := 61) (i := 1) hX dX5_told_61 rfl rfl ?_
        refine V_iald (pc := 62) hX dX5_told_62 (rfl) (rfl) (by omega) (by decide) ?_
        exact V_iret (pc := 63) (st := []) hX hr (by first | rfl | exact bI_nar _ | decide +kernel) dX5_told_63 (⟨by rw [toldF, h8, if_pos rfl, tn_nI (by omega), if_neg e15_0, if_pos e15_1], rfl⟩)
      · skip
        rcases Classical.em (w = nI 2) with e15_2 | e15_2
        · refine V_tableIn (pc := 15) (off := 49) (tgt := 64) hX dX5_told_15 (by rw [e15_2]; decide +kernel) (by rw [e15_2]; decide +kernel) (by rw [e15_2]; decide +kernel) (by decide) ?_
          refine V_aload_n (pc := 64) (i := 0) hX dX5_told_64 rfl rfl ?_
          refine V_getr (pc := 65) hX fX5_19 dX5_told_65 rfl rfl ?_
          refine V_iload_n (pc := 68) (i := 1) hX dX5_told_68 rfl rfl ?_
          refine V_callVi (pc := 69) hX (hR.mono (by omega)) mX5_133 (c_filled _ (by omega) _) dX5_told_69 rfl rfl rfl rfl (Nat.le_of_ble_eq_true rfl) ?_
          exact V_iret (pc := 72) (st := []) hX hr (by first | rfl | exact bI_nar _ | decide +kernel) dX5_told_72 (⟨by rw [toldF, h8, if_pos rfl, tn_nI (by omega), if_neg e15_0, if_neg e15_1, if_pos e15_2], rfl⟩)
        · skip
          rcases Classical.em (w = nI 3) with e15_3 | e15_3
          · refine V_tableIn (pc := 15) (off := 58) (tgt := 73) hX dX5_told_15 (by rw [e15_3]; decide +kernel) (by rw [e15_3]; decide +kernel) (by rw [e15_3]; decide +kernel) (by decide) ?_
            refine V_aload_n (pc := 73) (i := 0) hX dX5_told_73 rfl rfl ?_
            refine V_getr (pc := 74) hX fX5_19 dX5_told_74 rfl rfl ?_
            refine V_iload_n (pc := 77) (i := 1) hX dX5_told_77 rfl rfl ?_
            refine V_callVi (pc := 78) hX (hR.mono (by omega)) mX5_136 (c_isBought _ (by omega) _) dX5_told_78 rfl rfl rfl rfl (Nat.le_of_ble_eq_true rfl) ?_
            refine V_if_eqB (pc := 81) (tgt := 88) hX dX5_told_81 (by decide) (fun h81 => ?_) (fun h81 => ?_)
            · refine V_iconst (pc := 88) (v := (nI 0)) hX dX5_told_88 (by decide +kernel) ?_
              exact V_iret (pc := 89) (st := []) hX hr (by first | rfl | exact bI_nar _ | decide +kernel) dX5_told_89 (⟨by rw [toldF, h8, if_pos rfl, tn_nI (by omega), if_neg e15_0, if_neg e15_1, if_neg e15_2, if_pos e15_3, h81]; rfl, rfl⟩)
            · refine V_iconst (pc := 84) (v := (nI 1)) hX dX5_told_84 (by decide +kernel) ?_
              refine V_goto (pc := 85) (tgt := 89) hX dX5_told_85 (by decide) ?_
              exact V_iret (pc := 89) (st := []) hX hr (by first | rfl | exact bI_nar _ | decide +kernel) dX5_told_89 (⟨by rw [toldF, h8, if_pos rfl, tn_nI (by omega), if_neg e15_0, if_neg e15_1, if_neg e15_2, if_pos e15_3, h81]; rfl, rfl⟩)
          · skip
            refine V_tableOut (pc := 15) (tgt := 90) hX dX5_told_15 (tsw_out 3 (by
                intro j hj
                rcases (show j = 0 ∨ j = 1 ∨ j = 2 ∨ j = 3 by omega) with rfl | rfl | rfl | rfl
                · exact e15_0
                · exact e15_1
                · exact e15_2
                · exact e15_3)) (by decide) ?_
            refine V_ldc (pc := 90) hX kX5_52 dX5_told_90 ?_
            exact V_iret (pc := 92) (st := []) hX hr (by first | rfl | exact bI_nar _ | decide +kernel) dX5_told_92 (⟨by rw [toldF, h8, if_pos rfl, tn_nI (by omega), if_neg e15_0, if_neg e15_1, if_neg e15_2, if_neg e15_3], rfl⟩)
  · refine V_ldc (pc := 11) hX kX5_52 dX5_told_11 ?_
    exact V_iret (pc := 13) (st := []) hX hr (by first | rfl | exact bI_nar _ | decide +kernel) dX5_told_13 (⟨by rw [toldF, h8]; rfl, rfl⟩)
set_option maxRecDepth 100000 in
set_option maxHeartbeats 4000000 in
theorem c_kind (n : Nat) (x : Int32) (σ : Mem) (hn : σ 2 3 = nI n) (hn10 : n ≤ 10) : Cc yX5_kind cX5_kind 2 (some .int) 5 [.ref 0, .int x] σ (rI (kindF n (σ 17) (σ 18) (σ 19) (σ 2 6) x) σ) := by
  refine Cc.intro (by decide +kernel) [some (.ref 0), some (.int x)] (fun _ => rfl) rfl (fun _ => Nat.le_of_ble_eq_true rfl) ?_
  intro X hX hR hr
  refine V_aload_n (pc := 0) (i := 0) hX dX5_kind_0 rfl rfl ?_
  refine V_getr (pc := 1) hX fX5_19 dX5_kind_1 rfl rfl ?_
  refine V_iload_n (pc := 4) (i := 1) hX dX5_kind_4 rfl rfl ?_
  refine V_callVi (pc := 5) hX (hR.mono (by omega)) mX5_123 (c_isSetN x n _ hn hn10) dX5_kind_5 rfl rfl rfl rfl (Nat.le_of_ble_eq_true rfl) ?_
  refine V_if_eqB (pc := 8) (tgt := 22) hX dX5_kind_8 (by decide) (fun h8 => ?_) (fun h8 => ?_)
  · refine V_ldc (pc := 22) hX kX5_52 dX5_kind_22 ?_
    exact V_iret (pc := 24) (st := []) hX hr (by first | rfl | exact bI_nar _ | decide +kernel) dX5_kind_24 (⟨by rw [kindF, h8]; rfl, rfl⟩)
  · obtain ⟨j, hj, rfl⟩ := inr_of h8 (by omega)
    refine V_aload_n (pc := 11) (i := 0) hX dX5_kind_11 rfl rfl ?_
    refine V_getr (pc := 12) hX fX5_19 dX5_kind_12 rfl rfl ?_
    refine V_iload_n (pc := 15) (i := 1) hX dX5_kind_15 rfl rfl ?_
    refine V_callVi (pc := 16) hX (hR.mono (by omega)) mX5_192 (c_kindOf _ _ (by omega)) dX5_kind_16 rfl rfl rfl rfl (Nat.le_of_ble_eq_true rfl) ?_
    refine V_goto (pc := 19) (tgt := 24) hX dX5_kind_19 (by decide) ?_
    exact V_iret (pc := 24) (st := []) hX hr (by first | rfl | exact bI_nar _ | decide +kernel) dX5_kind_24 (⟨by rw [kindF, h8, if_pos rfl, tn_nI (by omega)], rfl⟩)
def coversF (n : Nat) (c th pr : Nat → Int32) (paid dem bo w : Int32) : Int32 := if w = nI 0 then paid else if w = nI 1 then pf (nI 4095) pr 12 else if w = nI 2 then lff c th n n dem else if w = nI 3 then sharf dem th n 12 else if w = nI 4 then dem else if w = nI 5 then bo else (-1000001)
set_option maxRecDepth 100000 in
set_option maxHeartbeats 4000000 in
theorem c_covers (n : Nat) (w : Int32) (σ : Mem) (hn : σ 2 3 = nI n) (hn10 : n ≤ 10) : Cc yX5_covers cX5_covers 2 (some .int) 13 [.ref 0, .int w] σ (rI (coversF n (σ 17) (σ 18) (σ 19) (σ 2 8) (σ 2 5) (σ 2 6) w) σ) := by
  refine Cc.intro (by decide +kernel) [some (.ref 0), some (.int w)] (fun _ => rfl) rfl (fun _ => Nat.le_of_ble_eq_true rfl) ?_
  intro X hX hR hr
  refine V_iload_n (pc := 0) (i := 1) hX dX5_covers_0 rfl rfl ?_
  rcases Classical.em (w = nI 0) with e1_0 | e1_0
  · refine V_tableIn (pc := 1) (off := 39) (tgt := 40) hX dX5_covers_1 (by rw [e1_0]; decide +kernel) (by rw [e1_0]; decide +kernel) (by rw [e1_0]; decide +kernel) (by decide) ?_
    refine V_aload_n (pc := 40) (i := 0) hX dX5_covers_40 rfl rfl ?_
    refine V_getr (pc := 41) hX fX5_19 dX5_covers_41 rfl rfl ?_
    refine V_getf (pc := 44) hX fX5_107 dX5_covers_44 rfl rfl ?_
    exact V_iret (pc := 47) (st := []) hX hr (by first | rfl | exact bI_nar _ | decide +kernel) dX5_covers_47 (⟨by rw [coversF, if_pos e1_0], rfl⟩)
  · skip
    rcases Classical.em (w = nI 1) with e1_1 | e1_1
    · refine V_tableIn (pc := 1) (off := 47) (tgt := 48) hX dX5_covers_1 (by rw [e1_1]; decide +kernel) (by rw [e1_1]; decide +kernel) (by rw [e1_1]; decide +kernel) (by decide) ?_
      refine V_aload_n (pc := 48) (i := 0) hX dX5_covers_48 rfl rfl ?_
      refine V_getr (pc := 49) hX fX5_19 dX5_covers_49 rfl rfl ?_
      refine V_callVi (pc := 52) hX (hR.mono (by omega)) mX5_110 (c_pricesAdded _) dX5_covers_52 rfl rfl rfl rfl (Nat.le_of_ble_eq_true rfl) ?_
      exact V_iret (pc := 55) (st := []) hX hr (by first | rfl | exact bI_nar _ | decide +kernel) dX5_covers_55 (⟨by rw [coversF, if_neg e1_0, if_pos e1_1], rfl⟩)
    · skip
      rcases Classical.em (w = nI 2) with e1_2 | e1_2
      · refine V_tableIn (pc := 1) (off := 55) (tgt := 56) hX dX5_covers_1 (by rw [e1_2]; decide +kernel) (by rw [e1_2]; decide +kernel) (by rw [e1_2]; decide +kernel) (by decide) ?_
        refine V_aload_n (pc := 56) (i := 0) hX dX5_covers_56 rfl rfl ?_
        refine V_getr (pc := 57) hX fX5_19 dX5_covers_57 rfl rfl ?_
        refine V_callVi (pc := 60) hX (hR.mono (by omega)) mX5_114 (c_least n _ hn hn10) dX5_covers_60 rfl rfl rfl rfl (Nat.le_of_ble_eq_true rfl) ?_
        exact V_iret (pc := 63) (st := []) hX hr (by first | rfl | exact bI_nar _ | decide +kernel) dX5_covers_63 (⟨by rw [coversF, if_neg e1_0, if_neg e1_1, if_pos e1_2], rfl⟩)
      · skip
        rcases Classical.em (w = nI 3) with e1_3 | e1_3
        · refine V_tableIn (pc := 1) (off := 63) (tgt := 64) hX dX5_covers_1 (by rw [e1_3]; decide +kernel) (by rw [e1_3]; decide +kernel) (by rw [e1_3]; decide +kernel) (by decide) ?_
          refine V_aload_n (pc := 64) (i := 0) hX dX5_covers_64 rfl rfl ?_
          refine V_getr (pc := 65) hX fX5_19 dX5_covers_65 rfl rfl ?_
          refine V_callVi (pc := 68) hX (hR.mono (by omega)) mX5_117 (c_share n _ hn hn10) dX5_covers_68 rfl rfl rfl rfl (Nat.le_of_ble_eq_true rfl) ?_
          exact V_iret (pc := 71) (st := []) hX hr (by first | rfl | exact bI_nar _ | decide +kernel) dX5_covers_71 (⟨by rw [coversF, if_neg e1_0, if_neg e1_1, if_neg e1_2, if_pos e1_3], rfl⟩)
        · skip
          rcases Classical.em (w = nI 4) with e1_4 | e1_4
          · refine V_tableIn (pc := 1) (off := 71) (tgt := 72) hX dX5_covers_1 (by rw [e1_4]; decide +kernel) (by rw [e1_4]; decide +kernel) (by rw [e1_4]; decide +kernel) (by decide) ?_
            refine V_aload_n (pc := 72) (i := 0) hX dX5_covers_72 rfl rfl ?_
            refine V_getr (pc := 73) hX fX5_19 dX5_covers_73 rfl rfl ?_
            refine V_getf (pc := 76) hX fX5_83 dX5_covers_76 rfl rfl ?_
            exact V_iret (pc := 79) (st := []) hX hr (by first | rfl | exact bI_nar _ | decide +kernel) dX5_covers_79 (⟨by rw [coversF, if_neg e1_0, if_neg e1_1, if_neg e1_2, if_neg e1_3, if_pos e1_4], rfl⟩)
          · skip
            rcases Classical.em (w = nI 5) with e1_5 | e1_5
            · refine V_tableIn (pc := 1) (off := 79) (tgt := 80) hX dX5_covers_1 (by rw [e1_5]; decide +kernel) (by rw [e1_5]; decide +kernel) (by rw [e1_5]; decide +kernel) (by decide) ?_
              refine V_aload_n (pc := 80) (i := 0) hX dX5_covers_80 rfl rfl ?_
              refine V_getr (pc := 81) hX fX5_19 dX5_covers_81 rfl rfl ?_
              refine V_getf (pc := 84) hX fX5_120 dX5_covers_84 rfl rfl ?_
              exact V_iret (pc := 87) (st := []) hX hr (by first | rfl | exact bI_nar _ | decide +kernel) dX5_covers_87 (⟨by rw [coversF, if_neg e1_0, if_neg e1_1, if_neg e1_2, if_neg e1_3, if_neg e1_4, if_pos e1_5], rfl⟩)
            · skip
              refine V_tableOut (pc := 1) (tgt := 88) hX dX5_covers_1 (tsw_out 5 (by
                  intro j hj
                  rcases (show j = 0 ∨ j = 1 ∨ j = 2 ∨ j = 3 ∨ j = 4 ∨ j = 5 by omega) with rfl | rfl | rfl | rfl | rfl | rfl
                  · exact e1_0
                  · exact e1_1
                  · exact e1_2
                  · exact e1_3
                  · exact e1_4
                  · exact e1_5)) (by decide) ?_
              refine V_ldc (pc := 88) hX kX5_52 dX5_covers_88 ?_
              exact V_iret (pc := 90) (st := []) hX hr (by first | rfl | exact bI_nar _ | decide +kernel) dX5_covers_90 (⟨by rw [coversF, if_neg e1_0, if_neg e1_1, if_neg e1_2, if_neg e1_3, if_neg e1_4, if_neg e1_5], rfl⟩)
def demandV (σ : Mem) (n : Nat) (x : Int32) : Int32 := if inr x 12 then (if bt (σ 2 4) (tn x) then cmeetV σ n (tn x) else (-1000002)) else (-1000001)
def demandM (σ : Mem) (n : Nat) (x : Int32) : Mem := if inr x 12 then (if bt (σ 2 4) (tn x) then cmeetM σ n (tn x) else σ) else σ
set_option maxRecDepth 100000 in
set_option maxHeartbeats 4000000 in
theorem c_demand (n : Nat) (x : Int32) (σ : Mem) (hn : σ 2 3 = nI n) (hn10 : n ≤ 10) : Cc yX5_demand cX5_demand 2 (some .int) 6 [.ref 0, .int x] σ (rI (demandV σ n x) (demandM σ n x)) := by
  refine Cc.intro (by decide +kernel) [some (.ref 0), some (.int x)] (fun _ => rfl) rfl (fun _ => Nat.le_of_ble_eq_true rfl) ?_
  intro X hX hR hr
  refine V_iload_n (pc := 0) (i := 1) hX dX5_demand_0 rfl rfl ?_
  refine V_bipush (pc := 1) (v := (nI 12)) hX dX5_demand_1 (by decide +kernel) ?_
  refine V_callSi (pc := 3) hX (hR.mono (by omega)) mX5_48 (c_isUnderN x 12 (by decide) _) dX5_demand_3 rfl rfl rfl (Nat.le_of_ble_eq_true rfl) ?_
  refine V_if_neB (pc := 6) (tgt := 12) hX dX5_demand_6 (by decide) (fun h6 => ?_) (fun h6 => ?_)
  · obtain ⟨j, hj, rfl⟩ := inr_of h6 (by decide)
    refine V_aload_n (pc := 12) (i := 0) hX dX5_demand_12 rfl rfl ?_
    refine V_getr (pc := 13) hX fX5_19 dX5_demand_13 rfl rfl ?_
    refine V_iload_n (pc := 16) (i := 1) hX dX5_demand_16 rfl rfl ?_
    refine V_callVi (pc := 17) hX (hR.mono (by omega)) mX5_95 (c_isOffered _ (by omega) _) dX5_demand_17 rfl rfl rfl rfl (Nat.le_of_ble_eq_true rfl) ?_
    refine V_if_eqB (pc := 20) (tgt := 34) hX dX5_demand_20 (by decide) (fun h20 => ?_) (fun h20 => ?_)
    · refine V_ldc (pc := 34) hX kX5_86 dX5_demand_34 ?_
      exact V_iret (pc := 36) (st := []) hX hr (by first | rfl | exact bI_nar _ | decide +kernel) dX5_demand_36 (⟨by rw [demandV, h6, if_pos rfl, tn_nI (by omega), h20]; rfl, by rw [demandM, h6, if_pos rfl, tn_nI (by omega), h20]; rfl⟩)
    · refine V_aload_n (pc := 23) (i := 0) hX dX5_demand_23 rfl rfl ?_
      refine V_getr (pc := 24) hX fX5_19 dX5_demand_24 rfl rfl ?_
      refine V_iload_n (pc := 27) (i := 1) hX dX5_demand_27 rfl rfl ?_
      refine V_callVi (pc := 28) hX (hR.mono (by omega)) mX5_98 (c_meet n _ _ hn hn10 (by omega)) dX5_demand_28 rfl rfl rfl rfl (Nat.le_of_ble_eq_true rfl) ?_
      refine V_goto (pc := 31) (tgt := 36) hX dX5_demand_31 (by decide) ?_
      exact V_iret (pc := 36) (st := []) hX hr (by first | rfl | exact bI_nar _ | decide +kernel) dX5_demand_36 (⟨by rw [demandV, h6, if_pos rfl, tn_nI (by omega), h20]; rfl, by rw [demandM, h6, if_pos rfl, tn_nI (by omega), h20]; rfl⟩)
  · refine V_ldc (pc := 9) hX kX5_52 dX5_demand_9 ?_
    exact V_iret (pc := 11) (st := []) hX hr (by first | rfl | exact bI_nar _ | decide +kernel) dX5_demand_11 (⟨by rw [demandV, h6]; rfl, by rw [demandM, h6]; rfl⟩)
/-- offer: BAD, STATE, FULL, or the number -/
def offerF (n : Nat) (dem c th : Int32) : Int32 := if inr2 c 1 1000 && inr2 th 1 4095 then (if dem = 0 then (if n < 10 then nI n else (-1000003)) else (-1000002)) else (-1000001)
def offerM (σ : Mem) (n : Nat) (c th : Int32) : Mem := if inr2 c 1 1000 && inr2 th 1 4095 then (if σ 2 5 = 0 then (if n < 10 then caddM σ n c th else σ) else σ) else σ
set_option maxRecDepth 100000 in
set_option maxHeartbeats 4000000 in
theorem c_offer (n : Nat) (c th : Int32) (σ : Mem) (hn : σ 2 3 = nI n) (hn10 : n ≤ 10) : Cc yX5_offer cX5_offer 3 (some .int) 1 [.ref 0, .int c, .int th] σ (rI (offerF n (σ 2 5) c th) (offerM σ n c th)) := by
  refine Cc.intro (by decide +kernel) [some (.ref 0), some (.int c), some (.int th)] (fun _ => rfl) rfl (fun _ => Nat.le_of_ble_eq_true rfl) ?_
  intro X hX hR hr
  refine V_iload_n (pc := 0) (i := 1) hX dX5_offer_0 rfl rfl ?_
  refine V_iconst (pc := 1) (v := (nI 1)) hX dX5_offer_1 (by decide +kernel) ?_
  refine V_sipush (pc := 2) (v := (nI 1000)) hX dX5_offer_2 (by decide +kernel) ?_
  refine V_callSi (pc := 5) hX (hR.mono (by omega)) mX5_79 (c_isWithinN c 1 1000 (by decide) (by decide) _) dX5_offer_5 rfl rfl rfl (Nat.le_of_ble_eq_true rfl) ?_
  refine V_if_eqB (pc := 8) (tgt := 22) hX dX5_offer_8 (by decide) (fun h8 => ?_) (fun h8 => ?_)
  · refine V_ldc (pc := 22) hX kX5_52 dX5_offer_22 ?_
    exact V_iret (pc := 24) (st := []) hX hr (by first | rfl | exact bI_nar _ | decide +kernel) dX5_offer_24 (⟨by rw [offerF, h8]; rfl, by rw [offerM, h8]; rfl⟩)
  · refine V_iload_n (pc := 11) (i := 2) hX dX5_offer_11 rfl rfl ?_
    refine V_iconst (pc := 12) (v := (nI 1)) hX dX5_offer_12 (by decide +kernel) ?_
    refine V_sipush (pc := 13) (v := (nI 4095)) hX dX5_offer_13 (by decide +kernel) ?_
    refine V_callSi (pc := 16) hX (hR.mono (by omega)) mX5_79 (c_isWithinN th 1 4095 (by decide) (by decide) _) dX5_offer_16 rfl rfl rfl (Nat.le_of_ble_eq_true rfl) ?_
    refine V_if_neB (pc := 19) (tgt := 25) hX dX5_offer_19 (by decide) (fun h19 => ?_) (fun h19 => ?_)
    · refine V_aload_n (pc := 25) (i := 0) hX dX5_offer_25 rfl rfl ?_
      refine V_getr (pc := 26) hX fX5_19 dX5_offer_26 rfl rfl ?_
      refine V_getf (pc := 29) hX fX5_83 dX5_offer_29 rfl rfl ?_
      refine V_if_eq (pc := 32) (tgt := 38) hX dX5_offer_32 (by decide) (fun h32 => ?_) (fun h32 => ?_)
      · refine V_aload_n (pc := 38) (i := 0) hX dX5_offer_38 rfl rfl ?_
        refine V_getr (pc := 39) hX fX5_19 dX5_offer_39 rfl rfl ?_
        refine V_getf (pc := 42) hX fX5_87 dX5_offer_42 rfl rfl ?_
        refine V_bipush (pc := 45) (v := (nI 10)) hX dX5_offer_45 (by decide +kernel) ?_
        rw [hn]
        refine V_icmp_geN (pc := 47) (tgt := 62) hX dX5_offer_47 (by decide) (by omega) (by omega) (fun h47 => ?_) (fun h47 => ?_)
        · refine V_ldc (pc := 62) hX kX5_94 dX5_offer_62 ?_
          exact V_iret (pc := 64) (st := []) hX hr (by first | rfl | exact bI_nar _ | decide +kernel) dX5_offer_64 (⟨by rw [offerF, h8, h19, Bool.true_and, if_pos rfl, if_pos h32, if_neg (by omega)], by rw [offerM, h8, h19, Bool.true_and, if_pos rfl, if_pos h32, if_neg (by omega)]⟩)
        · refine V_aload_n (pc := 50) (i := 0) hX dX5_offer_50 rfl rfl ?_
          refine V_getr (pc := 51) hX fX5_19 dX5_offer_51 rfl rfl ?_
          refine V_iload_n (pc := 54) (i := 1) hX dX5_offer_54 rfl rfl ?_
          refine V_iload_n (pc := 55) (i := 2) hX dX5_offer_55 rfl rfl ?_
          refine V_callVi (pc := 56) hX (hR.mono (by omega)) mX5_90 (c_add n _ _ _ hn (by omega)) dX5_offer_56 rfl rfl rfl rfl (Nat.le_of_ble_eq_true rfl) ?_
          refine V_goto (pc := 59) (tgt := 64) hX dX5_offer_59 (by decide) ?_
          exact V_iret (pc := 64) (st := []) hX hr (by first | rfl | exact bI_nar _ | decide +kernel) dX5_offer_64 (⟨by rw [offerF, h8, h19, Bool.true_and, if_pos rfl, if_pos h32, if_pos h47], by rw [offerM, h8, h19, Bool.true_and, if_pos rfl, if_pos h32, if_pos h47]⟩)
      · refine V_ldc (pc := 35) hX kX5_86 dX5_offer_35 ?_
        exact V_iret (pc := 37) (st := []) hX hr (by first | rfl | exact bI_nar _ | decide +kernel) dX5_offer_37 (⟨by rw [offerF, h8, h19, Bool.true_and, if_pos rfl, if_neg h32], by rw [offerM, h8, h19, Bool.true_and, if_pos rfl, if_neg h32]⟩)
    · refine V_ldc (pc := 22) hX kX5_52 dX5_offer_22 ?_
      exact V_iret (pc := 24) (st := []) hX hr (by first | rfl | exact bI_nar _ | decide +kernel) dX5_offer_24 (⟨by rw [offerF, h8, h19]; rfl, by rw [offerM, h8, h19]; rfl⟩)
end
section
theorem mf_id (σ : Mem) (p : Nat) : mf σ p (σ p) = σ := by
  funext q j
  simp only [mf]
  split
  · rename_i h; rw [h]
  · rfl
theorem mf_mu (σ : Mem) (p i : Nat) (g : Nat → Int32) (v : Int32) : mu (mf σ p g) p i v = mf σ p (upd g i v) := by
  funext q j
  simp only [mu, mf, upd]
  by_cases h : q = p <;> by_cases h2 : j = i <;> simp [h, h2, upd]
theorem mf_at (σ : Mem) (p : Nat) (g : Nat → Int32) (q : Nat) : mf σ p g q = if q = p then g else σ q := rfl
theorem V_ldcw {X : XC} {own : String} {cc : ByteArray} {nL pc : Nat} {ls : List (Option Value)} {st : List Value} {σ : Mem} {index : Nat} {v : Int32} (hX : Cok X own cc nL) (hw : Cond.constant own index v ∈ lw_w) (hd : decode cc pc = .ok (.ldc_w index, 3)) (kk : Vw X (pc + 3) ls (.int v :: st) σ) : Vw X pc ls st σ := by
  obtain ⟨p, l, e, R, s, m, args, below, meth, c, cells, slots, Q, A, D, ad, cs, H0⟩ := X
  intro H locs lsA hP hS hl
  exact lv_ldcw hX.1 hX.2.1 hX.2.2.2.1 (hX.2.2.2.2.1 _ hw) hd (kk H locs lsA hP hS hl)
def popn (x : Int32) : Nat → Nat
  | 0 => 0
  | k + 1 => if bt x k then popn x k + 1 else popn x k
def us (x : Int32) (k : Nat) : Int32 := (x.toUInt32 >>> ((nI k).toUInt32 &&& Int32.toUInt32 31)).toInt32
def bc1 (x : Int32) : Int32 := x - (us x 1 &&& nI 1431655765)
def bc2 (x : Int32) : Int32 := (x &&& nI 858993459) + (us x 2 &&& nI 858993459)
def bc3 (x : Int32) : Int32 := (x + us x 4) &&& nI 252645135
def bc4 (x : Int32) : Int32 := x + us x 8
def bc5 (x : Int32) : Int32 := (x + us x 16) &&& nI 63
def bcF (x : Int32) : Int32 := bc5 (bc4 (bc3 (bc2 (bc1 x))))
set_option maxRecDepth 100000 in
set_option maxHeartbeats 4000000 in
theorem c_bitCount (x : Int32) (σ : Mem) : Cc yJ6_bitCount_0f7a4 cJ6_bitCount_0f7a4 1 (some .int) 0 [.int x] σ (rI (bcF x) σ) := by
  refine Cc.intro (by decide +kernel) [some (.int x)] (fun _ => rfl) rfl (fun _ => Nat.le_of_ble_eq_true rfl) ?_
  intro X hX hR hr
  refine V_iload_n (pc := 0) (i := 0) hX dJ6_bitCount_0f7a4_0 rfl rfl ?_
  refine V_iload_n (pc := 1) (i := 0) hX dJ6_bitCount_0f7a4_1 rfl rfl ?_
  refine V_iconst (pc := 2) (v := (nI 1)) hX dJ6_bitCount_0f7a4_2 (by decide +kernel) ?_
  refine V_iushr (pc := 3) hX dJ6_bitCount_0f7a4_3 ?_
  refine V_ldcw (pc := 4) hX kJ6_265 dJ6_bitCount_0f7a4_4 ?_
  refine V_iand (pc := 7) hX dJ6_bitCount_0f7a4_7 ?_
  refine V_isub (pc := 8) hX dJ6_bitCount_0f7a4_8 ?_
  refine V_istore0 (pc := 9) hX dJ6_bitCount_0f7a4_9 rfl ?_
  refine V_iload_n (pc := 10) (i := 0) hX dJ6_bitCount_0f7a4_10 rfl rfl ?_
  refine V_ldcw (pc := 11) hX kJ6_266 dJ6_bitCount_0f7a4_11 ?_
  refine V_iand (pc := 14) hX dJ6_bitCount_0f7a4_14 ?_
  refine V_iload_n (pc := 15) (i := 0) hX dJ6_bitCount_0f7a4_15 rfl rfl ?_
  refine V_iconst (pc := 16) (v := (nI 2)) hX dJ6_bitCount_0f7a4_16 (by decide +kernel) ?_
  refine V_iushr (pc := 17) hX dJ6_bitCount_0f7a4_17 ?_
  refine V_ldcw (pc := 18) hX kJ6_266 dJ6_bitCount_0f7a4_18 ?_
  refine V_iand (pc := 21) hX dJ6_bitCount_0f7a4_21 ?_
  refine V_iadd (pc := 22) hX dJ6_bitCount_0f7a4_22 ?_
  refine V_istore0 (pc := 23) hX dJ6_bitCount_0f7a4_23 rfl ?_
  refine V_iload_n (pc := 24) (i := 0) hX dJ6_bitCount_0f7a4_24 rfl rfl ?_
  refine V_iload_n (pc := 25) (i := 0) hX dJ6_bitCount_0f7a4_25 rfl rfl ?_
  refine V_iconst (pc := 26) (v := (nI 4)) hX dJ6_bitCount_0f7a4_26 (by decide +kernel) ?_
  refine V_iushr (pc := 27) hX dJ6_bitCount_0f7a4_27 ?_
  refine V_iadd (pc := 28) hX dJ6_bitCount_0f7a4_28 ?_
  refine V_ldcw (pc := 29) hX kJ6_267 dJ6_bitCount_0f7a4_29 ?_
  refine V_iand (pc := 32) hX dJ6_bitCount_0f7a4_32 ?_
  refine V_istore0 (pc := 33) hX dJ6_bitCount_0f7a4_33 rfl ?_
  refine V_iload_n (pc := 34) (i := 0) hX dJ6_bitCount_0f7a4_34 rfl rfl ?_
  refine V_iload_n (pc := 35) (i := 0) hX dJ6_bitCount_0f7a4_35 rfl rfl ?_
  refine V_bipush (pc := 36) (v := (nI 8)) hX dJ6_bitCount_0f7a4_36 (by decide +kernel) ?_
  refine V_iushr (pc := 38) hX dJ6_bitCount_0f7a4_38 ?_
  refine V_iadd (pc := 39) hX dJ6_bitCount_0f7a4_39 ?_
  refine V_istore0 (pc := 40) hX dJ6_bitCount_0f7a4_40 rfl ?_
  refine V_iload_n (pc := 41) (i := 0) hX dJ6_bitCount_0f7a4_41 rfl rfl ?_
  refine V_iload_n (pc := 42) (i := 0) hX dJ6_bitCount_0f7a4_42 rfl rfl ?_
  refine V_bipush (pc := 43) (v := (nI 16)) hX dJ6_bitCount_0f7a4_43 (by decide +kernel) ?_
  refine V_iushr (pc := 45) hX dJ6_bitCount_0f7a4_45 ?_
  refine V_iadd (pc := 46) hX dJ6_bitCount_0f7a4_46 ?_
  refine V_istore0 (pc := 47) hX dJ6_bitCount_0f7a4_47 rfl ?_
  refine V_iload_n (pc := 48) (i := 0) hX dJ6_bitCount_0f7a4_48 rfl rfl ?_
  refine V_bipush (pc := 49) (v := (nI 63)) hX dJ6_bitCount_0f7a4_49 (by decide +kernel) ?_
  refine V_iand (pc := 51) hX dJ6_bitCount_0f7a4_51 ?_
  exact V_iret (pc := 52) (st := []) hX hr (by first | rfl | exact bI_nar _ | decide +kernel) dJ6_bitCount_0f7a4_52 (⟨rfl, rfl⟩)
theorem bcF_pop : ∀ m, m < 4096 → bcF (nI m) = nI (popn (nI m) 12) := by
  intro m hm
  have h : (List.range 4096).all (fun m => decide (bcF (nI m) = nI (popn (nI m) 12))) = true := by decide +kernel
  exact of_decide_eq_true (List.all_eq_true.mp h m (List.mem_range.mpr hm))
/-! ===== ASKS, both: a trace is a row and a number ===== -/
/-- the trace with one more body: the row, how many -/
def bgF (x : (Nat → Int32) × Nat) (b : Nat) : (Nat → Int32) × Nat := if x.2 < 16 then (upd x.1 x.2 (nI b), x.2 + 1) else x
theorem bgF_le {x : (Nat → Int32) × Nat} {b : Nat} (h : x.2 ≤ 16) : (bgF x b).2 ≤ 16 := by
  unfold bgF
  split
  · show x.2 + 1 ≤ 16
    omega
  · exact h
/-- the class's world with a trace -/
def tcM (σ : Mem) (x : (Nat → Int32) × Nat) : Mem := mu (mf σ 51 x.1) 5 1 (nI x.2)
theorem tcM_r {σ : Mem} {x : (Nat → Int32) × Nat} {q : Nat} (h : q ≠ 5) (h2 : q ≠ 51) : tcM σ x q = σ q := by unfold tcM; rw [← mu_ne h, ← mf_ne h2]
theorem tcM_bg {σ : Mem} {x : (Nat → Int32) × Nat} {b : Nat} (h : x.2 < 16) : mu (mu (tcM σ x) 51 x.2 (nI b)) 5 1 (nI (x.2 + 1)) = tcM σ (bgF x b) := by
  unfold bgF
  rw [if_pos h]
  unfold tcM
  funext q j
  by_cases h1 : q = 5 <;> by_cases h2 : q = 51 <;> simp_all [mu, mf, upd]
set_option maxRecDepth 100000 in
set_option maxHeartbeats 4000000 in
theorem c_begin (x : (Nat → Int32) × Nat) (b : Nat) (σ : Mem) (hx : x.2 ≤ 16) : Cc yX0_begin cX0_begin 2 none 0 [.ref 5, .int (nI b)] (tcM σ x) (rV (tcM σ (bgF x b))) := by
  refine Cc.intro (by decide +kernel) [some (.ref 5), some (.int (nI b))] (fun _ => rfl) rfl (fun _ => Nat.le_of_ble_eq_true rfl) ?_
  intro X hX hR hr
  have e1 : tcM σ x 5 1 = nI x.2 := mu_at
  refine V_aload_n (pc := 0) (i := 0) hX dX0_begin_0 rfl rfl ?_
  refine V_getf (pc := 1) hX fX0_15 dX0_begin_1 rfl rfl ?_
  refine V_bipush (pc := 4) (v := (nI 16)) hX dX0_begin_4 (by decide +kernel) ?_
  rw [e1]
  refine V_icmp_geN (pc := 6) (tgt := 29) hX dX0_begin_6 (by decide) (by omega) (by omega) (fun h6 => ?_) (fun h6 => ?_)
  · exact V_vret (pc := 29) (st := []) hX hr dX0_begin_29 (⟨rfl, by unfold bgF; rw [if_neg (by omega)]⟩)
  · refine V_aload_n (pc := 9) (i := 0) hX dX0_begin_9 rfl rfl ?_
    refine V_getr (pc := 10) hX fX0_9 dX0_begin_10 rfl rfl ?_
    refine V_aload_n (pc := 13) (i := 0) hX dX0_begin_13 rfl rfl ?_
    refine V_getf (pc := 14) hX fX0_15 dX0_begin_14 rfl rfl ?_
    rw [e1]
    refine V_iload_n (pc := 17) (i := 1) hX dX0_begin_17 rfl rfl ?_
    refine V_iast (pc := 18) hX dX0_begin_18 (rfl) (rfl) (by omega) (by decide) ?_
    refine V_aload_n (pc := 19) (i := 0) hX dX0_begin_19 rfl rfl ?_
    refine V_dup (pc := 20) hX dX0_begin_20 rfl ?_
    refine V_getf (pc := 21) hX fX0_15 dX0_begin_21 rfl rfl ?_
    rw [mu_np (by decide), e1]
    refine V_iconst (pc := 24) (v := (nI 1)) hX dX0_begin_24 (by decide +kernel) ?_
    refine V_iadd (pc := 25) hX dX0_begin_25 ?_
    rw [nI_add]
    refine V_putf (pc := 26) hX fX0_15 gi0_1 dX0_begin_26 rfl rfl ?_
    exact V_vret (pc := 29) (st := []) hX hr dX0_begin_29 (⟨rfl, tcM_bg h6⟩)
set_option maxRecDepth 100000 in
set_option maxHeartbeats 4000000 in
theorem c_wAny (x : (Nat → Int32) × Nat) (s : Nat) (σ : Mem) (hx : x.2 ≤ 16) (hs : s < 10) : Cc yX0_worthOfAny cX0_worthOfAny 3 (some .int) 1 [.ref 5, .ref 2, .int (nI s)] (tcM σ x) (rI (σ 17 s) (tcM σ (bgF x 10))) := by
  refine Cc.intro (by decide +kernel) [some (.ref 5), some (.ref 2), some (.int (nI s))] (fun _ => rfl) rfl (fun _ => Nat.le_of_ble_eq_true rfl) ?_
  intro X hX hR hr
  refine V_aload_n (pc := 0) (i := 0) hX dX0_worthOfAny_0 rfl rfl ?_
  refine V_bipush (pc := 1) (v := (nI 10)) hX dX0_worthOfAny_1 (by decide +kernel) ?_
  refine V_callVv (pc := 3) hX (hR.mono (by omega)) mX0_44 (c_begin x 10 σ hx) dX0_worthOfAny_3 rfl rfl rfl rfl (Nat.le_of_ble_eq_true rfl) ?_
  refine V_aload_n (pc := 6) (i := 1) hX dX0_worthOfAny_6 rfl rfl ?_
  refine V_getr (pc := 7) hX fX0_48 dX0_worthOfAny_7 rfl rfl ?_
  refine V_iload_n (pc := 10) (i := 2) hX dX0_worthOfAny_10 rfl rfl ?_
  refine V_iald (pc := 11) hX dX0_worthOfAny_11 (rfl) (rfl) (by omega) (by decide) ?_
  exact V_iret (pc := 12) (st := []) hX hr (by first | rfl | exact bI_nar _ | decide +kernel) dX0_worthOfAny_12 (⟨by rw [tcM_r (by decide) (by decide)], rfl⟩)
set_option maxRecDepth 100000 in
set_option maxHeartbeats 4000000 in
theorem c_wOpen (x : (Nat → Int32) × Nat) (s : Nat) (σ : Mem) (hx : x.2 ≤ 16) (hs : s < 10) : Cc yX0_worthOfOpen cX0_worthOfOpen 3 (some .int) 3 [.ref 5, .ref 2, .int (nI s)] (tcM σ x) (rI (σ 17 s - pf (σ 18 s) (σ 19) 12) (tcM σ (bgF (bgF x 11) 10))) := by
  refine Cc.intro (by decide +kernel) [some (.ref 5), some (.ref 2), some (.int (nI s))] (fun _ => rfl) rfl (fun _ => Nat.le_of_ble_eq_true rfl) ?_
  intro X hX hR hr
  refine V_aload_n (pc := 0) (i := 0) hX dX0_worthOfOpen_0 rfl rfl ?_
  refine V_bipush (pc := 1) (v := (nI 11)) hX dX0_worthOfOpen_1 (by decide +kernel) ?_
  refine V_callVv (pc := 3) hX (hR.mono (by omega)) mX0_44 (c_begin x 11 σ hx) dX0_worthOfOpen_3 rfl rfl rfl rfl (Nat.le_of_ble_eq_true rfl) ?_
  refine V_aload_n (pc := 6) (i := 0) hX dX0_worthOfOpen_6 rfl rfl ?_
  refine V_aload_n (pc := 7) (i := 1) hX dX0_worthOfOpen_7 rfl rfl ?_
  refine V_iload_n (pc := 8) (i := 2) hX dX0_worthOfOpen_8 rfl rfl ?_
  refine V_callVi (pc := 9) hX (hR.mono (by omega)) mX0_51 (c_wAny _ s σ (bgF_le hx) hs) dX0_worthOfOpen_9 rfl rfl rfl rfl (Nat.le_of_ble_eq_true rfl) ?_
  refine V_aload_n (pc := 12) (i := 1) hX dX0_worthOfOpen_12 rfl rfl ?_
  refine V_iload_n (pc := 13) (i := 2) hX dX0_worthOfOpen_13 rfl rfl ?_
  refine V_callVi (pc := 14) hX (hR.mono (by omega)) mX0_54 (c_filled s hs _) dX0_worthOfOpen_14 rfl rfl rfl rfl (Nat.le_of_ble_eq_true rfl) ?_
  refine V_isub (pc := 17) hX dX0_worthOfOpen_17 ?_
  exact V_iret (pc := 18) (st := []) hX hr (by first | rfl | exact bI_nar _ | decide +kernel) dX0_worthOfOpen_18 (⟨by rw [tcM_r (by decide) (by decide), tcM_r (by decide) (by decide)], rfl⟩)
set_option maxRecDepth 100000 in
set_option maxHeartbeats 4000000 in
theorem c_mAny (x : (Nat → Int32) × Nat) (s : Nat) (σ : Mem) (hx : x.2 ≤ 16) (hs : s < 10) : Cc yX0_markOfAny cX0_markOfAny 3 (some .int) 1 [.ref 5, .ref 2, .int (nI s)] (tcM σ x) (rI (bcF (σ 18 s)) (tcM σ (bgF x 20))) := by
  refine Cc.intro (by decide +kernel) [some (.ref 5), some (.ref 2), some (.int (nI s))] (fun _ => rfl) rfl (fun _ => Nat.le_of_ble_eq_true rfl) ?_
  intro X hX hR hr
  refine V_aload_n (pc := 0) (i := 0) hX dX0_markOfAny_0 rfl rfl ?_
  refine V_bipush (pc := 1) (v := (nI 20)) hX dX0_markOfAny_1 (by decide +kernel) ?_
  refine V_callVv (pc := 3) hX (hR.mono (by omega)) mX0_44 (c_begin x 20 σ hx) dX0_markOfAny_3 rfl rfl rfl rfl (Nat.le_of_ble_eq_true rfl) ?_
  refine V_aload_n (pc := 6) (i := 1) hX dX0_markOfAny_6 rfl rfl ?_
  refine V_getr (pc := 7) hX fX0_57 dX0_markOfAny_7 rfl rfl ?_
  refine V_iload_n (pc := 10) (i := 2) hX dX0_markOfAny_10 rfl rfl ?_
  refine V_iald (pc := 11) hX dX0_markOfAny_11 (rfl) (rfl) (by omega) (by decide) ?_
  refine V_callSi (pc := 12) hX (hR.mono (by omega)) mX0_60 (c_bitCount _ _) dX0_markOfAny_12 rfl rfl rfl (Nat.le_of_ble_eq_true rfl) ?_
  exact V_iret (pc := 15) (st := []) hX hr (by first | rfl | exact bI_nar _ | decide +kernel) dX0_markOfAny_15 (⟨by rw [tcM_r (by decide) (by decide)], rfl⟩)
set_option maxRecDepth 100000 in
set_option maxHeartbeats 4000000 in
theorem c_mNear (x : (Nat → Int32) × Nat) (s : Nat) (σ : Mem) (hx : x.2 ≤ 16) (hs : s < 10) : Cc yX0_markOfNear cX0_markOfNear 3 (some .int) 2 [.ref 5, .ref 2, .int (nI s)] (tcM σ x) (rI (bcF (σ 18 s) + nI 100) (tcM σ (bgF (bgF x 21) 20))) := by
  refine Cc.intro (by decide +kernel) [some (.ref 5), some (.ref 2), some (.int (nI s))] (fun _ => rfl) rfl (fun _ => Nat.le_of_ble_eq_true rfl) ?_
  intro X hX hR hr
  refine V_aload_n (pc := 0) (i := 0) hX dX0_markOfNear_0 rfl rfl ?_
  refine V_bipush (pc := 1) (v := (nI 21)) hX dX0_markOfNear_1 (by decide +kernel) ?_
  refine V_callVv (pc := 3) hX (hR.mono (by omega)) mX0_44 (c_begin x 21 σ hx) dX0_markOfNear_3 rfl rfl rfl rfl (Nat.le_of_ble_eq_true rfl) ?_
  refine V_aload_n (pc := 6) (i := 0) hX dX0_markOfNear_6 rfl rfl ?_
  refine V_aload_n (pc := 7) (i := 1) hX dX0_markOfNear_7 rfl rfl ?_
  refine V_iload_n (pc := 8) (i := 2) hX dX0_markOfNear_8 rfl rfl ?_
  refine V_callVi (pc := 9) hX (hR.mono (by omega)) mX0_41 (c_mAny _ s σ (bgF_le hx) hs) dX0_markOfNear_9 rfl rfl rfl rfl (Nat.le_of_ble_eq_true rfl) ?_
  refine V_bipush (pc := 12) (v := (nI 100)) hX dX0_markOfNear_12 (by decide +kernel) ?_
  refine V_iadd (pc := 14) hX dX0_markOfNear_14 ?_
  exact V_iret (pc := 15) (st := []) hX hr (by first | rfl | exact bI_nar _ | decide +kernel) dX0_markOfNear_15 (⟨rfl, rfl⟩)
set_option maxRecDepth 100000 in
set_option maxHeartbeats 4000000 in
theorem c_wNear (x : (Nat → Int32) × Nat) (s : Nat) (σ : Mem) (hx : x.2 ≤ 16) (hs : s < 10) : Cc yX0_worthOfNear cX0_worthOfNear 3 (some .int) 4 [.ref 5, .ref 2, .int (nI s)] (tcM σ x) (rI ((σ 17 s - pf (σ 18 s) (σ 19) 12) + (bcF (σ 18 s) + nI 100)) (tcM σ (bgF (bgF (bgF (bgF (bgF x 12) 11) 10) 21) 20))) := by
  refine Cc.intro (by decide +kernel) [some (.ref 5), some (.ref 2), some (.int (nI s))] (fun _ => rfl) rfl (fun _ => Nat.le_of_ble_eq_true rfl) ?_
  intro X hX hR hr
  refine V_aload_n (pc := 0) (i := 0) hX dX0_worthOfNear_0 rfl rfl ?_
  refine V_bipush (pc := 1) (v := (nI 12)) hX dX0_worthOfNear_1 (by decide +kernel) ?_
  refine V_callVv (pc := 3) hX (hR.mono (by omega)) mX0_44 (c_begin x 12 σ hx) dX0_worthOfNear_3 rfl rfl rfl rfl (Nat.le_of_ble_eq_true rfl) ?_
  refine V_aload_n (pc := 6) (i := 0) hX dX0_worthOfNear_6 rfl rfl ?_
  refine V_aload_n (pc := 7) (i := 1) hX dX0_worthOfNear_7 rfl rfl ?_
  refine V_iload_n (pc := 8) (i := 2) hX dX0_worthOfNear_8 rfl rfl ?_
  refine V_callVi (pc := 9) hX (hR.mono (by omega)) mX0_32 (c_wOpen _ s σ (bgF_le hx) hs) dX0_worthOfNear_9 rfl rfl rfl rfl (Nat.le_of_ble_eq_true rfl) ?_
  refine V_aload_n (pc := 12) (i := 0) hX dX0_worthOfNear_12 rfl rfl ?_
  refine V_aload_n (pc := 13) (i := 1) hX dX0_worthOfNear_13 rfl rfl ?_
  refine V_iload_n (pc := 14) (i := 2) hX dX0_worthOfNear_14 rfl rfl ?_
  refine V_callVi (pc := 15) hX (hR.mono (by omega)) mX0_38 (c_mNear _ s σ (bgF_le (bgF_le (bgF_le hx))) hs) dX0_worthOfNear_15 rfl rfl rfl rfl (Nat.le_of_ble_eq_true rfl) ?_
  refine V_iadd (pc := 18) hX dX0_worthOfNear_18 ?_
  exact V_iret (pc := 19) (st := []) hX hr (by first | rfl | exact bI_nar _ | decide +kernel) dX0_worthOfNear_19 (⟨rfl, rfl⟩)
set_option maxRecDepth 100000 in
set_option maxHeartbeats 4000000 in
theorem c_wOwn (x : (Nat → Int32) × Nat) (s : Nat) (σ : Mem) (hx : x.2 ≤ 16) (hs : s < 10) : Cc yX0_worthOfOwn cX0_worthOfOwn 3 (some .int) 2 [.ref 5, .ref 2, .int (nI s)] (tcM σ x) (rI (nI 2 * σ 17 s) (tcM σ (bgF (bgF x 13) 10))) := by
  refine Cc.intro (by decide +kernel) [some (.ref 5), some (.ref 2), some (.int (nI s))] (fun _ => rfl) rfl (fun _ => Nat.le_of_ble_eq_true rfl) ?_
  intro X hX hR hr
  refine V_aload_n (pc := 0) (i := 0) hX dX0_worthOfOwn_0 rfl rfl ?_
  refine V_bipush (pc := 1) (v := (nI 13)) hX dX0_worthOfOwn_1 (by decide +kernel) ?_
  refine V_callVv (pc := 3) hX (hR.mono (by omega)) mX0_44 (c_begin x 13 σ hx) dX0_worthOfOwn_3 rfl rfl rfl rfl (Nat.le_of_ble_eq_true rfl) ?_
  refine V_iconst (pc := 6) (v := (nI 2)) hX dX0_worthOfOwn_6 (by decide +kernel) ?_
  refine V_aload_n (pc := 7) (i := 0) hX dX0_worthOfOwn_7 rfl rfl ?_
  refine V_aload_n (pc := 8) (i := 1) hX dX0_worthOfOwn_8 rfl rfl ?_
  refine V_iload_n (pc := 9) (i := 2) hX dX0_worthOfOwn_9 rfl rfl ?_
  refine V_callVi (pc := 10) hX (hR.mono (by omega)) mX0_51 (c_wAny _ s σ (bgF_le hx) hs) dX0_worthOfOwn_10 rfl rfl rfl rfl (Nat.le_of_ble_eq_true rfl) ?_
  refine V_imul (pc := 13) hX dX0_worthOfOwn_13 ?_
  exact V_iret (pc := 14) (st := []) hX hr (by first | rfl | exact bI_nar _ | decide +kernel) dX0_worthOfOwn_14 (⟨rfl, rfl⟩)
set_option maxRecDepth 100000 in
set_option maxHeartbeats 4000000 in
theorem c_mOwn (x : (Nat → Int32) × Nat) (s : Nat) (σ : Mem) (hx : x.2 ≤ 16) (hs : s < 10) : Cc yX0_markOfOwn cX0_markOfOwn 3 (some .int) 3 [.ref 5, .ref 2, .int (nI s)] (tcM σ x) (rI (bcF (σ 18 s) + nI 2 * σ 17 s) (tcM σ (bgF (bgF (bgF (bgF x 22) 20) 13) 10))) := by
  refine Cc.intro (by decide +kernel) [some (.ref 5), some (.ref 2), some (.int (nI s))] (fun _ => rfl) rfl (fun _ => Nat.le_of_ble_eq_true rfl) ?_
  intro X hX hR hr
  refine V_aload_n (pc := 0) (i := 0) hX dX0_markOfOwn_0 rfl rfl ?_
  refine V_bipush (pc := 1) (v := (nI 22)) hX dX0_markOfOwn_1 (by decide +kernel) ?_
  refine V_callVv (pc := 3) hX (hR.mono (by omega)) mX0_44 (c_begin x 22 σ hx) dX0_markOfOwn_3 rfl rfl rfl rfl (Nat.le_of_ble_eq_true rfl) ?_
  refine V_aload_n (pc := 6) (i := 0) hX dX0_markOfOwn_6 rfl rfl ?_
  refine V_aload_n (pc := 7) (i := 1) hX dX0_markOfOwn_7 rfl rfl ?_
  refine V_iload_n (pc := 8) (i := 2) hX dX0_markOfOwn_8 rfl rfl ?_
  refine V_callVi (pc := 9) hX (hR.mono (by omega)) mX0_41 (c_mAny _ s σ (bgF_le hx) hs) dX0_markOfOwn_9 rfl rfl rfl rfl (Nat.le_of_ble_eq_true rfl) ?_
  refine V_aload_n (pc := 12) (i := 0) hX dX0_markOfOwn_12 rfl rfl ?_
  refine V_aload_n (pc := 13) (i := 1) hX dX0_markOfOwn_13 rfl rfl ?_
  refine V_iload_n (pc := 14) (i := 2) hX dX0_markOfOwn_14 rfl rfl ?_
  refine V_callVi (pc := 15) hX (hR.mono (by omega)) mX0_25 (c_wOwn _ s σ (bgF_le (bgF_le hx)) hs) dX0_markOfOwn_15 rfl rfl rfl rfl (Nat.le_of_ble_eq_true rfl) ?_
  refine V_iadd (pc := 18) hX dX0_markOfOwn_18 ?_
  exact V_iret (pc := 19) (st := []) hX hr (by first | rfl | exact bI_nar _ | decide +kernel) dX0_markOfOwn_19 (⟨rfl, rfl⟩)
/-- the trace and the answer of an ask for WORTH, MARK: kd the kind, c cost, f filled, p how many things -/
def wTr (kd : Int32) (g : Nat → Int32) : (Nat → Int32) × Nat := if kd = nI 2 then bgF (bgF (bgF (bgF (bgF (g, 0) 12) 11) 10) 21) 20 else if kd = nI 3 then bgF (bgF (g, 0) 13) 10 else bgF (bgF (g, 0) 11) 10
def wVal (kd c f p : Int32) : Int32 := if kd = nI 2 then (c - f) + (p + nI 100) else if kd = nI 3 then nI 2 * c else c - f
def mTr (kd : Int32) (g : Nat → Int32) : (Nat → Int32) × Nat := if kd = nI 2 then bgF (bgF (g, 0) 21) 20 else if kd = nI 3 then bgF (bgF (bgF (bgF (g, 0) 22) 20) 13) 10 else bgF (g, 0) 20
def mVal (kd c p : Int32) : Int32 := if kd = nI 2 then p + nI 100 else if kd = nI 3 then p + nI 2 * c else p
theorem tcM_0 {σ : Mem} : mu σ 5 1 (nI 0) = tcM σ (σ 51, 0) := by unfold tcM; rw [mf_id]
set_option maxRecDepth 100000 in
set_option maxHeartbeats 4000000 in
theorem c_askW (s : Nat) (σ : Mem) (hs : s < 10) : Cc yX0_askWorth cX0_askWorth 3 (some .int) 5 [.ref 5, .ref 2, .int (nI s)] σ (rI (wVal (kindf (σ 2 6) s (pf (σ 18 s) (σ 19) 12) (σ 17 s)) (σ 17 s) (pf (σ 18 s) (σ 19) 12) (bcF (σ 18 s))) (tcM σ (wTr (kindf (σ 2 6) s (pf (σ 18 s) (σ 19) 12) (σ 17 s)) (σ 51)))) := by
  refine Cc.intro (by decide +kernel) [some (.ref 5), some (.ref 2), some (.int (nI s))] (fun _ => rfl) rfl (fun _ => Nat.le_of_ble_eq_true rfl) ?_
  intro X hX hR hr
  have r : ∀ {q : Nat}, q ≠ 5 → q ≠ 51 → tcM σ (σ 51, 0) q = σ q := fun h h2 => tcM_r h h2
  refine V_aload_n (pc := 0) (i := 0) hX dX0_askWorth_0 rfl rfl ?_
  refine V_iconst (pc := 1) (v := (nI 0)) hX dX0_askWorth_1 (by decide +kernel) ?_
  refine V_putf (pc := 2) hX fX0_15 gi0_1 dX0_askWorth_2 rfl rfl ?_
  refine Vw.mem tcM_0.symm ?_
  refine V_aload_n (pc := 5) (i := 1) hX dX0_askWorth_5 rfl rfl ?_
  refine V_iload_n (pc := 6) (i := 2) hX dX0_askWorth_6 rfl rfl ?_
  refine V_callVi (pc := 7) hX (hR.mono (by omega)) mX0_19 (c_kindOf s _ hs) dX0_askWorth_7 rfl rfl rfl rfl (Nat.le_of_ble_eq_true rfl) ?_
  rw [r (by decide) (by decide), r (by decide) (by decide), r (by decide) (by decide), r (by decide) (by decide)]
  rcases Classical.em (kindf (σ 2 6) s (pf (σ 18 s) (σ 19) 12) (σ 17 s) = nI 2) with e10_2 | e10_2
  · refine V_lookup (pc := 10) (off := 33) (tgt := 43) hX dX0_askWorth_10 (by decide) (by rw [e10_2]; decide +kernel) (by decide) ?_
    refine V_aload_n (pc := 43) (i := 0) hX dX0_askWorth_43 rfl rfl ?_
    refine V_aload_n (pc := 44) (i := 1) hX dX0_askWorth_44 rfl rfl ?_
    refine V_iload_n (pc := 45) (i := 2) hX dX0_askWorth_45 rfl rfl ?_
    refine V_callVi (pc := 46) hX (hR.mono (by omega)) mX0_29 (c_wNear (σ 51, 0) s σ (Nat.zero_le _) hs) dX0_askWorth_46 rfl rfl rfl rfl (Nat.le_of_ble_eq_true rfl) ?_
    exact V_iret (pc := 49) (st := []) hX hr (by first | rfl | exact bI_nar _ | decide +kernel) dX0_askWorth_49 (⟨by rw [wVal, if_pos e10_2], by rw [wTr, if_pos e10_2]⟩)
  · skip
    rcases Classical.em (kindf (σ 2 6) s (pf (σ 18 s) (σ 19) 12) (σ 17 s) = nI 3) with e10_3 | e10_3
    · refine V_lookup (pc := 10) (off := 26) (tgt := 36) hX dX0_askWorth_10 (by decide) (by rw [e10_3]; decide +kernel) (by decide) ?_
      refine V_aload_n (pc := 36) (i := 0) hX dX0_askWorth_36 rfl rfl ?_
      refine V_aload_n (pc := 37) (i := 1) hX dX0_askWorth_37 rfl rfl ?_
      refine V_iload_n (pc := 38) (i := 2) hX dX0_askWorth_38 rfl rfl ?_
      refine V_callVi (pc := 39) hX (hR.mono (by omega)) mX0_25 (c_wOwn (σ 51, 0) s σ (Nat.zero_le _) hs) dX0_askWorth_39 rfl rfl rfl rfl (Nat.le_of_ble_eq_true rfl) ?_
      exact V_iret (pc := 42) (st := []) hX hr (by first | rfl | exact bI_nar _ | decide +kernel) dX0_askWorth_42 (⟨by rw [wVal, if_neg e10_2, if_pos e10_3], by rw [wTr, if_neg e10_2, if_pos e10_3]⟩)
    · skip
      refine V_lookup (pc := 10) (off := 40) (tgt := 50) hX dX0_askWorth_10 (by decide) (by show Op.lookupswitch.offset [(2, 33), (3, 26)] _ _ = _; rw [lv_osw e10_2 (by decide +kernel), lv_osw e10_3 (by decide +kernel)]; rfl) (by decide) ?_
      refine V_aload_n (pc := 50) (i := 0) hX dX0_askWorth_50 rfl rfl ?_
      refine V_aload_n (pc := 51) (i := 1) hX dX0_askWorth_51 rfl rfl ?_
      refine V_iload_n (pc := 52) (i := 2) hX dX0_askWorth_52 rfl rfl ?_
      refine V_callVi (pc := 53) hX (hR.mono (by omega)) mX0_32 (c_wOpen (σ 51, 0) s σ (Nat.zero_le _) hs) dX0_askWorth_53 rfl rfl rfl rfl (Nat.le_of_ble_eq_true rfl) ?_
      exact V_iret (pc := 56) (st := []) hX hr (by first | rfl | exact bI_nar _ | decide +kernel) dX0_askWorth_56 (⟨by rw [wVal, if_neg e10_2, if_neg e10_3], by rw [wTr, if_neg e10_2, if_neg e10_3]⟩)
set_option maxRecDepth 100000 in
set_option maxHeartbeats 4000000 in
theorem c_askM (s : Nat) (σ : Mem) (hs : s < 10) : Cc yX0_askMark cX0_askMark 3 (some .int) 5 [.ref 5, .ref 2, .int (nI s)] σ (rI (mVal (kindf (σ 2 6) s (pf (σ 18 s) (σ 19) 12) (σ 17 s)) (σ 17 s) (bcF (σ 18 s))) (tcM σ (mTr (kindf (σ 2 6) s (pf (σ 18 s) (σ 19) 12) (σ 17 s)) (σ 51)))) := by
  refine Cc.intro (by decide +kernel) [some (.ref 5), some (.ref 2), some (.int (nI s))] (fun _ => rfl) rfl (fun _ => Nat.le_of_ble_eq_true rfl) ?_
  intro X hX hR hr
  have r : ∀ {q : Nat}, q ≠ 5 → q ≠ 51 → tcM σ (σ 51, 0) q = σ q := fun h h2 => tcM_r h h2
  refine V_aload_n (pc := 0) (i := 0) hX dX0_askMark_0 rfl rfl ?_
  refine V_iconst (pc := 1) (v := (nI 0)) hX dX0_askMark_1 (by decide +kernel) ?_
  refine V_putf (pc := 2) hX fX0_15 gi0_1 dX0_askMark_2 rfl rfl ?_
  refine Vw.mem tcM_0.symm ?_
  refine V_aload_n (pc := 5) (i := 1) hX dX0_askMark_5 rfl rfl ?_
  refine V_iload_n (pc := 6) (i := 2) hX dX0_askMark_6 rfl rfl ?_
  refine V_callVi (pc := 7) hX (hR.mono (by omega)) mX0_19 (c_kindOf s _ hs) dX0_askMark_7 rfl rfl rfl rfl (Nat.le_of_ble_eq_true rfl) ?_
  rw [r (by decide) (by decide), r (by decide) (by decide), r (by decide) (by decide), r (by decide) (by decide)]
  rcases Classical.em (kindf (σ 2 6) s (pf (σ 18 s) (σ 19) 12) (σ 17 s) = nI 2) with e10_2 | e10_2
  · refine V_lookup (pc := 10) (off := 33) (tgt := 43) hX dX0_askMark_10 (by decide) (by rw [e10_2]; decide +kernel) (by decide) ?_
    refine V_aload_n (pc := 43) (i := 0) hX dX0_askMark_43 rfl rfl ?_
    refine V_aload_n (pc := 44) (i := 1) hX dX0_askMark_44 rfl rfl ?_
    refine V_iload_n (pc := 45) (i := 2) hX dX0_askMark_45 rfl rfl ?_
    refine V_callVi (pc := 46) hX (hR.mono (by omega)) mX0_38 (c_mNear (σ 51, 0) s σ (Nat.zero_le _) hs) dX0_askMark_46 rfl rfl rfl rfl (Nat.le_of_ble_eq_true rfl) ?_
    exact V_iret (pc := 49) (st := []) hX hr (by first | rfl | exact bI_nar _ | decide +kernel) dX0_askMark_49 (⟨by rw [mVal, if_pos e10_2], by rw [mTr, if_pos e10_2]⟩)
  · skip
    rcases Classical.em (kindf (σ 2 6) s (pf (σ 18 s) (σ 19) 12) (σ 17 s) = nI 3) with e10_3 | e10_3
    · refine V_lookup (pc := 10) (off := 26) (tgt := 36) hX dX0_askMark_10 (by decide) (by rw [e10_3]; decide +kernel) (by decide) ?_
      refine V_aload_n (pc := 36) (i := 0) hX dX0_askMark_36 rfl rfl ?_
      refine V_aload_n (pc := 37) (i := 1) hX dX0_askMark_37 rfl rfl ?_
      refine V_iload_n (pc := 38) (i := 2) hX dX0_askMark_38 rfl rfl ?_
      refine V_callVi (pc := 39) hX (hR.mono (by omega)) mX0_35 (c_mOwn (σ 51, 0) s σ (Nat.zero_le _) hs) dX0_askMark_39 rfl rfl rfl rfl (Nat.le_of_ble_eq_true rfl) ?_
      exact V_iret (pc := 42) (st := []) hX hr (by first | rfl | exact bI_nar _ | decide +kernel) dX0_askMark_42 (⟨by rw [mVal, if_neg e10_2, if_pos e10_3], by rw [mTr, if_neg e10_2, if_pos e10_3]⟩)
    · skip
      refine V_lookup (pc := 10) (off := 40) (tgt := 50) hX dX0_askMark_10 (by decide) (by show Op.lookupswitch.offset [(2, 33), (3, 26)] _ _ = _; rw [lv_osw e10_2 (by decide +kernel), lv_osw e10_3 (by decide +kernel)]; rfl) (by decide) ?_
      refine V_aload_n (pc := 50) (i := 0) hX dX0_askMark_50 rfl rfl ?_
      refine V_aload_n (pc := 51) (i := 1) hX dX0_askMark_51 rfl rfl ?_
      refine V_iload_n (pc := 52) (i := 2) hX dX0_askMark_52 rfl rfl ?_
      refine V_callVi (pc := 53) hX (hR.mono (by omega)) mX0_41 (c_mAny (σ 51, 0) s σ (Nat.zero_le _) hs) dX0_askMark_53 rfl rfl rfl rfl (Nat.le_of_ble_eq_true rfl) ?_
      exact V_iret (pc := 56) (st := []) hX hr (by first | rfl | exact bI_nar _ | decide +kernel) dX0_askMark_56 (⟨by rw [mVal, if_neg e10_2, if_neg e10_3], by rw [mTr, if_neg e10_2, if_neg e10_3]⟩)
/-- ask: of the numbers of sets n, their costs, things, prices, bought ones; p: how many things, as it is counted -/
def askF (n : Nat) (c th pr : Nat → Int32) (bo : Int32) (p : Nat → Int32) (x w : Int32) : Int32 := if inr x n then (if w = nI 0 then wVal (kindf bo (tn x) (pf (th (tn x)) pr 12) (c (tn x))) (c (tn x)) (pf (th (tn x)) pr 12) (p (tn x)) else if w = nI 1 then mVal (kindf bo (tn x) (pf (th (tn x)) pr 12) (c (tn x))) (c (tn x)) (p (tn x)) else (-1000001)) else (-1000001)
def askT (n : Nat) (c th pr : Nat → Int32) (bo : Int32) (g : (Nat → Int32) × Nat) (x w : Int32) : (Nat → Int32) × Nat := if inr x n then (if w = nI 0 then wTr (kindf bo (tn x) (pf (th (tn x)) pr 12) (c (tn x))) g.1 else if w = nI 1 then mTr (kindf bo (tn x) (pf (th (tn x)) pr 12) (c (tn x))) g.1 else g) else g
set_option maxRecDepth 100000 in
set_option maxHeartbeats 4000000 in
theorem c_ask (n tr : Nat) (x w : Int32) (σ : Mem) (hn : σ 2 3 = nI n) (hn10 : n ≤ 10) (ht : σ 5 1 = nI tr) : Cc yX5_ask cX5_ask 3 (some .int) 6 [.ref 0, .int x, .int w] σ (rI (askF n (σ 17) (σ 18) (σ 19) (σ 2 6) (fun s => bcF (σ 18 s)) x w) (tcM σ (askT n (σ 17) (σ 18) (σ 19) (σ 2 6) (σ 51, tr) x w))) := by
  refine Cc.intro (by decide +kernel) [some (.ref 0), some (.int x), some (.int w)] (fun _ => rfl) rfl (fun _ => Nat.le_of_ble_eq_true rfl) ?_
  intro X hX hR hr
  have e0 : σ = tcM σ (σ 51, tr) := by unfold tcM; rw [mf_id, ← ht, mu_self]
  refine V_aload_n (pc := 0) (i := 0) hX dX5_ask_0 rfl rfl ?_
  refine V_getr (pc := 1) hX fX5_19 dX5_ask_1 rfl rfl ?_
  refine V_iload_n (pc := 4) (i := 1) hX dX5_ask_4 rfl rfl ?_
  refine V_callVi (pc := 5) hX (hR.mono (by omega)) mX5_123 (c_isSetN x n _ hn hn10) dX5_ask_5 rfl rfl rfl rfl (Nat.le_of_ble_eq_true rfl) ?_
  refine V_if_neB (pc := 8) (tgt := 14) hX dX5_ask_8 (by decide) (fun h8 => ?_) (fun h8 => ?_)
  · obtain ⟨s, hs, rfl⟩ := inr_of h8 (by omega)
    have ts : tn (nI s) = s := tn_nI (by omega)
    refine V_iload_n (pc := 14) (i := 2) hX dX5_ask_14 rfl rfl ?_
    rcases Classical.em (w = nI 0) with e15_0 | e15_0
    · refine V_lookup (pc := 15) (off := 25) (tgt := 40) hX dX5_ask_15 (by decide) (by rw [e15_0]; decide +kernel) (by decide) ?_
      refine V_aload_n (pc := 40) (i := 0) hX dX5_ask_40 rfl rfl ?_
      refine V_getr (pc := 41) hX fX5_40 dX5_ask_41 rfl rfl ?_
      refine V_aload_n (pc := 44) (i := 0) hX dX5_ask_44 rfl rfl ?_
      refine V_getr (pc := 45) hX fX5_19 dX5_ask_45 rfl rfl ?_
      refine V_iload_n (pc := 48) (i := 1) hX dX5_ask_48 rfl rfl ?_
      refine V_callVi (pc := 49) hX (hR.mono (by omega)) mX5_198 (c_askW s σ (by omega)) dX5_ask_49 rfl rfl rfl rfl (Nat.le_of_ble_eq_true rfl) ?_
      exact V_iret (pc := 52) (st := []) hX hr (by first | rfl | exact bI_nar _ | decide +kernel) dX5_ask_52 (⟨by rw [askF, h8, if_pos rfl, if_pos e15_0, ts], by rw [askT, h8, if_pos rfl, if_pos e15_0, ts]⟩)
    · skip
      rcases Classical.em (w = nI 1) with e15_1 | e15_1
      · refine V_lookup (pc := 15) (off := 38) (tgt := 53) hX dX5_ask_15 (by decide) (by rw [e15_1]; decide +kernel) (by decide) ?_
        refine V_aload_n (pc := 53) (i := 0) hX dX5_ask_53 rfl rfl ?_
        refine V_getr (pc := 54) hX fX5_40 dX5_ask_54 rfl rfl ?_
        refine V_aload_n (pc := 57) (i := 0) hX dX5_ask_57 rfl rfl ?_
        refine V_getr (pc := 58) hX fX5_19 dX5_ask_58 rfl rfl ?_
        refine V_iload_n (pc := 61) (i := 1) hX dX5_ask_61 rfl rfl ?_
        refine V_callVi (pc := 62) hX (hR.mono (by omega)) mX5_202 (c_askM s σ (by omega)) dX5_ask_62 rfl rfl rfl rfl (Nat.le_of_ble_eq_true rfl) ?_
        exact V_iret (pc := 65) (st := []) hX hr (by first | rfl | exact bI_nar _ | decide +kernel) dX5_ask_65 (⟨by rw [askF, h8, if_pos rfl, if_neg e15_0, if_pos e15_1, ts], by rw [askT, h8, if_pos rfl, if_neg e15_0, if_pos e15_1, ts]⟩)
      · skip
        refine V_lookup (pc := 15) (off := 51) (tgt := 66) hX dX5_ask_15 (by decide) (by show Op.lookupswitch.offset [(0, 25), (1, 38)] _ _ = _; rw [lv_osw e15_0 (by decide +kernel), lv_osw e15_1 (by decide +kernel)]; rfl) (by decide) ?_
        refine V_ldc (pc := 66) hX kX5_52 dX5_ask_66 ?_
        exact V_iret (pc := 68) (st := []) hX hr (by first | rfl | exact bI_nar _ | decide +kernel) dX5_ask_68 (⟨by rw [askF, h8, if_pos rfl, if_neg e15_0, if_neg e15_1], by rw [askT, h8, if_pos rfl, if_neg e15_0, if_neg e15_1]; exact e0⟩)
  · refine V_ldc (pc := 11) hX kX5_52 dX5_ask_11 ?_
    exact V_iret (pc := 13) (st := []) hX hr (by first | rfl | exact bI_nar _ | decide +kernel) dX5_ask_13 (⟨by rw [askF, h8]; rfl, by rw [askT, h8]; exact e0⟩)
def traceF (g : (Nat → Int32) × Nat) (x : Int32) : Int32 := if inr x g.2 then g.1 (tn x) else (-1000000)
set_option maxRecDepth 100000 in
set_option maxHeartbeats 4000000 in
theorem c_trace (tr : Nat) (x : Int32) (σ : Mem) (ht : σ 5 1 = nI tr) (htr : tr ≤ 16) : Cc yX5_trace cX5_trace 2 (some .int) 1 [.ref 0, .int x] σ (rI (traceF (σ 51, tr) x) σ) := by
  refine Cc.intro (by decide +kernel) [some (.ref 0), some (.int x)] (fun _ => rfl) rfl (fun _ => Nat.le_of_ble_eq_true rfl) ?_
  intro X hX hR hr
  refine V_iload_n (pc := 0) (i := 1) hX dX5_trace_0 rfl rfl ?_
  refine V_aload_n (pc := 1) (i := 0) hX dX5_trace_1 rfl rfl ?_
  refine V_getr (pc := 2) hX fX5_40 dX5_trace_2 rfl rfl ?_
  refine V_getf (pc := 5) hX fX5_205 dX5_trace_5 rfl rfl ?_
  rw [ht]
  refine V_callSi (pc := 8) hX (hR.mono (by omega)) mX5_48 (c_isUnderN x tr (by omega) _) dX5_trace_8 rfl rfl rfl (Nat.le_of_ble_eq_true rfl) ?_
  refine V_if_eqB (pc := 11) (tgt := 26) hX dX5_trace_11 (by decide) (fun h11 => ?_) (fun h11 => ?_)
  · refine V_ldc (pc := 26) hX kX5_211 dX5_trace_26 ?_
    exact V_iret (pc := 28) (st := []) hX hr (by first | rfl | exact bI_nar _ | decide +kernel) dX5_trace_28 (⟨by rw [traceF, h11]; rfl, rfl⟩)
  · obtain ⟨j, hj, rfl⟩ := inr_of h11 (by omega)
    refine V_aload_n (pc := 14) (i := 0) hX dX5_trace_14 rfl rfl ?_
    refine V_getr (pc := 15) hX fX5_40 dX5_trace_15 rfl rfl ?_
    refine V_getr (pc := 18) hX fX5_208 dX5_trace_18 rfl rfl ?_
    refine V_iload_n (pc := 21) (i := 1) hX dX5_trace_21 rfl rfl ?_
    refine V_iald (pc := 22) hX dX5_trace_22 (rfl) (rfl) (by omega) (by decide) ?_
    refine V_goto (pc := 23) (tgt := 28) hX dX5_trace_23 (by decide) ?_
    exact V_iret (pc := 28) (st := []) hX hr (by first | rfl | exact bI_nar _ | decide +kernel) dX5_trace_28 (⟨by rw [traceF, h11, if_pos rfl, tn_nI (by omega)], rfl⟩)
def asF (n : Nat) (c th pr : Nat → Int32) (bo x k : Int32) : Int32 := if inr x n && inr k 4 then (if kisf k (kindf bo (tn x) (pf (th (tn x)) pr 12) (c (tn x))) then c (tn x) else (-1000013)) else (-1000001)
def asS (n : Nat) (c th pr : Nat → Int32) (bo x k st : Int32) : Int32 := if inr x n && inr k 4 then (if kisf k (kindf bo (tn x) (pf (th (tn x)) pr 12) (c (tn x))) then nI 0 else nI 3) else st
set_option maxRecDepth 100000 in
set_option maxHeartbeats 4000000 in
theorem c_as (n : Nat) (x k : Int32) (σ : Mem) (hn : σ 2 3 = nI n) (hn10 : n ≤ 10) : Cc yX5_as cX5_as 3 (some .int) 5 [.ref 0, .int x, .int k] σ (rI (asF n (σ 17) (σ 18) (σ 19) (σ 2 6) x k) (mu σ 0 5 (asS n (σ 17) (σ 18) (σ 19) (σ 2 6) x k (σ 0 5)))) := by
  refine Cc.intro (by decide +kernel) [some (.ref 0), some (.int x), some (.int k)] (fun _ => rfl) rfl (fun _ => Nat.le_of_ble_eq_true rfl) ?_
  intro X hX hR hr
  refine V_aload_n (pc := 0) (i := 0) hX dX5_as_0 rfl rfl ?_
  refine V_getr (pc := 1) hX fX5_19 dX5_as_1 rfl rfl ?_
  refine V_iload_n (pc := 4) (i := 1) hX dX5_as_4 rfl rfl ?_
  refine V_callVi (pc := 5) hX (hR.mono (by omega)) mX5_123 (c_isSetN x n _ hn hn10) dX5_as_5 rfl rfl rfl rfl (Nat.le_of_ble_eq_true rfl) ?_
  refine V_if_eqB (pc := 8) (tgt := 19) hX dX5_as_8 (by decide) (fun h8 => ?_) (fun h8 => ?_)
  · refine V_ldc (pc := 19) hX kX5_52 dX5_as_19 ?_
    exact V_iret (pc := 21) (st := []) hX hr (by first | rfl | exact bI_nar _ | decide +kernel) dX5_as_21 (⟨by rw [asF, h8]; rfl, by rw [asS, h8]; exact (mu_self σ 0 5).symm⟩)
  · refine V_iload_n (pc := 11) (i := 2) hX dX5_as_11 rfl rfl ?_
    refine V_iconst (pc := 12) (v := (nI 4)) hX dX5_as_12 (by decide +kernel) ?_
    refine V_callSi (pc := 13) hX (hR.mono (by omega)) mX5_48 (c_isUnderN k 4 (by decide) _) dX5_as_13 rfl rfl rfl (Nat.le_of_ble_eq_true rfl) ?_
    refine V_if_neB (pc := 16) (tgt := 22) hX dX5_as_16 (by decide) (fun h16 => ?_) (fun h16 => ?_)
    · obtain ⟨s, hs, rfl⟩ := inr_of h8 (by omega)
      have ts : tn (nI s) = s := tn_nI (by omega)
      have eo : (inr (nI s) n && inr k 4) = true := by rw [h8, h16]; rfl
      refine V_aload_n (pc := 22) (i := 0) hX dX5_as_22 rfl rfl ?_
      refine V_aload_n (pc := 23) (i := 0) hX dX5_as_23 rfl rfl ?_
      refine V_getr (pc := 24) hX fX5_19 dX5_as_24 rfl rfl ?_
      refine V_iload_n (pc := 27) (i := 1) hX dX5_as_27 rfl rfl ?_
      refine V_iload_n (pc := 28) (i := 2) hX dX5_as_28 rfl rfl ?_
      refine V_callVi (pc := 29) hX (hR.mono (by omega)) mX5_195 (c_isOfKind s k _ (by omega)) dX5_as_29 rfl rfl rfl rfl (Nat.le_of_ble_eq_true rfl) ?_
      refine V_if_eqB (pc := 32) (tgt := 39) hX dX5_as_32 (by decide) (fun h32 => ?_) (fun h32 => ?_)
      · refine V_iconst (pc := 39) (v := (nI 3)) hX dX5_as_39 (by decide +kernel) ?_
        refine V_putf (pc := 40) hX fX5_44 gi5_5 dX5_as_40 rfl rfl ?_
        refine V_aload_n (pc := 43) (i := 0) hX dX5_as_43 rfl rfl ?_
        refine V_getf (pc := 44) hX fX5_44 dX5_as_44 rfl rfl ?_
        rw [mu_at]
        refine V_if_ne (pc := 47) (tgt := 62) hX dX5_as_47 (by decide) (fun _ => ?_) (fun h => absurd h (by decide +kernel))
        refine V_ldc (pc := 62) hX kX5_57 dX5_as_62 ?_
        refine V_aload_n (pc := 64) (i := 0) hX dX5_as_64 rfl rfl ?_
        refine V_getf (pc := 65) hX fX5_44 dX5_as_65 rfl rfl ?_
        rw [mu_at]
        refine V_isub (pc := 68) hX dX5_as_68 ?_
        exact V_iret (pc := 69) (st := []) hX hr rfl dX5_as_69 ⟨by rw [asF, eo, if_pos rfl, ts, h32]; rfl, by rw [asS, eo, if_pos rfl, ts, h32]; rfl⟩
      · refine V_iconst (pc := 35) (v := (nI 0)) hX dX5_as_35 (by decide +kernel) ?_
        refine V_goto (pc := 36) (tgt := 40) hX dX5_as_36 (by decide) ?_
        refine V_putf (pc := 40) hX fX5_44 gi5_5 dX5_as_40 rfl rfl ?_
        refine V_aload_n (pc := 43) (i := 0) hX dX5_as_43 rfl rfl ?_
        refine V_getf (pc := 44) hX fX5_44 dX5_as_44 rfl rfl ?_
        rw [mu_at]
        refine V_if_ne (pc := 47) (tgt := 62) hX dX5_as_47 (by decide) (fun h47 => absurd h47 (by intro q; exact q (by decide +kernel))) (fun h47 => ?_)
        refine V_aload_n (pc := 50) (i := 0) hX dX5_as_50 rfl rfl ?_
        refine V_getr (pc := 51) hX fX5_19 dX5_as_51 rfl rfl ?_
        refine V_getr (pc := 54) hX fX5_126 dX5_as_54 rfl rfl ?_
        refine V_iload_n (pc := 57) (i := 1) hX dX5_as_57 rfl rfl ?_
        refine V_iald (pc := 58) hX dX5_as_58 (rfl) (rfl) (by omega) (by decide) ?_
        refine V_goto (pc := 59) (tgt := 69) hX dX5_as_59 (by decide) ?_
        exact V_iret (pc := 69) (st := []) hX hr (by first | rfl | exact bI_nar _ | decide +kernel) dX5_as_69 (⟨by rw [asF, eo, if_pos rfl, ts, h32]; rfl, by rw [asS, eo, if_pos rfl, ts, h32]; rfl⟩)
    · refine V_ldc (pc := 19) hX kX5_52 dX5_as_19 ?_
      exact V_iret (pc := 21) (st := []) hX hr (by first | rfl | exact bI_nar _ | decide +kernel) dX5_as_21 (⟨by rw [asF, h8, h16]; rfl, by rw [asS, h8, h16]; exact (mu_self σ 0 5).symm⟩)

set_option maxRecDepth 100000 in
set_option maxHeartbeats 4000000 in
theorem c_count3 (n : Nat) (σ : Mem) (hn : σ 2 3 = nI n) (hn10 : n ≤ 10) : Cc yX5_count cX5_count 2 (some .int) 5 [.ref 0, .int (nI 3)] σ (rI (nI (nearf (σ 2 6) (σ 17) (σ 18) (σ 19) n)) σ) := by
  refine Cc.intro (by decide +kernel) [some (.ref 0), some (.int (nI 3))] (fun _ => rfl) rfl (fun _ => Nat.le_of_ble_eq_true rfl) ?_
  intro X hX hR hr
  refine V_iload_n (pc := 0) (i := 1) hX dX5_count_0 rfl rfl ?_
  refine V_tableIn (pc := 1) (off := 70) (tgt := 71) hX dX5_count_1 (by decide +kernel) (by decide +kernel) (by decide +kernel) (by decide) ?_
  refine V_aload_n (pc := 71) (i := 0) hX dX5_count_71 rfl rfl ?_
  refine V_getr (pc := 72) hX fX5_19 dX5_count_72 rfl rfl ?_
  refine V_callVi (pc := 75) hX (hR.mono (by omega)) mX5_220 (c_nears n _ hn hn10) dX5_count_75 rfl rfl rfl rfl (Nat.le_of_ble_eq_true rfl) ?_
  exact V_iret (pc := 78) (st := []) hX hr (by first | rfl | exact bI_nar _ | decide +kernel) dX5_count_78 ⟨rfl, rfl⟩
end
section
/-! ===== the constructors: worlds that grow ===== -/
abbrev NC : Type := Program × Launch × Env × Room × State × MethodId × Array Value × List Frame × Method × Code × (State → Prop) × (Nat → Prop) × va_G × (Nat → ClassId) × Heap
def AOI (U : State) : Prop := (Cond.arrayOver (.array .int)).before #[] U = true
theorem AOI.moved {u U : State} (hvm : u.vm.Alike U.vm) (h : AOI u) : AOI U := Stand.arrayOver_alikeB hvm h
theorem AOI.use {A : Array Value} {U : State} (h : AOI U) : (Cond.arrayOver (.array .int)).before A U = true := Stand.arrayOver_alikeB (Vm.Alike.refl U.vm) h
theorem AOI.of {A : Array Value} {U : State} (h : (Cond.arrayOver (.array .int)).before A U = true) : AOI U := Stand.arrayOver_alikeB (Vm.Alike.refl U.vm) h
def Nw (X : NC) (nL cells slots pc : Nat) (ls : List (Nat × Value)) (st : List Value) (ws : va_W) : Prop := match X with
  | (p, l, e, R, s, m, args, below, meth, c, Q, A, D, _, H0) => ∀ (H : Heap) (locs : List Loc) (lsA : Array Slot), va_P D vwCl ws H → va_D A ws → va_S A H0 H locs → lv_has lsA nL ls → W p l e R s m args below meth c H locs cells slots Q (F0 m pc lsA st)
def Nok (X : NC) (own : String) (cc : ByteArray) (nL : Nat) : Prop := match X with
  | (p, _, _, _, s, m, args, _, _, c, _, A, D, cs, H0) => p.tables.exec = Jvm.exec ∧ c.code = cc ∧ c.maxLocals = nL ∧ s.vm.findClass own = some m.cls ∧ (∀ w ∈ lw_w, w.before args s = true) ∧ va_K D vwCl (tys3 cs) s ∧ AOI s ∧ (∀ q, H0.size ≤ q → A q)
def Nin (X : NC) : Prop := match X with
  | (_, _, _, _, _, _, _, _, meth, _, _, _, _, _, _) => meth.name = "<init>"
def Nrm (X : NC) (d C S : Nat) : Prop := match X with
  | (_, _, _, R, _, _, _, _, _, _, _, _, _, _, _) => d ≤ R.frames ∧ 40 * d ≤ R.locals ∧ C ≤ R.cells ∧ S ≤ R.slots
def Ncs (X : NC) : Nat → ClassId := match X with
  | (_, _, _, _, _, _, _, _, _, _, _, _, _, cs, _) => cs
theorem Nw.ws {X : NC} {nL cells slots pc : Nat} {ls : List (Nat × Value)} {st : List Value} {ws ws' : va_W} (e : ws = ws') (kk : Nw X nL cells slots pc ls st ws') : Nw X nL cells slots pc ls st ws := by rw [e]; exact kk
section NROWS
variable {X : NC} {own : String} {cc : ByteArray} {nL cells slots pc : Nat} {ls : List (Nat × Value)} {st : List Value} {ws : va_W}
theorem N_aload {k : Fin 4} {i a : Nat} (hX : Nok X own cc nL) (hd : decode cc pc = .ok (.aload_n k, 1)) (hi : (k : Nat) = i) (j : Nat) (h : ls[j]? = some (i, .ref a)) (kk : Nw X nL cells slots (pc + 1) ls (.ref a :: st) ws) : Nw X nL cells slots pc ls st ws := by
  obtain ⟨p, l, e, R, s, m, args, below, meth, c, Q, A, D, cs, H0⟩ := X
  intro H locs lsA hP hD hS hl
  exact lv_aload_n hX.1 hX.2.1 hd hi (lv_at hl j h) (kk H locs lsA hP hD hS hl)
theorem N_iload {k : Fin 4} {i : Nat} {x : Int32} (hX : Nok X own cc nL) (hd : decode cc pc = .ok (.iload_n k, 1)) (hi : (k : Nat) = i) (j : Nat) (h : ls[j]? = some (i, .int x)) (kk : Nw X nL cells slots (pc + 1) ls (.int x :: st) ws) : Nw X nL cells slots pc ls st ws := by
  obtain ⟨p, l, e, R, s, m, args, below, meth, c, Q, A, D, cs, H0⟩ := X
  intro H locs lsA hP hD hS hl
  exact lv_iload_n hX.1 hX.2.1 hd hi (lv_at hl j h) (kk H locs lsA hP hD hS hl)
theorem N_iconst {n : Int} {v : Int32} (hX : Nok X own cc nL) (hd : decode cc pc = .ok (.iconst n, 1)) (hv : Int32.ofInt n = v) (kk : Nw X nL cells slots (pc + 1) ls (.int v :: st) ws) : Nw X nL cells slots pc ls st ws := by
  obtain ⟨p, l, e, R, s, m, args, below, meth, c, Q, A, D, cs, H0⟩ := X
  intro H locs lsA hP hD hS hl
  exact lv_iconst hX.1 hX.2.1 hd hv (kk H locs lsA hP hD hS hl)
theorem N_bipush {n : Int} {v : Int32} (hX : Nok X own cc nL) (hd : decode cc pc = .ok (.bipush n, 2)) (hv : (Int8.ofInt n).toInt32 = v) (kk : Nw X nL cells slots (pc + 2) ls (.int v :: st) ws) : Nw X nL cells slots pc ls st ws := by
  obtain ⟨p, l, e, R, s, m, args, below, meth, c, Q, A, D, cs, H0⟩ := X
  intro H locs lsA hP hD hS hl
  exact lv_bipush hX.1 hX.2.1 hd hv (kk H locs lsA hP hD hS hl)
theorem N_sipush {n : Int} {v : Int32} (hX : Nok X own cc nL) (hd : decode cc pc = .ok (.sipush n, 3)) (hv : (Int16.ofInt n).toInt32 = v) (kk : Nw X nL cells slots (pc + 3) ls (.int v :: st) ws) : Nw X nL cells slots pc ls st ws := by
  obtain ⟨p, l, e, R, s, m, args, below, meth, c, Q, A, D, cs, H0⟩ := X
  intro H locs lsA hP hD hS hl
  exact lv_sipush hX.1 hX.2.1 hd hv (kk H locs lsA hP hD hS hl)
theorem N_dup {v : Value} (hX : Nok X own cc nL) (hd : decode cc pc = .ok (.dup, 1)) (hc : v.category = 1) (kk : Nw X nL cells slots (pc + 1) ls (v :: v :: st) ws) : Nw X nL cells slots pc ls (v :: st) ws := by
  obtain ⟨p, l, e, R, s, m, args, below, meth, c, Q, A, D, cs, H0⟩ := X
  intro H locs lsA hP hD hS hl
  exact lv_dup hX.1 hX.2.1 hd hc (kk H locs lsA hP hD hS hl)
theorem N_goto {off : Int} {tgt : Nat} (hX : Nok X own cc nL) (hd : decode cc pc = .ok (.goto off, 3)) (ht : (pc : Int) + off = (tgt : Int)) (kk : Nw X nL cells slots tgt ls st ws) : Nw X nL cells slots pc ls st ws := by
  obtain ⟨p, l, e, R, s, m, args, below, meth, c, Q, A, D, cs, H0⟩ := X
  intro H locs lsA hP hD hS hl
  exact lv_goto hX.1 hX.2.1 hd ht (kk H locs lsA hP hD hS hl)
theorem N_icmp_ge {x y : Int32} {off : Int} {tgt : Nat} (hX : Nok X own cc nL) (hd : decode cc pc = .ok (.if_icmp .ge off, 3)) (ht : (pc : Int) + off = (tgt : Int)) (kt : y ≤ x → Nw X nL cells slots tgt ls st ws) (kf : ¬ y ≤ x → Nw X nL cells slots (pc + 3) ls st ws) : Nw X nL cells slots pc ls (.int y :: .int x :: st) ws := by
  obtain ⟨p, l, e, R, s, m, args, below, meth, c, Q, A, D, cs, H0⟩ := X
  intro H locs lsA hP hD hS hl
  exact lv_icmp_ge hX.1 hX.2.1 hd ht (fun h => kt h H locs lsA hP hD hS hl) (fun h => kf h H locs lsA hP hD hS hl)
theorem N_istore {k : Fin 4} {i : Nat} {x : Int32} {ls' : List (Nat × Value)} (hX : Nok X own cc nL) (hd : decode cc pc = .ok (.istore_n k, 1)) (hi : (k : Nat) = i) (hn : i < nL) (he : (i, Value.int x) :: ls.filter (fun q => !(q.1 == i) && !(q.1 + 1 == i && q.2.category == 2)) = ls') (kk : Nw X nL cells slots (pc + 1) ls' st ws) : Nw X nL cells slots pc ls (.int x :: st) ws := by
  obtain ⟨p, l, e, R, s, m, args, below, meth, c, Q, A, D, cs, H0⟩ := X
  intro H locs lsA hP hD hS hl
  exact lv_istore_n hX.1 hX.2.1 hd hi hl hn he (fun ls9 h9 => kk H locs ls9 hP hD hS h9)
theorem N_iinc {i : Nat} {n : Int} {x v : Int32} {ls' : List (Nat × Value)} (hX : Nok X own cc nL) (hd : decode cc pc = .ok (.iinc i n, 3)) (k : Nat) (hk : ls[k]? = some (i, .int x)) (hv : x + Int32.ofInt n = v) (hn : i < nL) (he : (i, Value.int v) :: ls.filter (fun q => !(q.1 == i) && !(q.1 + 1 == i && q.2.category == 2)) = ls') (kk : Nw X nL cells slots (pc + 3) ls' st ws) : Nw X nL cells slots pc ls st ws := by
  obtain ⟨p, l, e, R, s, m, args, below, meth, c, Q, A, D, cs, H0⟩ := X
  intro H locs lsA hP hD hS hl
  exact lv_iinc hX.1 hX.2.1 hd hl hk hv hn he (fun ls9 h9 => kk H locs ls9 hP hD hS h9)
theorem N_objInit {index : Nat} {a : Nat} {d C S : Nat} (hX : Nok X own cc nL) (hR : Nrm X d C S) (hd0 : 1 ≤ d) (h1 : Cond.methodLink own index objectInit ∈ lw_w) (h2 : Cond.instanceMethod objectInit ∈ lw_w) (h3 : Cond.code objectInit ⟨#[0xb1]⟩ 1 none ∈ lw_w) (hd : decode cc pc = .ok (.invokespecial index, 3)) (kk : Nw X nL cells slots (pc + 3) ls [] ws) : Nw X nL cells slots pc ls [.ref a] ws := by
  obtain ⟨p, l, e, R, s, m, args, below, meth, c, Q, A, D, cs, H0⟩ := X
  intro H locs lsA hP hD hS hl
  obtain ⟨hx, hb, hml, hown, hts, hK, hao, hA⟩ := hX
  obtain ⟨r1, r2, r3, r4⟩ := hR
  refine W.objInit hx hb hown (hts _ h1) (hts _ h2) (hts _ h3) rfl (by rw [hml]; exact hl.1) rfl hd (by omega) (by
    have e1 : (F0 m pc lsA [Value.ref a]).monitorRoom = 0 := rfl
    have e2 : (List.map (fun v : Value => v.category) ([] : List Value)).sum = 0 := rfl
    omega) ?_
  exact W.eq (g2 := F0 m (pc + 3) lsA []) rfl (kk H locs lsA hP hD hS hl)
/-- the address, the class's number, the fields; then the other cells -/
theorem N_putF {index ci k a : Nat} {fs fs2 : List Value} {wr : va_W} {v : Value} {ty : FieldType} (hX : Nok X own cc nL) (hI : Nin X) (hf : Fld own index ci k) (hq : ∀ (C : String) (T : u_T) (N : Nat), vwCl[ci]? = some (C, T, N) → (T k).2.2.2 = true ∧ (T k).1 = own ∧ parseFieldDescriptor (T k).2.2.1 = some ty) (hlk : ∀ (C : String) (T : u_T) (N : Nat), vwCl[ci]? = some (C, T, N) → Cond.fieldLink own index (T k).1 (T k).2.1 (T k).2.2.1 ∈ lw_w) (hn : narrow ty v = v) (hfit : fits ty v = true) (hl0 : k < fs.length) (he : fs.set k v = fs2) (hd : decode cc pc = .ok (.putfield index, 3)) (kk : Nw X nL cells slots (pc + 3) ls st ((a, .inr (ci, fs2)) :: wr)) : Nw X nL cells slots pc ls (v :: .ref a :: st) ((a, .inr (ci, fs)) :: wr) := by
  obtain ⟨p, l, e, R, s, m, args, below, meth, c, Q, A, D, cs, H0⟩ := X
  intro H locs lsA hP hD hS hl
  subst he
  obtain ⟨C, T, N, hc, hk, hin, ⟨ty0, hty⟩, hnm, -⟩ := hf
  obtain ⟨hx, hb, hml, hown, hts, hK, hao, hA⟩ := hX
  obtain ⟨q1, q2, q3⟩ := hq C T N hc
  exact va_putF hx hb hts hin ty0 hty hnm hown hK hP hD hS 0 rfl hc k hk (hts _ (hlk C T N hc)) (fun _ h => h) q1 hI q2 q3 hn hfit hl0 hd (fun H1 locs1 hP1 hD1 hS1 => kk H1 locs1 lsA hP1 hD1 hS1 hl)
theorem N_puti {index ci k a : Nat} {fs fs2 : List Value} {wr : va_W} {x : Int32} (hX : Nok X own cc nL) (hf : Fld own index ci k) (hi : Fint ci k) (hl0 : k < fs.length) (he : fs.set k (.int x) = fs2) (hd : decode cc pc = .ok (.putfield index, 3)) (kk : Nw X nL cells slots (pc + 3) ls st ((a, .inr (ci, fs2)) :: wr)) : Nw X nL cells slots pc ls (.int x :: .ref a :: st) ((a, .inr (ci, fs)) :: wr) := by
  obtain ⟨p, l, e, R, s, m, args, below, meth, c, Q, A, D, cs, H0⟩ := X
  intro H locs lsA hP hD hS hl
  subst he
  obtain ⟨C, T, N, hc, hk, hin, ⟨ty, hty⟩, hnm, hlink⟩ := hf
  obtain ⟨hx, hb, hml, hown, hts, hK, hao, hA⟩ := hX
  rcases hlink with hlink | ⟨host, hlink⟩
  · exact va_put hx hb hts hin ty hty hnm hown hK hP hD hS 0 rfl hc k hk (hts _ hlink) (fun _ h => h) (hi C T N hc).1 (hi C T N hc).2 (show narrow .int (.int x) = .int x from rfl) (show fits .int (.int x) = true from rfl) hl0 hd (fun H1 locs1 hP1 hD1 hS1 => kk H1 locs1 lsA hP1 hD1 hS1 hl)
  · exact va_putN hx hb hts hin ty hty hnm hown hK hP hD hS 0 rfl hc k hk (hts _ hlink) (fun _ h => h) (hi C T N hc).1 (hi C T N hc).2 (show narrow .int (.int x) = .int x from rfl) (show fits .int (.int x) = true from rfl) hl0 hd (fun H1 locs1 hP1 hD1 hS1 => kk H1 locs1 lsA hP1 hD1 hS1 hl)
theorem N_getr {index ci k a q : Nat} {fs : List Value} {wr : va_W} (hX : Nok X own cc nL) (hf : Fld own index ci k) (hd : decode cc pc = .ok (.getfield index, 3)) (hv : fs[k]? = some (.ref q)) (kk : Nw X nL cells slots (pc + 3) ls (.ref q :: st) ((a, .inr (ci, fs)) :: wr)) : Nw X nL cells slots pc ls (.ref a :: st) ((a, .inr (ci, fs)) :: wr) := by
  obtain ⟨p, l, e, R, s, m, args, below, meth, c, Q, A, D, cs, H0⟩ := X
  intro H locs lsA hP hD hS hl
  obtain ⟨C, T, N, hc, hk, hin, -, -, hlink⟩ := hf
  obtain ⟨hx, hb, hml, hown, hts, hK, hao, hA⟩ := hX
  rcases hlink with hlink | ⟨host, hlink⟩
  · exact va_get hx hb hts hin hown hK hP 0 rfl hc k hk (hts _ hlink) (fun _ h => h) hv hd (kk H locs lsA hP hD hS hl)
  · exact va_getN hx hb hts hin hown hK hP 0 rfl hc k hk (hts _ hlink) (fun _ h => h) hv hd (kk H locs lsA hP hD hS hl)
theorem N_iast {a n j : Nat} {f : Nat → Int32} {wr : va_W} {i x : Int32} (hX : Nok X own cc nL) (hd : decode cc pc = .ok (.iastore, 1)) (hi : i = nI j) (hj : j < n) (hn : n < 2 ^ 31) (hw : ws = wr ++ [(a, .inl (Ncs X 0, n, .inl f))]) (kk : Nw X nL cells slots (pc + 1) ls st (wr ++ [(a, .inl (Ncs X 0, n, .inl (upd f j x)))])) : Nw X nL cells slots pc ls (.int x :: .int i :: .ref a :: st) ws := by
  obtain ⟨p, l, e, R, s, m, args, below, meth, c, Q, A, D, cs, H0⟩ := X
  intro H locs lsA hP hD hS hl
  subst hi
  subst hw
  have hset : ∀ z : Nat × va_E, (wr ++ [(a, (.inl (cs 0, n, .inl f) : va_E))]).set wr.length z = wr ++ [z] := fun z => by rw [List.set_append_right _ _ (Nat.le_refl _), Nat.sub_self]; rfl
  have e2 : (wr ++ [(a, (.inl (cs 0, n, .inl f) : va_E))]).set wr.length (a, .inl (cs 0, n, .inl (upd f (nI j).toNatClampNeg x))) = wr ++ [(a, .inl (cs 0, n, .inl (upd f j x)))] := by rw [hset, nI_clamp (by omega)]
  exact va_iast hX.1 hX.2.1 hX.2.2.2.2.2.1 hP hD hS wr.length 0 (cA := cs 0) (n := n) (f := f) (by rw [List.getElem?_append_right (Nat.le_refl _), Nat.sub_self]; rfl) rfl (vp_in_nI hj hn) hd (fun H1 locs1 hP1 hD1 hS1 => kk H1 locs1 lsA (Eq.mp (congrArg (fun w => va_P D vwCl w H1) e2) hP1) (Eq.mp (congrArg (fun w => va_D A w) e2) hD1) hS1 hl)
theorem N_newI {n : Int32} {N d C S : Nat} (hX : Nok X own cc nL) (hR : Nrm X d C S) (harr : Cond.arrayClass .int ∈ lw_w) (hd : decode cc pc = .ok (.newarray .int, 2)) (hn : ¬ n < 0) (hN : n.toNatClampNeg = N) (hby : N * 4 ≤ 536870912) (h1 : cells + 1 ≤ C) (h2 : slots + N ≤ S) (kk : ∀ q : Nat, Nw X nL (cells + 1) (slots + N) (pc + 2) ls (.ref q :: st) (ws ++ [(q, .inl (Ncs X 0, N, .inl (fun _ => 0)))])) : Nw X nL cells slots pc ls (.int n :: st) ws := by
  obtain ⟨p, l, e, R, s, m, args, below, meth, c, Q, A, D, cs, H0⟩ := X
  intro H locs lsA hP hD hS hl
  obtain ⟨hx, hb, hml, hown, hts, hK, hao, hA⟩ := hX
  obtain ⟨r1, r2, r3, r4⟩ := hR
  refine va_newa hx hb (atype := .int) (hts _ harr) (ty := .int) rfl hK hP hD hS hA (a0 := (N, .inl (fun _ => 0))) (fun _ => rfl) hn hN hby (by omega) (by omega) hd (fun q cA H1 hK1 hP1 hD1 hS1 => ?_)
  have e1 : cA = cs 0 := Option.some.inj ((show s.vm.findClass _ = some cA from (hK1.2 3 _ rfl).2).symm.trans (hK.2 0 _ rfl).2)
  subst e1
  exact kk q H1 locs lsA hP1 hD1 hS1 hl
theorem N_newZ {n : Int32} {N d C S : Nat} (hX : Nok X own cc nL) (hR : Nrm X d C S) (harr : Cond.arrayClass .boolean ∈ lw_w) (hd : decode cc pc = .ok (.newarray .boolean, 2)) (hn : ¬ n < 0) (hN : n.toNatClampNeg = N) (hby : N * 1 ≤ 536870912) (h1 : cells + 1 ≤ C) (h2 : slots + N ≤ S) (kk : ∀ q : Nat, Nw X nL (cells + 1) (slots + N) (pc + 2) ls (.ref q :: st) (ws ++ [(q, .inl (Ncs X 1, N, .inl (fun _ => 0)))])) : Nw X nL cells slots pc ls (.int n :: st) ws := by
  obtain ⟨p, l, e, R, s, m, args, below, meth, c, Q, A, D, cs, H0⟩ := X
  intro H locs lsA hP hD hS hl
  obtain ⟨hx, hb, hml, hown, hts, hK, hao, hA⟩ := hX
  obtain ⟨r1, r2, r3, r4⟩ := hR
  refine va_newa hx hb (atype := .boolean) (hts _ harr) (ty := .boolean) rfl hK hP hD hS hA (a0 := (N, .inl (fun _ => 0))) (fun _ => rfl) hn hN hby (by omega) (by omega) hd (fun q cA H1 hK1 hP1 hD1 hS1 => ?_)
  have e1 : cA = cs 1 := Option.some.inj ((show s.vm.findClass _ = some cA from (hK1.2 3 _ rfl).2).symm.trans (hK.2 1 _ rfl).2)
  subst e1
  exact kk q H1 locs lsA hP1 hD1 hS1 hl
/-- rows of a row of rows -/
def rows (cs : Nat → ClassId) (r : Nat → Nat) (N K : Nat) : va_W := (List.range N).map (fun j => (r j, .inl (cs 0, K, .inl (fun _ => 0))))
def outr (cs : Nat → ClassId) (r : Nat → Nat) (N : Nat) : va_E := .inl (cs 2, N, .inr (.inr (.inr (.inr (fun i => if i < N then some (r i) else none)))))
theorem N_newR {index : Nat} {n k : Int32} {N K d C S : Nat} (hX : Nok X own cc nL) (hR : Nrm X d C S) (hcl : Cond.classLink own index "[[I" ∈ lw_w) (harr : Cond.arrayClass .int ∈ lw_w) (hd : decode cc pc = .ok (.multianewarray index 2, 4)) (hn : ¬ n < 0) (hk : ¬ k < 0) (hN : n.toNatClampNeg = N) (hKk : k.toNatClampNeg = K) (hb1 : N * 4 ≤ 536870912) (hb2 : K * 4 ≤ 536870912) (hb3 : K ≤ 536870912) (h1 : cells + (1 + N) ≤ C) (h2 : slots + (N + N * K) ≤ S) (kk : ∀ (q : Nat) (r : Nat → Nat), Nw X nL (cells + 1 + N) (slots + N + N * K) (pc + 4) ls (.ref q :: st) (ws ++ ((q, outr (Ncs X) r N) :: rows (Ncs X) r N K))) : Nw X nL cells slots pc ls (.int k :: .int n :: st) ws := by
  obtain ⟨p, l, e, R, s, m, args, below, meth, c, Q, A, D, cs, H0⟩ := X
  intro H locs lsA hP hD hS hl
  obtain ⟨hx, hb, hml, hown, hts, hK, hao, hA⟩ := hX
  obtain ⟨r1, r2, r3, r4⟩ := hR
  refine va_mna (X := ws) (L := []) (f := fun _ => .inl (cs 0, K, .inl (fun _ => 0))) (ty := .int) (cy := cs 0) hx hb hown (hts _ hcl) (AOI.use hao) (hts _ harr) (hK.2 0 _ rfl).2 hK (by show va_P _ _ (ws ++ []) _; rw [List.append_nil]; exact hP) (by show va_D _ (ws ++ []); rw [List.append_nil]; exact hD) hS hA (z := (K, .inl (fun _ => 0))) hn hk hN hKk hb1 hb2 hb3 rfl rfl (by omega) (by omega) (fun c => by rw [vp_cell_i, ← arrV_new]; rfl) hd (fun q r cA H1 hinj hnot hK1 hP1 hD1 hS1 => ?_)
  have e1 : cA = cs 2 := Option.some.inj ((show s.vm.findClass _ = some cA from (hK1.2 3 _ rfl).2).symm.trans (hK.2 2 _ rfl).2)
  subst e1
  have er : va_pl ([] ++ (List.range N).map r) (vr_up (fun _ => .inl (cs 0, K, .inl (fun _ => 0))) ((List.range N).map r) (.inl (cs 0, (K, .inl (fun _ => 0))))) = rows cs r N K := by
    rw [← vr_rows (L := []) (fun a _ h => by cases h)]
    show [] ++ ((List.range N).map r).map _ = _
    rw [List.nil_append, List.map_map]
    rfl
  rw [er, List.append_assoc] at hP1 hD1
  exact kk q r H1 locs lsA hP1 hD1 hS1 hl
theorem N_new {C : String} {T : u_T} {N ci index d Cc S : Nat} {fs : List Value} {ty : Nat → FieldType} (hX : Nok X own cc nL) (hR : Nrm X d Cc S) (hin : ∀ w ∈ u_ws C T N, w ∈ lw_w) (hty : ∀ k, k < N → parseFieldDescriptor (T k).2.2.1 = some (ty k)) (hcl : Cond.classLink own index C ∈ lw_w) (hinst : Cond.instantiable C N ∈ lw_w) (hini : Cond.initialized C ∈ lw_w) (hc : vwCl[ci]? = some (C, T, N)) (hfs : ∀ j, j < N → defaultValue (ty j) = vp_V fs j) (hd : decode cc pc = .ok (.new index, 3)) (h1 : cells + 1 ≤ Cc) (h2 : slots + N ≤ S) (kk : ∀ q : Nat, Nw X nL (cells + 1) (slots + N) (pc + 3) ls (.ref q :: st) (ws ++ [(q, .inr (ci, fs))])) : Nw X nL cells slots pc ls st ws := by
  obtain ⟨p, l, e, R, s, m, args, below, meth, c, Q, A, D, cs, H0⟩ := X
  intro H locs lsA hP hD hS hl
  obtain ⟨hx, hb, hml, hown, hts, hK, hao, hA⟩ := hX
  obtain ⟨r1, r2, r3, r4⟩ := hR
  exact va_new hx hb hts hin ty hty hown (hts _ hcl) (hts _ hinst) (hts _ hini) hK hP hD hS hA hc hfs (by omega) (by omega) hd (fun q H1 hP1 hD1 hS1 => kk q H1 locs lsA hP1 hD1 hS1 hl)
end NROWS
/-- a constructor's contract: from one cell with its default fields to the world P -/
def Kpre (D : va_G) (cs : Nat → ClassId) (h0 sz ci : Nat) (fs0 : List Value) (U : State) : Prop := U.heap.size = sz ∧ va_P D vwCl [(h0, .inr (ci, fs0))] U.heap ∧ va_K D vwCl (tys3 cs) U ∧ AOI U ∧ va_D (fun _ => True) [(h0, .inr (ci, fs0))]
def Kpost (D : va_G) (cs : Nat → ClassId) (h0 sz ci : Nat) (fs0 : List Value) (w : va_W) (t : State) : Prop := va_P D vwCl w t.heap ∧ va_K D vwCl (tys3 cs) t ∧ va_D (va_A [(h0, .inr (ci, fs0))] sz) w
def Krm (d mc ms : Nat) : Room := { frames := d, cells := mc, slots := ms, locals := 40 * d }
def Kc (y : MethodName) (cc : ByteArray) (mx d mc ms ci : Nat) (fs0 : List Value) (P : (Nat → ClassId) → Nat → va_W → Prop) : Prop :=
  ∀ (l : Launch) (D : va_G) (cs : Nat → ClassId) (h0 sz : Nat), Met l y (Cond.code y cc mx none :: lw_w) (Krm d mc ms) (va_Pc [.ref h0] (Kpre D cs h0 sz ci fs0)) (va_Qv (P cs h0) (Kpost D cs h0 sz ci fs0) (va_A [(h0, .inr (ci, fs0))] sz)) mc ms (va_A [(h0, .inr (ci, fs0))] sz)
def NRet (X : NC) (mc ms : Nat) (P : va_W → Prop) : Prop := match X with
  | (_, _, _, _, s, _, args, below, meth, _, Q, A, D, cs, H0) => meth.sig.returnType = none ∧ meth.locks = false ∧ H0 = s.heap ∧ ∃ (h0 ci : Nat) (fs0 : List Value), A = va_A [(h0, .inr (ci, fs0))] s.heap.size ∧ Q = MQ below (va_Qv P (Kpost D cs h0 s.heap.size ci fs0) A) args s mc ms A
theorem N_ret {X : NC} {own : String} {cc : ByteArray} {nL cells slots pc mc ms : Nat} {ls : List (Nat × Value)} {ws : va_W} {P : va_W → Prop} (hX : Nok X own cc nL) (hr : NRet X mc ms P) (h1 : cells = mc) (h2 : slots = ms) (hd : decode cc pc = .ok (.return_, 1)) (hp : P ws) : Nw X nL cells slots pc ls [] ws := by
  obtain ⟨p, l, e, R, s, m, args, below, meth, c, Q, A, D, cs, H0⟩ := X
  intro H locs lsA hP hD hS hl
  subst h1; subst h2
  obtain ⟨a1, a2, a3, h0, ci, fs0, a4, a5⟩ := hr
  subst a3; subst a4; subst a5
  exact W.vret hX.1 hX.2.1 a1 (fun t ht hW => ⟨⟨ws, rfl, hp, by rw [ht]; exact hP, va_K.moved hW.alike hX.2.2.2.2.2.1, hD⟩, hS.F ht⟩) hS.2.2 hd (hlocks := a2)
theorem Kc.intro {y : MethodName} {cc : ByteArray} {mx d mc ms ci : Nat} {fs0 : List Value} {P : (Nat → ClassId) → Nat → va_W → Prop} (hy : plainName y.cls = true) (hin : y.name = "<init>") (hmx : 1 ≤ mx) (h : ∀ (X : NC) (h0 : Nat), Nok X y.cls cc mx → Nin X → Nrm X d mc ms → NRet X mc ms (P (Ncs X) h0) → Nw X mx 0 0 0 [(0, .ref h0)] [] [(h0, .inr (ci, fs0))]) : Kc y cc mx d mc ms ci fs0 P := by
  intro l D cs h0 sz
  refine Met.ofW (cc := cc) (maxL := mx) (ret := none) hy rfl ?_
  intro p e s m args' below meth c s₁ B hml hv
  obtain ⟨rfl, hsz, hP, hK, hao, hD0⟩ := hv
  have hts := atoms_spec (ws := Cond.code y cc mx none :: lw_w) B.pre
  have hown : s.vm.findClass y.cls = some m.cls := findClass_of_methodNamed B.named
  have hl := lv_entry ([.ref h0]) (n := mx) (by show 1 ≤ mx; exact hmx)
  rw [lg_entry_eq]
  generalize (lg_sl ([.ref h0]) ++ List.replicate (mx - (lg_sl ([.ref h0])).length) Slot.unset).toArray = ls at hl ⊢
  subst hsz
  exact h (p, l, e, (headSpec (Cond.code y cc mx none :: lw_w) (Krm d mc ms)).room, s, m, ([Value.ref h0]).toArray, below, meth, c, MQ below (va_Qv (P cs h0) (Kpost D cs h0 s.heap.size ci fs0) (va_A [(h0, .inr (ci, fs0))] s.heap.size)) ([Value.ref h0]).toArray s mc ms (va_A [(h0, .inr (ci, fs0))] s.heap.size), va_A [(h0, .inr (ci, fs0))] s.heap.size, D, cs, s.heap) h0
    ⟨B.exec, B.bytes, hml, hown, fun w hw => hts w (List.mem_cons_of_mem _ hw), hK, hao, fun q h => Or.inr h⟩ ((name_of_methodNamed B.named B.method).1.trans hin) ⟨Nat.le_refl _, Nat.le_refl _, Nat.le_refl _, Nat.le_refl _⟩ ⟨B.returns, B.notSynchronized, rfl, h0, ci, fs0, rfl, rfl⟩ s.heap [] ls hP hD0.self va_S.rf hl
theorem Nd_of : ∀ (l : List Nat), l.Nodup → va_nd l = true
  | [], _ => rfl
  | a :: l, h => by
    obtain ⟨h1, h2⟩ := List.nodup_cons.mp h
    show (decide (a ∉ l) && va_nd l) = true
    rw [decide_eq_true h1, Nd_of l h2]
    rfl
theorem Nd_range (n : Nat) : va_nd (List.range n) = true := Nd_of _ List.nodup_range
def MthI (own : String) (index : Nat) (y : MethodName) (cc : ByteArray) (mx : Nat) : Prop := Mth own index y cc mx none 0 ∧ y.name = "<init>" ∧ Cond.instanceMethod y ∈ lw_w ∧ Cond.methodLink own index y ∈ lw_w
theorem N_init {X : NC} {own : String} {cc : ByteArray} {nL cells slots pc : Nat} {ls : List (Nat × Value)} {rest : List Value} {ws wr : va_W} {y : MethodName} {bytes : ByteArray} {mx d d0 mc ms ci index q C S : Nat} {fs0 : List Value} {P : (Nat → ClassId) → Nat → va_W → Prop} (hX : Nok X own cc nL) (hR : Nrm X d0 C S) (hm : MthI own index y bytes mx) (hC : Kc y bytes mx d mc ms ci fs0 P) (hd : decode cc pc = .ok (.invokespecial index, 3)) (hdd : d + 1 ≤ d0) (hcat : (rest.map fun v => v.category).sum ≤ 8) (h1 : cells + mc ≤ C) (h2 : slots + ms ≤ S) (hw : ws = wr ++ [(q, .inr (ci, fs0))]) (kk : ∀ w1 : va_W, P (Ncs X) q w1 → Nw X nL (cells + mc) (slots + ms) (pc + 3) ls rest (wr ++ w1)) : Nw X nL cells slots pc ls (.ref q :: rest) ws := by
  obtain ⟨p, l, e, R, s, m, args, below, meth, c, Q, A, D, cs, H0⟩ := X
  intro H locs lsA hP hD hS hl
  obtain ⟨hx, hb, hml, hown, hts, hK, hao, hA⟩ := hX
  obtain ⟨r1, r2, r3, r4⟩ := hR
  subst hw
  have iC : [wr.length].map (fun i => (wr ++ [(q, (.inr (ci, fs0) : va_E))])[i]?) = [(q, (.inr (ci, fs0) : va_E))].map some := by
    show [(wr ++ [(q, (.inr (ci, fs0) : va_E))])[wr.length]?] = [some _]
    rw [List.getElem?_append_right (Nat.le_refl _), Nat.sub_self]
    rfl
  have iR : (List.range wr.length).map (fun i => (wr ++ [(q, (.inr (ci, fs0) : va_E))])[i]?) = wr.map some := by
    apply List.ext_getElem?
    intro i
    rw [List.getElem?_map, List.getElem?_map]
    by_cases hi : i < wr.length
    · rw [List.getElem?_range hi, Option.map_some, List.getElem?_append_left hi, List.getElem?_eq_getElem hi, Option.map_some]
    · rw [List.getElem?_eq_none (by rw [List.length_range]; omega), List.getElem?_eq_none (by omega)]
      rfl
  have hPc : va_P D vwCl [(q, .inr (ci, fs0))] H := fun k z hz => by
    have hk : k < 1 := (List.getElem?_eq_some_iff.mp hz).1
    rw [show k = 0 by omega] at hz
    cases hz
    exact hP wr.length _ (by rw [List.getElem?_append_right (Nat.le_refl _), Nat.sub_self]; rfl)
  have hDc : va_D (fun _ => True) [(q, (.inr (ci, fs0) : va_E))] := (hD.sub [wr.length] rfl iC).weaken (fun _ _ _ _ => trivial)
  have hFc := va_free (wc := [(q, .inr (ci, fs0))]) hD hS hA [wr.length] iC
  have hGw : ∀ w ∈ Cond.code y bytes mx none :: lw_w, w ∈ lw_w := fun w hw => (List.mem_cons.mp hw).elim (fun e => by rw [e]; exact hm.1.2.2.1) id
  have hws : ∀ w ∈ Cond.code y bytes mx none :: lw_w, ∀ (a' : Array Value) (U : State), s.WarmedH U.vm → w.before a' U = true := fun w hw a' U hW => lw_warm hts w (hGw w hw) a' U hW
  have hlen9 : ∀ sig, parseMethodDescriptor y.desc = some sig → 0 = sig.parameters.length := fun sig h => by
    have h2 := hm.1.1.2.2
    rw [h] at h2
    exact (Option.some.inj h2).symm
  have hroom : (Krm d mc ms).frames + 1 ≤ R.frames ∧ 8 + (mx + 11) + (Krm d mc ms).locals ≤ R.locals := ⟨by show d + 1 ≤ _; omega, by have h8 := hm.1.2.1; show 8 + (mx + 11) + 40 * d ≤ R.locals; omega⟩
  obtain ⟨⟨hd1, hmx, hco, hini, -⟩, hinn, hins, hlk⟩ := hm
  have hpre : PreS s H (va_Pc [.ref q] (Kpre D cs q H.size ci fs0)) [.ref q] := ⟨fun a U g mk z => by
    obtain ⟨z0, z1, zP, zK, zA, zD⟩ := z
    exact ⟨z0, z1, zP, va_K.moved (u := U) (U := U.calling g mk a) (Vm.Alike.refl U.vm) zK, AOI.moved (u := U) (U := U.calling g mk a) (Vm.Alike.refl U.vm) zA, zD⟩, fun U hU hW => ⟨rfl, by rw [hU], by rw [hU]; exact hPc, va_K.moved hW.alike hK, AOI.moved hW.alike hao, hDc⟩⟩
  refine va_callv (va_runI (As := []) (rest := rest) ⟨hx, hb, hml, hown, hts⟩ (hC l D cs q H.size) ⟨⟨rfl, rfl, hroom.1, hroom.2, hws, List.mem_cons_self, hts _ hco, hts _ hini, ⟨hd1.1, hd1.2.1⟩, hlen9, hts _ hlk⟩, hinn, hts _ hins⟩ hpre rfl rfl hl.1 rfl (lv_room hcat) hd ⟨by omega, by omega⟩) hS (fun z _ h => hFc z h) hFc (fun u t H1 locs1 ht hvm hp hB hz1 hk1 hS1 => ?_)
  obtain ⟨hP1, hK1, hD1⟩ := hB
  rw [ht] at hP1
  obtain ⟨hP2, hD2⟩ := va_join (wr := wr) (w1 := u) hP hD [wr.length] (List.range wr.length) iC iR (Nd_range _) (fun i hi h9 => by
    have := List.mem_range.mp hi
    rw [List.mem_singleton.mp h9] at this
    omega) hk1 hFc hP1 hD1
  exact kk u hp H1 locs1 lsA hP2 hD2 hS1 hl
end
section
/-! ===== the constructors ===== -/
/-- what stands behind the constructor of BuyAsAsked$Asks -/
def kp_X0 (cs : Nat → ClassId) (h0 : Nat) (w : va_W) : Prop := ∃ (q7 : Nat), w = [(h0, .inr (0, [.ref q7, .int 0])), (q7, .inl (cs 0, 16, .inl (fun _ => 0)))]
set_option maxRecDepth 100000 in
set_option maxHeartbeats 4000000 in
theorem k_X0 : Kc yX0_init cX0_init 1 1 1 16 0 [.null, .int 0] kp_X0 := by
  refine Kc.intro (by decide +kernel) rfl (by decide) ?_
  intro X h0 hX hI hR hr
  refine N_aload (pc := 0) hX dX0_init_0 rfl 0 rfl ?_
  refine N_objInit (pc := 1) hX hR (by decide) (lw_mem 173 (by decide +kernel) (by decide +kernel)) (lw_mem 27 (by decide +kernel) (by decide +kernel)) (lw_mem 28 (by decide +kernel) (by decide +kernel)) dX0_init_1 ?_
  refine N_aload (pc := 4) hX dX0_init_4 rfl 0 rfl ?_
  refine N_bipush (pc := 5) (v := (nI 16)) hX dX0_init_5 (by decide +kernel) ?_
  refine N_newI (pc := 7) (N := 16) hX hR (lw_mem 47 (by decide +kernel) (by decide +kernel)) dX0_init_7 (by decide +kernel) (by decide +kernel) (Nat.le_of_ble_eq_true rfl) (Nat.le_of_ble_eq_true rfl) (Nat.le_of_ble_eq_true rfl) (fun q7 => ?_)
  refine Nw.ws (ws' := [(h0, .inr (0, [.null, .int 0])), (q7, .inl (Ncs X 0, 16, .inl (fun _ => 0)))]) rfl ?_
  refine N_putF (pc := 9) (ty := .array .int) (fs2 := [.ref q7, .int 0]) hX hI fX0_9 (fun C T N h => by cases h; exact ⟨by decide +kernel, by decide +kernel, by decide +kernel⟩) (fun C T N h => by cases h; exact (lw_mem 174 (by decide +kernel) (by decide +kernel))) rfl rfl (Nat.le_of_ble_eq_true rfl) rfl dX0_init_9 ?_
  exact N_ret (pc := 12) hX hr (Nat.eq_of_beq_eq_true rfl) (Nat.eq_of_beq_eq_true rfl) dX0_init_12 ⟨q7, rfl⟩
/-- what stands behind the constructor of BuyAsAsked$Leases -/
def kp_X1 (cs : Nat → ClassId) (h0 : Nat) (w : va_W) : Prop := ∃ (q6 : Nat) (q13 : Nat) (q22 : Nat) (q31 : Nat) (q40 : Nat) (q47 : Nat), w = [(h0, .inr (1, [.ref q6, .ref q13, .ref q22, .ref q31, .ref q40, .ref q47, .int 0, .int (-1), .int 0, .int 0, .int 0])), (q6, .inl (cs 0, 4, .inl (fun _ => 0))), (q13, .inl (cs 0, 4, .inl (fun _ => 0))), (q22, .inl (cs 0, 128, .inl (fun _ => 0))), (q31, .inl (cs 1, 128, .inl (fun _ => 0))), (q40, .inl (cs 0, 128, .inl (fun _ => 0))), (q47, .inl (cs 0, 5, .inl (fun _ => 0)))]
set_option maxRecDepth 100000 in
set_option maxHeartbeats 4000000 in
theorem k_X1 : Kc yX1_init cX1_init 1 1 6 397 1 [.null, .null, .null, .null, .null, .null, .int 0, .int 0, .int 0, .int 0, .int 0] kp_X1 := by
  refine Kc.intro (by decide +kernel) rfl (by decide) ?_
  intro X h0 hX hI hR hr
  refine N_aload (pc := 0) hX dX1_init_0 rfl 0 rfl ?_
  refine N_objInit (pc := 1) hX hR (by decide) (lw_mem 96 (by decide +kernel) (by decide +kernel)) (lw_mem 27 (by decide +kernel) (by decide +kernel)) (lw_mem 28 (by decide +kernel) (by decide +kernel)) dX1_init_1 ?_
  refine N_aload (pc := 4) hX dX1_init_4 rfl 0 rfl ?_
  refine N_iconst (pc := 5) (v := (nI 4)) hX dX1_init_5 (by decide +kernel) ?_
  refine N_newI (pc := 6) (N := 4) hX hR (lw_mem 47 (by decide +kernel) (by decide +kernel)) dX1_init_6 (by decide +kernel) (by decide +kernel) (Nat.le_of_ble_eq_true rfl) (Nat.le_of_ble_eq_true rfl) (Nat.le_of_ble_eq_true rfl) (fun q6 => ?_)
  refine Nw.ws (ws' := [(h0, .inr (1, [.null, .null, .null, .null, .null, .null, .int 0, .int 0, .int 0, .int 0, .int 0])), (q6, .inl (Ncs X 0, 4, .inl (fun _ => 0)))]) rfl ?_
  refine N_putF (pc := 8) (ty := .array .int) (fs2 := [.ref q6, .null, .null, .null, .null, .null, .int 0, .int 0, .int 0, .int 0, .int 0]) hX hI fX1_9 (fun C T N h => by cases h; exact ⟨by decide +kernel, by decide +kernel, by decide +kernel⟩) (fun C T N h => by cases h; exact (lw_mem 97 (by decide +kernel) (by decide +kernel))) rfl rfl (Nat.le_of_ble_eq_true rfl) rfl dX1_init_8 ?_
  refine N_aload (pc := 11) hX dX1_init_11 rfl 0 rfl ?_
  refine N_iconst (pc := 12) (v := (nI 4)) hX dX1_init_12 (by decide +kernel) ?_
  refine N_newI (pc := 13) (N := 4) hX hR (lw_mem 47 (by decide +kernel) (by decide +kernel)) dX1_init_13 (by decide +kernel) (by decide +kernel) (Nat.le_of_ble_eq_true rfl) (Nat.le_of_ble_eq_true rfl) (Nat.le_of_ble_eq_true rfl) (fun q13 => ?_)
  refine Nw.ws (ws' := [(h0, .inr (1, [.ref q6, .null, .null, .null, .null, .null, .int 0, .int 0, .int 0, .int 0, .int 0])), (q6, .inl (Ncs X 0, 4, .inl (fun _ => 0))), (q13, .inl (Ncs X 0, 4, .inl (fun _ => 0)))]) rfl ?_
  refine N_putF (pc := 15) (ty := .array .int) (fs2 := [.ref q6, .ref q13, .null, .null, .null, .null, .int 0, .int 0, .int 0, .int 0, .int 0]) hX hI fX1_15 (fun C T N h => by cases h; exact ⟨by decide +kernel, by decide +kernel, by decide +kernel⟩) (fun C T N h => by cases h; exact (lw_mem 98 (by decide +kernel) (by decide +kernel))) rfl rfl (Nat.le_of_ble_eq_true rfl) rfl dX1_init_15 ?_
  refine N_aload (pc := 18) hX dX1_init_18 rfl 0 rfl ?_
  refine N_sipush (pc := 19) (v := (nI 128)) hX dX1_init_19 (by decide +kernel) ?_
  refine N_newI (pc := 22) (N := 128) hX hR (lw_mem 47 (by decide +kernel) (by decide +kernel)) dX1_init_22 (by decide +kernel) (by decide +kernel) (Nat.le_of_ble_eq_true rfl) (Nat.le_of_ble_eq_true rfl) (Nat.le_of_ble_eq_true rfl) (fun q22 => ?_)
  refine Nw.ws (ws' := [(h0, .inr (1, [.ref q6, .ref q13, .null, .null, .null, .null, .int 0, .int 0, .int 0, .int 0, .int 0])), (q6, .inl (Ncs X 0, 4, .inl (fun _ => 0))), (q13, .inl (Ncs X 0, 4, .inl (fun _ => 0))), (q22, .inl (Ncs X 0, 128, .inl (fun _ => 0)))]) rfl ?_
  refine N_putF (pc := 24) (ty := .array .int) (fs2 := [.ref q6, .ref q13, .ref q22, .null, .null, .null, .int 0, .int 0, .int 0, .int 0, .int 0]) hX hI fX1_18 (fun C T N h => by cases h; exact ⟨by decide +kernel, by decide +kernel, by decide +kernel⟩) (fun C T N h => by cases h; exact (lw_mem 99 (by decide +kernel) (by decide +kernel))) rfl rfl (Nat.le_of_ble_eq_true rfl) rfl dX1_init_24 ?_
  refine N_aload (pc := 27) hX dX1_init_27 rfl 0 rfl ?_
  refine N_sipush (pc := 28) (v := (nI 128)) hX dX1_init_28 (by decide +kernel) ?_
  refine N_newZ (pc := 31) (N := 128) hX hR (lw_mem 128 (by decide +kernel) (by decide +kernel)) dX1_init_31 (by decide +kernel) (by decide +kernel) (Nat.le_of_ble_eq_true rfl) (Nat.le_of_ble_eq_true rfl) (Nat.le_of_ble_eq_true rfl) (fun q31 => ?_)
  refine Nw.ws (ws' := [(h0, .inr (1, [.ref q6, .ref q13, .ref q22, .null, .null, .null, .int 0, .int 0, .int 0, .int 0, .int 0])), (q6, .inl (Ncs X 0, 4, .inl (fun _ => 0))), (q13, .inl (Ncs X 0, 4, .inl (fun _ => 0))), (q22, .inl (Ncs X 0, 128, .inl (fun _ => 0))), (q31, .inl (Ncs X 1, 128, .inl (fun _ => 0)))]) rfl ?_
  refine N_putF (pc := 33) (ty := .array .boolean) (fs2 := [.ref q6, .ref q13, .ref q22, .ref q31, .null, .null, .int 0, .int 0, .int 0, .int 0, .int 0]) hX hI fX1_21 (fun C T N h => by cases h; exact ⟨by decide +kernel, by decide +kernel, by decide +kernel⟩) (fun C T N h => by cases h; exact (lw_mem 100 (by decide +kernel) (by decide +kernel))) rfl rfl (Nat.le_of_ble_eq_true rfl) rfl dX1_init_33 ?_
  refine N_aload (pc := 36) hX dX1_init_36 rfl 0 rfl ?_
  refine N_sipush (pc := 37) (v := (nI 128)) hX dX1_init_37 (by decide +kernel) ?_
  refine N_newI (pc := 40) (N := 128) hX hR (lw_mem 47 (by decide +kernel) (by decide +kernel)) dX1_init_40 (by decide +kernel) (by decide +kernel) (Nat.le_of_ble_eq_true rfl) (Nat.le_of_ble_eq_true rfl) (Nat.le_of_ble_eq_true rfl) (fun q40 => ?_)
  refine Nw.ws (ws' := [(h0, .inr (1, [.ref q6, .ref q13, .ref q22, .ref q31, .null, .null, .int 0, .int 0, .int 0, .int 0, .int 0])), (q6, .inl (Ncs X 0, 4, .inl (fun _ => 0))), (q13, .inl (Ncs X 0, 4, .inl (fun _ => 0))), (q22, .inl (Ncs X 0, 128, .inl (fun _ => 0))), (q31, .inl (Ncs X 1, 128, .inl (fun _ => 0))), (q40, .inl (Ncs X 0, 128, .inl (fun _ => 0)))]) rfl ?_
  refine N_putF (pc := 42) (ty := .array .int) (fs2 := [.ref q6, .ref q13, .ref q22, .ref q31, .ref q40, .null, .int 0, .int 0, .int 0, .int 0, .int 0]) hX hI fX1_25 (fun C T N h => by cases h; exact ⟨by decide +kernel, by decide +kernel, by decide +kernel⟩) (fun C T N h => by cases h; exact (lw_mem 101 (by decide +kernel) (by decide +kernel))) rfl rfl (Nat.le_of_ble_eq_true rfl) rfl dX1_init_42 ?_
  refine N_aload (pc := 45) hX dX1_init_45 rfl 0 rfl ?_
  refine N_iconst (pc := 46) (v := (nI 5)) hX dX1_init_46 (by decide +kernel) ?_
  refine N_newI (pc := 47) (N := 5) hX hR (lw_mem 47 (by decide +kernel) (by decide +kernel)) dX1_init_47 (by decide +kernel) (by decide +kernel) (Nat.le_of_ble_eq_true rfl) (Nat.le_of_ble_eq_true rfl) (Nat.le_of_ble_eq_true rfl) (fun q47 => ?_)
  refine Nw.ws (ws' := [(h0, .inr (1, [.ref q6, .ref q13, .ref q22, .ref q31, .ref q40, .null, .int 0, .int 0, .int 0, .int 0, .int 0])), (q6, .inl (Ncs X 0, 4, .inl (fun _ => 0))), (q13, .inl (Ncs X 0, 4, .inl (fun _ => 0))), (q22, .inl (Ncs X 0, 128, .inl (fun _ => 0))), (q31, .inl (Ncs X 1, 128, .inl (fun _ => 0))), (q40, .inl (Ncs X 0, 128, .inl (fun _ => 0))), (q47, .inl (Ncs X 0, 5, .inl (fun _ => 0)))]) rfl ?_
  refine N_putF (pc := 49) (ty := .array .int) (fs2 := [.ref q6, .ref q13, .ref q22, .ref q31, .ref q40, .ref q47, .int 0, .int 0, .int 0, .int 0, .int 0]) hX hI fX1_28 (fun C T N h => by cases h; exact ⟨by decide +kernel, by decide +kernel, by decide +kernel⟩) (fun C T N h => by cases h; exact (lw_mem 102 (by decide +kernel) (by decide +kernel))) rfl rfl (Nat.le_of_ble_eq_true rfl) rfl dX1_init_49 ?_
  refine N_aload (pc := 52) hX dX1_init_52 rfl 0 rfl ?_
  refine N_iconst (pc := 53) (v := (-1)) hX dX1_init_53 (by decide +kernel) ?_
  refine N_puti (pc := 54) (fs2 := [.ref q6, .ref q13, .ref q22, .ref q31, .ref q40, .ref q47, .int 0, .int (-1), .int 0, .int 0, .int 0]) hX fX1_31 gi1_7 (Nat.le_of_ble_eq_true rfl) rfl dX1_init_54 ?_
  exact N_ret (pc := 57) hX hr (Nat.eq_of_beq_eq_true rfl) (Nat.eq_of_beq_eq_true rfl) dX1_init_57 ⟨q6, q13, q22, q31, q40, q47, rfl⟩
/-- what stands behind the constructor of BuyAsAsked$Sets -/
def kp_X2 (cs : Nat → ClassId) (h0 : Nat) (w : va_W) : Prop := ∃ (q7 : Nat) (q15 : Nat) (q23 : Nat), w = [(h0, .inr (2, [.ref q7, .ref q15, .ref q23, .int 0, .int 0, .int 0, .int 0, .int 0, .int 0])), (q7, .inl (cs 0, 10, .inl (fun _ => 0))), (q15, .inl (cs 0, 10, .inl (fun _ => 0))), (q23, .inl (cs 0, 12, .inl (fun _ => 0)))]
set_option maxRecDepth 100000 in
set_option maxHeartbeats 4000000 in
theorem k_X2 : Kc yX2_init cX2_init 1 1 3 32 2 [.null, .null, .null, .int 0, .int 0, .int 0, .int 0, .int 0, .int 0] kp_X2 := by
  refine Kc.intro (by decide +kernel) rfl (by decide) ?_
  intro X h0 hX hI hR hr
  refine N_aload (pc := 0) hX dX2_init_0 rfl 0 rfl ?_
  refine N_objInit (pc := 1) hX hR (by decide) (lw_mem 53 (by decide +kernel) (by decide +kernel)) (lw_mem 27 (by decide +kernel) (by decide +kernel)) (lw_mem 28 (by decide +kernel) (by decide +kernel)) dX2_init_1 ?_
  refine N_aload (pc := 4) hX dX2_init_4 rfl 0 rfl ?_
  refine N_bipush (pc := 5) (v := (nI 10)) hX dX2_init_5 (by decide +kernel) ?_
  refine N_newI (pc := 7) (N := 10) hX hR (lw_mem 47 (by decide +kernel) (by decide +kernel)) dX2_init_7 (by decide +kernel) (by decide +kernel) (Nat.le_of_ble_eq_true rfl) (Nat.le_of_ble_eq_true rfl) (Nat.le_of_ble_eq_true rfl) (fun q7 => ?_)
  refine Nw.ws (ws' := [(h0, .inr (2, [.null, .null, .null, .int 0, .int 0, .int 0, .int 0, .int 0, .int 0])), (q7, .inl (Ncs X 0, 10, .inl (fun _ => 0)))]) rfl ?_
  refine N_putF (pc := 9) (ty := .array .int) (fs2 := [.ref q7, .null, .null, .int 0, .int 0, .int 0, .int 0, .int 0, .int 0]) hX hI fX2_9 (fun C T N h => by cases h; exact ⟨by decide +kernel, by decide +kernel, by decide +kernel⟩) (fun C T N h => by cases h; exact (lw_mem 54 (by decide +kernel) (by decide +kernel))) rfl rfl (Nat.le_of_ble_eq_true rfl) rfl dX2_init_9 ?_
  refine N_aload (pc := 12) hX dX2_init_12 rfl 0 rfl ?_
  refine N_bipush (pc := 13) (v := (nI 10)) hX dX2_init_13 (by decide +kernel) ?_
  refine N_newI (pc := 15) (N := 10) hX hR (lw_mem 47 (by decide +kernel) (by decide +kernel)) dX2_init_15 (by decide +kernel) (by decide +kernel) (Nat.le_of_ble_eq_true rfl) (Nat.le_of_ble_eq_true rfl) (Nat.le_of_ble_eq_true rfl) (fun q15 => ?_)
  refine Nw.ws (ws' := [(h0, .inr (2, [.ref q7, .null, .null, .int 0, .int 0, .int 0, .int 0, .int 0, .int 0])), (q7, .inl (Ncs X 0, 10, .inl (fun _ => 0))), (q15, .inl (Ncs X 0, 10, .inl (fun _ => 0)))]) rfl ?_
  refine N_putF (pc := 17) (ty := .array .int) (fs2 := [.ref q7, .ref q15, .null, .int 0, .int 0, .int 0, .int 0, .int 0, .int 0]) hX hI fX2_15 (fun C T N h => by cases h; exact ⟨by decide +kernel, by decide +kernel, by decide +kernel⟩) (fun C T N h => by cases h; exact (lw_mem 57 (by decide +kernel) (by decide +kernel))) rfl rfl (Nat.le_of_ble_eq_true rfl) rfl dX2_init_17 ?_
  refine N_aload (pc := 20) hX dX2_init_20 rfl 0 rfl ?_
  refine N_bipush (pc := 21) (v := (nI 12)) hX dX2_init_21 (by decide +kernel) ?_
  refine N_newI (pc := 23) (N := 12) hX hR (lw_mem 47 (by decide +kernel) (by decide +kernel)) dX2_init_23 (by decide +kernel) (by decide +kernel) (Nat.le_of_ble_eq_true rfl) (Nat.le_of_ble_eq_true rfl) (Nat.le_of_ble_eq_true rfl) (fun q23 => ?_)
  refine Nw.ws (ws' := [(h0, .inr (2, [.ref q7, .ref q15, .null, .int 0, .int 0, .int 0, .int 0, .int 0, .int 0])), (q7, .inl (Ncs X 0, 10, .inl (fun _ => 0))), (q15, .inl (Ncs X 0, 10, .inl (fun _ => 0))), (q23, .inl (Ncs X 0, 12, .inl (fun _ => 0)))]) rfl ?_
  refine N_putF (pc := 25) (ty := .array .int) (fs2 := [.ref q7, .ref q15, .ref q23, .int 0, .int 0, .int 0, .int 0, .int 0, .int 0]) hX hI fX2_18 (fun C T N h => by cases h; exact ⟨by decide +kernel, by decide +kernel, by decide +kernel⟩) (fun C T N h => by cases h; exact (lw_mem 60 (by decide +kernel) (by decide +kernel))) rfl rfl (Nat.le_of_ble_eq_true rfl) rfl dX2_init_25 ?_
  exact N_ret (pc := 28) hX hr (Nat.eq_of_beq_eq_true rfl) (Nat.eq_of_beq_eq_true rfl) dX2_init_28 ⟨q7, q15, q23, rfl⟩
def lnf (k : Nat) : Nat → Int32 := fun j => if j < k then (-1) else 0
theorem lnf_s (k : Nat) : upd (lnf k) k (-1) = lnf (k + 1) := by
  funext j
  simp only [upd, lnf]
  by_cases h : j = k
  · rw [if_pos h, if_pos (by omega)]
  · rw [if_neg h]
    by_cases h2 : j < k
    · rw [if_pos h2, if_pos (by omega)]
    · rw [if_neg h2, if_neg (by omega)]
theorem lnf_0 : (fun _ => 0) = lnf 0 := by
  funext j
  simp [lnf]
set_option maxRecDepth 100000 in
set_option maxHeartbeats 4000000 in
theorem l_X3 {X : NC} {C S h0 : Nat} (hX : Nok X RX3 cX3_init 2) (b : Nat) (wr : va_W) (v : Value) (hg : ∀ st : List Value, ∀ {f : Nat → Int32} {k : Nat}, Nw X 2 C S 44 [(1, .int (nI k)), (0, .ref h0)] (v :: st) (wr ++ [(b, .inl (Ncs X 0, 8, .inl f))]) → Nw X 2 C S 41 [(1, .int (nI k)), (0, .ref h0)] (.ref h0 :: st) (wr ++ [(b, .inl (Ncs X 0, 8, .inl f))])) (hv : v = .ref b) (kk : Nw X 2 C S 53 [(1, .int (nI 8)), (0, .ref h0)] [] (wr ++ [(b, .inl (Ncs X 0, 8, .inl (lnf 8)))])) : ∀ (n k : Nat), n + k = 8 → Nw X 2 C S 34 [(1, .int (nI k)), (0, .ref h0)] [] (wr ++ [(b, .inl (Ncs X 0, 8, .inl (lnf k)))]) := by
  subst hv
  intro n
  induction n with
  | zero =>
    intro k hk
    obtain rfl : k = 8 := by omega
    refine N_iload (pc := 34) hX dX3_init_34 rfl 0 rfl ?_
    refine N_bipush (pc := 35) (v := (nI 8)) hX dX3_init_35 (by decide +kernel) ?_
    exact N_icmp_ge (pc := 37) (tgt := 53) hX dX3_init_37 (by decide) (fun _ => kk) (fun h => absurd ((nI_leI (by decide) (by decide)).mpr (Nat.le_refl 8)) h)
  | succ n ih =>
    intro k hk
    refine N_iload (pc := 34) hX dX3_init_34 rfl 0 rfl ?_
    refine N_bipush (pc := 35) (v := (nI 8)) hX dX3_init_35 (by decide +kernel) ?_
    refine N_icmp_ge (pc := 37) (tgt := 53) hX dX3_init_37 (by decide) (fun h => absurd ((nI_leI (by decide) (by omega)).mp h) (by omega)) (fun _ => ?_)
    refine N_aload (pc := 40) hX dX3_init_40 rfl 1 rfl ?_
    refine hg _ ?_
    refine N_iload (pc := 44) hX dX3_init_44 rfl 0 rfl ?_
    refine N_iconst (pc := 45) (v := (-1)) hX dX3_init_45 (by decide +kernel) ?_
    refine N_iast (pc := 46) (j := k) (n := 8) (f := lnf k) (wr := wr) hX dX3_init_46 rfl (by omega) (by decide) rfl ?_
    rw [lnf_s]
    refine N_iinc (pc := 47) (i := 1) (v := nI (k + 1)) (ls' := [(1, .int (nI (k + 1))), (0, .ref h0)]) hX dX3_init_47 0 rfl (iinc1 _) (by decide) rfl ?_
    refine N_goto (pc := 50) (tgt := 34) hX dX3_init_50 (by decide) ?_
    exact ih (k + 1) (by omega)
/-- what stands behind the constructor of BuyAsAsked$Sheets -/
def kp_X3 (cs : Nat → ClassId) (h0 : Nat) (w : va_W) : Prop := ∃ (q9 : Nat) (r9 : Nat → Nat) (q19 : Nat) (q27 : Nat), w = [(h0, .inr (3, [.ref q9, .ref q19, .ref q27])), (q9, outr cs r9 8), (r9 0, .inl (cs 0, 60, .inl (fun _ => 0))), (r9 1, .inl (cs 0, 60, .inl (fun _ => 0))), (r9 2, .inl (cs 0, 60, .inl (fun _ => 0))), (r9 3, .inl (cs 0, 60, .inl (fun _ => 0))), (r9 4, .inl (cs 0, 60, .inl (fun _ => 0))), (r9 5, .inl (cs 0, 60, .inl (fun _ => 0))), (r9 6, .inl (cs 0, 60, .inl (fun _ => 0))), (r9 7, .inl (cs 0, 60, .inl (fun _ => 0))), (q19, .inl (cs 0, 8, .inl (fun _ => 0))), (q27, .inl (cs 0, 8, .inl (lnf 8)))]
set_option maxRecDepth 100000 in
set_option maxHeartbeats 4000000 in
theorem k_X3 : Kc yX3_init cX3_init 2 1 11 504 3 [.null, .null, .null] kp_X3 := by
  refine Kc.intro (by decide +kernel) rfl (by decide) ?_
  intro X h0 hX hI hR hr
  refine N_aload (pc := 0) hX dX3_init_0 rfl 0 rfl ?_
  refine N_objInit (pc := 1) hX hR (by decide) (lw_mem 34 (by decide +kernel) (by decide +kernel)) (lw_mem 27 (by decide +kernel) (by decide +kernel)) (lw_mem 28 (by decide +kernel) (by decide +kernel)) dX3_init_1 ?_
  refine N_aload (pc := 4) hX dX3_init_4 rfl 0 rfl ?_
  refine N_bipush (pc := 5) (v := (nI 8)) hX dX3_init_5 (by decide +kernel) ?_
  refine N_bipush (pc := 7) (v := (nI 60)) hX dX3_init_7 (by decide +kernel) ?_
  refine N_newR (pc := 9) (N := 8) (K := 60) hX hR (lw_mem 35 (by decide +kernel) (by decide +kernel)) (lw_mem 47 (by decide +kernel) (by decide +kernel)) dX3_init_9 (by decide +kernel) (by decide +kernel) (by decide +kernel) (by decide +kernel) (Nat.le_of_ble_eq_true rfl) (Nat.le_of_ble_eq_true rfl) (Nat.le_of_ble_eq_true rfl) (Nat.le_of_ble_eq_true rfl) (Nat.le_of_ble_eq_true rfl) (fun q9 r9 => ?_)
  refine Nw.ws (ws' := [(h0, .inr (3, [.null, .null, .null])), (q9, outr (Ncs X) r9 8), (r9 0, .inl (Ncs X 0, 60, .inl (fun _ => 0))), (r9 1, .inl (Ncs X 0, 60, .inl (fun _ => 0))), (r9 2, .inl (Ncs X 0, 60, .inl (fun _ => 0))), (r9 3, .inl (Ncs X 0, 60, .inl (fun _ => 0))), (r9 4, .inl (Ncs X 0, 60, .inl (fun _ => 0))), (r9 5, .inl (Ncs X 0, 60, .inl (fun _ => 0))), (r9 6, .inl (Ncs X 0, 60, .inl (fun _ => 0))), (r9 7, .inl (Ncs X 0, 60, .inl (fun _ => 0)))]) rfl ?_
  refine N_putF (pc := 13) (ty := .array (.array .int)) (fs2 := [.ref q9, .null, .null]) hX hI fX3_11 (fun C T N h => by cases h; exact ⟨by decide +kernel, by decide +kernel, by decide +kernel⟩) (fun C T N h => by cases h; exact (lw_mem 37 (by decide +kernel) (by decide +kernel))) rfl rfl (Nat.le_of_ble_eq_true rfl) rfl dX3_init_13 ?_
  refine N_aload (pc := 16) hX dX3_init_16 rfl 0 rfl ?_
  refine N_bipush (pc := 17) (v := (nI 8)) hX dX3_init_17 (by decide +kernel) ?_
  refine N_newI (pc := 19) (N := 8) hX hR (lw_mem 47 (by decide +kernel) (by decide +kernel)) dX3_init_19 (by decide +kernel) (by decide +kernel) (Nat.le_of_ble_eq_true rfl) (Nat.le_of_ble_eq_true rfl) (Nat.le_of_ble_eq_true rfl) (fun q19 => ?_)
  refine Nw.ws (ws' := [(h0, .inr (3, [.ref q9, .null, .null])), (q9, outr (Ncs X) r9 8), (r9 0, .inl (Ncs X 0, 60, .inl (fun _ => 0))), (r9 1, .inl (Ncs X 0, 60, .inl (fun _ => 0))), (r9 2, .inl (Ncs X 0, 60, .inl (fun _ => 0))), (r9 3, .inl (Ncs X 0, 60, .inl (fun _ => 0))), (r9 4, .inl (Ncs X 0, 60, .inl (fun _ => 0))), (r9 5, .inl (Ncs X 0, 60, .inl (fun _ => 0))), (r9 6, .inl (Ncs X 0, 60, .inl (fun _ => 0))), (r9 7, .inl (Ncs X 0, 60, .inl (fun _ => 0))), (q19, .inl (Ncs X 0, 8, .inl (fun _ => 0)))]) rfl ?_
  refine N_putF (pc := 21) (ty := .array .int) (fs2 := [.ref q9, .ref q19, .null]) hX hI fX3_16 (fun C T N h => by cases h; exact ⟨by decide +kernel, by decide +kernel, by decide +kernel⟩) (fun C T N h => by cases h; exact (lw_mem 38 (by decide +kernel) (by decide +kernel))) rfl rfl (Nat.le_of_ble_eq_true rfl) rfl dX3_init_21 ?_
  refine N_aload (pc := 24) hX dX3_init_24 rfl 0 rfl ?_
  refine N_bipush (pc := 25) (v := (nI 8)) hX dX3_init_25 (by decide +kernel) ?_
  refine N_newI (pc := 27) (N := 8) hX hR (lw_mem 47 (by decide +kernel) (by decide +kernel)) dX3_init_27 (by decide +kernel) (by decide +kernel) (Nat.le_of_ble_eq_true rfl) (Nat.le_of_ble_eq_true rfl) (Nat.le_of_ble_eq_true rfl) (fun q27 => ?_)
  refine Nw.ws (ws' := [(h0, .inr (3, [.ref q9, .ref q19, .null])), (q9, outr (Ncs X) r9 8), (r9 0, .inl (Ncs X 0, 60, .inl (fun _ => 0))), (r9 1, .inl (Ncs X 0, 60, .inl (fun _ => 0))), (r9 2, .inl (Ncs X 0, 60, .inl (fun _ => 0))), (r9 3, .inl (Ncs X 0, 60, .inl (fun _ => 0))), (r9 4, .inl (Ncs X 0, 60, .inl (fun _ => 0))), (r9 5, .inl (Ncs X 0, 60, .inl (fun _ => 0))), (r9 6, .inl (Ncs X 0, 60, .inl (fun _ => 0))), (r9 7, .inl (Ncs X 0, 60, .inl (fun _ => 0))), (q19, .inl (Ncs X 0, 8, .inl (fun _ => 0))), (q27, .inl (Ncs X 0, 8, .inl (fun _ => 0)))]) rfl ?_
  refine N_putF (pc := 29) (ty := .array .int) (fs2 := [.ref q9, .ref q19, .ref q27]) hX hI fX3_20 (fun C T N h => by cases h; exact ⟨by decide +kernel, by decide +kernel, by decide +kernel⟩) (fun C T N h => by cases h; exact (lw_mem 39 (by decide +kernel) (by decide +kernel))) rfl rfl (Nat.le_of_ble_eq_true rfl) rfl dX3_init_29 ?_
  refine N_iconst (pc := 32) (v := (nI 0)) hX dX3_init_32 (by decide +kernel) ?_
  refine N_istore (pc := 33) (i := 1) (ls' := [(1, .int (nI 0)), (0, .ref h0)]) hX dX3_init_33 rfl (by decide) rfl ?_
  refine Nw.ws (ws' := [(h0, .inr (3, [.ref q9, .ref q19, .ref q27])), (q9, outr (Ncs X) r9 8), (r9 0, .inl (Ncs X 0, 60, .inl (fun _ => 0))), (r9 1, .inl (Ncs X 0, 60, .inl (fun _ => 0))), (r9 2, .inl (Ncs X 0, 60, .inl (fun _ => 0))), (r9 3, .inl (Ncs X 0, 60, .inl (fun _ => 0))), (r9 4, .inl (Ncs X 0, 60, .inl (fun _ => 0))), (r9 5, .inl (Ncs X 0, 60, .inl (fun _ => 0))), (r9 6, .inl (Ncs X 0, 60, .inl (fun _ => 0))), (r9 7, .inl (Ncs X 0, 60, .inl (fun _ => 0))), (q19, .inl (Ncs X 0, 8, .inl (fun _ => 0)))] ++ [(q27, .inl (Ncs X 0, 8, .inl (lnf 0)))]) (by rw [← lnf_0]; rfl) ?_
  refine l_X3 hX q27 [(h0, .inr (3, [.ref q9, .ref q19, .ref q27])), (q9, outr (Ncs X) r9 8), (r9 0, .inl (Ncs X 0, 60, .inl (fun _ => 0))), (r9 1, .inl (Ncs X 0, 60, .inl (fun _ => 0))), (r9 2, .inl (Ncs X 0, 60, .inl (fun _ => 0))), (r9 3, .inl (Ncs X 0, 60, .inl (fun _ => 0))), (r9 4, .inl (Ncs X 0, 60, .inl (fun _ => 0))), (r9 5, .inl (Ncs X 0, 60, .inl (fun _ => 0))), (r9 6, .inl (Ncs X 0, 60, .inl (fun _ => 0))), (r9 7, .inl (Ncs X 0, 60, .inl (fun _ => 0))), (q19, .inl (Ncs X 0, 8, .inl (fun _ => 0)))] (.ref q27) (fun st _ _ kk => N_getr (pc := 41) hX fX3_20 dX3_init_41 rfl kk) rfl ?_ 8 0 rfl
  refine Nw.ws (ws' := [(h0, .inr (3, [.ref q9, .ref q19, .ref q27])), (q9, outr (Ncs X) r9 8), (r9 0, .inl (Ncs X 0, 60, .inl (fun _ => 0))), (r9 1, .inl (Ncs X 0, 60, .inl (fun _ => 0))), (r9 2, .inl (Ncs X 0, 60, .inl (fun _ => 0))), (r9 3, .inl (Ncs X 0, 60, .inl (fun _ => 0))), (r9 4, .inl (Ncs X 0, 60, .inl (fun _ => 0))), (r9 5, .inl (Ncs X 0, 60, .inl (fun _ => 0))), (r9 6, .inl (Ncs X 0, 60, .inl (fun _ => 0))), (r9 7, .inl (Ncs X 0, 60, .inl (fun _ => 0))), (q19, .inl (Ncs X 0, 8, .inl (fun _ => 0))), (q27, .inl (Ncs X 0, 8, .inl (lnf 8)))]) rfl ?_
  exact N_ret (pc := 53) hX hr (Nat.eq_of_beq_eq_true rfl) (Nat.eq_of_beq_eq_true rfl) dX3_init_53 ⟨q9, r9, q19, q27, rfl⟩
/-- what stands behind the constructor of BuyAsAsked$Sites -/
def kp_X4 (cs : Nat → ClassId) (h0 : Nat) (w : va_W) : Prop := ∃ (q9 : Nat) (r9 : Nat → Nat) (q19 : Nat) (q27 : Nat) (q37 : Nat) (r37 : Nat → Nat) (q47 : Nat), w = [(h0, .inr (4, [.ref q9, .ref q19, .ref q27, .ref q37, .ref q47, .int 0, .int 0, .int 0, .int 0, .int 0, .int 0, .int 0])), (q9, outr cs r9 10), (r9 0, .inl (cs 0, 10, .inl (fun _ => 0))), (r9 1, .inl (cs 0, 10, .inl (fun _ => 0))), (r9 2, .inl (cs 0, 10, .inl (fun _ => 0))), (r9 3, .inl (cs 0, 10, .inl (fun _ => 0))), (r9 4, .inl (cs 0, 10, .inl (fun _ => 0))), (r9 5, .inl (cs 0, 10, .inl (fun _ => 0))), (r9 6, .inl (cs 0, 10, .inl (fun _ => 0))), (r9 7, .inl (cs 0, 10, .inl (fun _ => 0))), (r9 8, .inl (cs 0, 10, .inl (fun _ => 0))), (r9 9, .inl (cs 0, 10, .inl (fun _ => 0))), (q19, .inl (cs 0, 10, .inl (fun _ => 0))), (q27, .inl (cs 0, 10, .inl (fun _ => 0))), (q37, outr cs r37 10), (r37 0, .inl (cs 0, 10, .inl (fun _ => 0))), (r37 1, .inl (cs 0, 10, .inl (fun _ => 0))), (r37 2, .inl (cs 0, 10, .inl (fun _ => 0))), (r37 3, .inl (cs 0, 10, .inl (fun _ => 0))), (r37 4, .inl (cs 0, 10, .inl (fun _ => 0))), (r37 5, .inl (cs 0, 10, .inl (fun _ => 0))), (r37 6, .inl (cs 0, 10, .inl (fun _ => 0))), (r37 7, .inl (cs 0, 10, .inl (fun _ => 0))), (r37 8, .inl (cs 0, 10, .inl (fun _ => 0))), (r37 9, .inl (cs 0, 10, .inl (fun _ => 0))), (q47, .inl (cs 0, 10, .inl (fun _ => 0)))]
set_option maxRecDepth 100000 in
set_option maxHeartbeats 4000000 in
theorem k_X4 : Kc yX4_init cX4_init 1 1 25 250 4 [.null, .null, .null, .null, .null, .int 0, .int 0, .int 0, .int 0, .int 0, .int 0, .int 0] kp_X4 := by
  refine Kc.intro (by decide +kernel) rfl (by decide) ?_
  intro X h0 hX hI hR hr
  refine N_aload (pc := 0) hX dX4_init_0 rfl 0 rfl ?_
  refine N_objInit (pc := 1) hX hR (by decide) (lw_mem 134 (by decide +kernel) (by decide +kernel)) (lw_mem 27 (by decide +kernel) (by decide +kernel)) (lw_mem 28 (by decide +kernel) (by decide +kernel)) dX4_init_1 ?_
  refine N_aload (pc := 4) hX dX4_init_4 rfl 0 rfl ?_
  refine N_bipush (pc := 5) (v := (nI 10)) hX dX4_init_5 (by decide +kernel) ?_
  refine N_bipush (pc := 7) (v := (nI 10)) hX dX4_init_7 (by decide +kernel) ?_
  refine N_newR (pc := 9) (N := 10) (K := 10) hX hR (lw_mem 135 (by decide +kernel) (by decide +kernel)) (lw_mem 47 (by decide +kernel) (by decide +kernel)) dX4_init_9 (by decide +kernel) (by decide +kernel) (by decide +kernel) (by decide +kernel) (Nat.le_of_ble_eq_true rfl) (Nat.le_of_ble_eq_true rfl) (Nat.le_of_ble_eq_true rfl) (Nat.le_of_ble_eq_true rfl) (Nat.le_of_ble_eq_true rfl) (fun q9 r9 => ?_)
  refine Nw.ws (ws' := [(h0, .inr (4, [.null, .null, .null, .null, .null, .int 0, .int 0, .int 0, .int 0, .int 0, .int 0, .int 0])), (q9, outr (Ncs X) r9 10), (r9 0, .inl (Ncs X 0, 10, .inl (fun _ => 0))), (r9 1, .inl (Ncs X 0, 10, .inl (fun _ => 0))), (r9 2, .inl (Ncs X 0, 10, .inl (fun _ => 0))), (r9 3, .inl (Ncs X 0, 10, .inl (fun _ => 0))), (r9 4, .inl (Ncs X 0, 10, .inl (fun _ => 0))), (r9 5, .inl (Ncs X 0, 10, .inl (fun _ => 0))), (r9 6, .inl (Ncs X 0, 10, .inl (fun _ => 0))), (r9 7, .inl (Ncs X 0, 10, .inl (fun _ => 0))), (r9 8, .inl (Ncs X 0, 10, .inl (fun _ => 0))), (r9 9, .inl (Ncs X 0, 10, .inl (fun _ => 0)))]) rfl ?_
  refine N_putF (pc := 13) (ty := .array (.array .int)) (fs2 := [.ref q9, .null, .null, .null, .null, .int 0, .int 0, .int 0, .int 0, .int 0, .int 0, .int 0]) hX hI fX4_11 (fun C T N h => by cases h; exact ⟨by decide +kernel, by decide +kernel, by decide +kernel⟩) (fun C T N h => by cases h; exact (lw_mem 136 (by decide +kernel) (by decide +kernel))) rfl rfl (Nat.le_of_ble_eq_true rfl) rfl dX4_init_13 ?_
  refine N_aload (pc := 16) hX dX4_init_16 rfl 0 rfl ?_
  refine N_bipush (pc := 17) (v := (nI 10)) hX dX4_init_17 (by decide +kernel) ?_
  refine N_newI (pc := 19) (N := 10) hX hR (lw_mem 47 (by decide +kernel) (by decide +kernel)) dX4_init_19 (by decide +kernel) (by decide +kernel) (Nat.le_of_ble_eq_true rfl) (Nat.le_of_ble_eq_true rfl) (Nat.le_of_ble_eq_true rfl) (fun q19 => ?_)
  refine Nw.ws (ws' := [(h0, .inr (4, [.ref q9, .null, .null, .null, .null, .int 0, .int 0, .int 0, .int 0, .int 0, .int 0, .int 0])), (q9, outr (Ncs X) r9 10), (r9 0, .inl (Ncs X 0, 10, .inl (fun _ => 0))), (r9 1, .inl (Ncs X 0, 10, .inl (fun _ => 0))), (r9 2, .inl (Ncs X 0, 10, .inl (fun _ => 0))), (r9 3, .inl (Ncs X 0, 10, .inl (fun _ => 0))), (r9 4, .inl (Ncs X 0, 10, .inl (fun _ => 0))), (r9 5, .inl (Ncs X 0, 10, .inl (fun _ => 0))), (r9 6, .inl (Ncs X 0, 10, .inl (fun _ => 0))), (r9 7, .inl (Ncs X 0, 10, .inl (fun _ => 0))), (r9 8, .inl (Ncs X 0, 10, .inl (fun _ => 0))), (r9 9, .inl (Ncs X 0, 10, .inl (fun _ => 0))), (q19, .inl (Ncs X 0, 10, .inl (fun _ => 0)))]) rfl ?_
  refine N_putF (pc := 21) (ty := .array .int) (fs2 := [.ref q9, .ref q19, .null, .null, .null, .int 0, .int 0, .int 0, .int 0, .int 0, .int 0, .int 0]) hX hI fX4_16 (fun C T N h => by cases h; exact ⟨by decide +kernel, by decide +kernel, by decide +kernel⟩) (fun C T N h => by cases h; exact (lw_mem 137 (by decide +kernel) (by decide +kernel))) rfl rfl (Nat.le_of_ble_eq_true rfl) rfl dX4_init_21 ?_
  refine N_aload (pc := 24) hX dX4_init_24 rfl 0 rfl ?_
  refine N_bipush (pc := 25) (v := (nI 10)) hX dX4_init_25 (by decide +kernel) ?_
  refine N_newI (pc := 27) (N := 10) hX hR (lw_mem 47 (by decide +kernel) (by decide +kernel)) dX4_init_27 (by decide +kernel) (by decide +kernel) (Nat.le_of_ble_eq_true rfl) (Nat.le_of_ble_eq_true rfl) (Nat.le_of_ble_eq_true rfl) (fun q27 => ?_)
  refine Nw.ws (ws' := [(h0, .inr (4, [.ref q9, .ref q19, .null, .null, .null, .int 0, .int 0, .int 0, .int 0, .int 0, .int 0, .int 0])), (q9, outr (Ncs X) r9 10), (r9 0, .inl (Ncs X 0, 10, .inl (fun _ => 0))), (r9 1, .inl (Ncs X 0, 10, .inl (fun _ => 0))), (r9 2, .inl (Ncs X 0, 10, .inl (fun _ => 0))), (r9 3, .inl (Ncs X 0, 10, .inl (fun _ => 0))), (r9 4, .inl (Ncs X 0, 10, .inl (fun _ => 0))), (r9 5, .inl (Ncs X 0, 10, .inl (fun _ => 0))), (r9 6, .inl (Ncs X 0, 10, .inl (fun _ => 0))), (r9 7, .inl (Ncs X 0, 10, .inl (fun _ => 0))), (r9 8, .inl (Ncs X 0, 10, .inl (fun _ => 0))), (r9 9, .inl (Ncs X 0, 10, .inl (fun _ => 0))), (q19, .inl (Ncs X 0, 10, .inl (fun _ => 0))), (q27, .inl (Ncs X 0, 10, .inl (fun _ => 0)))]) rfl ?_
  refine N_putF (pc := 29) (ty := .array .int) (fs2 := [.ref q9, .ref q19, .ref q27, .null, .null, .int 0, .int 0, .int 0, .int 0, .int 0, .int 0, .int 0]) hX hI fX4_20 (fun C T N h => by cases h; exact ⟨by decide +kernel, by decide +kernel, by decide +kernel⟩) (fun C T N h => by cases h; exact (lw_mem 138 (by decide +kernel) (by decide +kernel))) rfl rfl (Nat.le_of_ble_eq_true rfl) rfl dX4_init_29 ?_
  refine N_aload (pc := 32) hX dX4_init_32 rfl 0 rfl ?_
  refine N_bipush (pc := 33) (v := (nI 10)) hX dX4_init_33 (by decide +kernel) ?_
  refine N_bipush (pc := 35) (v := (nI 10)) hX dX4_init_35 (by decide +kernel) ?_
  refine N_newR (pc := 37) (N := 10) (K := 10) hX hR (lw_mem 135 (by decide +kernel) (by decide +kernel)) (lw_mem 47 (by decide +kernel) (by decide +kernel)) dX4_init_37 (by decide +kernel) (by decide +kernel) (by decide +kernel) (by decide +kernel) (Nat.le_of_ble_eq_true rfl) (Nat.le_of_ble_eq_true rfl) (Nat.le_of_ble_eq_true rfl) (Nat.le_of_ble_eq_true rfl) (Nat.le_of_ble_eq_true rfl) (fun q37 r37 => ?_)
  refine Nw.ws (ws' := [(h0, .inr (4, [.ref q9, .ref q19, .ref q27, .null, .null, .int 0, .int 0, .int 0, .int 0, .int 0, .int 0, .int 0])), (q9, outr (Ncs X) r9 10), (r9 0, .inl (Ncs X 0, 10, .inl (fun _ => 0))), (r9 1, .inl (Ncs X 0, 10, .inl (fun _ => 0))), (r9 2, .inl (Ncs X 0, 10, .inl (fun _ => 0))), (r9 3, .inl (Ncs X 0, 10, .inl (fun _ => 0))), (r9 4, .inl (Ncs X 0, 10, .inl (fun _ => 0))), (r9 5, .inl (Ncs X 0, 10, .inl (fun _ => 0))), (r9 6, .inl (Ncs X 0, 10, .inl (fun _ => 0))), (r9 7, .inl (Ncs X 0, 10, .inl (fun _ => 0))), (r9 8, .inl (Ncs X 0, 10, .inl (fun _ => 0))), (r9 9, .inl (Ncs X 0, 10, .inl (fun _ => 0))), (q19, .inl (Ncs X 0, 10, .inl (fun _ => 0))), (q27, .inl (Ncs X 0, 10, .inl (fun _ => 0))), (q37, outr (Ncs X) r37 10), (r37 0, .inl (Ncs X 0, 10, .inl (fun _ => 0))), (r37 1, .inl (Ncs X 0, 10, .inl (fun _ => 0))), (r37 2, .inl (Ncs X 0, 10, .inl (fun _ => 0))), (r37 3, .inl (Ncs X 0, 10, .inl (fun _ => 0))), (r37 4, .inl (Ncs X 0, 10, .inl (fun _ => 0))), (r37 5, .inl (Ncs X 0, 10, .inl (fun _ => 0))), (r37 6, .inl (Ncs X 0, 10, .inl (fun _ => 0))), (r37 7, .inl (Ncs X 0, 10, .inl (fun _ => 0))), (r37 8, .inl (Ncs X 0, 10, .inl (fun _ => 0))), (r37 9, .inl (Ncs X 0, 10, .inl (fun _ => 0)))]) rfl ?_
  refine N_putF (pc := 41) (ty := .array (.array .int)) (fs2 := [.ref q9, .ref q19, .ref q27, .ref q37, .null, .int 0, .int 0, .int 0, .int 0, .int 0, .int 0, .int 0]) hX hI fX4_23 (fun C T N h => by cases h; exact ⟨by decide +kernel, by decide +kernel, by decide +kernel⟩) (fun C T N h => by cases h; exact (lw_mem 139 (by decide +kernel) (by decide +kernel))) rfl rfl (Nat.le_of_ble_eq_true rfl) rfl dX4_init_41 ?_
  refine N_aload (pc := 44) hX dX4_init_44 rfl 0 rfl ?_
  refine N_bipush (pc := 45) (v := (nI 10)) hX dX4_init_45 (by decide +kernel) ?_
  refine N_newI (pc := 47) (N := 10) hX hR (lw_mem 47 (by decide +kernel) (by decide +kernel)) dX4_init_47 (by decide +kernel) (by decide +kernel) (Nat.le_of_ble_eq_true rfl) (Nat.le_of_ble_eq_true rfl) (Nat.le_of_ble_eq_true rfl) (fun q47 => ?_)
  refine Nw.ws (ws' := [(h0, .inr (4, [.ref q9, .ref q19, .ref q27, .ref q37, .null, .int 0, .int 0, .int 0, .int 0, .int 0, .int 0, .int 0])), (q9, outr (Ncs X) r9 10), (r9 0, .inl (Ncs X 0, 10, .inl (fun _ => 0))), (r9 1, .inl (Ncs X 0, 10, .inl (fun _ => 0))), (r9 2, .inl (Ncs X 0, 10, .inl (fun _ => 0))), (r9 3, .inl (Ncs X 0, 10, .inl (fun _ => 0))), (r9 4, .inl (Ncs X 0, 10, .inl (fun _ => 0))), (r9 5, .inl (Ncs X 0, 10, .inl (fun _ => 0))), (r9 6, .inl (Ncs X 0, 10, .inl (fun _ => 0))), (r9 7, .inl (Ncs X 0, 10, .inl (fun _ => 0))), (r9 8, .inl (Ncs X 0, 10, .inl (fun _ => 0))), (r9 9, .inl (Ncs X 0, 10, .inl (fun _ => 0))), (q19, .inl (Ncs X 0, 10, .inl (fun _ => 0))), (q27, .inl (Ncs X 0, 10, .inl (fun _ => 0))), (q37, outr (Ncs X) r37 10), (r37 0, .inl (Ncs X 0, 10, .inl (fun _ => 0))), (r37 1, .inl (Ncs X 0, 10, .inl (fun _ => 0))), (r37 2, .inl (Ncs X 0, 10, .inl (fun _ => 0))), (r37 3, .inl (Ncs X 0, 10, .inl (fun _ => 0))), (r37 4, .inl (Ncs X 0, 10, .inl (fun _ => 0))), (r37 5, .inl (Ncs X 0, 10, .inl (fun _ => 0))), (r37 6, .inl (Ncs X 0, 10, .inl (fun _ => 0))), (r37 7, .inl (Ncs X 0, 10, .inl (fun _ => 0))), (r37 8, .inl (Ncs X 0, 10, .inl (fun _ => 0))), (r37 9, .inl (Ncs X 0, 10, .inl (fun _ => 0))), (q47, .inl (Ncs X 0, 10, .inl (fun _ => 0)))]) rfl ?_
  refine N_putF (pc := 49) (ty := .array .int) (fs2 := [.ref q9, .ref q19, .ref q27, .ref q37, .ref q47, .int 0, .int 0, .int 0, .int 0, .int 0, .int 0, .int 0]) hX hI fX4_26 (fun C T N h => by cases h; exact ⟨by decide +kernel, by decide +kernel, by decide +kernel⟩) (fun C T N h => by cases h; exact (lw_mem 140 (by decide +kernel) (by decide +kernel))) rfl rfl (Nat.le_of_ble_eq_true rfl) rfl dX4_init_49 ?_
  exact N_ret (pc := 52) hX hr (Nat.eq_of_beq_eq_true rfl) (Nat.eq_of_beq_eq_true rfl) dX4_init_52 ⟨q9, r9, q19, q27, q37, r37, q47, rfl⟩
theorem mi5_3 : MthI RX5 9 yX3_init cX3_init 2 := ⟨⟨⟨by decide +kernel, by decide +kernel, by decide +kernel⟩, Nat.le_of_ble_eq_true rfl, (lw_mem 33 (by decide +kernel) (by decide +kernel)), (lw_mem 14 (by decide +kernel) (by decide +kernel)), Or.inl (lw_mem 31 (by decide +kernel) (by decide +kernel))⟩, by decide +kernel, (lw_mem 32 (by decide +kernel) (by decide +kernel)), (lw_mem 31 (by decide +kernel) (by decide +kernel))⟩
theorem mi5_2 : MthI RX5 18 yX2_init cX2_init 1 := ⟨⟨⟨by decide +kernel, by decide +kernel, by decide +kernel⟩, Nat.le_of_ble_eq_true rfl, (lw_mem 52 (by decide +kernel) (by decide +kernel)), (lw_mem 15 (by decide +kernel) (by decide +kernel)), Or.inl (lw_mem 50 (by decide +kernel) (by decide +kernel))⟩, by decide +kernel, (lw_mem 51 (by decide +kernel) (by decide +kernel)), (lw_mem 50 (by decide +kernel) (by decide +kernel))⟩
theorem mi5_1 : MthI RX5 25 yX1_init cX1_init 1 := ⟨⟨⟨by decide +kernel, by decide +kernel, by decide +kernel⟩, Nat.le_of_ble_eq_true rfl, (lw_mem 95 (by decide +kernel) (by decide +kernel)), (lw_mem 16 (by decide +kernel) (by decide +kernel)), Or.inl (lw_mem 93 (by decide +kernel) (by decide +kernel))⟩, by decide +kernel, (lw_mem 94 (by decide +kernel) (by decide +kernel)), (lw_mem 93 (by decide +kernel) (by decide +kernel))⟩
theorem mi5_4 : MthI RX5 32 yX4_init cX4_init 1 := ⟨⟨⟨by decide +kernel, by decide +kernel, by decide +kernel⟩, Nat.le_of_ble_eq_true rfl, (lw_mem 133 (by decide +kernel) (by decide +kernel)), (lw_mem 17 (by decide +kernel) (by decide +kernel)), Or.inl (lw_mem 131 (by decide +kernel) (by decide +kernel))⟩, by decide +kernel, (lw_mem 132 (by decide +kernel) (by decide +kernel)), (lw_mem 131 (by decide +kernel) (by decide +kernel))⟩
theorem mi5_0 : MthI RX5 39 yX0_init cX0_init 1 := ⟨⟨⟨by decide +kernel, by decide +kernel, by decide +kernel⟩, Nat.le_of_ble_eq_true rfl, (lw_mem 172 (by decide +kernel) (by decide +kernel)), (lw_mem 18 (by decide +kernel) (by decide +kernel)), Or.inl (lw_mem 170 (by decide +kernel) (by decide +kernel))⟩, by decide +kernel, (lw_mem 171 (by decide +kernel) (by decide +kernel)), (lw_mem 170 (by decide +kernel) (by decide +kernel))⟩
/-- what stands behind the constructor of BuyAsAsked -/
def kp_X5 (cs : Nat → ClassId) (h0 : Nat) (w : va_W) : Prop := ∃ (q5 : Nat) (q9_9 : Nat) (r9_9 : Nat → Nat) (q19_9 : Nat) (q27_9 : Nat) (q16 : Nat) (q7_20 : Nat) (q15_20 : Nat) (q23_20 : Nat) (q27 : Nat) (q6_31 : Nat) (q13_31 : Nat) (q22_31 : Nat) (q31_31 : Nat) (q40_31 : Nat) (q47_31 : Nat) (q38 : Nat) (q9_42 : Nat) (r9_42 : Nat → Nat) (q19_42 : Nat) (q27_42 : Nat) (q37_42 : Nat) (r37_42 : Nat → Nat) (q47_42 : Nat) (q49 : Nat) (q7_53 : Nat), w = [(h0, .inr (5, [.ref q5, .ref q16, .ref q27, .ref q38, .ref q49, .int (nI 0)])), (q5, .inr (3, [.ref q9_9, .ref q19_9, .ref q27_9])), (q9_9, outr cs r9_9 8), (r9_9 0, .inl (cs 0, 60, .inl (fun _ => 0))), (r9_9 1, .inl (cs 0, 60, .inl (fun _ => 0))), (r9_9 2, .inl (cs 0, 60, .inl (fun _ => 0))), (r9_9 3, .inl (cs 0, 60, .inl (fun _ => 0))), (r9_9 4, .inl (cs 0, 60, .inl (fun _ => 0))), (r9_9 5, .inl (cs 0, 60, .inl (fun _ => 0))), (r9_9 6, .inl (cs 0, 60, .inl (fun _ => 0))), (r9_9 7, .inl (cs 0, 60, .inl (fun _ => 0))), (q19_9, .inl (cs 0, 8, .inl (fun _ => 0))), (q27_9, .inl (cs 0, 8, .inl (lnf 8))), (q16, .inr (2, [.ref q7_20, .ref q15_20, .ref q23_20, .int 0, .int 0, .int 0, .int 0, .int 0, .int 0])), (q7_20, .inl (cs 0, 10, .inl (fun _ => 0))), (q15_20, .inl (cs 0, 10, .inl (fun _ => 0))), (q23_20, .inl (cs 0, 12, .inl (fun _ => 0))), (q27, .inr (1, [.ref q6_31, .ref q13_31, .ref q22_31, .ref q31_31, .ref q40_31, .ref q47_31, .int 0, .int (-1), .int 0, .int 0, .int 0])), (q6_31, .inl (cs 0, 4, .inl (fun _ => 0))), (q13_31, .inl (cs 0, 4, .inl (fun _ => 0))), (q22_31, .inl (cs 0, 128, .inl (fun _ => 0))), (q31_31, .inl (cs 1, 128, .inl (fun _ => 0))), (q40_31, .inl (cs 0, 128, .inl (fun _ => 0))), (q47_31, .inl (cs 0, 5, .inl (fun _ => 0))), (q38, .inr (4, [.ref q9_42, .ref q19_42, .ref q27_42, .ref q37_42, .ref q47_42, .int 0, .int 0, .int 0, .int 0, .int 0, .int 0, .int 0])), (q9_42, outr cs r9_42 10), (r9_42 0, .inl (cs 0, 10, .inl (fun _ => 0))), (r9_42 1, .inl (cs 0, 10, .inl (fun _ => 0))), (r9_42 2, .inl (cs 0, 10, .inl (fun _ => 0))), (r9_42 3, .inl (cs 0, 10, .inl (fun _ => 0))), (r9_42 4, .inl (cs 0, 10, .inl (fun _ => 0))), (r9_42 5, .inl (cs 0, 10, .inl (fun _ => 0))), (r9_42 6, .inl (cs 0, 10, .inl (fun _ => 0))), (r9_42 7, .inl (cs 0, 10, .inl (fun _ => 0))), (r9_42 8, .inl (cs 0, 10, .inl (fun _ => 0))), (r9_42 9, .inl (cs 0, 10, .inl (fun _ => 0))), (q19_42, .inl (cs 0, 10, .inl (fun _ => 0))), (q27_42, .inl (cs 0, 10, .inl (fun _ => 0))), (q37_42, outr cs r37_42 10), (r37_42 0, .inl (cs 0, 10, .inl (fun _ => 0))), (r37_42 1, .inl (cs 0, 10, .inl (fun _ => 0))), (r37_42 2, .inl (cs 0, 10, .inl (fun _ => 0))), (r37_42 3, .inl (cs 0, 10, .inl (fun _ => 0))), (r37_42 4, .inl (cs 0, 10, .inl (fun _ => 0))), (r37_42 5, .inl (cs 0, 10, .inl (fun _ => 0))), (r37_42 6, .inl (cs 0, 10, .inl (fun _ => 0))), (r37_42 7, .inl (cs 0, 10, .inl (fun _ => 0))), (r37_42 8, .inl (cs 0, 10, .inl (fun _ => 0))), (r37_42 9, .inl (cs 0, 10, .inl (fun _ => 0))), (q47_42, .inl (cs 0, 10, .inl (fun _ => 0))), (q49, .inr (0, [.ref q7_53, .int 0])), (q7_53, .inl (cs 0, 16, .inl (fun _ => 0)))]
set_option maxRecDepth 100000 in
set_option maxHeartbeats 4000000 in
theorem k_X5 : Kc yX5_init cX5_init 1 2 51 1236 5 [.null, .null, .null, .null, .null, .int 0] kp_X5 := by
  refine Kc.intro (by decide +kernel) rfl (by decide) ?_
  intro X h0 hX hI hR hr
  refine N_aload (pc := 0) hX dX5_init_0 rfl 0 rfl ?_
  refine N_objInit (pc := 1) hX hR (by decide) (lw_mem 26 (by decide +kernel) (by decide +kernel)) (lw_mem 27 (by decide +kernel) (by decide +kernel)) (lw_mem 28 (by decide +kernel) (by decide +kernel)) dX5_init_1 ?_
  refine N_aload (pc := 4) hX dX5_init_4 rfl 0 rfl ?_
  refine N_new (pc := 5) (ci := 3) (fs := [.null, .null, .null]) (N := 3) (T := TX3) (C := RX3) hX hR iuX3 tyX3_ok (lw_mem 29 (by decide +kernel) (by decide +kernel)) (lw_mem 30 (by decide +kernel) (by decide +kernel)) (lw_mem 14 (by decide +kernel) (by decide +kernel)) rfl (by decide +kernel) dX5_init_5 (Nat.le_of_ble_eq_true rfl) (Nat.le_of_ble_eq_true rfl) (fun q5 => ?_)
  refine Nw.ws (ws' := [(h0, .inr (5, [.null, .null, .null, .null, .null, .int 0])), (q5, .inr (3, [.null, .null, .null]))]) rfl ?_
  refine N_dup (pc := 8) hX dX5_init_8 rfl ?_
  refine N_init (pc := 9) (wr := [(h0, .inr (5, [.null, .null, .null, .null, .null, .int 0]))]) hX hR mi5_3 k_X3 dX5_init_9 (by decide) (Nat.le_of_ble_eq_true rfl) (Nat.le_of_ble_eq_true rfl) (Nat.le_of_ble_eq_true rfl) rfl (fun w1 hw1 => ?_)
  obtain ⟨q9_9, r9_9, q19_9, q27_9, rfl⟩ := hw1
  refine Nw.ws (ws' := [(h0, .inr (5, [.null, .null, .null, .null, .null, .int 0])), (q5, .inr (3, [.ref q9_9, .ref q19_9, .ref q27_9])), (q9_9, outr (Ncs X) r9_9 8), (r9_9 0, .inl (Ncs X 0, 60, .inl (fun _ => 0))), (r9_9 1, .inl (Ncs X 0, 60, .inl (fun _ => 0))), (r9_9 2, .inl (Ncs X 0, 60, .inl (fun _ => 0))), (r9_9 3, .inl (Ncs X 0, 60, .inl (fun _ => 0))), (r9_9 4, .inl (Ncs X 0, 60, .inl (fun _ => 0))), (r9_9 5, .inl (Ncs X 0, 60, .inl (fun _ => 0))), (r9_9 6, .inl (Ncs X 0, 60, .inl (fun _ => 0))), (r9_9 7, .inl (Ncs X 0, 60, .inl (fun _ => 0))), (q19_9, .inl (Ncs X 0, 8, .inl (fun _ => 0))), (q27_9, .inl (Ncs X 0, 8, .inl (lnf 8)))]) rfl ?_
  refine N_putF (pc := 12) (ty := .object "BuyAsAsked$Sheets") (fs2 := [.ref q5, .null, .null, .null, .null, .int 0]) hX hI fX5_10 (fun C T N h => by cases h; exact ⟨by decide +kernel, by decide +kernel, by decide +kernel⟩) (fun C T N h => by cases h; exact (lw_mem 183 (by decide +kernel) (by decide +kernel))) rfl rfl (Nat.le_of_ble_eq_true rfl) rfl dX5_init_12 ?_
  refine N_aload (pc := 15) hX dX5_init_15 rfl 0 rfl ?_
  refine N_new (pc := 16) (ci := 2) (fs := [.null, .null, .null, .int 0, .int 0, .int 0, .int 0, .int 0, .int 0]) (N := 9) (T := TX2) (C := RX2) hX hR iuX2 tyX2_ok (lw_mem 48 (by decide +kernel) (by decide +kernel)) (lw_mem 49 (by decide +kernel) (by decide +kernel)) (lw_mem 15 (by decide +kernel) (by decide +kernel)) rfl (by decide +kernel) dX5_init_16 (Nat.le_of_ble_eq_true rfl) (Nat.le_of_ble_eq_true rfl) (fun q16 => ?_)
  refine Nw.ws (ws' := [(h0, .inr (5, [.ref q5, .null, .null, .null, .null, .int 0])), (q5, .inr (3, [.ref q9_9, .ref q19_9, .ref q27_9])), (q9_9, outr (Ncs X) r9_9 8), (r9_9 0, .inl (Ncs X 0, 60, .inl (fun _ => 0))), (r9_9 1, .inl (Ncs X 0, 60, .inl (fun _ => 0))), (r9_9 2, .inl (Ncs X 0, 60, .inl (fun _ => 0))), (r9_9 3, .inl (Ncs X 0, 60, .inl (fun _ => 0))), (r9_9 4, .inl (Ncs X 0, 60, .inl (fun _ => 0))), (r9_9 5, .inl (Ncs X 0, 60, .inl (fun _ => 0))), (r9_9 6, .inl (Ncs X 0, 60, .inl (fun _ => 0))), (r9_9 7, .inl (Ncs X 0, 60, .inl (fun _ => 0))), (q19_9, .inl (Ncs X 0, 8, .inl (fun _ => 0))), (q27_9, .inl (Ncs X 0, 8, .inl (lnf 8))), (q16, .inr (2, [.null, .null, .null, .int 0, .int 0, .int 0, .int 0, .int 0, .int 0]))]) rfl ?_
  refine N_dup (pc := 19) hX dX5_init_19 rfl ?_
  refine N_init (pc := 20) (wr := [(h0, .inr (5, [.ref q5, .null, .null, .null, .null, .int 0])), (q5, .inr (3, [.ref q9_9, .ref q19_9, .ref q27_9])), (q9_9, outr (Ncs X) r9_9 8), (r9_9 0, .inl (Ncs X 0, 60, .inl (fun _ => 0))), (r9_9 1, .inl (Ncs X 0, 60, .inl (fun _ => 0))), (r9_9 2, .inl (Ncs X 0, 60, .inl (fun _ => 0))), (r9_9 3, .inl (Ncs X 0, 60, .inl (fun _ => 0))), (r9_9 4, .inl (Ncs X 0, 60, .inl (fun _ => 0))), (r9_9 5, .inl (Ncs X 0, 60, .inl (fun _ => 0))), (r9_9 6, .inl (Ncs X 0, 60, .inl (fun _ => 0))), (r9_9 7, .inl (Ncs X 0, 60, .inl (fun _ => 0))), (q19_9, .inl (Ncs X 0, 8, .inl (fun _ => 0))), (q27_9, .inl (Ncs X 0, 8, .inl (lnf 8)))]) hX hR mi5_2 k_X2 dX5_init_20 (by decide) (Nat.le_of_ble_eq_true rfl) (Nat.le_of_ble_eq_true rfl) (Nat.le_of_ble_eq_true rfl) rfl (fun w1 hw1 => ?_)
  obtain ⟨q7_20, q15_20, q23_20, rfl⟩ := hw1
  refine Nw.ws (ws' := [(h0, .inr (5, [.ref q5, .null, .null, .null, .null, .int 0])), (q5, .inr (3, [.ref q9_9, .ref q19_9, .ref q27_9])), (q9_9, outr (Ncs X) r9_9 8), (r9_9 0, .inl (Ncs X 0, 60, .inl (fun _ => 0))), (r9_9 1, .inl (Ncs X 0, 60, .inl (fun _ => 0))), (r9_9 2, .inl (Ncs X 0, 60, .inl (fun _ => 0))), (r9_9 3, .inl (Ncs X 0, 60, .inl (fun _ => 0))), (r9_9 4, .inl (Ncs X 0, 60, .inl (fun _ => 0))), (r9_9 5, .inl (Ncs X 0, 60, .inl (fun _ => 0))), (r9_9 6, .inl (Ncs X 0, 60, .inl (fun _ => 0))), (r9_9 7, .inl (Ncs X 0, 60, .inl (fun _ => 0))), (q19_9, .inl (Ncs X 0, 8, .inl (fun _ => 0))), (q27_9, .inl (Ncs X 0, 8, .inl (lnf 8))), (q16, .inr (2, [.ref q7_20, .ref q15_20, .ref q23_20, .int 0, .int 0, .int 0, .int 0, .int 0, .int 0])), (q7_20, .inl (Ncs X 0, 10, .inl (fun _ => 0))), (q15_20, .inl (Ncs X 0, 10, .inl (fun _ => 0))), (q23_20, .inl (Ncs X 0, 12, .inl (fun _ => 0)))]) rfl ?_
  refine N_putF (pc := 23) (ty := .object "BuyAsAsked$Sets") (fs2 := [.ref q5, .ref q16, .null, .null, .null, .int 0]) hX hI fX5_19 (fun C T N h => by cases h; exact ⟨by decide +kernel, by decide +kernel, by decide +kernel⟩) (fun C T N h => by cases h; exact (lw_mem 184 (by decide +kernel) (by decide +kernel))) rfl rfl (Nat.le_of_ble_eq_true rfl) rfl dX5_init_23 ?_
  refine N_aload (pc := 26) hX dX5_init_26 rfl 0 rfl ?_
  refine N_new (pc := 27) (ci := 1) (fs := [.null, .null, .null, .null, .null, .null, .int 0, .int 0, .int 0, .int 0, .int 0]) (N := 11) (T := TX1) (C := RX1) hX hR iuX1 tyX1_ok (lw_mem 91 (by decide +kernel) (by decide +kernel)) (lw_mem 92 (by decide +kernel) (by decide +kernel)) (lw_mem 16 (by decide +kernel) (by decide +kernel)) rfl (by decide +kernel) dX5_init_27 (Nat.le_of_ble_eq_true rfl) (Nat.le_of_ble_eq_true rfl) (fun q27 => ?_)
  refine Nw.ws (ws' := [(h0, .inr (5, [.ref q5, .ref q16, .null, .null, .null, .int 0])), (q5, .inr (3, [.ref q9_9, .ref q19_9, .ref q27_9])), (q9_9, outr (Ncs X) r9_9 8), (r9_9 0, .inl (Ncs X 0, 60, .inl (fun _ => 0))), (r9_9 1, .inl (Ncs X 0, 60, .inl (fun _ => 0))), (r9_9 2, .inl (Ncs X 0, 60, .inl (fun _ => 0))), (r9_9 3, .inl (Ncs X 0, 60, .inl (fun _ => 0))), (r9_9 4, .inl (Ncs X 0, 60, .inl (fun _ => 0))), (r9_9 5, .inl (Ncs X 0, 60, .inl (fun _ => 0))), (r9_9 6, .inl (Ncs X 0, 60, .inl (fun _ => 0))), (r9_9 7, .inl (Ncs X 0, 60, .inl (fun _ => 0))), (q19_9, .inl (Ncs X 0, 8, .inl (fun _ => 0))), (q27_9, .inl (Ncs X 0, 8, .inl (lnf 8))), (q16, .inr (2, [.ref q7_20, .ref q15_20, .ref q23_20, .int 0, .int 0, .int 0, .int 0, .int 0, .int 0])), (q7_20, .inl (Ncs X 0, 10, .inl (fun _ => 0))), (q15_20, .inl (Ncs X 0, 10, .inl (fun _ => 0))), (q23_20, .inl (Ncs X 0, 12, .inl (fun _ => 0))), (q27, .inr (1, [.null, .null, .null, .null, .null, .null, .int 0, .int 0, .int 0, .int 0, .int 0]))]) rfl ?_
  refine N_dup (pc := 30) hX dX5_init_30 rfl ?_
  refine N_init (pc := 31) (wr := [(h0, .inr (5, [.ref q5, .ref q16, .null, .null, .null, .int 0])), (q5, .inr (3, [.ref q9_9, .ref q19_9, .ref q27_9])), (q9_9, outr (Ncs X) r9_9 8), (r9_9 0, .inl (Ncs X 0, 60, .inl (fun _ => 0))), (r9_9 1, .inl (Ncs X 0, 60, .inl (fun _ => 0))), (r9_9 2, .inl (Ncs X 0, 60, .inl (fun _ => 0))), (r9_9 3, .inl (Ncs X 0, 60, .inl (fun _ => 0))), (r9_9 4, .inl (Ncs X 0, 60, .inl (fun _ => 0))), (r9_9 5, .inl (Ncs X 0, 60, .inl (fun _ => 0))), (r9_9 6, .inl (Ncs X 0, 60, .inl (fun _ => 0))), (r9_9 7, .inl (Ncs X 0, 60, .inl (fun _ => 0))), (q19_9, .inl (Ncs X 0, 8, .inl (fun _ => 0))), (q27_9, .inl (Ncs X 0, 8, .inl (lnf 8))), (q16, .inr (2, [.ref q7_20, .ref q15_20, .ref q23_20, .int 0, .int 0, .int 0, .int 0, .int 0, .int 0])), (q7_20, .inl (Ncs X 0, 10, .inl (fun _ => 0))), (q15_20, .inl (Ncs X 0, 10, .inl (fun _ => 0))), (q23_20, .inl (Ncs X 0, 12, .inl (fun _ => 0)))]) hX hR mi5_1 k_X1 dX5_init_31 (by decide) (Nat.le_of_ble_eq_true rfl) (Nat.le_of_ble_eq_true rfl) (Nat.le_of_ble_eq_true rfl) rfl (fun w1 hw1 => ?_)
  obtain ⟨q6_31, q13_31, q22_31, q31_31, q40_31, q47_31, rfl⟩ := hw1
  refine Nw.ws (ws' := [(h0, .inr (5, [.ref q5, .ref q16, .null, .null, .null, .int 0])), (q5, .inr (3, [.ref q9_9, .ref q19_9, .ref q27_9])), (q9_9, outr (Ncs X) r9_9 8), (r9_9 0, .inl (Ncs X 0, 60, .inl (fun _ => 0))), (r9_9 1, .inl (Ncs X 0, 60, .inl (fun _ => 0))), (r9_9 2, .inl (Ncs X 0, 60, .inl (fun _ => 0))), (r9_9 3, .inl (Ncs X 0, 60, .inl (fun _ => 0))), (r9_9 4, .inl (Ncs X 0, 60, .inl (fun _ => 0))), (r9_9 5, .inl (Ncs X 0, 60, .inl (fun _ => 0))), (r9_9 6, .inl (Ncs X 0, 60, .inl (fun _ => 0))), (r9_9 7, .inl (Ncs X 0, 60, .inl (fun _ => 0))), (q19_9, .inl (Ncs X 0, 8, .inl (fun _ => 0))), (q27_9, .inl (Ncs X 0, 8, .inl (lnf 8))), (q16, .inr (2, [.ref q7_20, .ref q15_20, .ref q23_20, .int 0, .int 0, .int 0, .int 0, .int 0, .int 0])), (q7_20, .inl (Ncs X 0, 10, .inl (fun _ => 0))), (q15_20, .inl (Ncs X 0, 10, .inl (fun _ => 0))), (q23_20, .inl (Ncs X 0, 12, .inl (fun _ => 0))), (q27, .inr (1, [.ref q6_31, .ref q13_31, .ref q22_31, .ref q31_31, .ref q40_31, .ref q47_31, .int 0, .int (-1), .int 0, .int 0, .int 0])), (q6_31, .inl (Ncs X 0, 4, .inl (fun _ => 0))), (q13_31, .inl (Ncs X 0, 4, .inl (fun _ => 0))), (q22_31, .inl (Ncs X 0, 128, .inl (fun _ => 0))), (q31_31, .inl (Ncs X 1, 128, .inl (fun _ => 0))), (q40_31, .inl (Ncs X 0, 128, .inl (fun _ => 0))), (q47_31, .inl (Ncs X 0, 5, .inl (fun _ => 0)))]) rfl ?_
  refine N_putF (pc := 34) (ty := .object "BuyAsAsked$Leases") (fs2 := [.ref q5, .ref q16, .ref q27, .null, .null, .int 0]) hX hI fX5_26 (fun C T N h => by cases h; exact ⟨by decide +kernel, by decide +kernel, by decide +kernel⟩) (fun C T N h => by cases h; exact (lw_mem 185 (by decide +kernel) (by decide +kernel))) rfl rfl (Nat.le_of_ble_eq_true rfl) rfl dX5_init_34 ?_
  refine N_aload (pc := 37) hX dX5_init_37 rfl 0 rfl ?_
  refine N_new (pc := 38) (ci := 4) (fs := [.null, .null, .null, .null, .null, .int 0, .int 0, .int 0, .int 0, .int 0, .int 0, .int 0]) (N := 12) (T := TX4) (C := RX4) hX hR iuX4 tyX4_ok (lw_mem 129 (by decide +kernel) (by decide +kernel)) (lw_mem 130 (by decide +kernel) (by decide +kernel)) (lw_mem 17 (by decide +kernel) (by decide +kernel)) rfl (by decide +kernel) dX5_init_38 (Nat.le_of_ble_eq_true rfl) (Nat.le_of_ble_eq_true rfl) (fun q38 => ?_)
  refine Nw.ws (ws' := [(h0, .inr (5, [.ref q5, .ref q16, .ref q27, .null, .null, .int 0])), (q5, .inr (3, [.ref q9_9, .ref q19_9, .ref q27_9])), (q9_9, outr (Ncs X) r9_9 8), (r9_9 0, .inl (Ncs X 0, 60, .inl (fun _ => 0))), (r9_9 1, .inl (Ncs X 0, 60, .inl (fun _ => 0))), (r9_9 2, .inl (Ncs X 0, 60, .inl (fun _ => 0))), (r9_9 3, .inl (Ncs X 0, 60, .inl (fun _ => 0))), (r9_9 4, .inl (Ncs X 0, 60, .inl (fun _ => 0))), (r9_9 5, .inl (Ncs X 0, 60, .inl (fun _ => 0))), (r9_9 6, .inl (Ncs X 0, 60, .inl (fun _ => 0))), (r9_9 7, .inl (Ncs X 0, 60, .inl (fun _ => 0))), (q19_9, .inl (Ncs X 0, 8, .inl (fun _ => 0))), (q27_9, .inl (Ncs X 0, 8, .inl (lnf 8))), (q16, .inr (2, [.ref q7_20, .ref q15_20, .ref q23_20, .int 0, .int 0, .int 0, .int 0, .int 0, .int 0])), (q7_20, .inl (Ncs X 0, 10, .inl (fun _ => 0))), (q15_20, .inl (Ncs X 0, 10, .inl (fun _ => 0))), (q23_20, .inl (Ncs X 0, 12, .inl (fun _ => 0))), (q27, .inr (1, [.ref q6_31, .ref q13_31, .ref q22_31, .ref q31_31, .ref q40_31, .ref q47_31, .int 0, .int (-1), .int 0, .int 0, .int 0])), (q6_31, .inl (Ncs X 0, 4, .inl (fun _ => 0))), (q13_31, .inl (Ncs X 0, 4, .inl (fun _ => 0))), (q22_31, .inl (Ncs X 0, 128, .inl (fun _ => 0))), (q31_31, .inl (Ncs X 1, 128, .inl (fun _ => 0))), (q40_31, .inl (Ncs X 0, 128, .inl (fun _ => 0))), (q47_31, .inl (Ncs X 0, 5, .inl (fun _ => 0))), (q38, .inr (4, [.null, .null, .null, .null, .null, .int 0, .int 0, .int 0, .int 0, .int 0, .int 0, .int 0]))]) rfl ?_
  refine N_dup (pc := 41) hX dX5_init_41 rfl ?_
  refine N_init (pc := 42) (wr := [(h0, .inr (5, [.ref q5, .ref q16, .ref q27, .null, .null, .int 0])), (q5, .inr (3, [.ref q9_9, .ref q19_9, .ref q27_9])), (q9_9, outr (Ncs X) r9_9 8), (r9_9 0, .inl (Ncs X 0, 60, .inl (fun _ => 0))), (r9_9 1, .inl (Ncs X 0, 60, .inl (fun _ => 0))), (r9_9 2, .inl (Ncs X 0, 60, .inl (fun _ => 0))), (r9_9 3, .inl (Ncs X 0, 60, .inl (fun _ => 0))), (r9_9 4, .inl (Ncs X 0, 60, .inl (fun _ => 0))), (r9_9 5, .inl (Ncs X 0, 60, .inl (fun _ => 0))), (r9_9 6, .inl (Ncs X 0, 60, .inl (fun _ => 0))), (r9_9 7, .inl (Ncs X 0, 60, .inl (fun _ => 0))), (q19_9, .inl (Ncs X 0, 8, .inl (fun _ => 0))), (q27_9, .inl (Ncs X 0, 8, .inl (lnf 8))), (q16, .inr (2, [.ref q7_20, .ref q15_20, .ref q23_20, .int 0, .int 0, .int 0, .int 0, .int 0, .int 0])), (q7_20, .inl (Ncs X 0, 10, .inl (fun _ => 0))), (q15_20, .inl (Ncs X 0, 10, .inl (fun _ => 0))), (q23_20, .inl (Ncs X 0, 12, .inl (fun _ => 0))), (q27, .inr (1, [.ref q6_31, .ref q13_31, .ref q22_31, .ref q31_31, .ref q40_31, .ref q47_31, .int 0, .int (-1), .int 0, .int 0, .int 0])), (q6_31, .inl (Ncs X 0, 4, .inl (fun _ => 0))), (q13_31, .inl (Ncs X 0, 4, .inl (fun _ => 0))), (q22_31, .inl (Ncs X 0, 128, .inl (fun _ => 0))), (q31_31, .inl (Ncs X 1, 128, .inl (fun _ => 0))), (q40_31, .inl (Ncs X 0, 128, .inl (fun _ => 0))), (q47_31, .inl (Ncs X 0, 5, .inl (fun _ => 0)))]) hX hR mi5_4 k_X4 dX5_init_42 (by decide) (Nat.le_of_ble_eq_true rfl) (Nat.le_of_ble_eq_true rfl) (Nat.le_of_ble_eq_true rfl) rfl (fun w1 hw1 => ?_)
  obtain ⟨q9_42, r9_42, q19_42, q27_42, q37_42, r37_42, q47_42, rfl⟩ := hw1
  refine Nw.ws (ws' := [(h0, .inr (5, [.ref q5, .ref q16, .ref q27, .null, .null, .int 0])), (q5, .inr (3, [.ref q9_9, .ref q19_9, .ref q27_9])), (q9_9, outr (Ncs X) r9_9 8), (r9_9 0, .inl (Ncs X 0, 60, .inl (fun _ => 0))), (r9_9 1, .inl (Ncs X 0, 60, .inl (fun _ => 0))), (r9_9 2, .inl (Ncs X 0, 60, .inl (fun _ => 0))), (r9_9 3, .inl (Ncs X 0, 60, .inl (fun _ => 0))), (r9_9 4, .inl (Ncs X 0, 60, .inl (fun _ => 0))), (r9_9 5, .inl (Ncs X 0, 60, .inl (fun _ => 0))), (r9_9 6, .inl (Ncs X 0, 60, .inl (fun _ => 0))), (r9_9 7, .inl (Ncs X 0, 60, .inl (fun _ => 0))), (q19_9, .inl (Ncs X 0, 8, .inl (fun _ => 0))), (q27_9, .inl (Ncs X 0, 8, .inl (lnf 8))), (q16, .inr (2, [.ref q7_20, .ref q15_20, .ref q23_20, .int 0, .int 0, .int 0, .int 0, .int 0, .int 0])), (q7_20, .inl (Ncs X 0, 10, .inl (fun _ => 0))), (q15_20, .inl (Ncs X 0, 10, .inl (fun _ => 0))), (q23_20, .inl (Ncs X 0, 12, .inl (fun _ => 0))), (q27, .inr (1, [.ref q6_31, .ref q13_31, .ref q22_31, .ref q31_31, .ref q40_31, .ref q47_31, .int 0, .int (-1), .int 0, .int 0, .int 0])), (q6_31, .inl (Ncs X 0, 4, .inl (fun _ => 0))), (q13_31, .inl (Ncs X 0, 4, .inl (fun _ => 0))), (q22_31, .inl (Ncs X 0, 128, .inl (fun _ => 0))), (q31_31, .inl (Ncs X 1, 128, .inl (fun _ => 0))), (q40_31, .inl (Ncs X 0, 128, .inl (fun _ => 0))), (q47_31, .inl (Ncs X 0, 5, .inl (fun _ => 0))), (q38, .inr (4, [.ref q9_42, .ref q19_42, .ref q27_42, .ref q37_42, .ref q47_42, .int 0, .int 0, .int 0, .int 0, .int 0, .int 0, .int 0])), (q9_42, outr (Ncs X) r9_42 10), (r9_42 0, .inl (Ncs X 0, 10, .inl (fun _ => 0))), (r9_42 1, .inl (Ncs X 0, 10, .inl (fun _ => 0))), (r9_42 2, .inl (Ncs X 0, 10, .inl (fun _ => 0))), (r9_42 3, .inl (Ncs X 0, 10, .inl (fun _ => 0))), (r9_42 4, .inl (Ncs X 0, 10, .inl (fun _ => 0))), (r9_42 5, .inl (Ncs X 0, 10, .inl (fun _ => 0))), (r9_42 6, .inl (Ncs X 0, 10, .inl (fun _ => 0))), (r9_42 7, .inl (Ncs X 0, 10, .inl (fun _ => 0))), (r9_42 8, .inl (Ncs X 0, 10, .inl (fun _ => 0))), (r9_42 9, .inl (Ncs X 0, 10, .inl (fun _ => 0))), (q19_42, .inl (Ncs X 0, 10, .inl (fun _ => 0))), (q27_42, .inl (Ncs X 0, 10, .inl (fun _ => 0))), (q37_42, outr (Ncs X) r37_42 10), (r37_42 0, .inl (Ncs X 0, 10, .inl (fun _ => 0))), (r37_42 1, .inl (Ncs X 0, 10, .inl (fun _ => 0))), (r37_42 2, .inl (Ncs X 0, 10, .inl (fun _ => 0))), (r37_42 3, .inl (Ncs X 0, 10, .inl (fun _ => 0))), (r37_42 4, .inl (Ncs X 0, 10, .inl (fun _ => 0))), (r37_42 5, .inl (Ncs X 0, 10, .inl (fun _ => 0))), (r37_42 6, .inl (Ncs X 0, 10, .inl (fun _ => 0))), (r37_42 7, .inl (Ncs X 0, 10, .inl (fun _ => 0))), (r37_42 8, .inl (Ncs X 0, 10, .inl (fun _ => 0))), (r37_42 9, .inl (Ncs X 0, 10, .inl (fun _ => 0))), (q47_42, .inl (Ncs X 0, 10, .inl (fun _ => 0)))]) rfl ?_
  refine N_putF (pc := 45) (ty := .object "BuyAsAsked$Sites") (fs2 := [.ref q5, .ref q16, .ref q27, .ref q38, .null, .int 0]) hX hI fX5_33 (fun C T N h => by cases h; exact ⟨by decide +kernel, by decide +kernel, by decide +kernel⟩) (fun C T N h => by cases h; exact (lw_mem 186 (by decide +kernel) (by decide +kernel))) rfl rfl (Nat.le_of_ble_eq_true rfl) rfl dX5_init_45 ?_
  refine N_aload (pc := 48) hX dX5_init_48 rfl 0 rfl ?_
  refine N_new (pc := 49) (ci := 0) (fs := [.null, .int 0]) (N := 2) (T := TX0) (C := RX0) hX hR iuX0 tyX0_ok (lw_mem 168 (by decide +kernel) (by decide +kernel)) (lw_mem 169 (by decide +kernel) (by decide +kernel)) (lw_mem 18 (by decide +kernel) (by decide +kernel)) rfl (by decide +kernel) dX5_init_49 (Nat.le_of_ble_eq_true rfl) (Nat.le_of_ble_eq_true rfl) (fun q49 => ?_)
  refine Nw.ws (ws' := [(h0, .inr (5, [.ref q5, .ref q16, .ref q27, .ref q38, .null, .int 0])), (q5, .inr (3, [.ref q9_9, .ref q19_9, .ref q27_9])), (q9_9, outr (Ncs X) r9_9 8), (r9_9 0, .inl (Ncs X 0, 60, .inl (fun _ => 0))), (r9_9 1, .inl (Ncs X 0, 60, .inl (fun _ => 0))), (r9_9 2, .inl (Ncs X 0, 60, .inl (fun _ => 0))), (r9_9 3, .inl (Ncs X 0, 60, .inl (fun _ => 0))), (r9_9 4, .inl (Ncs X 0, 60, .inl (fun _ => 0))), (r9_9 5, .inl (Ncs X 0, 60, .inl (fun _ => 0))), (r9_9 6, .inl (Ncs X 0, 60, .inl (fun _ => 0))), (r9_9 7, .inl (Ncs X 0, 60, .inl (fun _ => 0))), (q19_9, .inl (Ncs X 0, 8, .inl (fun _ => 0))), (q27_9, .inl (Ncs X 0, 8, .inl (lnf 8))), (q16, .inr (2, [.ref q7_20, .ref q15_20, .ref q23_20, .int 0, .int 0, .int 0, .int 0, .int 0, .int 0])), (q7_20, .inl (Ncs X 0, 10, .inl (fun _ => 0))), (q15_20, .inl (Ncs X 0, 10, .inl (fun _ => 0))), (q23_20, .inl (Ncs X 0, 12, .inl (fun _ => 0))), (q27, .inr (1, [.ref q6_31, .ref q13_31, .ref q22_31, .ref q31_31, .ref q40_31, .ref q47_31, .int 0, .int (-1), .int 0, .int 0, .int 0])), (q6_31, .inl (Ncs X 0, 4, .inl (fun _ => 0))), (q13_31, .inl (Ncs X 0, 4, .inl (fun _ => 0))), (q22_31, .inl (Ncs X 0, 128, .inl (fun _ => 0))), (q31_31, .inl (Ncs X 1, 128, .inl (fun _ => 0))), (q40_31, .inl (Ncs X 0, 128, .inl (fun _ => 0))), (q47_31, .inl (Ncs X 0, 5, .inl (fun _ => 0))), (q38, .inr (4, [.ref q9_42, .ref q19_42, .ref q27_42, .ref q37_42, .ref q47_42, .int 0, .int 0, .int 0, .int 0, .int 0, .int 0, .int 0])), (q9_42, outr (Ncs X) r9_42 10), (r9_42 0, .inl (Ncs X 0, 10, .inl (fun _ => 0))), (r9_42 1, .inl (Ncs X 0, 10, .inl (fun _ => 0))), (r9_42 2, .inl (Ncs X 0, 10, .inl (fun _ => 0))), (r9_42 3, .inl (Ncs X 0, 10, .inl (fun _ => 0))), (r9_42 4, .inl (Ncs X 0, 10, .inl (fun _ => 0))), (r9_42 5, .inl (Ncs X 0, 10, .inl (fun _ => 0))), (r9_42 6, .inl (Ncs X 0, 10, .inl (fun _ => 0))), (r9_42 7, .inl (Ncs X 0, 10, .inl (fun _ => 0))), (r9_42 8, .inl (Ncs X 0, 10, .inl (fun _ => 0))), (r9_42 9, .inl (Ncs X 0, 10, .inl (fun _ => 0))), (q19_42, .inl (Ncs X 0, 10, .inl (fun _ => 0))), (q27_42, .inl (Ncs X 0, 10, .inl (fun _ => 0))), (q37_42, outr (Ncs X) r37_42 10), (r37_42 0, .inl (Ncs X 0, 10, .inl (fun _ => 0))), (r37_42 1, .inl (Ncs X 0, 10, .inl (fun _ => 0))), (r37_42 2, .inl (Ncs X 0, 10, .inl (fun _ => 0))), (r37_42 3, .inl (Ncs X 0, 10, .inl (fun _ => 0))), (r37_42 4, .inl (Ncs X 0, 10, .inl (fun _ => 0))), (r37_42 5, .inl (Ncs X 0, 10, .inl (fun _ => 0))), (r37_42 6, .inl (Ncs X 0, 10, .inl (fun _ => 0))), (r37_42 7, .inl (Ncs X 0, 10, .inl (fun _ => 0))), (r37_42 8, .inl (Ncs X 0, 10, .inl (fun _ => 0))), (r37_42 9, .inl (Ncs X 0, 10, .inl (fun _ => 0))), (q47_42, .inl (Ncs X 0, 10, .inl (fun _ => 0))), (q49, .inr (0, [.null, .int 0]))]) rfl ?_
  refine N_dup (pc := 52) hX dX5_init_52 rfl ?_
  refine N_init (pc := 53) (wr := [(h0, .inr (5, [.ref q5, .ref q16, .ref q27, .ref q38, .null, .int 0])), (q5, .inr (3, [.ref q9_9, .ref q19_9, .ref q27_9])), (q9_9, outr (Ncs X) r9_9 8), (r9_9 0, .inl (Ncs X 0, 60, .inl (fun _ => 0))), (r9_9 1, .inl (Ncs X 0, 60, .inl (fun _ => 0))), (r9_9 2, .inl (Ncs X 0, 60, .inl (fun _ => 0))), (r9_9 3, .inl (Ncs X 0, 60, .inl (fun _ => 0))), (r9_9 4, .inl (Ncs X 0, 60, .inl (fun _ => 0))), (r9_9 5, .inl (Ncs X 0, 60, .inl (fun _ => 0))), (r9_9 6, .inl (Ncs X 0, 60, .inl (fun _ => 0))), (r9_9 7, .inl (Ncs X 0, 60, .inl (fun _ => 0))), (q19_9, .inl (Ncs X 0, 8, .inl (fun _ => 0))), (q27_9, .inl (Ncs X 0, 8, .inl (lnf 8))), (q16, .inr (2, [.ref q7_20, .ref q15_20, .ref q23_20, .int 0, .int 0, .int 0, .int 0, .int 0, .int 0])), (q7_20, .inl (Ncs X 0, 10, .inl (fun _ => 0))), (q15_20, .inl (Ncs X 0, 10, .inl (fun _ => 0))), (q23_20, .inl (Ncs X 0, 12, .inl (fun _ => 0))), (q27, .inr (1, [.ref q6_31, .ref q13_31, .ref q22_31, .ref q31_31, .ref q40_31, .ref q47_31, .int 0, .int (-1), .int 0, .int 0, .int 0])), (q6_31, .inl (Ncs X 0, 4, .inl (fun _ => 0))), (q13_31, .inl (Ncs X 0, 4, .inl (fun _ => 0))), (q22_31, .inl (Ncs X 0, 128, .inl (fun _ => 0))), (q31_31, .inl (Ncs X 1, 128, .inl (fun _ => 0))), (q40_31, .inl (Ncs X 0, 128, .inl (fun _ => 0))), (q47_31, .inl (Ncs X 0, 5, .inl (fun _ => 0))), (q38, .inr (4, [.ref q9_42, .ref q19_42, .ref q27_42, .ref q37_42, .ref q47_42, .int 0, .int 0, .int 0, .int 0, .int 0, .int 0, .int 0])), (q9_42, outr (Ncs X) r9_42 10), (r9_42 0, .inl (Ncs X 0, 10, .inl (fun _ => 0))), (r9_42 1, .inl (Ncs X 0, 10, .inl (fun _ => 0))), (r9_42 2, .inl (Ncs X 0, 10, .inl (fun _ => 0))), (r9_42 3, .inl (Ncs X 0, 10, .inl (fun _ => 0))), (r9_42 4, .inl (Ncs X 0, 10, .inl (fun _ => 0))), (r9_42 5, .inl (Ncs X 0, 10, .inl (fun _ => 0))), (r9_42 6, .inl (Ncs X 0, 10, .inl (fun _ => 0))), (r9_42 7, .inl (Ncs X 0, 10, .inl (fun _ => 0))), (r9_42 8, .inl (Ncs X 0, 10, .inl (fun _ => 0))), (r9_42 9, .inl (Ncs X 0, 10, .inl (fun _ => 0))), (q19_42, .inl (Ncs X 0, 10, .inl (fun _ => 0))), (q27_42, .inl (Ncs X 0, 10, .inl (fun _ => 0))), (q37_42, outr (Ncs X) r37_42 10), (r37_42 0, .inl (Ncs X 0, 10, .inl (fun _ => 0))), (r37_42 1, .inl (Ncs X 0, 10, .inl (fun _ => 0))), (r37_42 2, .inl (Ncs X 0, 10, .inl (fun _ => 0))), (r37_42 3, .inl (Ncs X 0, 10, .inl (fun _ => 0))), (r37_42 4, .inl (Ncs X 0, 10, .inl (fun _ => 0))), (r37_42 5, .inl (Ncs X 0, 10, .inl (fun _ => 0))), (r37_42 6, .inl (Ncs X 0, 10, .inl (fun _ => 0))), (r37_42 7, .inl (Ncs X 0, 10, .inl (fun _ => 0))), (r37_42 8, .inl (Ncs X 0, 10, .inl (fun _ => 0))), (r37_42 9, .inl (Ncs X 0, 10, .inl (fun _ => 0))), (q47_42, .inl (Ncs X 0, 10, .inl (fun _ => 0)))]) hX hR mi5_0 k_X0 dX5_init_53 (by decide) (Nat.le_of_ble_eq_true rfl) (Nat.le_of_ble_eq_true rfl) (Nat.le_of_ble_eq_true rfl) rfl (fun w1 hw1 => ?_)
  obtain ⟨q7_53, rfl⟩ := hw1
  refine Nw.ws (ws' := [(h0, .inr (5, [.ref q5, .ref q16, .ref q27, .ref q38, .null, .int 0])), (q5, .inr (3, [.ref q9_9, .ref q19_9, .ref q27_9])), (q9_9, outr (Ncs X) r9_9 8), (r9_9 0, .inl (Ncs X 0, 60, .inl (fun _ => 0))), (r9_9 1, .inl (Ncs X 0, 60, .inl (fun _ => 0))), (r9_9 2, .inl (Ncs X 0, 60, .inl (fun _ => 0))), (r9_9 3, .inl (Ncs X 0, 60, .inl (fun _ => 0))), (r9_9 4, .inl (Ncs X 0, 60, .inl (fun _ => 0))), (r9_9 5, .inl (Ncs X 0, 60, .inl (fun _ => 0))), (r9_9 6, .inl (Ncs X 0, 60, .inl (fun _ => 0))), (r9_9 7, .inl (Ncs X 0, 60, .inl (fun _ => 0))), (q19_9, .inl (Ncs X 0, 8, .inl (fun _ => 0))), (q27_9, .inl (Ncs X 0, 8, .inl (lnf 8))), (q16, .inr (2, [.ref q7_20, .ref q15_20, .ref q23_20, .int 0, .int 0, .int 0, .int 0, .int 0, .int 0])), (q7_20, .inl (Ncs X 0, 10, .inl (fun _ => 0))), (q15_20, .inl (Ncs X 0, 10, .inl (fun _ => 0))), (q23_20, .inl (Ncs X 0, 12, .inl (fun _ => 0))), (q27, .inr (1, [.ref q6_31, .ref q13_31, .ref q22_31, .ref q31_31, .ref q40_31, .ref q47_31, .int 0, .int (-1), .int 0, .int 0, .int 0])), (q6_31, .inl (Ncs X 0, 4, .inl (fun _ => 0))), (q13_31, .inl (Ncs X 0, 4, .inl (fun _ => 0))), (q22_31, .inl (Ncs X 0, 128, .inl (fun _ => 0))), (q31_31, .inl (Ncs X 1, 128, .inl (fun _ => 0))), (q40_31, .inl (Ncs X 0, 128, .inl (fun _ => 0))), (q47_31, .inl (Ncs X 0, 5, .inl (fun _ => 0))), (q38, .inr (4, [.ref q9_42, .ref q19_42, .ref q27_42, .ref q37_42, .ref q47_42, .int 0, .int 0, .int 0, .int 0, .int 0, .int 0, .int 0])), (q9_42, outr (Ncs X) r9_42 10), (r9_42 0, .inl (Ncs X 0, 10, .inl (fun _ => 0))), (r9_42 1, .inl (Ncs X 0, 10, .inl (fun _ => 0))), (r9_42 2, .inl (Ncs X 0, 10, .inl (fun _ => 0))), (r9_42 3, .inl (Ncs X 0, 10, .inl (fun _ => 0))), (r9_42 4, .inl (Ncs X 0, 10, .inl (fun _ => 0))), (r9_42 5, .inl (Ncs X 0, 10, .inl (fun _ => 0))), (r9_42 6, .inl (Ncs X 0, 10, .inl (fun _ => 0))), (r9_42 7, .inl (Ncs X 0, 10, .inl (fun _ => 0))), (r9_42 8, .inl (Ncs X 0, 10, .inl (fun _ => 0))), (r9_42 9, .inl (Ncs X 0, 10, .inl (fun _ => 0))), (q19_42, .inl (Ncs X 0, 10, .inl (fun _ => 0))), (q27_42, .inl (Ncs X 0, 10, .inl (fun _ => 0))), (q37_42, outr (Ncs X) r37_42 10), (r37_42 0, .inl (Ncs X 0, 10, .inl (fun _ => 0))), (r37_42 1, .inl (Ncs X 0, 10, .inl (fun _ => 0))), (r37_42 2, .inl (Ncs X 0, 10, .inl (fun _ => 0))), (r37_42 3, .inl (Ncs X 0, 10, .inl (fun _ => 0))), (r37_42 4, .inl (Ncs X 0, 10, .inl (fun _ => 0))), (r37_42 5, .inl (Ncs X 0, 10, .inl (fun _ => 0))), (r37_42 6, .inl (Ncs X 0, 10, .inl (fun _ => 0))), (r37_42 7, .inl (Ncs X 0, 10, .inl (fun _ => 0))), (r37_42 8, .inl (Ncs X 0, 10, .inl (fun _ => 0))), (r37_42 9, .inl (Ncs X 0, 10, .inl (fun _ => 0))), (q47_42, .inl (Ncs X 0, 10, .inl (fun _ => 0))), (q49, .inr (0, [.ref q7_53, .int 0])), (q7_53, .inl (Ncs X 0, 16, .inl (fun _ => 0)))]) rfl ?_
  refine N_putF (pc := 56) (ty := .object "BuyAsAsked$Asks") (fs2 := [.ref q5, .ref q16, .ref q27, .ref q38, .ref q49, .int 0]) hX hI fX5_40 (fun C T N h => by cases h; exact ⟨by decide +kernel, by decide +kernel, by decide +kernel⟩) (fun C T N h => by cases h; exact (lw_mem 187 (by decide +kernel) (by decide +kernel))) rfl rfl (Nat.le_of_ble_eq_true rfl) rfl dX5_init_56 ?_
  refine N_aload (pc := 59) hX dX5_init_59 rfl 0 rfl ?_
  refine N_iconst (pc := 60) (v := (nI 0)) hX dX5_init_60 (by decide +kernel) ?_
  refine N_puti (pc := 61) (fs2 := [.ref q5, .ref q16, .ref q27, .ref q38, .ref q49, .int (nI 0)]) hX fX5_44 gi5_5 (Nat.le_of_ble_eq_true rfl) rfl dX5_init_61 ?_
  exact N_ret (pc := 64) hX hr (Nat.eq_of_beq_eq_true rfl) (Nat.eq_of_beq_eq_true rfl) dX5_init_64 ⟨q5, q9_9, r9_9, q19_9, q27_9, q16, q7_20, q15_20, q23_20, q27, q6_31, q13_31, q22_31, q31_31, q40_31, q47_31, q38, q9_42, r9_42, q19_42, q27_42, q37_42, r37_42, q47_42, q49, q7_53, rfl⟩
end
section
/-! ===== the law's judgement: the world, and beside it the law's own array of 12 ints at the place 53 (its ints in the memory's row 53) ===== -/
def Lw (X : XC) (pc : Nat) (ls : List (Option Value)) (st : List Value) (σ : Mem) : Prop := match X with
  | (p, l, e, R, s, m, args, below, meth, c, cells, slots, Q, A, D, ad, cs, H0) =>
    ∀ (H : Heap) (locs : List Loc) (lsA : Array Slot), (va_P D vwCl (wl ad cs σ 0 shp) H ∧ H[ad 53]? = some (vp_cell (cs 0) (12, .inl (σ 53)))) → va_S A H0 H locs → lv_has lsA ls.length (lvl ad 0 ls) → W p l e R s m args below meth c H locs cells slots Q (F0 m pc lsA (st.map (cvv ad)))
def Pok (X : XC) : Prop := match X with
  | (_, _, _, _, _, _, _, _, _, _, _, _, _, A, _, ad, _, _) => A (ad 53) ∧ ¬ inW ad (ad 53)
theorem Lw.mem {X : XC} {pc : Nat} {ls : List (Option Value)} {st : List Value} {σ σ' : Mem} (e : σ' = σ) (h : Lw X pc ls st σ') : Lw X pc ls st σ := e ▸ h
theorem L_iconst {X : XC} {own : String} {cc : ByteArray} {nL pc : Nat} {ls : List (Option Value)} {st : List Value} {σ : Mem} {n : Int} {v : Int32} (hX : Cok X own cc nL) (hd : decode cc pc = .ok (.iconst n, 1)) (hv : Int32.ofInt n = v) (kk : Lw X (pc + 1) ls (.int v :: st) σ) : Lw X pc ls (st) σ := by
  obtain ⟨p, l, e, R, s, m, args, below, meth, c, cells, slots, Q, A, D, ad, cs, H0⟩ := X
  intro H locs lsA hP hS hl
  exact lv_iconst hX.1 hX.2.1 hd hv (kk H locs lsA hP hS hl)
theorem L_bipush {X : XC} {own : String} {cc : ByteArray} {nL pc : Nat} {ls : List (Option Value)} {st : List Value} {σ : Mem} {n : Int} {v : Int32} (hX : Cok X own cc nL) (hd : decode cc pc = .ok (.bipush n, 2)) (hv : (Int8.ofInt n).toInt32 = v) (kk : Lw X (pc + 2) ls (.int v :: st) σ) : Lw X pc ls (st) σ := by
  obtain ⟨p, l, e, R, s, m, args, below, meth, c, cells, slots, Q, A, D, ad, cs, H0⟩ := X
  intro H locs lsA hP hS hl
  exact lv_bipush hX.1 hX.2.1 hd hv (kk H locs lsA hP hS hl)
theorem L_sipush {X : XC} {own : String} {cc : ByteArray} {nL pc : Nat} {ls : List (Option Value)} {st : List Value} {σ : Mem} {n : Int} {v : Int32} (hX : Cok X own cc nL) (hd : decode cc pc = .ok (.sipush n, 3)) (hv : (Int16.ofInt n).toInt32 = v) (kk : Lw X (pc + 3) ls (.int v :: st) σ) : Lw X pc ls (st) σ := by
  obtain ⟨p, l, e, R, s, m, args, below, meth, c, cells, slots, Q, A, D, ad, cs, H0⟩ := X
  intro H locs lsA hP hS hl
  exact lv_sipush hX.1 hX.2.1 hd hv (kk H locs lsA hP hS hl)
theorem L_iadd {X : XC} {own : String} {cc : ByteArray} {nL pc : Nat} {ls : List (Option Value)} {st : List Value} {σ : Mem} {x y : Int32} (hX : Cok X own cc nL) (hd : decode cc pc = .ok (.iadd, 1)) (kk : Lw X (pc + 1) ls (.int (x + y) :: st) σ) : Lw X pc ls (.int y :: .int x :: st) σ := by
  obtain ⟨p, l, e, R, s, m, args, below, meth, c, cells, slots, Q, A, D, ad, cs, H0⟩ := X
  intro H locs lsA hP hS hl
  exact lv_iadd hX.1 hX.2.1 hd (kk H locs lsA hP hS hl)
theorem L_isub {X : XC} {own : String} {cc : ByteArray} {nL pc : Nat} {ls : List (Option Value)} {st : List Value} {σ : Mem} {x y : Int32} (hX : Cok X own cc nL) (hd : decode cc pc = .ok (.isub, 1)) (kk : Lw X (pc + 1) ls (.int (x - y) :: st) σ) : Lw X pc ls (.int y :: .int x :: st) σ := by
  obtain ⟨p, l, e, R, s, m, args, below, meth, c, cells, slots, Q, A, D, ad, cs, H0⟩ := X
  intro H locs lsA hP hS hl
  exact lv_isub hX.1 hX.2.1 hd (kk H locs lsA hP hS hl)
theorem L_imul {X : XC} {own : String} {cc : ByteArray} {nL pc : Nat} {ls : List (Option Value)} {st : List Value} {σ : Mem} {x y : Int32} (hX : Cok X own cc nL) (hd : decode cc pc = .ok (.imul, 1)) (kk : Lw X (pc + 1) ls (.int (x * y) :: st) σ) : Lw X pc ls (.int y :: .int x :: st) σ := by
  obtain ⟨p, l, e, R, s, m, args, below, meth, c, cells, slots, Q, A, D, ad, cs, H0⟩ := X
  intro H locs lsA hP hS hl
  exact lv_imul hX.1 hX.2.1 hd (kk H locs lsA hP hS hl)
theorem L_iand {X : XC} {own : String} {cc : ByteArray} {nL pc : Nat} {ls : List (Option Value)} {st : List Value} {σ : Mem} {x y : Int32} (hX : Cok X own cc nL) (hd : decode cc pc = .ok (.iand, 1)) (kk : Lw X (pc + 1) ls (.int (x &&& y) :: st) σ) : Lw X pc ls (.int y :: .int x :: st) σ := by
  obtain ⟨p, l, e, R, s, m, args, below, meth, c, cells, slots, Q, A, D, ad, cs, H0⟩ := X
  intro H locs lsA hP hS hl
  exact lv_iand hX.1 hX.2.1 hd (kk H locs lsA hP hS hl)
theorem L_ior {X : XC} {own : String} {cc : ByteArray} {nL pc : Nat} {ls : List (Option Value)} {st : List Value} {σ : Mem} {x y : Int32} (hX : Cok X own cc nL) (hd : decode cc pc = .ok (.ior, 1)) (kk : Lw X (pc + 1) ls (.int (x ||| y) :: st) σ) : Lw X pc ls (.int y :: .int x :: st) σ := by
  obtain ⟨p, l, e, R, s, m, args, below, meth, c, cells, slots, Q, A, D, ad, cs, H0⟩ := X
  intro H locs lsA hP hS hl
  exact lv_ior hX.1 hX.2.1 hd (kk H locs lsA hP hS hl)
theorem L_ixor {X : XC} {own : String} {cc : ByteArray} {nL pc : Nat} {ls : List (Option Value)} {st : List Value} {σ : Mem} {x y : Int32} (hX : Cok X own cc nL) (hd : decode cc pc = .ok (.ixor, 1)) (kk : Lw X (pc + 1) ls (.int (x ^^^ y) :: st) σ) : Lw X pc ls (.int y :: .int x :: st) σ := by
  obtain ⟨p, l, e, R, s, m, args, below, meth, c, cells, slots, Q, A, D, ad, cs, H0⟩ := X
  intro H locs lsA hP hS hl
  exact lv_ixor hX.1 hX.2.1 hd (kk H locs lsA hP hS hl)
theorem L_ishl {X : XC} {own : String} {cc : ByteArray} {nL pc : Nat} {ls : List (Option Value)} {st : List Value} {σ : Mem} {x y : Int32} (hX : Cok X own cc nL) (hd : decode cc pc = .ok (.ishl, 1)) (kk : Lw X (pc + 1) ls (.int (x <<< (y &&& 31)) :: st) σ) : Lw X pc ls (.int y :: .int x :: st) σ := by
  obtain ⟨p, l, e, R, s, m, args, below, meth, c, cells, slots, Q, A, D, ad, cs, H0⟩ := X
  intro H locs lsA hP hS hl
  exact lv_ishl hX.1 hX.2.1 hd (kk H locs lsA hP hS hl)
theorem L_ishr {X : XC} {own : String} {cc : ByteArray} {nL pc : Nat} {ls : List (Option Value)} {st : List Value} {σ : Mem} {x y : Int32} (hX : Cok X own cc nL) (hd : decode cc pc = .ok (.ishr, 1)) (kk : Lw X (pc + 1) ls (.int (x >>> (y &&& 31)) :: st) σ) : Lw X pc ls (.int y :: .int x :: st) σ := by
  obtain ⟨p, l, e, R, s, m, args, below, meth, c, cells, slots, Q, A, D, ad, cs, H0⟩ := X
  intro H locs lsA hP hS hl
  exact lv_ishr hX.1 hX.2.1 hd (kk H locs lsA hP hS hl)
theorem L_dup2 {X : XC} {own : String} {cc : ByteArray} {nL pc : Nat} {ls : List (Option Value)} {st : List Value} {σ : Mem} {v u : Value} (hX : Cok X own cc nL) (hd : decode cc pc = .ok (.dup2, 1)) (hc : v.category = 1) (hc2 : u.category = 1) (kk : Lw X (pc + 1) ls (v :: u :: v :: u :: st) σ) : Lw X pc ls (v :: u :: st) σ := by
  obtain ⟨p, l, e, R, s, m, args, below, meth, c, cells, slots, Q, A, D, ad, cs, H0⟩ := X
  intro H locs lsA hP hS hl
  exact lv_dup2_11 hX.1 hX.2.1 hd (by rw [cvv_cat]; exact hc) (by rw [cvv_cat]; exact hc2) (kk H locs lsA hP hS hl)
theorem L_iload_n {X : XC} {own : String} {cc : ByteArray} {nL pc : Nat} {ls : List (Option Value)} {st : List Value} {σ : Mem} {k : Fin 4} {i : Nat} {x : Int32} (hX : Cok X own cc nL) (hd : decode cc pc = .ok (.iload_n k, 1)) (hi : (k : Nat) = i) (h : nth ls i = some (.int x)) (kk : Lw X (pc + 1) ls (.int x :: st) σ) : Lw X pc ls st σ := by
  obtain ⟨p, l, e, R, s, m, args, below, meth, c, cells, slots, Q, A, D, ad, cs, H0⟩ := X
  intro H locs lsA hP hS hl
  exact lv_iload_n hX.1 hX.2.1 hd hi (lvl_nth hl h) (kk H locs lsA hP hS hl)
theorem L_iload {X : XC} {own : String} {cc : ByteArray} {nL pc : Nat} {ls : List (Option Value)} {st : List Value} {σ : Mem} {i : Nat} {x : Int32} (hX : Cok X own cc nL) (hd : decode cc pc = .ok (.iload i, 2)) (h : nth ls i = some (.int x)) (kk : Lw X (pc + 2) ls (.int x :: st) σ) : Lw X pc ls st σ := by
  obtain ⟨p, l, e, R, s, m, args, below, meth, c, cells, slots, Q, A, D, ad, cs, H0⟩ := X
  intro H locs lsA hP hS hl
  exact lv_iload hX.1 hX.2.1 hd (lvl_nth hl h) (kk H locs lsA hP hS hl)
theorem L_aload_n {X : XC} {own : String} {cc : ByteArray} {nL pc : Nat} {ls : List (Option Value)} {st : List Value} {σ : Mem} {k : Fin 4} {i : Nat} {x : Nat} (hX : Cok X own cc nL) (hd : decode cc pc = .ok (.aload_n k, 1)) (hi : (k : Nat) = i) (h : nth ls i = some (.ref x)) (kk : Lw X (pc + 1) ls (.ref x :: st) σ) : Lw X pc ls st σ := by
  obtain ⟨p, l, e, R, s, m, args, below, meth, c, cells, slots, Q, A, D, ad, cs, H0⟩ := X
  intro H locs lsA hP hS hl
  exact lv_aload_n hX.1 hX.2.1 hd hi (lvl_nth hl h) (kk H locs lsA hP hS hl)
theorem L_aload {X : XC} {own : String} {cc : ByteArray} {nL pc : Nat} {ls : List (Option Value)} {st : List Value} {σ : Mem} {i : Nat} {x : Nat} (hX : Cok X own cc nL) (hd : decode cc pc = .ok (.aload i, 2)) (h : nth ls i = some (.ref x)) (kk : Lw X (pc + 2) ls (.ref x :: st) σ) : Lw X pc ls st σ := by
  obtain ⟨p, l, e, R, s, m, args, below, meth, c, cells, slots, Q, A, D, ad, cs, H0⟩ := X
  intro H locs lsA hP hS hl
  exact lv_aload hX.1 hX.2.1 hd (lvl_nth hl h) (kk H locs lsA hP hS hl)
theorem L_istore_n {X : XC} {own : String} {cc : ByteArray} {nL pc : Nat} {ls : List (Option Value)} {st : List Value} {σ : Mem} {k : Fin 4} {i : Nat} {x : Int32} {ls2 : List (Option Value)} (hX : Cok X own cc nL) (hd : decode cc pc = .ok (.istore_n k, 1)) (hi : (k : Nat) = i) (hn : nol ls = true) (hlt : i < ls.length) (he : sett ls i (.int x) = ls2) (kk : Lw X (pc + 1) ls2 st σ) : Lw X pc ls (.int x :: st) σ := by
  obtain ⟨p, l, e, R, s, m, args, below, meth, c, cells, slots, Q, A, D, ad, cs, H0⟩ := X
  subst he
  intro H locs lsA hP hS hl
  exact lv_istore_n hX.1 hX.2.1 hd hi hl hlt rfl (fun ls9 h9 => kk H locs ls9 hP hS (by rw [sett_len]; exact lv_keep h9 (lvl_sett hn)))
theorem L_istore {X : XC} {own : String} {cc : ByteArray} {nL pc : Nat} {ls : List (Option Value)} {st : List Value} {σ : Mem} {i : Nat} {x : Int32} {ls2 : List (Option Value)} (hX : Cok X own cc nL) (hd : decode cc pc = .ok (.istore i, 2)) (hn : nol ls = true) (hlt : i < ls.length) (he : sett ls i (.int x) = ls2) (kk : Lw X (pc + 2) ls2 st σ) : Lw X pc ls (.int x :: st) σ := by
  obtain ⟨p, l, e, R, s, m, args, below, meth, c, cells, slots, Q, A, D, ad, cs, H0⟩ := X
  subst he
  intro H locs lsA hP hS hl
  exact lv_istore hX.1 hX.2.1 hd hl hlt rfl (fun ls9 h9 => kk H locs ls9 hP hS (by rw [sett_len]; exact lv_keep h9 (lvl_sett hn)))
theorem L_astore {X : XC} {own : String} {cc : ByteArray} {nL pc : Nat} {ls : List (Option Value)} {st : List Value} {σ : Mem} {i : Nat} {x : Nat} {ls2 : List (Option Value)} (hX : Cok X own cc nL) (hd : decode cc pc = .ok (.astore i, 2)) (hn : nol ls = true) (hlt : i < ls.length) (he : sett ls i (.ref x) = ls2) (kk : Lw X (pc + 2) ls2 st σ) : Lw X pc ls (.ref x :: st) σ := by
  obtain ⟨p, l, e, R, s, m, args, below, meth, c, cells, slots, Q, A, D, ad, cs, H0⟩ := X
  subst he
  intro H locs lsA hP hS hl
  exact lv_astore hX.1 hX.2.1 hd hl hlt rfl (fun ls9 h9 => kk H locs ls9 hP hS (by rw [sett_len]; exact lv_keep h9 (lvl_sett hn)))
theorem L_iinc {X : XC} {own : String} {cc : ByteArray} {nL pc : Nat} {ls : List (Option Value)} {st : List Value} {σ : Mem} {i : Nat} {n : Int} {x v : Int32} {ls2 : List (Option Value)} (hX : Cok X own cc nL) (hd : decode cc pc = .ok (.iinc i n, 3)) (hn : nol ls = true) (h : nth ls i = some (.int x)) (hv : x + Int32.ofInt n = v) (hlt : i < ls.length) (he : sett ls i (.int v) = ls2) (kk : Lw X (pc + 3) ls2 st σ) : Lw X pc ls st σ := by
  obtain ⟨p, l, e, R, s, m, args, below, meth, c, cells, slots, Q, A, D, ad, cs, H0⟩ := X
  subst he
  intro H locs lsA hP hS hl
  obtain ⟨k, hk⟩ := List.getElem?_of_mem (lvl_mem.mpr ⟨i, .int x, h, rfl⟩ : _ ∈ lvl ad 0 ls)
  rw [Nat.zero_add] at hk
  exact lv_iinc hX.1 hX.2.1 hd hl hk hv hlt rfl (fun ls9 h9 => kk H locs ls9 hP hS (by rw [sett_len]; exact lv_keep h9 (lvl_sett hn)))
theorem L_goto {X : XC} {own : String} {cc : ByteArray} {nL pc : Nat} {ls : List (Option Value)} {st : List Value} {σ : Mem} {off : Int} {tgt : Nat} (hX : Cok X own cc nL) (hd : decode cc pc = .ok (.goto off, 3)) (ht : (pc : Int) + off = (tgt : Int)) (kk : Lw X tgt ls st σ) : Lw X pc ls st σ := by
  obtain ⟨p, l, e, R, s, m, args, below, meth, c, cells, slots, Q, A, D, ad, cs, H0⟩ := X
  intro H locs lsA hP hS hl
  exact lv_goto hX.1 hX.2.1 hd ht (kk H locs lsA hP hS hl)
theorem L_ldc {X : XC} {own : String} {cc : ByteArray} {nL pc : Nat} {ls : List (Option Value)} {st : List Value} {σ : Mem} {index : Nat} {v : Int32} (hX : Cok X own cc nL) (hw : Cond.constant own index v ∈ lw_w) (hd : decode cc pc = .ok (.ldc index, 2)) (kk : Lw X (pc + 2) ls (.int v :: st) σ) : Lw X pc ls st σ := by
  obtain ⟨p, l, e, R, s, m, args, below, meth, c, cells, slots, Q, A, D, ad, cs, H0⟩ := X
  intro H locs lsA hP hS hl
  exact lv_ldc hX.1 hX.2.1 hX.2.2.2.1 (hX.2.2.2.2.1 _ hw) hd (kk H locs lsA hP hS hl)
theorem L_icmp_eq {X : XC} {own : String} {cc : ByteArray} {nL pc : Nat} {ls : List (Option Value)} {st : List Value} {σ : Mem} {x y : Int32} {off : Int} {tgt : Nat} (hX : Cok X own cc nL) (hd : decode cc pc = .ok (.if_icmp .eq off, 3)) (ht : (pc : Int) + off = (tgt : Int)) (kt : x = y → Lw X tgt ls st σ) (kf : ¬ x = y → Lw X (pc + 3) ls st σ) : Lw X pc ls (.int y :: .int x :: st) σ := by
  obtain ⟨p, l, e, R, s, m, args, below, meth, c, cells, slots, Q, A, D, ad, cs, H0⟩ := X
  intro H locs lsA hP hS hl
  exact lv_icmp_eq hX.1 hX.2.1 hd ht (fun h => kt h H locs lsA hP hS hl) (fun h => kf h H locs lsA hP hS hl)
theorem L_icmp_ne {X : XC} {own : String} {cc : ByteArray} {nL pc : Nat} {ls : List (Option Value)} {st : List Value} {σ : Mem} {x y : Int32} {off : Int} {tgt : Nat} (hX : Cok X own cc nL) (hd : decode cc pc = .ok (.if_icmp .ne off, 3)) (ht : (pc : Int) + off = (tgt : Int)) (kt : ¬ x = y → Lw X tgt ls st σ) (kf : x = y → Lw X (pc + 3) ls st σ) : Lw X pc ls (.int y :: .int x :: st) σ := by
  obtain ⟨p, l, e, R, s, m, args, below, meth, c, cells, slots, Q, A, D, ad, cs, H0⟩ := X
  intro H locs lsA hP hS hl
  exact lv_icmp_ne hX.1 hX.2.1 hd ht (fun h => kt h H locs lsA hP hS hl) (fun h => kf h H locs lsA hP hS hl)
theorem L_icmp_lt {X : XC} {own : String} {cc : ByteArray} {nL pc : Nat} {ls : List (Option Value)} {st : List Value} {σ : Mem} {x y : Int32} {off : Int} {tgt : Nat} (hX : Cok X own cc nL) (hd : decode cc pc = .ok (.if_icmp .lt off, 3)) (ht : (pc : Int) + off = (tgt : Int)) (kt : x < y → Lw X tgt ls st σ) (kf : ¬ x < y → Lw X (pc + 3) ls st σ) : Lw X pc ls (.int y :: .int x :: st) σ := by
  obtain ⟨p, l, e, R, s, m, args, below, meth, c, cells, slots, Q, A, D, ad, cs, H0⟩ := X
  intro H locs lsA hP hS hl
  exact lv_icmp_lt hX.1 hX.2.1 hd ht (fun h => kt h H locs lsA hP hS hl) (fun h => kf h H locs lsA hP hS hl)
theorem L_icmp_ge {X : XC} {own : String} {cc : ByteArray} {nL pc : Nat} {ls : List (Option Value)} {st : List Value} {σ : Mem} {x y : Int32} {off : Int} {tgt : Nat} (hX : Cok X own cc nL) (hd : decode cc pc = .ok (.if_icmp .ge off, 3)) (ht : (pc : Int) + off = (tgt : Int)) (kt : y ≤ x → Lw X tgt ls st σ) (kf : ¬ y ≤ x → Lw X (pc + 3) ls st σ) : Lw X pc ls (.int y :: .int x :: st) σ := by
  obtain ⟨p, l, e, R, s, m, args, below, meth, c, cells, slots, Q, A, D, ad, cs, H0⟩ := X
  intro H locs lsA hP hS hl
  exact lv_icmp_ge hX.1 hX.2.1 hd ht (fun h => kt h H locs lsA hP hS hl) (fun h => kf h H locs lsA hP hS hl)
theorem L_icmp_gt {X : XC} {own : String} {cc : ByteArray} {nL pc : Nat} {ls : List (Option Value)} {st : List Value} {σ : Mem} {x y : Int32} {off : Int} {tgt : Nat} (hX : Cok X own cc nL) (hd : decode cc pc = .ok (.if_icmp .gt off, 3)) (ht : (pc : Int) + off = (tgt : Int)) (kt : y < x → Lw X tgt ls st σ) (kf : ¬ y < x → Lw X (pc + 3) ls st σ) : Lw X pc ls (.int y :: .int x :: st) σ := by
  obtain ⟨p, l, e, R, s, m, args, below, meth, c, cells, slots, Q, A, D, ad, cs, H0⟩ := X
  intro H locs lsA hP hS hl
  exact lv_icmp_gt hX.1 hX.2.1 hd ht (fun h => kt h H locs lsA hP hS hl) (fun h => kf h H locs lsA hP hS hl)
theorem L_icmp_le {X : XC} {own : String} {cc : ByteArray} {nL pc : Nat} {ls : List (Option Value)} {st : List Value} {σ : Mem} {x y : Int32} {off : Int} {tgt : Nat} (hX : Cok X own cc nL) (hd : decode cc pc = .ok (.if_icmp .le off, 3)) (ht : (pc : Int) + off = (tgt : Int)) (kt : x ≤ y → Lw X tgt ls st σ) (kf : ¬ x ≤ y → Lw X (pc + 3) ls st σ) : Lw X pc ls (.int y :: .int x :: st) σ := by
  obtain ⟨p, l, e, R, s, m, args, below, meth, c, cells, slots, Q, A, D, ad, cs, H0⟩ := X
  intro H locs lsA hP hS hl
  exact lv_icmp_le hX.1 hX.2.1 hd ht (fun h => kt h H locs lsA hP hS hl) (fun h => kf h H locs lsA hP hS hl)
theorem L_if_eq {X : XC} {own : String} {cc : ByteArray} {nL pc : Nat} {ls : List (Option Value)} {st : List Value} {σ : Mem} {x : Int32} {off : Int} {tgt : Nat} (hX : Cok X own cc nL) (hd : decode cc pc = .ok (.ifCond .eq off, 3)) (ht : (pc : Int) + off = (tgt : Int)) (kt : x = 0 → Lw X tgt ls st σ) (kf : ¬ x = 0 → Lw X (pc + 3) ls st σ) : Lw X pc ls (.int x :: st) σ := by
  obtain ⟨p, l, e, R, s, m, args, below, meth, c, cells, slots, Q, A, D, ad, cs, H0⟩ := X
  intro H locs lsA hP hS hl
  exact lv_if_eq hX.1 hX.2.1 hd ht (fun h => kt h H locs lsA hP hS hl) (fun h => kf h H locs lsA hP hS hl)
theorem L_if_ne {X : XC} {own : String} {cc : ByteArray} {nL pc : Nat} {ls : List (Option Value)} {st : List Value} {σ : Mem} {x : Int32} {off : Int} {tgt : Nat} (hX : Cok X own cc nL) (hd : decode cc pc = .ok (.ifCond .ne off, 3)) (ht : (pc : Int) + off = (tgt : Int)) (kt : ¬ x = 0 → Lw X tgt ls st σ) (kf : x = 0 → Lw X (pc + 3) ls st σ) : Lw X pc ls (.int x :: st) σ := by
  obtain ⟨p, l, e, R, s, m, args, below, meth, c, cells, slots, Q, A, D, ad, cs, H0⟩ := X
  intro H locs lsA hP hS hl
  exact lv_if_ne hX.1 hX.2.1 hd ht (fun h => kt h H locs lsA hP hS hl) (fun h => kf h H locs lsA hP hS hl)
theorem L_istore0 {X : XC} {own : String} {cc : ByteArray} {nL pc : Nat} {b : Option Value} {r : List (Option Value)} {st : List Value} {σ : Mem} {x : Int32} (hX : Cok X own cc nL) (hd : decode cc pc = .ok (.istore_n 0, 1)) (hn : nol (b :: r) = true) (kk : Lw X (pc + 1) (some (.int x) :: r) st σ) : Lw X pc (b :: r) (.int x :: st) σ := L_istore_n (i := 0) hX hd rfl hn (by simp only [List.length_cons]; omega) rfl kk
theorem L_iinc0 {X : XC} {own : String} {cc : ByteArray} {nL pc : Nat} {r : List (Option Value)} {st : List Value} {σ : Mem} {n : Int} {x v : Int32} (hX : Cok X own cc nL) (hd : decode cc pc = .ok (.iinc 0 n, 3)) (hn : nol (some (.int x) :: r) = true) (hv : x + Int32.ofInt n = v) (kk : Lw X (pc + 3) (some (.int v) :: r) st σ) : Lw X pc (some (.int x) :: r) st σ := L_iinc (i := 0) hX hd hn rfl hv (by simp only [List.length_cons]; omega) rfl kk
theorem L_istore1 {X : XC} {own : String} {cc : ByteArray} {nL pc : Nat} {a0 : Option Value} {b : Option Value} {r : List (Option Value)} {st : List Value} {σ : Mem} {x : Int32} (hX : Cok X own cc nL) (hd : decode cc pc = .ok (.istore_n 1, 1)) (hn : nol (a0 :: b :: r) = true) (kk : Lw X (pc + 1) (a0 :: some (.int x) :: r) st σ) : Lw X pc (a0 :: b :: r) (.int x :: st) σ := L_istore_n (i := 1) hX hd rfl hn (by simp only [List.length_cons]; omega) rfl kk
theorem L_iinc1 {X : XC} {own : String} {cc : ByteArray} {nL pc : Nat} {a0 : Option Value} {r : List (Option Value)} {st : List Value} {σ : Mem} {n : Int} {x v : Int32} (hX : Cok X own cc nL) (hd : decode cc pc = .ok (.iinc 1 n, 3)) (hn : nol (a0 :: some (.int x) :: r) = true) (hv : x + Int32.ofInt n = v) (kk : Lw X (pc + 3) (a0 :: some (.int v) :: r) st σ) : Lw X pc (a0 :: some (.int x) :: r) st σ := L_iinc (i := 1) hX hd hn rfl hv (by simp only [List.length_cons]; omega) rfl kk
theorem L_istore2 {X : XC} {own : String} {cc : ByteArray} {nL pc : Nat} {a0 a1 : Option Value} {b : Option Value} {r : List (Option Value)} {st : List Value} {σ : Mem} {x : Int32} (hX : Cok X own cc nL) (hd : decode cc pc = .ok (.istore_n 2, 1)) (hn : nol (a0 :: a1 :: b :: r) = true) (kk : Lw X (pc + 1) (a0 :: a1 :: some (.int x) :: r) st σ) : Lw X pc (a0 :: a1 :: b :: r) (.int x :: st) σ := L_istore_n (i := 2) hX hd rfl hn (by simp only [List.length_cons]; omega) rfl kk
theorem L_iinc2 {X : XC} {own : String} {cc : ByteArray} {nL pc : Nat} {a0 a1 : Option Value} {r : List (Option Value)} {st : List Value} {σ : Mem} {n : Int} {x v : Int32} (hX : Cok X own cc nL) (hd : decode cc pc = .ok (.iinc 2 n, 3)) (hn : nol (a0 :: a1 :: some (.int x) :: r) = true) (hv : x + Int32.ofInt n = v) (kk : Lw X (pc + 3) (a0 :: a1 :: some (.int v) :: r) st σ) : Lw X pc (a0 :: a1 :: some (.int x) :: r) st σ := L_iinc (i := 2) hX hd hn rfl hv (by simp only [List.length_cons]; omega) rfl kk
theorem L_istore3 {X : XC} {own : String} {cc : ByteArray} {nL pc : Nat} {a0 a1 a2 : Option Value} {b : Option Value} {r : List (Option Value)} {st : List Value} {σ : Mem} {x : Int32} (hX : Cok X own cc nL) (hd : decode cc pc = .ok (.istore_n 3, 1)) (hn : nol (a0 :: a1 :: a2 :: b :: r) = true) (kk : Lw X (pc + 1) (a0 :: a1 :: a2 :: some (.int x) :: r) st σ) : Lw X pc (a0 :: a1 :: a2 :: b :: r) (.int x :: st) σ := L_istore_n (i := 3) hX hd rfl hn (by simp only [List.length_cons]; omega) rfl kk
theorem L_iinc3 {X : XC} {own : String} {cc : ByteArray} {nL pc : Nat} {a0 a1 a2 : Option Value} {r : List (Option Value)} {st : List Value} {σ : Mem} {n : Int} {x v : Int32} (hX : Cok X own cc nL) (hd : decode cc pc = .ok (.iinc 3 n, 3)) (hn : nol (a0 :: a1 :: a2 :: some (.int x) :: r) = true) (hv : x + Int32.ofInt n = v) (kk : Lw X (pc + 3) (a0 :: a1 :: a2 :: some (.int v) :: r) st σ) : Lw X pc (a0 :: a1 :: a2 :: some (.int x) :: r) st σ := L_iinc (i := 3) hX hd hn rfl hv (by simp only [List.length_cons]; omega) rfl kk
theorem L_istore4 {X : XC} {own : String} {cc : ByteArray} {nL pc : Nat} {a0 a1 a2 a3 : Option Value} {b : Option Value} {r : List (Option Value)} {st : List Value} {σ : Mem} {x : Int32} (hX : Cok X own cc nL) (hd : decode cc pc = .ok (.istore 4, 2)) (hn : nol (a0 :: a1 :: a2 :: a3 :: b :: r) = true) (kk : Lw X (pc + 2) (a0 :: a1 :: a2 :: a3 :: some (.int x) :: r) st σ) : Lw X pc (a0 :: a1 :: a2 :: a3 :: b :: r) (.int x :: st) σ := L_istore (i := 4) hX hd hn (by simp only [List.length_cons]; omega) rfl kk
theorem L_iinc4 {X : XC} {own : String} {cc : ByteArray} {nL pc : Nat} {a0 a1 a2 a3 : Option Value} {r : List (Option Value)} {st : List Value} {σ : Mem} {n : Int} {x v : Int32} (hX : Cok X own cc nL) (hd : decode cc pc = .ok (.iinc 4 n, 3)) (hn : nol (a0 :: a1 :: a2 :: a3 :: some (.int x) :: r) = true) (hv : x + Int32.ofInt n = v) (kk : Lw X (pc + 3) (a0 :: a1 :: a2 :: a3 :: some (.int v) :: r) st σ) : Lw X pc (a0 :: a1 :: a2 :: a3 :: some (.int x) :: r) st σ := L_iinc (i := 4) hX hd hn rfl hv (by simp only [List.length_cons]; omega) rfl kk
theorem L_istore5 {X : XC} {own : String} {cc : ByteArray} {nL pc : Nat} {a0 a1 a2 a3 a4 : Option Value} {b : Option Value} {r : List (Option Value)} {st : List Value} {σ : Mem} {x : Int32} (hX : Cok X own cc nL) (hd : decode cc pc = .ok (.istore 5, 2)) (hn : nol (a0 :: a1 :: a2 :: a3 :: a4 :: b :: r) = true) (kk : Lw X (pc + 2) (a0 :: a1 :: a2 :: a3 :: a4 :: some (.int x) :: r) st σ) : Lw X pc (a0 :: a1 :: a2 :: a3 :: a4 :: b :: r) (.int x :: st) σ := L_istore (i := 5) hX hd hn (by simp only [List.length_cons]; omega) rfl kk
theorem L_iinc5 {X : XC} {own : String} {cc : ByteArray} {nL pc : Nat} {a0 a1 a2 a3 a4 : Option Value} {r : List (Option Value)} {st : List Value} {σ : Mem} {n : Int} {x v : Int32} (hX : Cok X own cc nL) (hd : decode cc pc = .ok (.iinc 5 n, 3)) (hn : nol (a0 :: a1 :: a2 :: a3 :: a4 :: some (.int x) :: r) = true) (hv : x + Int32.ofInt n = v) (kk : Lw X (pc + 3) (a0 :: a1 :: a2 :: a3 :: a4 :: some (.int v) :: r) st σ) : Lw X pc (a0 :: a1 :: a2 :: a3 :: a4 :: some (.int x) :: r) st σ := L_iinc (i := 5) hX hd hn rfl hv (by simp only [List.length_cons]; omega) rfl kk
theorem L_istore6 {X : XC} {own : String} {cc : ByteArray} {nL pc : Nat} {a0 a1 a2 a3 a4 a5 : Option Value} {b : Option Value} {r : List (Option Value)} {st : List Value} {σ : Mem} {x : Int32} (hX : Cok X own cc nL) (hd : decode cc pc = .ok (.istore 6, 2)) (hn : nol (a0 :: a1 :: a2 :: a3 :: a4 :: a5 :: b :: r) = true) (kk : Lw X (pc + 2) (a0 :: a1 :: a2 :: a3 :: a4 :: a5 :: some (.int x) :: r) st σ) : Lw X pc (a0 :: a1 :: a2 :: a3 :: a4 :: a5 :: b :: r) (.int x :: st) σ := L_istore (i := 6) hX hd hn (by simp only [List.length_cons]; omega) rfl kk
theorem L_iinc6 {X : XC} {own : String} {cc : ByteArray} {nL pc : Nat} {a0 a1 a2 a3 a4 a5 : Option Value} {r : List (Option Value)} {st : List Value} {σ : Mem} {n : Int} {x v : Int32} (hX : Cok X own cc nL) (hd : decode cc pc = .ok (.iinc 6 n, 3)) (hn : nol (a0 :: a1 :: a2 :: a3 :: a4 :: a5 :: some (.int x) :: r) = true) (hv : x + Int32.ofInt n = v) (kk : Lw X (pc + 3) (a0 :: a1 :: a2 :: a3 :: a4 :: a5 :: some (.int v) :: r) st σ) : Lw X pc (a0 :: a1 :: a2 :: a3 :: a4 :: a5 :: some (.int x) :: r) st σ := L_iinc (i := 6) hX hd hn rfl hv (by simp only [List.length_cons]; omega) rfl kk
theorem L_istore7 {X : XC} {own : String} {cc : ByteArray} {nL pc : Nat} {a0 a1 a2 a3 a4 a5 a6 : Option Value} {b : Option Value} {r : List (Option Value)} {st : List Value} {σ : Mem} {x : Int32} (hX : Cok X own cc nL) (hd : decode cc pc = .ok (.istore 7, 2)) (hn : nol (a0 :: a1 :: a2 :: a3 :: a4 :: a5 :: a6 :: b :: r) = true) (kk : Lw X (pc + 2) (a0 :: a1 :: a2 :: a3 :: a4 :: a5 :: a6 :: some (.int x) :: r) st σ) : Lw X pc (a0 :: a1 :: a2 :: a3 :: a4 :: a5 :: a6 :: b :: r) (.int x :: st) σ := L_istore (i := 7) hX hd hn (by simp only [List.length_cons]; omega) rfl kk
theorem L_iinc7 {X : XC} {own : String} {cc : ByteArray} {nL pc : Nat} {a0 a1 a2 a3 a4 a5 a6 : Option Value} {r : List (Option Value)} {st : List Value} {σ : Mem} {n : Int} {x v : Int32} (hX : Cok X own cc nL) (hd : decode cc pc = .ok (.iinc 7 n, 3)) (hn : nol (a0 :: a1 :: a2 :: a3 :: a4 :: a5 :: a6 :: some (.int x) :: r) = true) (hv : x + Int32.ofInt n = v) (kk : Lw X (pc + 3) (a0 :: a1 :: a2 :: a3 :: a4 :: a5 :: a6 :: some (.int v) :: r) st σ) : Lw X pc (a0 :: a1 :: a2 :: a3 :: a4 :: a5 :: a6 :: some (.int x) :: r) st σ := L_iinc (i := 7) hX hd hn rfl hv (by simp only [List.length_cons]; omega) rfl kk
theorem L_istore8 {X : XC} {own : String} {cc : ByteArray} {nL pc : Nat} {a0 a1 a2 a3 a4 a5 a6 a7 : Option Value} {b : Option Value} {r : List (Option Value)} {st : List Value} {σ : Mem} {x : Int32} (hX : Cok X own cc nL) (hd : decode cc pc = .ok (.istore 8, 2)) (hn : nol (a0 :: a1 :: a2 :: a3 :: a4 :: a5 :: a6 :: a7 :: b :: r) = true) (kk : Lw X (pc + 2) (a0 :: a1 :: a2 :: a3 :: a4 :: a5 :: a6 :: a7 :: some (.int x) :: r) st σ) : Lw X pc (a0 :: a1 :: a2 :: a3 :: a4 :: a5 :: a6 :: a7 :: b :: r) (.int x :: st) σ := L_istore (i := 8) hX hd hn (by simp only [List.length_cons]; omega) rfl kk
theorem L_iinc8 {X : XC} {own : String} {cc : ByteArray} {nL pc : Nat} {a0 a1 a2 a3 a4 a5 a6 a7 : Option Value} {r : List (Option Value)} {st : List Value} {σ : Mem} {n : Int} {x v : Int32} (hX : Cok X own cc nL) (hd : decode cc pc = .ok (.iinc 8 n, 3)) (hn : nol (a0 :: a1 :: a2 :: a3 :: a4 :: a5 :: a6 :: a7 :: some (.int x) :: r) = true) (hv : x + Int32.ofInt n = v) (kk : Lw X (pc + 3) (a0 :: a1 :: a2 :: a3 :: a4 :: a5 :: a6 :: a7 :: some (.int v) :: r) st σ) : Lw X pc (a0 :: a1 :: a2 :: a3 :: a4 :: a5 :: a6 :: a7 :: some (.int x) :: r) st σ := L_iinc (i := 8) hX hd hn rfl hv (by simp only [List.length_cons]; omega) rfl kk
theorem L_istore9 {X : XC} {own : String} {cc : ByteArray} {nL pc : Nat} {a0 a1 a2 a3 a4 a5 a6 a7 a8 : Option Value} {b : Option Value} {r : List (Option Value)} {st : List Value} {σ : Mem} {x : Int32} (hX : Cok X own cc nL) (hd : decode cc pc = .ok (.istore 9, 2)) (hn : nol (a0 :: a1 :: a2 :: a3 :: a4 :: a5 :: a6 :: a7 :: a8 :: b :: r) = true) (kk : Lw X (pc + 2) (a0 :: a1 :: a2 :: a3 :: a4 :: a5 :: a6 :: a7 :: a8 :: some (.int x) :: r) st σ) : Lw X pc (a0 :: a1 :: a2 :: a3 :: a4 :: a5 :: a6 :: a7 :: a8 :: b :: r) (.int x :: st) σ := L_istore (i := 9) hX hd hn (by simp only [List.length_cons]; omega) rfl kk
theorem L_iinc9 {X : XC} {own : String} {cc : ByteArray} {nL pc : Nat} {a0 a1 a2 a3 a4 a5 a6 a7 a8 : Option Value} {r : List (Option Value)} {st : List Value} {σ : Mem} {n : Int} {x v : Int32} (hX : Cok X own cc nL) (hd : decode cc pc = .ok (.iinc 9 n, 3)) (hn : nol (a0 :: a1 :: a2 :: a3 :: a4 :: a5 :: a6 :: a7 :: a8 :: some (.int x) :: r) = true) (hv : x + Int32.ofInt n = v) (kk : Lw X (pc + 3) (a0 :: a1 :: a2 :: a3 :: a4 :: a5 :: a6 :: a7 :: a8 :: some (.int v) :: r) st σ) : Lw X pc (a0 :: a1 :: a2 :: a3 :: a4 :: a5 :: a6 :: a7 :: a8 :: some (.int x) :: r) st σ := L_iinc (i := 9) hX hd hn rfl hv (by simp only [List.length_cons]; omega) rfl kk
theorem L_istore10 {X : XC} {own : String} {cc : ByteArray} {nL pc : Nat} {a0 a1 a2 a3 a4 a5 a6 a7 a8 a9 : Option Value} {b : Option Value} {r : List (Option Value)} {st : List Value} {σ : Mem} {x : Int32} (hX : Cok X own cc nL) (hd : decode cc pc = .ok (.istore 10, 2)) (hn : nol (a0 :: a1 :: a2 :: a3 :: a4 :: a5 :: a6 :: a7 :: a8 :: a9 :: b :: r) = true) (kk : Lw X (pc + 2) (a0 :: a1 :: a2 :: a3 :: a4 :: a5 :: a6 :: a7 :: a8 :: a9 :: some (.int x) :: r) st σ) : Lw X pc (a0 :: a1 :: a2 :: a3 :: a4 :: a5 :: a6 :: a7 :: a8 :: a9 :: b :: r) (.int x :: st) σ := L_istore (i := 10) hX hd hn (by simp only [List.length_cons]; omega) rfl kk
theorem L_iinc10 {X : XC} {own : String} {cc : ByteArray} {nL pc : Nat} {a0 a1 a2 a3 a4 a5 a6 a7 a8 a9 : Option Value} {r : List (Option Value)} {st : List Value} {σ : Mem} {n : Int} {x v : Int32} (hX : Cok X own cc nL) (hd : decode cc pc = .ok (.iinc 10 n, 3)) (hn : nol (a0 :: a1 :: a2 :: a3 :: a4 :: a5 :: a6 :: a7 :: a8 :: a9 :: some (.int x) :: r) = true) (hv : x + Int32.ofInt n = v) (kk : Lw X (pc + 3) (a0 :: a1 :: a2 :: a3 :: a4 :: a5 :: a6 :: a7 :: a8 :: a9 :: some (.int v) :: r) st σ) : Lw X pc (a0 :: a1 :: a2 :: a3 :: a4 :: a5 :: a6 :: a7 :: a8 :: a9 :: some (.int x) :: r) st σ := L_iinc (i := 10) hX hd hn rfl hv (by simp only [List.length_cons]; omega) rfl kk
theorem L_istore11 {X : XC} {own : String} {cc : ByteArray} {nL pc : Nat} {a0 a1 a2 a3 a4 a5 a6 a7 a8 a9 a10 : Option Value} {b : Option Value} {r : List (Option Value)} {st : List Value} {σ : Mem} {x : Int32} (hX : Cok X own cc nL) (hd : decode cc pc = .ok (.istore 11, 2)) (hn : nol (a0 :: a1 :: a2 :: a3 :: a4 :: a5 :: a6 :: a7 :: a8 :: a9 :: a10 :: b :: r) = true) (kk : Lw X (pc + 2) (a0 :: a1 :: a2 :: a3 :: a4 :: a5 :: a6 :: a7 :: a8 :: a9 :: a10 :: some (.int x) :: r) st σ) : Lw X pc (a0 :: a1 :: a2 :: a3 :: a4 :: a5 :: a6 :: a7 :: a8 :: a9 :: a10 :: b :: r) (.int x :: st) σ := L_istore (i := 11) hX hd hn (by simp only [List.length_cons]; omega) rfl kk
theorem L_iinc11 {X : XC} {own : String} {cc : ByteArray} {nL pc : Nat} {a0 a1 a2 a3 a4 a5 a6 a7 a8 a9 a10 : Option Value} {r : List (Option Value)} {st : List Value} {σ : Mem} {n : Int} {x v : Int32} (hX : Cok X own cc nL) (hd : decode cc pc = .ok (.iinc 11 n, 3)) (hn : nol (a0 :: a1 :: a2 :: a3 :: a4 :: a5 :: a6 :: a7 :: a8 :: a9 :: a10 :: some (.int x) :: r) = true) (hv : x + Int32.ofInt n = v) (kk : Lw X (pc + 3) (a0 :: a1 :: a2 :: a3 :: a4 :: a5 :: a6 :: a7 :: a8 :: a9 :: a10 :: some (.int v) :: r) st σ) : Lw X pc (a0 :: a1 :: a2 :: a3 :: a4 :: a5 :: a6 :: a7 :: a8 :: a9 :: a10 :: some (.int x) :: r) st σ := L_iinc (i := 11) hX hd hn rfl hv (by simp only [List.length_cons]; omega) rfl kk
theorem L_istore12 {X : XC} {own : String} {cc : ByteArray} {nL pc : Nat} {a0 a1 a2 a3 a4 a5 a6 a7 a8 a9 a10 a11 : Option Value} {b : Option Value} {r : List (Option Value)} {st : List Value} {σ : Mem} {x : Int32} (hX : Cok X own cc nL) (hd : decode cc pc = .ok (.istore 12, 2)) (hn : nol (a0 :: a1 :: a2 :: a3 :: a4 :: a5 :: a6 :: a7 :: a8 :: a9 :: a10 :: a11 :: b :: r) = true) (kk : Lw X (pc + 2) (a0 :: a1 :: a2 :: a3 :: a4 :: a5 :: a6 :: a7 :: a8 :: a9 :: a10 :: a11 :: some (.int x) :: r) st σ) : Lw X pc (a0 :: a1 :: a2 :: a3 :: a4 :: a5 :: a6 :: a7 :: a8 :: a9 :: a10 :: a11 :: b :: r) (.int x :: st) σ := L_istore (i := 12) hX hd hn (by simp only [List.length_cons]; omega) rfl kk
theorem L_iinc12 {X : XC} {own : String} {cc : ByteArray} {nL pc : Nat} {a0 a1 a2 a3 a4 a5 a6 a7 a8 a9 a10 a11 : Option Value} {r : List (Option Value)} {st : List Value} {σ : Mem} {n : Int} {x v : Int32} (hX : Cok X own cc nL) (hd : decode cc pc = .ok (.iinc 12 n, 3)) (hn : nol (a0 :: a1 :: a2 :: a3 :: a4 :: a5 :: a6 :: a7 :: a8 :: a9 :: a10 :: a11 :: some (.int x) :: r) = true) (hv : x + Int32.ofInt n = v) (kk : Lw X (pc + 3) (a0 :: a1 :: a2 :: a3 :: a4 :: a5 :: a6 :: a7 :: a8 :: a9 :: a10 :: a11 :: some (.int v) :: r) st σ) : Lw X pc (a0 :: a1 :: a2 :: a3 :: a4 :: a5 :: a6 :: a7 :: a8 :: a9 :: a10 :: a11 :: some (.int x) :: r) st σ := L_iinc (i := 12) hX hd hn rfl hv (by simp only [List.length_cons]; omega) rfl kk
theorem L_istore13 {X : XC} {own : String} {cc : ByteArray} {nL pc : Nat} {a0 a1 a2 a3 a4 a5 a6 a7 a8 a9 a10 a11 a12 : Option Value} {b : Option Value} {r : List (Option Value)} {st : List Value} {σ : Mem} {x : Int32} (hX : Cok X own cc nL) (hd : decode cc pc = .ok (.istore 13, 2)) (hn : nol (a0 :: a1 :: a2 :: a3 :: a4 :: a5 :: a6 :: a7 :: a8 :: a9 :: a10 :: a11 :: a12 :: b :: r) = true) (kk : Lw X (pc + 2) (a0 :: a1 :: a2 :: a3 :: a4 :: a5 :: a6 :: a7 :: a8 :: a9 :: a10 :: a11 :: a12 :: some (.int x) :: r) st σ) : Lw X pc (a0 :: a1 :: a2 :: a3 :: a4 :: a5 :: a6 :: a7 :: a8 :: a9 :: a10 :: a11 :: a12 :: b :: r) (.int x :: st) σ := L_istore (i := 13) hX hd hn (by simp only [List.length_cons]; omega) rfl kk
theorem L_iinc13 {X : XC} {own : String} {cc : ByteArray} {nL pc : Nat} {a0 a1 a2 a3 a4 a5 a6 a7 a8 a9 a10 a11 a12 : Option Value} {r : List (Option Value)} {st : List Value} {σ : Mem} {n : Int} {x v : Int32} (hX : Cok X own cc nL) (hd : decode cc pc = .ok (.iinc 13 n, 3)) (hn : nol (a0 :: a1 :: a2 :: a3 :: a4 :: a5 :: a6 :: a7 :: a8 :: a9 :: a10 :: a11 :: a12 :: some (.int x) :: r) = true) (hv : x + Int32.ofInt n = v) (kk : Lw X (pc + 3) (a0 :: a1 :: a2 :: a3 :: a4 :: a5 :: a6 :: a7 :: a8 :: a9 :: a10 :: a11 :: a12 :: some (.int v) :: r) st σ) : Lw X pc (a0 :: a1 :: a2 :: a3 :: a4 :: a5 :: a6 :: a7 :: a8 :: a9 :: a10 :: a11 :: a12 :: some (.int x) :: r) st σ := L_iinc (i := 13) hX hd hn rfl hv (by simp only [List.length_cons]; omega) rfl kk
theorem L_istore14 {X : XC} {own : String} {cc : ByteArray} {nL pc : Nat} {a0 a1 a2 a3 a4 a5 a6 a7 a8 a9 a10 a11 a12 a13 : Option Value} {b : Option Value} {r : List (Option Value)} {st : List Value} {σ : Mem} {x : Int32} (hX : Cok X own cc nL) (hd : decode cc pc = .ok (.istore 14, 2)) (hn : nol (a0 :: a1 :: a2 :: a3 :: a4 :: a5 :: a6 :: a7 :: a8 :: a9 :: a10 :: a11 :: a12 :: a13 :: b :: r) = true) (kk : Lw X (pc + 2) (a0 :: a1 :: a2 :: a3 :: a4 :: a5 :: a6 :: a7 :: a8 :: a9 :: a10 :: a11 :: a12 :: a13 :: some (.int x) :: r) st σ) : Lw X pc (a0 :: a1 :: a2 :: a3 :: a4 :: a5 :: a6 :: a7 :: a8 :: a9 :: a10 :: a11 :: a12 :: a13 :: b :: r) (.int x :: st) σ := L_istore (i := 14) hX hd hn (by simp only [List.length_cons]; omega) rfl kk
theorem L_iinc14 {X : XC} {own : String} {cc : ByteArray} {nL pc : Nat} {a0 a1 a2 a3 a4 a5 a6 a7 a8 a9 a10 a11 a12 a13 : Option Value} {r : List (Option Value)} {st : List Value} {σ : Mem} {n : Int} {x v : Int32} (hX : Cok X own cc nL) (hd : decode cc pc = .ok (.iinc 14 n, 3)) (hn : nol (a0 :: a1 :: a2 :: a3 :: a4 :: a5 :: a6 :: a7 :: a8 :: a9 :: a10 :: a11 :: a12 :: a13 :: some (.int x) :: r) = true) (hv : x + Int32.ofInt n = v) (kk : Lw X (pc + 3) (a0 :: a1 :: a2 :: a3 :: a4 :: a5 :: a6 :: a7 :: a8 :: a9 :: a10 :: a11 :: a12 :: a13 :: some (.int v) :: r) st σ) : Lw X pc (a0 :: a1 :: a2 :: a3 :: a4 :: a5 :: a6 :: a7 :: a8 :: a9 :: a10 :: a11 :: a12 :: a13 :: some (.int x) :: r) st σ := L_iinc (i := 14) hX hd hn rfl hv (by simp only [List.length_cons]; omega) rfl kk
theorem L_if_eqB {X : XC} {own : String} {cc : ByteArray} {nL pc : Nat} {ls : List (Option Value)} {st : List Value} {σ : Mem} {b : Bool} {off : Int} {tgt : Nat} (hX : Cok X own cc nL) (hd : decode cc pc = .ok (.ifCond .eq off, 3)) (ht : (pc : Int) + off = (tgt : Int)) (kt : b = false → Lw X tgt ls st σ) (kf : b = true → Lw X (pc + 3) ls st σ) : Lw X pc ls (.int (bI b) :: st) σ :=
  L_if_eq hX hd ht (fun h => kt (bI_z.mp h)) (fun h => kf (by cases b with
    | true => rfl
    | false => exact absurd (bI_z.mpr rfl) h))
theorem L_if_neB {X : XC} {own : String} {cc : ByteArray} {nL pc : Nat} {ls : List (Option Value)} {st : List Value} {σ : Mem} {b : Bool} {off : Int} {tgt : Nat} (hX : Cok X own cc nL) (hd : decode cc pc = .ok (.ifCond .ne off, 3)) (ht : (pc : Int) + off = (tgt : Int)) (kt : b = true → Lw X tgt ls st σ) (kf : b = false → Lw X (pc + 3) ls st σ) : Lw X pc ls (.int (bI b) :: st) σ :=
  L_if_ne hX hd ht (fun h => kt (by cases b with
    | true => rfl
    | false => exact absurd (bI_z.mpr rfl) h)) (fun h => kf (bI_z.mp h))
theorem L_icmp_eqN {X : XC} {own : String} {cc : ByteArray} {nL pc : Nat} {ls : List (Option Value)} {st : List Value} {σ : Mem} {a b : Nat} {off : Int} {tgt : Nat} (hX : Cok X own cc nL) (hd : decode cc pc = .ok (.if_icmp .eq off, 3)) (ht : (pc : Int) + off = (tgt : Int)) (ha : a < 2 ^ 31) (hb : b < 2 ^ 31) (kt : a = b → Lw X tgt ls st σ) (kf : a ≠ b → Lw X (pc + 3) ls st σ) : Lw X pc ls (.int (nI b) :: .int (nI a) :: st) σ :=
  L_icmp_eq hX hd ht (fun h => kt ((nI_eq ha hb).mp h)) (fun h => kf (fun q => h ((nI_eq ha hb).mpr q)))
theorem L_icmp_neN {X : XC} {own : String} {cc : ByteArray} {nL pc : Nat} {ls : List (Option Value)} {st : List Value} {σ : Mem} {a b : Nat} {off : Int} {tgt : Nat} (hX : Cok X own cc nL) (hd : decode cc pc = .ok (.if_icmp .ne off, 3)) (ht : (pc : Int) + off = (tgt : Int)) (ha : a < 2 ^ 31) (hb : b < 2 ^ 31) (kt : a ≠ b → Lw X tgt ls st σ) (kf : a = b → Lw X (pc + 3) ls st σ) : Lw X pc ls (.int (nI b) :: .int (nI a) :: st) σ :=
  L_icmp_ne hX hd ht (fun h => kt (fun q => h ((nI_eq ha hb).mpr q))) (fun h => kf ((nI_eq ha hb).mp h))
theorem L_icmp_ltN {X : XC} {own : String} {cc : ByteArray} {nL pc : Nat} {ls : List (Option Value)} {st : List Value} {σ : Mem} {a b : Nat} {off : Int} {tgt : Nat} (hX : Cok X own cc nL) (hd : decode cc pc = .ok (.if_icmp .lt off, 3)) (ht : (pc : Int) + off = (tgt : Int)) (ha : a < 2 ^ 31) (hb : b < 2 ^ 31) (kt : a < b → Lw X tgt ls st σ) (kf : b ≤ a → Lw X (pc + 3) ls st σ) : Lw X pc ls (.int (nI b) :: .int (nI a) :: st) σ :=
  L_icmp_lt hX hd ht (fun h => kt ((nI_ltI ha hb).mp h)) (fun h => kf (Nat.not_lt.mp (fun q => h ((nI_ltI ha hb).mpr q))))
theorem L_icmp_geN {X : XC} {own : String} {cc : ByteArray} {nL pc : Nat} {ls : List (Option Value)} {st : List Value} {σ : Mem} {a b : Nat} {off : Int} {tgt : Nat} (hX : Cok X own cc nL) (hd : decode cc pc = .ok (.if_icmp .ge off, 3)) (ht : (pc : Int) + off = (tgt : Int)) (ha : a < 2 ^ 31) (hb : b < 2 ^ 31) (kt : b ≤ a → Lw X tgt ls st σ) (kf : a < b → Lw X (pc + 3) ls st σ) : Lw X pc ls (.int (nI b) :: .int (nI a) :: st) σ :=
  L_icmp_ge hX hd ht (fun h => kt ((nI_leI hb ha).mp h)) (fun h => kf (Nat.not_le.mp (fun q => h ((nI_leI hb ha).mpr q))))
theorem L_icmp_gtN {X : XC} {own : String} {cc : ByteArray} {nL pc : Nat} {ls : List (Option Value)} {st : List Value} {σ : Mem} {a b : Nat} {off : Int} {tgt : Nat} (hX : Cok X own cc nL) (hd : decode cc pc = .ok (.if_icmp .gt off, 3)) (ht : (pc : Int) + off = (tgt : Int)) (ha : a < 2 ^ 31) (hb : b < 2 ^ 31) (kt : b < a → Lw X tgt ls st σ) (kf : a ≤ b → Lw X (pc + 3) ls st σ) : Lw X pc ls (.int (nI b) :: .int (nI a) :: st) σ :=
  L_icmp_gt hX hd ht (fun h => kt ((nI_ltI hb ha).mp h)) (fun h => kf (Nat.not_lt.mp (fun q => h ((nI_ltI hb ha).mpr q))))
theorem L_icmp_leN {X : XC} {own : String} {cc : ByteArray} {nL pc : Nat} {ls : List (Option Value)} {st : List Value} {σ : Mem} {a b : Nat} {off : Int} {tgt : Nat} (hX : Cok X own cc nL) (hd : decode cc pc = .ok (.if_icmp .le off, 3)) (ht : (pc : Int) + off = (tgt : Int)) (ha : a < 2 ^ 31) (hb : b < 2 ^ 31) (kt : a ≤ b → Lw X tgt ls st σ) (kf : b < a → Lw X (pc + 3) ls st σ) : Lw X pc ls (.int (nI b) :: .int (nI a) :: st) σ :=
  L_icmp_le hX hd ht (fun h => kt ((nI_leI ha hb).mp h)) (fun h => kf (Nat.not_le.mp (fun q => h ((nI_leI ha hb).mpr q))))
theorem L_icmp_neS {X : XC} {own : String} {cc : ByteArray} {nL pc : Nat} {ls : List (Option Value)} {st : List Value} {σ : Mem} {x : Int32} {k : Nat} {off : Int} {tgt : Nat} (hX : Cok X own cc nL) (hd : decode cc pc = .ok (.if_icmp .ne off, 3)) (ht : (pc : Int) + off = (tgt : Int)) (hk : k < 32) (kt : bt x k = false → Lw X tgt ls st σ) (kf : bt x k = true → Lw X (pc + 3) ls st σ) : Lw X pc ls (.int (nI 1) :: .int ((x >>> (nI k &&& 31)) &&& nI 1) :: st) σ :=
  L_icmp_ne hX hd ht (fun h => kt (bn (fun q => h (by rw [sbit hk]; exact bI_1.mpr q)))) (fun h => kf (by rw [sbit hk] at h; exact bI_1.mp h))
theorem L_icmp_eqS {X : XC} {own : String} {cc : ByteArray} {nL pc : Nat} {ls : List (Option Value)} {st : List Value} {σ : Mem} {x : Int32} {k : Nat} {off : Int} {tgt : Nat} (hX : Cok X own cc nL) (hd : decode cc pc = .ok (.if_icmp .eq off, 3)) (ht : (pc : Int) + off = (tgt : Int)) (hk : k < 32) (kt : bt x k = true → Lw X tgt ls st σ) (kf : bt x k = false → Lw X (pc + 3) ls st σ) : Lw X pc ls (.int (nI 1) :: .int ((x >>> (nI k &&& 31)) &&& nI 1) :: st) σ :=
  L_icmp_eq hX hd ht (fun h => kt (by rw [sbit hk] at h; exact bI_1.mp h)) (fun h => kf (bn (fun q => h (by rw [sbit hk]; exact bI_1.mpr q))))
theorem L_if_eqS {X : XC} {own : String} {cc : ByteArray} {nL pc : Nat} {ls : List (Option Value)} {st : List Value} {σ : Mem} {x : Int32} {k : Nat} {off : Int} {tgt : Nat} (hX : Cok X own cc nL) (hd : decode cc pc = .ok (.ifCond .eq off, 3)) (ht : (pc : Int) + off = (tgt : Int)) (hk : k < 32) (kt : bt x k = false → Lw X tgt ls st σ) (kf : bt x k = true → Lw X (pc + 3) ls st σ) : Lw X pc ls (.int ((x >>> (nI k &&& 31)) &&& nI 1) :: st) σ :=
  L_if_eq hX hd ht (fun h => kt (by rw [sbit hk] at h; exact bI_z.mp h)) (fun h => kf (bn' (fun q => h (by rw [sbit hk]; exact bI_z.mpr q))))
theorem L_if_neS {X : XC} {own : String} {cc : ByteArray} {nL pc : Nat} {ls : List (Option Value)} {st : List Value} {σ : Mem} {x : Int32} {k : Nat} {off : Int} {tgt : Nat} (hX : Cok X own cc nL) (hd : decode cc pc = .ok (.ifCond .ne off, 3)) (ht : (pc : Int) + off = (tgt : Int)) (hk : k < 32) (kt : bt x k = true → Lw X tgt ls st σ) (kf : bt x k = false → Lw X (pc + 3) ls st σ) : Lw X pc ls (.int ((x >>> (nI k &&& 31)) &&& nI 1) :: st) σ :=
  L_if_ne hX hd ht (fun h => kt (bn' (fun q => h (by rw [sbit hk]; exact bI_z.mpr q)))) (fun h => kf (by rw [sbit hk] at h; exact bI_z.mp h))
def Scr (X : XC) (L : Nat) (xs : Nat → Int32) : Prop := match X with
  | (_, _, _, _, s, _, _, _, _, _, _, _, _, A, _, ad, _, H0) => va_X (ad 52) L xs s H0 ∧ ad 52 < H0.size ∧ ¬ A (ad 52)
theorem V_sld {X : XC} {own : String} {cc : ByteArray} {nL pc : Nat} {ls : List (Option Value)} {st : List Value} {σ : Mem} {L j : Nat} {xs : Nat → Int32} {i : Int32} (hX : Cok X own cc nL) (hs : Scr X L xs) (hL : L < 2 ^ 31) (hd : decode cc pc = .ok (.iaload, 1)) (hi : i = nI j) (hj : j < L) (kk : Vw X (pc + 1) ls (.int (xs j) :: st) σ) : Vw X pc ls (.int i :: .ref 52 :: st) σ := by
  obtain ⟨p, l, e, R, s, m, args, below, meth, c, cells, slots, Q, A, D, ad, cs, H0⟩ := X
  intro H locs lsA hP hS hl
  subst hi
  have h2 := kk H locs lsA hP hS hl
  refine va_sld hX.1 hX.2.1 hs.1 hs.2.1 hs.2.2 hS (vp_in_nI hj hL) hd ?_
  rw [nI_clamp (by omega)]
  exact h2
theorem V_slen {X : XC} {own : String} {cc : ByteArray} {nL pc : Nat} {ls : List (Option Value)} {st : List Value} {σ : Mem} {L : Nat} {xs : Nat → Int32} (hX : Cok X own cc nL) (hs : Scr X L xs) (hd : decode cc pc = .ok (.arraylength, 1)) (kk : Vw X (pc + 1) ls (.int (nI L) :: st) σ) : Vw X pc ls (.ref 52 :: st) σ := by
  obtain ⟨p, l, e, R, s, m, args, below, meth, c, cells, slots, Q, A, D, ad, cs, H0⟩ := X
  intro H locs lsA hP hS hl
  exact va_slen hX.1 hX.2.1 hs.1 hs.2.1 hs.2.2 hS hd (kk H locs lsA hP hS hl)
/-- a contract of a method that reads the script too: L ints xs, at the place 52 -/
def Cs (L : Nat) (xs : Nat → Int32) (y : MethodName) (cc : ByteArray) (mx : Nat) (ret : Option FieldType) (d : Nat) (args : List Value) (σ : Mem) (P : Option Value → Mem → Prop) : Prop :=
  ∀ (l : Launch) (D : va_G) (ad : Nat → Nat) (cs : Nat → ClassId), (∀ i j : Nat, i < 52 → j < 52 → ad i = ad j → i = j) → ¬ inW ad (ad 52) →
    Met l y (Cond.code y cc mx ret :: lw_w) (rmd d) (va_Pc (args.map (cvv ad)) (fun U => va_P D vwCl (wl ad cs σ 0 shp) U.heap ∧ va_K D vwCl (tys3 cs) U ∧ va_X (ad 52) L xs U U.heap)) (Qg D ad cs (inW ad) P) 0 0 (inW ad)
theorem Cc.toCs {L : Nat} {xs : Nat → Int32} {y : MethodName} {cc : ByteArray} {mx : Nat} {ret : Option FieldType} {d : Nat} {args : List Value} {σ : Mem} {P : Option Value → Mem → Prop} (h : Cc y cc mx ret d args σ P) : Cs L xs y cc mx ret d args σ P := by
  intro l D ad cs hinj _
  intro p e ha hc hk s m args' below hf hfit happ hq
  exact h l D ad cs hinj p e ha hc hk s m args' below hf hfit ⟨happ.1, happ.2.1, happ.2.2.1⟩ hq
theorem Cs.intro {L : Nat} {xs : Nat → Int32} {y : MethodName} {cc : ByteArray} {mx : Nat} {ret : Option FieldType} {d : Nat} {args : List Value} {σ : Mem} {P : Option Value → Mem → Prop} (hy : plainName y.cls = true) (ls0 : List (Option Value)) (he : ∀ ad : Nat → Nat, lvl ad 0 ls0 = lv_args 0 (args.map (cvv ad))) (hlen : ls0.length = mx) (hle : ∀ ad : Nat → Nat, (lg_sl (args.map (cvv ad))).length ≤ mx)
    (h : ∀ X : XC, Cok X y.cls cc mx → Rok X d → Ret X ret P → Scr X L xs → Vw X 0 ls0 [] σ) : Cs L xs y cc mx ret d args σ P := by
  intro l D ad cs hinj hns
  refine Met.ofW (cc := cc) (maxL := mx) (ret := ret) hy rfl ?_
  intro p e s m args' below meth c s₁ B hml hv
  obtain ⟨rfl, hP, hK, hx⟩ := hv
  have hts := atoms_spec (ws := Cond.code y cc mx ret :: lw_w) B.pre
  have hown : s.vm.findClass y.cls = some m.cls := findClass_of_methodNamed B.named
  have hl := lv_entry (args.map (cvv ad)) (n := mx) (hle ad)
  rw [lg_entry_eq]
  generalize (lg_sl (args.map (cvv ad)) ++ List.replicate (mx - (lg_sl (args.map (cvv ad))).length) Slot.unset).toArray = ls at hl ⊢
  rw [← he ad] at hl
  exact h (p, l, e, (headSpec (Cond.code y cc mx ret :: lw_w) (rmd d)).room, s, m, (args.map (cvv ad)).toArray, below, meth, c, 0, 0, MQ below (Qg D ad cs (inW ad) P) (args.map (cvv ad)).toArray s 0 0 (inW ad), inW ad, D, ad, cs, s.heap)
    ⟨B.exec, B.bytes, hml, hown, fun w hw => hts w (List.mem_cons_of_mem _ hw), hK, hinj, fun i hi => ⟨i, hi, rfl⟩, Nat.zero_le _, Nat.zero_le _⟩ ⟨Nat.le_refl _, Nat.le_refl _⟩ ⟨B.returns, B.notSynchronized, rfl, rfl, rfl, rfl⟩ ⟨hx, by obtain ⟨scr, h1, -⟩ := hx; exact (Array.getElem?_eq_some_iff.mp h1).1, hns⟩ s.heap [] ls hP va_S.rf (by rw [hlen]; exact hl)
theorem Ps_blind {D : va_G} {ad : Nat → Nat} {cs : Nat → ClassId} {σ : Mem} {av : List Value} {L : Nat} {xs : Nat → Int32} : FrameBlind (va_Pc av (fun U => va_P D vwCl (wl ad cs σ 0 shp) U.heap ∧ va_K D vwCl (tys3 cs) U ∧ va_X (ad 52) L xs U U.heap)) := fun a U g mk q => by
  obtain ⟨q0, qP, qK, scr, h1, h2, h3⟩ := q
  exact ⟨q0, qP, va_K.moved (u := U) (U := U.calling g mk a) (Vm.Alike.refl U.vm) qK, scr, h1, State.isArrayOf_alike (Vm.Alike.refl U.vm) h2, h3⟩
theorem wl_cg {ad : Nat → Nat} {cs : Nat → ClassId} {σ σ' : Mem} (h : ∀ q, q < 52 → σ q = σ' q) : wl ad cs σ 0 shp = wl ad cs σ' 0 shp := by
  apply List.ext_getElem?
  intro i
  rw [wl_get, wl_get, Nat.zero_add]
  cases hs : shp[i]? with
  | none => rfl
  | some sh =>
    have hi : i < 52 := by rw [← shp_len]; exact (List.getElem?_eq_some_iff.mp hs).1
    simp only [Option.map_some, ent_congr (h i hi) sh]
theorem V_callSs {X : XC} {own : String} {cc : ByteArray} {nL pc : Nat} {ls : List (Option Value)} {st : List Value} {σ : Mem} {index n d mx : Nat} {y : MethodName} {bytes : ByteArray} {ret : Option FieldType} {L : Nat} {xs : Nat → Int32} {As rest : List Value} {P : Option Value → Mem → Prop} (hX : Cok X own cc nL) (hR : Rok X (d + 1)) (hm : MthS own index y bytes mx ret n) (hs : Scr X L xs) (hC : Cs L xs y bytes mx ret d (As) σ P) (hd : decode cc pc = .ok (.invokestatic index, 3)) (hn : As.length = n) (hnl : ls.length = nL) (hst : st = As.reverse ++ rest) (hcat : csum rest ≤ 8) (kk : ∀ (r : Option Value) (σ2 : Mem), P r σ2 → Vw X (pc + 3) ls (r.toList ++ rest) σ2) : Vw X pc ls st σ := by
  obtain ⟨p, l, e, R, s, m, args, below, meth, c, cells, slots, Q, A, D, ad, cs, H0⟩ := X
  intro H locs lsA hP hS hl
  obtain ⟨hx, hb, hml, hown, hts, hK, hinj, hA, hcl, hsl⟩ := hX
  have hns : ¬ inW ad (ad 52) := fun q => hs.2.2 (inW_A hA _ q)
  have hM := hC l D ad cs hinj hns
  have hxs : ∀ U : State, U.heap = H → s.vm.Alike U.vm → va_X (ad 52) L xs U U.heap := fun U hU hW => by
    obtain ⟨⟨scr, h1, h2, h3⟩, h4, h5⟩ := hs
    exact ⟨scr, by rw [hU, hS.2.1 _ h4 h5]; exact h1, State.isArrayOf_alike hW h2, h3⟩
  have hroom : (rmd d).frames + 1 ≤ R.frames ∧ 8 + (mx + 11) + (rmd d).locals ≤ R.locals := ⟨hR.1, by have h9 := hR.2; have h8 := hm.1.2.1; show 8 + (mx + 11) + 40 * d ≤ R.locals; omega⟩
  have hGw : ∀ w ∈ Cond.code y bytes mx ret :: lw_w, w ∈ lw_w := fun w hw => (List.mem_cons.mp hw).elim (fun e => by rw [e]; exact hm.1.2.2.1) id
  have hstk : st.map (cvv ad) = (As.map (cvv ad)).reverse ++ rest.map (cvv ad) := by rw [hst]; simp [List.map_append, List.map_reverse, cvv]
  have hcat2 : 2 * (F0 m pc lsA (rest.map (cvv ad))).monitorRoom + ((rest.map (cvv ad)).map fun v => v.category).sum ≤ 8 := by
    show 2 * 0 + _ ≤ 8
    rw [csum_map]
    omega
  have hws : ∀ w ∈ Cond.code y bytes mx ret :: lw_w, ∀ (a' : Array Value) (U : State), s.WarmedH U.vm → w.before a' U = true := fun w hw a' U hW => lw_warm hts w (hGw w hw) a' U hW
  have hlen9 : ∀ sig, parseMethodDescriptor y.desc = some sig → n = sig.parameters.length := fun sig h => by
    have h2 := hm.1.1.2.2
    rw [h] at h2
    exact (Option.some.inj h2).symm
  have hfix : CallFix p m c cc nL s args lw_w own := ⟨hx, hb, hml, hown, hts⟩
  have run : va_Run p l e R s m args below meth c H locs cells slots 0 0 (F0 m pc lsA (st.map (cvv ad))) (rest.map (cvv ad)) (Qg D ad cs (inW ad) P (As.map (cvv ad)).toArray) (inW ad) := by
    obtain ⟨⟨hd1, hmx, hco, hini, hlk⟩, hstat⟩ := hm
    have hpre : PreS s H (va_Pc (As.map (cvv ad)) (fun U => va_P D vwCl (wl ad cs σ 0 shp) U.heap ∧ va_K D vwCl (tys3 cs) U ∧ va_X (ad 52) L xs U U.heap)) (As.map (cvv ad)) := ⟨Ps_blind, fun U hU hW => ⟨rfl, by rw [hU]; exact hP, va_K.moved hW.alike hK, hxs U hU hW.alike⟩⟩
    rcases hlk with hlk | ⟨host, hlk⟩
    · exact va_runS hfix hM ⟨⟨rfl, rfl, hroom.1, hroom.2, hws, List.mem_cons_self, hts _ hco, hts _ hini, ⟨hd1.1, hd1.2.1⟩, hlen9, hts _ hlk⟩, hts _ hstat⟩ hpre rfl (by rw [List.length_map]; exact hn) (by rw [← hnl]; exact hl.1) hstk hcat2 hd ⟨hcl, hsl⟩
    · exact va_runSN hfix hM ⟨⟨⟨rfl, rfl, hroom.1, hroom.2, hws, List.mem_cons_self⟩, hts _ hco, hts _ hini, ⟨hd1.1, hd1.2.1⟩, hlen9, hts _ hlk⟩, hts _ hstat, trivial⟩ hpre rfl (by rw [List.length_map]; exact hn) (by rw [← hnl]; exact hl.1) hstk hcat2 hd ⟨hcl, hsl⟩
  intro T hT XS
  obtain ⟨v, st₀, t, T', L, h0, X', hL, e1, e2, ⟨⟨r, σ', hoc, hPr, hP', hK'⟩, hz, hk⟩, stp⟩ := run T hT XS
  have hv : v = r.map (cvv ad) := Outcome.returned.inj hoc
  rw [h0] at hz hk
  obtain ⟨t2, a1, b1⟩ := kk r σ' hPr T'.heap (locs ++ L) lsA (by rw [e1]; exact hP')
    ⟨Nat.le_trans hS.1 (by rw [e1]; exact hz), fun q h1 h2 => by rw [e1, hk q (Nat.lt_of_lt_of_le h1 hS.1) (fun z => h2 (inW_A hA q z))]; exact hS.2.1 q h1 h2, fun q hq => by
      rcases List.mem_append.mp hq with h | h
      · exact hS.2.2 q h
      · exact inW_A hA _ (hL q h)⟩ hl T' rfl X'
  refine ⟨t2, stp t2 ?_, b1⟩
  have hst2 : v.toList ++ rest.map (cvv ad) = (r.toList ++ rest).map (cvv ad) := by
    rw [hv]
    cases r <;> rfl
  rw [hst2]
  exact a1
theorem L_callSs {X : XC} {own : String} {cc : ByteArray} {nL pc : Nat} {ls : List (Option Value)} {st : List Value} {σ : Mem} {index n d mx : Nat} {y : MethodName} {bytes : ByteArray} {ret : Option FieldType} {L : Nat} {xs : Nat → Int32} {As rest : List Value} {P : Option Value → Mem → Prop} (hX : Cok X own cc nL) (hp : Pok X) (hR : Rok X (d + 1)) (hm : MthS own index y bytes mx ret n) (hs : Scr X L xs) (hC : Cs L xs y bytes mx ret d (As) σ P) (hd : decode cc pc = .ok (.invokestatic index, 3)) (hn : As.length = n) (hnl : ls.length = nL) (hst : st = As.reverse ++ rest) (hcat : csum rest ≤ 8) (h53 : ∀ (r : Option Value) (σ2 : Mem), P r σ2 → σ2 53 = σ 53) (kk : ∀ (r : Option Value) (σ2 : Mem), P r σ2 → Lw X (pc + 3) ls (r.toList ++ rest) σ2) : Lw X pc ls st σ := by
  obtain ⟨p, l, e, R, s, m, args, below, meth, c, cells, slots, Q, A, D, ad, cs, H0⟩ := X
  intro H locs lsA ⟨hP, hPr⟩ hS hl
  obtain ⟨hx, hb, hml, hown, hts, hK, hinj, hA, hcl, hsl⟩ := hX
  have hns : ¬ inW ad (ad 52) := fun q => hs.2.2 (inW_A hA _ q)
  have hM := hC l D ad cs hinj hns
  have hxs : ∀ U : State, U.heap = H → s.vm.Alike U.vm → va_X (ad 52) L xs U U.heap := fun U hU hW => by
    obtain ⟨⟨scr, h1, h2, h3⟩, h4, h5⟩ := hs
    exact ⟨scr, by rw [hU, hS.2.1 _ h4 h5]; exact h1, State.isArrayOf_alike hW h2, h3⟩
  have hroom : (rmd d).frames + 1 ≤ R.frames ∧ 8 + (mx + 11) + (rmd d).locals ≤ R.locals := ⟨hR.1, by have h9 := hR.2; have h8 := hm.1.2.1; show 8 + (mx + 11) + 40 * d ≤ R.locals; omega⟩
  have hGw : ∀ w ∈ Cond.code y bytes mx ret :: lw_w, w ∈ lw_w := fun w hw => (List.mem_cons.mp hw).elim (fun e => by rw [e]; exact hm.1.2.2.1) id
  have hstk : st.map (cvv ad) = (As.map (cvv ad)).reverse ++ rest.map (cvv ad) := by rw [hst]; simp [List.map_append, List.map_reverse, cvv]
  have hcat2 : 2 * (F0 m pc lsA (rest.map (cvv ad))).monitorRoom + ((rest.map (cvv ad)).map fun v => v.category).sum ≤ 8 := by
    show 2 * 0 + _ ≤ 8
    rw [csum_map]
    omega
  have hws : ∀ w ∈ Cond.code y bytes mx ret :: lw_w, ∀ (a' : Array Value) (U : State), s.WarmedH U.vm → w.before a' U = true := fun w hw a' U hW => lw_warm hts w (hGw w hw) a' U hW
  have hlen9 : ∀ sig, parseMethodDescriptor y.desc = some sig → n = sig.parameters.length := fun sig h => by
    have h2 := hm.1.1.2.2
    rw [h] at h2
    exact (Option.some.inj h2).symm
  have hfix : CallFix p m c cc nL s args lw_w own := ⟨hx, hb, hml, hown, hts⟩
  have run : va_Run p l e R s m args below meth c H locs cells slots 0 0 (F0 m pc lsA (st.map (cvv ad))) (rest.map (cvv ad)) (Qg D ad cs (inW ad) P (As.map (cvv ad)).toArray) (inW ad) := by
    obtain ⟨⟨hd1, hmx, hco, hini, hlk⟩, hstat⟩ := hm
    have hpre : PreS s H (va_Pc (As.map (cvv ad)) (fun U => va_P D vwCl (wl ad cs σ 0 shp) U.heap ∧ va_K D vwCl (tys3 cs) U ∧ va_X (ad 52) L xs U U.heap)) (As.map (cvv ad)) := ⟨Ps_blind, fun U hU hW => ⟨rfl, by rw [hU]; exact hP, va_K.moved hW.alike hK, hxs U hU hW.alike⟩⟩
    rcases hlk with hlk | ⟨host, hlk⟩
    · exact va_runS hfix hM ⟨⟨rfl, rfl, hroom.1, hroom.2, hws, List.mem_cons_self, hts _ hco, hts _ hini, ⟨hd1.1, hd1.2.1⟩, hlen9, hts _ hlk⟩, hts _ hstat⟩ hpre rfl (by rw [List.length_map]; exact hn) (by rw [← hnl]; exact hl.1) hstk hcat2 hd ⟨hcl, hsl⟩
    · exact va_runSN hfix hM ⟨⟨⟨rfl, rfl, hroom.1, hroom.2, hws, List.mem_cons_self⟩, hts _ hco, hts _ hini, ⟨hd1.1, hd1.2.1⟩, hlen9, hts _ hlk⟩, hts _ hstat, trivial⟩ hpre rfl (by rw [List.length_map]; exact hn) (by rw [← hnl]; exact hl.1) hstk hcat2 hd ⟨hcl, hsl⟩
  intro T hT XS
  obtain ⟨v, st₀, t, T', L, h0, X', hL, e1, e2, ⟨⟨r, σ', hoc, hPr9, hP', hK'⟩, hz, hk⟩, stp⟩ := run T hT XS
  have hv : v = r.map (cvv ad) := Outcome.returned.inj hoc
  rw [h0] at hz hk
  obtain ⟨t2, a1, b1⟩ := kk r σ' hPr9 T'.heap (locs ++ L) lsA ⟨by rw [e1]; exact hP', by rw [e1, hk (ad 53) (Array.getElem?_eq_some_iff.mp hPr).1 hp.2, h53 r σ' hPr9]; exact hPr⟩
    ⟨Nat.le_trans hS.1 (by rw [e1]; exact hz), fun q h1 h2 => by rw [e1, hk q (Nat.lt_of_lt_of_le h1 hS.1) (fun z => h2 (inW_A hA q z))]; exact hS.2.1 q h1 h2, fun q hq => by
      rcases List.mem_append.mp hq with h | h
      · exact hS.2.2 q h
      · exact inW_A hA _ (hL q h)⟩ hl T' rfl X'
  refine ⟨t2, stp t2 ?_, b1⟩
  have hst2 : v.toList ++ rest.map (cvv ad) = (r.toList ++ rest).map (cvv ad) := by
    rw [hv]
    cases r <;> rfl
  rw [hst2]
  exact a1
theorem L_callV {X : XC} {own : String} {cc : ByteArray} {nL pc : Nat} {ls : List (Option Value)} {st : List Value} {σ : Mem} {index n d mx : Nat} {y : MethodName} {bytes : ByteArray} {ret : Option FieldType} {As rest : List Value} {P : Option Value → Mem → Prop} {ci b : Nat} {fs : List (Option Nat)} (hX : Cok X own cc nL) (hp : Pok X) (hR : Rok X (d + 1)) (hm : MthV own index y ci bytes mx ret n) (hC : Cc y bytes mx ret d (.ref b :: As) σ P) (hd : decode cc pc = .ok (.invokevirtual index, 3)) (hs : shp[b]? = some (.inl (ci, fs))) (hn : As.length = n) (hnl : ls.length = nL) (hst : st = As.reverse ++ .ref b :: rest) (hcat : csum rest ≤ 8) (h53 : ∀ (r : Option Value) (σ2 : Mem), P r σ2 → σ2 53 = σ 53) (kk : ∀ (r : Option Value) (σ2 : Mem), P r σ2 → Lw X (pc + 3) ls (r.toList ++ rest) σ2) : Lw X pc ls st σ := by
  obtain ⟨p, l, e, R, s, m, args, below, meth, c, cells, slots, Q, A, D, ad, cs, H0⟩ := X
  intro H locs lsA ⟨hP, hPr⟩ hS hl
  obtain ⟨hx, hb, hml, hown, hts, hK, hinj, hA, hcl, hsl⟩ := hX
  have hM := hC l D ad cs hinj
  have hroom : (rmd d).frames + 1 ≤ R.frames ∧ 8 + (mx + 11) + (rmd d).locals ≤ R.locals := ⟨hR.1, by have h9 := hR.2; have h8 := hm.1.2.1; show 8 + (mx + 11) + 40 * d ≤ R.locals; omega⟩
  have hGw : ∀ w ∈ Cond.code y bytes mx ret :: lw_w, w ∈ lw_w := fun w hw => (List.mem_cons.mp hw).elim (fun e => by rw [e]; exact hm.1.2.2.1) id
  have hstk : st.map (cvv ad) = (As.map (cvv ad)).reverse ++ .ref (ad b) :: rest.map (cvv ad) := by rw [hst]; simp [List.map_append, List.map_reverse, cvv]
  have hcat2 : 2 * (F0 m pc lsA (rest.map (cvv ad))).monitorRoom + ((rest.map (cvv ad)).map fun v => v.category).sum ≤ 8 := by
    show 2 * 0 + _ ≤ 8
    rw [csum_map]
    omega
  have hws : ∀ w ∈ Cond.code y bytes mx ret :: lw_w, ∀ (a' : Array Value) (U : State), s.WarmedH U.vm → w.before a' U = true := fun w hw a' U hW => lw_warm hts w (hGw w hw) a' U hW
  have hlen9 : ∀ sig, parseMethodDescriptor y.desc = some sig → n = sig.parameters.length := fun sig h => by
    have h2 := hm.1.1.2.2
    rw [h] at h2
    exact (Option.some.inj h2).symm
  have hfix : CallFix p m c cc nL s args lw_w own := ⟨hx, hb, hml, hown, hts⟩
  have run : va_Run p l e R s m args below meth c H locs cells slots 0 0 (F0 m pc lsA (st.map (cvv ad))) (rest.map (cvv ad)) (Qg D ad cs (inW ad) P (Value.ref (ad b) :: As.map (cvv ad)).toArray) (inW ad) := by
    obtain ⟨⟨hd1, hmx, hco, hini, hlk⟩, ⟨T9, N9, hcl9⟩, hins, hsel⟩ := hm
    have he := wl_at (ad := ad) (cs := cs) (σ := σ) hs
    have hrecv : ∃ cellB : Cell, H[ad b]? = some cellB ∧ cellB.vm.isStatics = false ∧ s.vm.findClass y.cls = some cellB.cls := va_recv hK hP hcl9 he
    have hpre : PreV s H y.cls (ad b) (va_Pc (.ref (ad b) :: As.map (cvv ad)) (fun U => va_P D vwCl (wl ad cs σ 0 shp) U.heap ∧ va_K D vwCl (tys3 cs) U)) (As.map (cvv ad)) := ⟨Pc_blind, hrecv, fun U hU hW => ⟨rfl, by rw [hU]; exact hP, va_K.moved hW.alike hK⟩⟩
    rcases hlk with hlk | ⟨host, hlk⟩
    · exact va_runV hfix hM (C := y.cls) ⟨⟨rfl, rfl, hroom.1, hroom.2, hws, List.mem_cons_self, hts _ hco, hts _ hini, ⟨hd1.1, hd1.2.1⟩, hlen9, hts _ hlk⟩, hts _ hins, hts _ hsel⟩ hpre rfl (by rw [List.length_map]; exact hn) (by rw [← hnl]; exact hl.1) hstk hcat2 hd ⟨hcl, hsl⟩
    · exact va_runVN hfix hM (C := y.cls) ⟨⟨⟨rfl, rfl, hroom.1, hroom.2, hws, List.mem_cons_self⟩, hts _ hco, hts _ hini, ⟨hd1.1, hd1.2.1⟩, hlen9, hts _ hlk⟩, hts _ hins, hts _ hsel⟩ hpre rfl (by rw [List.length_map]; exact hn) (by rw [← hnl]; exact hl.1) hstk hcat2 hd ⟨hcl, hsl⟩
  intro T hT XS
  obtain ⟨v, st₀, t, T', L, h0, X', hL, e1, e2, ⟨⟨r, σ', hoc, hPr9, hP', hK'⟩, hz, hk⟩, stp⟩ := run T hT XS
  have hv : v = r.map (cvv ad) := Outcome.returned.inj hoc
  rw [h0] at hz hk
  obtain ⟨t2, a1, b1⟩ := kk r σ' hPr9 T'.heap (locs ++ L) lsA ⟨by rw [e1]; exact hP', by rw [e1, hk (ad 53) (Array.getElem?_eq_some_iff.mp hPr).1 hp.2, h53 r σ' hPr9]; exact hPr⟩
    ⟨Nat.le_trans hS.1 (by rw [e1]; exact hz), fun q h1 h2 => by rw [e1, hk q (Nat.lt_of_lt_of_le h1 hS.1) (fun z => h2 (inW_A hA q z))]; exact hS.2.1 q h1 h2, fun q hq => by
      rcases List.mem_append.mp hq with h | h
      · exact hS.2.2 q h
      · exact inW_A hA _ (hL q h)⟩ hl T' rfl X'
  refine ⟨t2, stp t2 ?_, b1⟩
  have hst2 : v.toList ++ rest.map (cvv ad) = (r.toList ++ rest).map (cvv ad) := by
    rw [hv]
    cases r <;> rfl
  rw [hst2]
  exact a1
theorem V_callSsi {X : XC} {own : String} {cc : ByteArray} {nL pc : Nat} {ls : List (Option Value)} {st : List Value} {σ : Mem} {index n d mx : Nat} {y : MethodName} {bytes : ByteArray} {ret : Option FieldType} {L : Nat} {xs : Nat → Int32} {As rest : List Value} {v : Int32} {σ2 : Mem} (hX : Cok X own cc nL) (hR : Rok X (d + 1)) (hm : MthS own index y bytes mx ret n) (hs : Scr X L xs) (hC : Cs L xs y bytes mx ret d As σ (rI v σ2)) (hd : decode cc pc = .ok (.invokestatic index, 3)) (hn : As.length = n) (hnl : ls.length = nL) (hst : st = As.reverse ++ rest) (hcat : csum rest ≤ 8) (kk : Vw X (pc + 3) ls (.int v :: rest) σ2) : Vw X pc ls st σ :=
  V_callSs hX hR hm hs hC hd hn hnl hst hcat (fun r σ3 h => by obtain ⟨rfl, rfl⟩ := h; exact kk)
theorem L_callSsi {X : XC} {own : String} {cc : ByteArray} {nL pc : Nat} {ls : List (Option Value)} {st : List Value} {σ : Mem} {index n d mx : Nat} {y : MethodName} {bytes : ByteArray} {ret : Option FieldType} {L : Nat} {xs : Nat → Int32} {As rest : List Value} {v : Int32} {σ2 : Mem} (hX : Cok X own cc nL) (hp : Pok X) (hR : Rok X (d + 1)) (hm : MthS own index y bytes mx ret n) (hs : Scr X L xs) (hC : Cs L xs y bytes mx ret d As σ (rI v σ2)) (hd : decode cc pc = .ok (.invokestatic index, 3)) (hn : As.length = n) (hnl : ls.length = nL) (hst : st = As.reverse ++ rest) (hcat : csum rest ≤ 8) (h53 : σ2 53 = σ 53) (kk : Lw X (pc + 3) ls (.int v :: rest) σ2) : Lw X pc ls st σ :=
  L_callSs hX hp hR hm hs hC hd hn hnl hst hcat (fun r σ3 h => by obtain ⟨rfl, rfl⟩ := h; exact h53) (fun r σ3 h => by obtain ⟨rfl, rfl⟩ := h; exact kk)
theorem L_callVi {X : XC} {own : String} {cc : ByteArray} {nL pc : Nat} {ls : List (Option Value)} {st : List Value} {σ : Mem} {index n d mx : Nat} {y : MethodName} {bytes : ByteArray} {ret : Option FieldType} {As rest : List Value} {ci b : Nat} {fs : List (Option Nat)} {v : Int32} {σ2 : Mem} (hX : Cok X own cc nL) (hp : Pok X) (hR : Rok X (d + 1)) (hm : MthV own index y ci bytes mx ret n) (hC : Cc y bytes mx ret d (.ref b :: As) σ (rI v σ2)) (hd : decode cc pc = .ok (.invokevirtual index, 3)) (hs : shp[b]? = some (.inl (ci, fs))) (hn : As.length = n) (hnl : ls.length = nL) (hst : st = As.reverse ++ .ref b :: rest) (hcat : csum rest ≤ 8) (h53 : σ2 53 = σ 53) (kk : Lw X (pc + 3) ls (.int v :: rest) σ2) : Lw X pc ls st σ :=
  L_callV hX hp hR hm hC hd hs hn hnl hst hcat (fun r σ3 h => by obtain ⟨rfl, rfl⟩ := h; exact h53) (fun r σ3 h => by obtain ⟨rfl, rfl⟩ := h; exact kk)
/-- the law's own array: an int of it -/
theorem L_pld {X : XC} {own : String} {cc : ByteArray} {nL pc : Nat} {ls : List (Option Value)} {st : List Value} {σ : Mem} {j : Nat} {i : Int32} (hX : Cok X own cc nL) (hd : decode cc pc = .ok (.iaload, 1)) (hi : i = nI j) (hj : j < 12) (kk : Lw X (pc + 1) ls (.int (σ 53 j) :: st) σ) : Lw X pc ls (.int i :: .ref 53 :: st) σ := by
  obtain ⟨p, l, e, R, s, m, args, below, meth, c, cells, slots, Q, A, D, ad, cs, H0⟩ := X
  intro H locs lsA hP hS hl
  subst hi
  have h2 := kk H locs lsA hP hS hl
  refine W.iald (v := .int (σ 53 j)) hX.1 hX.2.1 hP.2 ((hX.2.2.2.2.2.1.2 0 _ rfl).1 12 (fun j => .int (σ 53 j))) (fun q => by cases q) (by show ¬ (nI j < 0 ∨ (arrV _ _ _).slots.size ≤ _); rw [arrV_size]; exact nI_in (N := 12) hj (by decide)) (by show (arrV _ _ _).slots[_]? = _; rw [nI_clamp (by omega), arrV_read _ _ hj]) rfl rfl hd h2
theorem L_past {X : XC} {own : String} {cc : ByteArray} {nL pc : Nat} {ls : List (Option Value)} {st : List Value} {σ : Mem} {j : Nat} {i x : Int32} (hX : Cok X own cc nL) (hp : Pok X) (hd : decode cc pc = .ok (.iastore, 1)) (hi : i = nI j) (hj : j < 12) (kk : Lw X (pc + 1) ls st (mu σ 53 j x)) : Lw X pc ls (.int x :: .int i :: .ref 53 :: st) σ := by
  obtain ⟨p, l, e, R, s, m, args, below, meth, c, cells, slots, Q, A, D, ad, cs, H0⟩ := X
  intro H locs lsA hP hS hl
  subst hi
  refine W.iast hX.1 hX.2.1 hP.2 ((hX.2.2.2.2.2.1.2 0 _ rfl).1 12 (fun j => .int (σ 53 j))) (fun q => by cases q) (by show ¬ (nI j < 0 ∨ (arrV _ _ _).slots.size ≤ _); rw [arrV_size]; exact nI_in (N := 12) hj (by decide)) rfl rfl hd (fun H1 e1 z oq => ?_)
  have hw : wl ad cs (mu σ 53 j x) 0 shp = wl ad cs σ 0 shp := wl_cg (fun q hq => (mu_ne (by omega)).symm)
  have hD := wl_D (A := fun q => q ≠ ad 53) (cs := cs) (σ := σ) hX.2.2.2.2.2.2.1 (fun i hi e => hp.2 ⟨i, hi, e⟩)
  refine kk H1 _ lsA ⟨?_, ?_⟩ (hS.put z oq hp.1) hl
  · rw [hw]
    exact fun k q hq => (hP.1 k q hq).kept (oq q.1 (hD.2 k q hq))
  · rw [e1, mu_row, vp_cell_i, vp_cell_i, arrV_store, nI_clamp (by omega)]
    congr 2
    funext q
    by_cases hq : q = j
    · subst hq
      simp [updV, upd]
    · simp [updV, upd, hq]
end
section
/-! ===== mathematics of SETS (from the rows of whole) ===== -/
theorem mu_rw {σ : Mem} {p i : Nat} {v : Int32} {q : Nat} : mu σ p i v q = if q = p then upd (σ p) i v else σ q := by
  by_cases h : q = p
  · rw [if_pos h, h, mu_row]
  · rw [if_neg h, ← mu_ne h]
theorem mu_q {σ : Mem} {p i : Nat} {v : Int32} {q : Nat} (h : q ≠ p) : mu σ p i v q = σ q := (mu_ne h).symm
theorem mf_q {σ : Mem} {p : Nat} {g : Nat → Int32} {q : Nat} (h : q ≠ p) : mf σ p g q = σ q := (mf_ne h).symm
theorem mf_s {σ : Mem} {p : Nat} {g : Nat → Int32} : mf σ p g p = g := mf_row σ p g
theorem mu_s {σ : Mem} {p i : Nat} {v : Int32} : mu σ p i v p = upd (σ p) i v := mu_row σ p i v
theorem upd_n {f : Nat → Int32} {i j : Nat} {v : Int32} (h : j ≠ i) : upd f i v j = f j := if_neg h
theorem upd_s {f : Nat → Int32} {i : Nat} {v : Int32} : upd f i v i = v := if_pos rfl
def setsOK (c th pr : Nat → Int32) (n : Nat) (of dem bo me : Int32) : Prop :=
  (∀ k, k < n → ∃ x y : Nat, 1 ≤ x ∧ x ≤ 1000 ∧ c k = nI x ∧ y ≤ x ∧ pf (th k) pr 12 = nI y) ∧
  (∀ k, ∃ m : Nat, m < 4096 ∧ th k = nI m) ∧
  (∀ t, t < 12 → bt dem t = false → pr t = nI 0) ∧
  (∀ t, t < 12 → (bt of t = true ↔ ∃ k, k < n ∧ bt (th k) t = true)) ∧
  (∀ t, bt dem t = true → t < 12 ∧ bt of t = true) ∧
  (∀ k, bt bo k = true → k < n) ∧
  (∀ t, t < 12 → (bt me t = true ↔ ∃ k, k < n ∧ bt bo k = true ∧ bt (th k) t = true))
def lgm (c th : Nat → Int32) (pr : Nat → Int32) (t : Nat) : Nat → Int32
  | 0 => nI 1000000
  | k + 1 => if bt (th k) t then imin (lgm c th pr t k) (c k - pf (th k) pr 12) else lgm c th pr t k
def allf (th : Nat → Int32) (s : Nat) : Nat → Int32
  | 0 => nI 0
  | k + 1 => if bt (nI s) k then allf th s k ||| th k else allf th s k
def sumf (c : Nat → Int32) (s : Nat) : Nat → Int32
  | 0 => nI 0
  | k + 1 => if bt (nI s) k then sumf c s k + c k else sumf c s k
theorem bt_nI {m i : Nat} (h : m < 2 ^ 31) : bt (nI m) i = m.testBit i := by
  show (Int32.ofNat m).toBitVec.getLsbD i = _
  rw [show (Int32.ofNat m).toBitVec = BitVec.ofNat 32 m from rfl, BitVec.getLsbD_ofNat]
  by_cases hi : i < 32
  · rw [decide_eq_true hi, Bool.true_and]
  · rw [decide_eq_false hi, Bool.false_and]
    exact (Nat.testBit_lt_two_pow (Nat.lt_of_lt_of_le h (Nat.pow_le_pow_right (by decide) (by omega)))).symm
theorem bt_lt {x : Int32} {i : Nat} (h : bt x i = true) : i < 32 := by
  rcases Nat.lt_or_ge i 32 with h1 | h1
  · exact h1
  · rw [b_big h1] at h
    exact absurd h (by decide)
theorem bt_sh {k i : Nat} (hk : k < 32) : bt (nI 1 <<< (nI k &&& 31)) i = decide (i = k) := by
  rcases Nat.lt_or_ge i 32 with hi | hi
  · rw [b_shl k hk (nI 1) hi]
    by_cases h : k ≤ i
    · rw [decide_eq_true h, Bool.true_and, b_one _ (by omega)]
      exact decide_eq_decide.mpr (by omega)
    · rw [decide_eq_false h, Bool.false_and]
      exact (decide_eq_false (by omega)).symm
  · rw [b_big hi]
    exact (decide_eq_false (by omega)).symm
theorem bits_nI {x : Int32} {N : Nat} (hN : N ≤ 30) (h : ∀ i, bt x i = true → i < N) : ∃ m : Nat, m < 2 ^ N ∧ x = nI m := by
  have hlt : x.toBitVec.toNat < 2 ^ N := by
    apply Nat.lt_pow_two_of_testBit
    intro i hi
    cases hb : x.toBitVec.toNat.testBit i with
    | false => rfl
    | true => exact absurd (h i hb) (by omega)
  refine ⟨x.toBitVec.toNat, hlt, ?_⟩
  apply Int32.toBitVec_inj.mp
  show x.toBitVec = BitVec.ofNat 32 x.toBitVec.toNat
  rw [BitVec.ofNat_toNat, BitVec.setWidth_eq]
theorem tight_iff {c th pr : Nat → Int32} {t k : Nat} : tight c th pr t k = true ↔ bt (th k) t = true ∧ pf (th k) pr 12 = c k := by
  unfold tight
  rw [Bool.and_eq_true, decide_eq_true_iff]
theorem buyB_bt {c th pr : Nat → Int32} {t : Nat} {b : Int32} {i : Nat} : ∀ k, k ≤ 32 → (bt (buyB c th pr t b k) i = true ↔ bt b i = true ∨ (i < k ∧ tight c th pr t i = true))
  | 0, _ => by
    rw [buyB]
    exact ⟨Or.inl, fun h => h.elim id (fun h => absurd h.1 (Nat.not_lt_zero i))⟩
  | k + 1, hk => by
    have ih := buyB_bt (c := c) (th := th) (pr := pr) (t := t) (b := b) (i := i) k (by omega)
    rw [buyB]
    cases ht : tight c th pr t k with
    | false =>
      rw [if_neg Bool.false_ne_true, ih]
      constructor
      · rintro (h | ⟨h, h2⟩)
        · exact Or.inl h
        · exact Or.inr ⟨by omega, h2⟩
      · rintro (h | ⟨h, h2⟩)
        · exact Or.inl h
        · refine Or.inr ⟨?_, h2⟩
          rcases Nat.lt_or_ge i k with q | q
          · exact q
          · obtain rfl : i = k := by omega
            rw [ht] at h2
            exact absurd h2 (by decide)
    | true =>
      rw [if_pos rfl, b_or, Bool.or_eq_true, ih, bt_sh (by omega), decide_eq_true_iff]
      constructor
      · rintro ((h | ⟨h, h2⟩) | rfl)
        · exact Or.inl h
        · exact Or.inr ⟨by omega, h2⟩
        · exact Or.inr ⟨by omega, ht⟩
      · rintro (h | ⟨h, h2⟩)
        · exact Or.inl (Or.inl h)
        · by_cases q : i = k
          · exact Or.inr q
          · exact Or.inl (Or.inr ⟨by omega, h2⟩)
theorem buyM_bt {c th pr : Nat → Int32} {t : Nat} {b : Int32} {i : Nat} : ∀ k, (bt (buyM c th pr t b k) i = true ↔ bt b i = true ∨ ∃ j, j < k ∧ tight c th pr t j = true ∧ bt (th j) i = true)
  | 0 => by
    rw [buyM]
    exact ⟨Or.inl, fun h => h.elim id (fun ⟨j, h, _⟩ => absurd h (Nat.not_lt_zero j))⟩
  | k + 1 => by
    have ih := buyM_bt (c := c) (th := th) (pr := pr) (t := t) (b := b) (i := i) k
    rw [buyM]
    cases ht : tight c th pr t k with
    | false =>
      rw [if_neg Bool.false_ne_true, ih]
      constructor
      · rintro (h | ⟨j, h, h2⟩)
        · exact Or.inl h
        · exact Or.inr ⟨j, by omega, h2⟩
      · rintro (h | ⟨j, h, h2, h3⟩)
        · exact Or.inl h
        · refine Or.inr ⟨j, ?_, h2, h3⟩
          rcases Nat.lt_or_ge j k with q | q
          · exact q
          · obtain rfl : j = k := by omega
            rw [ht] at h2
            exact absurd h2 (by decide)
    | true =>
      rw [if_pos rfl, b_or, Bool.or_eq_true, ih]
      constructor
      · rintro ((h | ⟨j, h, h2⟩) | h)
        · exact Or.inl h
        · exact Or.inr ⟨j, by omega, h2⟩
        · exact Or.inr ⟨k, by omega, ht, h⟩
      · rintro (h | ⟨j, h, h2, h3⟩)
        · exact Or.inl (Or.inl h)
        · by_cases q : j = k
          · subst q
            exact Or.inr h3
          · exact Or.inl (Or.inr ⟨j, by omega, h2, h3⟩)
theorem buyC_nI {c th pr : Nat → Int32} {t : Nat} {n : Nat} (hc : ∀ k, k < n → ∃ x : Nat, x ≤ 1000 ∧ c k = nI x) : ∀ k, k ≤ n → ∃ s : Nat, s ≤ 1000 * k ∧ buyC c th pr t k = nI s
  | 0, _ => ⟨0, Nat.le_refl _, rfl⟩
  | k + 1, hk => by
    obtain ⟨s, h1, h2⟩ := buyC_nI hc k (by omega)
    obtain ⟨x, h3, h4⟩ := hc k (by omega)
    rw [buyC, h2, h4]
    split
    · exact ⟨s + x, by omega, nI_add s x⟩
    · exact ⟨s, by omega, rfl⟩
theorem pf_upd {b : Int32} {pr : Nat → Int32} {t : Nat} {g : Int32} : ∀ m, pf b (upd pr t (pr t + g)) m = if t < m ∧ bt b t = true then pf b pr m + g else pf b pr m
  | 0 => by rw [if_neg (fun h => absurd h.1 (Nat.not_lt_zero t))]; rfl
  | m + 1 => by
    rw [pf, pf, pf_upd m]
    by_cases hb : bt b m = true
    · rw [if_pos hb, if_pos hb]
      by_cases hm : m = t
      · subst hm
        rw [if_neg (fun h => absurd h.1 (Nat.lt_irrefl m)), upd_s, if_pos ⟨Nat.lt_succ_self m, hb⟩, Int32.add_assoc]
      · rw [upd_n hm]
        by_cases h1 : t < m ∧ bt b t = true
        · rw [if_pos h1, if_pos ⟨by omega, h1.2⟩, Int32.add_assoc, Int32.add_assoc, Int32.add_comm g]
        · rw [if_neg h1, if_neg (fun h => h1 ⟨by omega, h.2⟩)]
    · rw [if_neg hb, if_neg hb]
      by_cases h1 : t < m ∧ bt b t = true
      · rw [if_pos h1, if_pos ⟨by omega, h1.2⟩]
      · rw [if_neg h1, if_neg (fun h => h1 ⟨by
          by_cases q : m = t
          · subst q; exact absurd h.2 hb
          · omega, h.2⟩)]
theorem imin_nI {a b : Nat} (ha : a < 2 ^ 31) (hb : b < 2 ^ 31) : imin (nI a) (nI b) = nI (min a b) := by
  unfold imin
  by_cases h : b < a
  · rw [if_pos ((nI_ltI hb ha).mpr h), Nat.min_eq_right (by omega)]
  · rw [if_neg (fun q => h ((nI_ltI hb ha).mp q)), Nat.min_eq_left (by omega)]
theorem lgap_spec {c th pr : Nat → Int32} {t n : Nat} {X Y : Nat → Nat} (hc : ∀ k, k < n → c k = nI (X k) ∧ pf (th k) pr 12 = nI (Y k) ∧ Y k ≤ X k ∧ X k ≤ 1000) : ∀ k, k ≤ n → ∃ G : Nat, G ≤ 1000 ∧ lgap c th pr t k = nI G ∧ (∀ j, j < k → bt (th j) t = true → G ≤ X j - Y j) ∧ ((∃ j, j < k ∧ bt (th j) t = true) → lgm c th pr t k = nI G) ∧ ((¬ ∃ j, j < k ∧ bt (th j) t = true) → lgm c th pr t k = nI 1000000 ∧ G = 1000)
  | 0, _ => ⟨1000, Nat.le_refl _, rfl, fun j h => absurd h (Nat.not_lt_zero j), fun ⟨j, h, _⟩ => absurd h (Nat.not_lt_zero j), fun _ => ⟨rfl, rfl⟩⟩
  | k + 1, hk => by
    obtain ⟨G, h1, h2, h3, h4, h5⟩ := lgap_spec hc k (by omega)
    obtain ⟨e1, e2, e3, e4⟩ := hc k (by omega)
    rw [lgap, lgm]
    cases hb : bt (th k) t with
    | false =>
      rw [if_neg Bool.false_ne_true, if_neg Bool.false_ne_true]
      have hx : (∃ j, j < k + 1 ∧ bt (th j) t = true) → ∃ j, j < k ∧ bt (th j) t = true := by
        rintro ⟨j, q1, q2⟩
        refine ⟨j, ?_, q2⟩
        rcases Nat.lt_or_ge j k with q | q
        · exact q
        · obtain rfl : j = k := by omega
          rw [hb] at q2
          exact absurd q2 (by decide)
      refine ⟨G, h1, h2, fun j q1 q2 => ?_, fun q => h4 (hx q), fun q => h5 (fun ⟨j, q1, q2⟩ => q ⟨j, by omega, q2⟩)⟩
      obtain ⟨j', q3, q4⟩ := hx ⟨j, q1, q2⟩
      rcases Nat.lt_or_ge j k with q | q
      · exact h3 j q q2
      · obtain rfl : j = k := by omega
        rw [hb] at q2
        exact absurd q2 (by decide)
    | true =>
      rw [if_pos rfl, if_pos rfl, e1, e2, pk_sub e3, h2, imin_nI (by omega) (by omega)]
      refine ⟨min G (X k - Y k), by omega, rfl, fun j q1 q2 => ?_, fun _ => ?_, fun q => absurd ⟨k, by omega, hb⟩ q⟩
      · by_cases q : j = k
        · subst q; omega
        · have := h3 j (by omega) q2; omega
      · by_cases q : ∃ j, j < k ∧ bt (th j) t = true
        · rw [h4 q, imin_nI (by omega) (by omega)]
        · obtain ⟨q5, q6⟩ := h5 q
          rw [q5, imin_nI (by omega) (by omega), q6]
          congr 1
          omega
theorem or_dem {c th pr : Nat → Int32} {n t : Nat} {of dem bo me : Int32} (h : setsOK c th pr n of dem bo me) (ht : t < 12) (ho : bt of t = true) : setsOK c th pr n of (dem ||| (nI 1 <<< (nI t &&& 31))) bo me := by
  obtain ⟨h1, h2, h3, h4, h5, h6, h7⟩ := h
  refine ⟨h1, h2, fun u hu hb => h3 u hu ?_, h4, fun u hu => ?_, h6, h7⟩
  · rw [b_or] at hb
    cases hd : bt dem u with
    | false => rfl
    | true => rw [hd, Bool.true_or] at hb; exact absurd hb (by decide)
  · rw [b_or, Bool.or_eq_true, bt_sh (by omega), decide_eq_true_iff] at hu
    rcases hu with hu | rfl
    · exact h5 u hu
    · exact ⟨ht, ho⟩
theorem X_Y {c th pr : Nat → Int32} {n : Nat} (h : ∀ k, k < n → ∃ x y : Nat, 1 ≤ x ∧ x ≤ 1000 ∧ c k = nI x ∧ y ≤ x ∧ pf (th k) pr 12 = nI y) : ∃ X Y : Nat → Nat, ∀ k, k < n → c k = nI (X k) ∧ pf (th k) pr 12 = nI (Y k) ∧ Y k ≤ X k ∧ X k ≤ 1000 ∧ 1 ≤ X k := by
  refine ⟨fun k => tn (c k), fun k => tn (pf (th k) pr 12), fun k hk => ?_⟩
  obtain ⟨x, y, a1, a2, a3, a4, a5⟩ := h k hk
  show c k = nI (tn (c k)) ∧ pf (th k) pr 12 = nI (tn (pf (th k) pr 12)) ∧ tn (pf (th k) pr 12) ≤ tn (c k) ∧ tn (c k) ≤ 1000 ∧ 1 ≤ tn (c k)
  rw [a3, a5, tn_nI (by omega), tn_nI (by omega)]
  exact ⟨rfl, rfl, a4, a2, a1⟩
theorem buy_ok {c th pr : Nat → Int32} {n t : Nat} {of dem bo me : Int32} (hn : n ≤ 10) (h : setsOK c th pr n of dem bo me) (ht : t < 12) (ho : bt of t = true) : lgm c th pr t n = lgap c th pr t n ∧ setsOK c th (upd pr t (pr t + lgap c th pr t n)) n of (dem ||| (nI 1 <<< (nI t &&& 31))) (buyB c th (upd pr t (pr t + lgap c th pr t n)) t bo n) (buyM c th (upd pr t (pr t + lgap c th pr t n)) t me n) := by
  obtain ⟨h1, h2, h3, h4, h5, h6, h7⟩ := or_dem h ht ho
  obtain ⟨X, Y, hXY⟩ := X_Y h1
  obtain ⟨G, g1, g2, g3, g4, -⟩ := lgap_spec (c := c) (th := th) (pr := pr) (t := t) (X := X) (Y := Y) (fun k hk => ⟨(hXY k hk).1, (hXY k hk).2.1, (hXY k hk).2.2.1, (hXY k hk).2.2.2.1⟩) n (Nat.le_refl n)
  have hex := (h4 t ht).mp ho
  refine ⟨(g4 hex).trans g2.symm, fun k hk => ?_, h2, fun u hu hb => ?_, h4, h5, fun k hk => ?_, fun u hu => ?_⟩
  · obtain ⟨a1, a2, a3, a4, a5⟩ := hXY k hk
    rw [pf_upd, g2, a2]
    by_cases hb : bt (th k) t = true
    · rw [if_pos ⟨ht, hb⟩]
      have := g3 k hk hb
      exact ⟨X k, Y k + G, a5, a4, a1, by omega, nI_add _ _⟩
    · rw [if_neg (fun q => hb q.2)]
      exact ⟨X k, Y k, a5, a4, a1, a3, rfl⟩
  · have hut : u ≠ t := by
      rintro rfl
      rw [b_or, bt_sh (by omega), decide_eq_true rfl, Bool.or_true] at hb
      exact absurd hb (by decide)
    rw [upd_n hut]
    exact h3 u hu hb
  · rcases (buyB_bt n (by omega)).mp hk with q | q
    · exact h6 k q
    · exact q.1
  · rw [buyM_bt, h7 u hu]
    constructor
    · rintro (⟨k, q1, q2, q3⟩ | ⟨k, q1, q2, q3⟩)
      · exact ⟨k, q1, (buyB_bt n (by omega)).mpr (Or.inl q2), q3⟩
      · exact ⟨k, q1, (buyB_bt n (by omega)).mpr (Or.inr ⟨q1, q2⟩), q3⟩
    · rintro ⟨k, q1, q2, q3⟩
      rcases (buyB_bt n (by omega)).mp q2 with q | q
      · exact Or.inl ⟨k, q1, q, q3⟩
      · exact Or.inr ⟨k, q1, q.2, q3⟩
theorem caddM_of {c th pr : Nat → Int32} {n : Nat} {of bo me : Int32} {x m : Nat} (h : setsOK c th pr n of 0 bo me) (hn : n < 10) (hx1 : 1 ≤ x) (hx : x ≤ 1000) (hm : m < 4096) : setsOK (upd c n (nI x)) (upd th n (nI m)) pr (n + 1) (of ||| nI m) 0 bo me := by
  obtain ⟨h1, h2, h3, h4, h5, h6, h7⟩ := h
  have p0 : ∀ (b : Int32) (k : Nat), k ≤ 12 → pf b pr k = nI 0 := by
    intro b k
    induction k with
    | zero => intro _; rfl
    | succ k ih =>
      intro hk
      rw [pf, ih (by omega), h3 k (by omega) (b_0 k)]
      split <;> decide +kernel
  refine ⟨fun k hk => ?_, fun k => ?_, h3, fun t ht => ?_, fun t ht => ?_, fun k hk => ?_, fun t ht => ?_⟩
  · by_cases e : k = n
    · subst e
      rw [upd_s, upd_s, p0 _ _ (Nat.le_refl 12)]
      exact ⟨x, 0, hx1, hx, rfl, Nat.zero_le x, rfl⟩
    · rw [upd_n e, upd_n e]
      exact h1 k (by omega)
  · by_cases e : k = n
    · subst e; rw [upd_s]; exact ⟨m, hm, rfl⟩
    · rw [upd_n e]; exact h2 k
  · rw [b_or, Bool.or_eq_true, h4 t ht]
    constructor
    · rintro (⟨k, q1, q2⟩ | q)
      · exact ⟨k, by omega, by rw [upd_n (by omega)]; exact q2⟩
      · exact ⟨n, by omega, by rw [upd_s]; exact q⟩
    · rintro ⟨k, q1, q2⟩
      by_cases e : k = n
      · subst e; rw [upd_s] at q2; exact Or.inr q2
      · rw [upd_n e] at q2; exact Or.inl ⟨k, by omega, q2⟩
  · rw [b_0] at ht; exact absurd ht (by decide)
  · have := h6 k hk; omega
  · rw [h7 t ht]
    constructor
    · rintro ⟨k, q1, q2, q3⟩
      exact ⟨k, by omega, q2, by rw [upd_n (by omega)]; exact q3⟩
    · rintro ⟨k, q1, q2, q3⟩
      have := h6 k q2
      exact ⟨k, this, q2, by rw [upd_n (by omega)] at q3; exact q3⟩
def smN (X : Nat → Nat) (S : Nat → Bool) : Nat → Nat
  | 0 => 0
  | k + 1 => smN X S k + (if S k then X k else 0)
def csN (X : Nat → Nat) (S : Nat → Bool) (n : Nat) : Nat → Nat
  | 0 => 0
  | m + 1 => csN X S n m + (if S (n - (m + 1)) then X (n - (m + 1)) else 0)
theorem cs_sm (X : Nat → Nat) (S : Nat → Bool) (n : Nat) : ∀ m, m ≤ n → csN X S n m + smN X S (n - m) = smN X S n
  | 0, _ => by rw [csN, Nat.sub_zero, Nat.zero_add]
  | m + 1, h => by
    have ih := cs_sm X S n m (by omega)
    rw [show n - m = n - (m + 1) + 1 by omega, smN] at ih
    rw [csN]
    omega
theorem csN_congr {X : Nat → Nat} {S S' : Nat → Bool} {n : Nat} : ∀ m, m ≤ n → (∀ k, n - m ≤ k → k < n → S k = S' k) → csN X S n m = csN X S' n m
  | 0, _, _ => rfl
  | m + 1, h, hs => by rw [csN, csN, csN_congr m (by omega) (fun k h1 h2 => hs k (by omega) h2), hs (n - (m + 1)) (by omega) (by omega)]
theorem csN_le {X : Nat → Nat} {S : Nat → Bool} {n : Nat} (hX : ∀ k, k < n → X k ≤ 1000) : ∀ m, m ≤ n → csN X S n m ≤ 1000 * m
  | 0, _ => Nat.le_refl _
  | m + 1, h => by
    have h1 := csN_le (S := S) hX m (by omega)
    have h2 := hX (n - (m + 1)) (by omega)
    rw [csN]
    split <;> omega
def cvS (th : Nat → Int32) (S : Nat → Bool) (n m : Nat) (mis : Int32) : Prop := ∀ i, bt mis i = true → ∃ k, n - m ≤ k ∧ k < n ∧ S k = true ∧ bt (th k) i = true
theorem and_0 {x y : Int32} : x &&& y = 0 ↔ ∀ i, bt x i = true → bt y i = false := by
  constructor
  · intro h i hi
    have h1 : bt (x &&& y) i = bt 0 i := by rw [h]
    rw [b_and, b_0, hi, Bool.true_and] at h1
    exact h1
  · intro h
    apply b_ext
    intro i hi
    rw [b_and, b_0]
    cases hx : bt x i with
    | false => rfl
    | true => rw [h i hx]; rfl
theorem b_not {x : Int32} {i : Nat} (hi : i < 32) : bt (x ^^^ (-1)) i = !bt x i := by
  rw [b_xor, b_m1 i hi, Bool.xor_true]
theorem x0_b {x : Int32} : x = 0 ↔ ∀ i, bt x i = false := ⟨fun h i => by rw [h, b_0], fun h => b_ext fun i _ => by rw [h, b_0]⟩
theorem lff_spec {c th : Nat → Int32} {n : Nat} {X : Nat → Nat} (hc : ∀ k, k < n → c k = nI (X k) ∧ X k ≤ 1000) (hn : n ≤ 10) : ∀ m, m ≤ n → ∀ mis : Int32, ∃ V : Nat, V ≤ 1000000 + 1000 * m ∧ lff c th n m mis = nI V ∧ (∀ S, cvS th S n m mis → V ≤ csN X S n m) ∧ (1000000 ≤ V ∨ ∃ S, cvS th S n m mis ∧ csN X S n m = V)
  | 0, _, mis => by
    rw [lff]
    by_cases h : mis = 0
    · rw [if_pos h]
      exact ⟨0, by omega, rfl, fun _ _ => Nat.zero_le _, Or.inr ⟨fun _ => false, fun i hi => by rw [h, b_0] at hi; exact absurd hi (by decide), rfl⟩⟩
    · rw [if_neg h]
      refine ⟨1000000, by omega, rfl, fun S hS => ?_, Or.inl (Nat.le_refl _)⟩
      exfalso
      apply h
      apply x0_b.mpr
      intro i
      cases hb : bt mis i with
      | false => rfl
      | true =>
        obtain ⟨k, h1, h2, -⟩ := hS i hb
        omega
  | m + 1, hm, mis => by
    rw [lff]
    by_cases h : mis = 0
    · rw [if_pos h]
      refine ⟨0, by omega, rfl, fun _ _ => Nat.zero_le _, Or.inr ⟨fun _ => false, fun i hi => by rw [h, b_0] at hi; exact absurd hi (by decide), ?_⟩⟩
      have : ∀ m, csN X (fun _ => false) n m = 0 := by
        intro m
        induction m with
        | zero => rfl
        | succ m ih => rw [csN, ih]; rfl
      exact this _
    · rw [if_neg h]
      obtain ⟨e1, e2⟩ := hc (n - (m + 1)) (by omega)
      have hk : n - (m + 1) < n := by omega
      generalize hkd : n - (m + 1) = k at e1 e2 hk ⊢
      obtain ⟨V, v1, v2, v3, v4⟩ := lff_spec (th := th) hc hn m (by omega) mis
      -- without the set k
      have out : ∀ S, cvS th S n m mis → ∃ S', cvS th S' n (m + 1) mis ∧ csN X S' n (m + 1) = csN X S n m := by
        intro S hS
        refine ⟨fun j => if j = k then false else S j, fun i hi => ?_, ?_⟩
        · obtain ⟨j, a1, a2, a3, a4⟩ := hS i hi
          exact ⟨j, by omega, a2, by show (if j = k then false else S j) = true; rw [if_neg (by omega)]; exact a3, a4⟩
        · rw [csN, hkd, csN_congr (S' := S) m (by omega) (fun j a1 a2 => if_neg (by omega))]
          simp
      have noK : ∀ S, cvS th S n (m + 1) mis → (S k = false ∨ th k &&& mis = 0) → cvS th S n m mis := by
        intro S hS hk2 i hi
        obtain ⟨j, a1, a2, a3, a4⟩ := hS i hi
        refine ⟨j, ?_, a2, a3, a4⟩
        rcases Nat.lt_or_ge j (n - m) with q | q
        · exfalso
          obtain rfl : j = k := by omega
          rcases hk2 with q2 | q2
          · rw [q2] at a3; exact absurd a3 (by decide)
          · rw [(and_0.mp q2) i a4] at hi; exact absurd hi (by decide)
        · exact q
      have cs1 : ∀ S, csN X S n m ≤ csN X S n (m + 1) := fun S => by rw [csN]; omega
      by_cases h2 : th k &&& mis = 0
      · rw [if_pos h2]
        refine ⟨V, by omega, v2, fun S hS => Nat.le_trans (v3 S (noK S hS (Or.inr h2))) (cs1 S), ?_⟩
        rcases v4 with q | ⟨S, q1, q2⟩
        · exact Or.inl q
        · obtain ⟨S', b1, b2⟩ := out S q1
          exact Or.inr ⟨S', b1, by rw [b2, q2]⟩
      · rw [if_neg h2]
        obtain ⟨V', u1, u2, u3, u4⟩ := lff_spec (th := th) hc hn m (by omega) (mis &&& (th k ^^^ (-1)))
        rw [v2, u2, e1, nI_add, imin_nI (by omega) (by omega)]
        have hin : ∀ S, cvS th S n (m + 1) mis → S k = true → cvS th S n m (mis &&& (th k ^^^ (-1))) := by
          clear v4 u4 v3 u3
          intro S hS hSk i hi
          have hi32 := bt_lt hi
          rw [b_and, Bool.and_eq_true, b_not hi32] at hi
          obtain ⟨j, a1, a2, a3, a4⟩ := hS i hi.1
          refine ⟨j, ?_, a2, a3, a4⟩
          rcases Nat.lt_or_ge j (n - m) with q | q
          · exfalso
            obtain rfl : j = k := by omega
            rw [a4] at hi
            exact absurd hi.2 (by decide)
          · exact q
        refine ⟨min V (X k + V'), by omega, rfl, fun S hS => ?_, ?_⟩
        · cases hSk : S k with
          | false =>
            have := v3 S (noK S hS (Or.inl hSk))
            have := cs1 S
            omega
          | true =>
            have h3 := u3 S (hin S hS hSk)
            have h4 : csN X S n (m + 1) = csN X S n m + X k := by rw [csN, hkd, if_pos hSk]
            omega
        · by_cases hm2 : V ≤ X k + V'
          · rw [Nat.min_eq_left hm2]
            rcases v4 with q | ⟨S, q1, q2⟩
            · exact Or.inl q
            · obtain ⟨S', b1, b2⟩ := out S q1
              exact Or.inr ⟨S', b1, by rw [b2, q2]⟩
          · rw [Nat.min_eq_right (by omega)]
            rcases u4 with q | ⟨S, q1, q2⟩
            · exact Or.inl (by omega)
            · refine Or.inr ⟨fun j => if j = k then true else S j, fun i hi => ?_, ?_⟩
              · cases hb : bt (th k) i with
                | true => exact ⟨k, by omega, hk, if_pos rfl, hb⟩
                | false =>
                  obtain ⟨j, a1, a2, a3, a4⟩ := q1 i (by rw [b_and, hi, b_not (bt_lt hi), hb]; rfl)
                  exact ⟨j, by omega, a2, by show (if j = k then true else S j) = true; rw [if_neg (by omega)]; exact a3, a4⟩
              · rw [csN, hkd, csN_congr (S' := S) m (by omega) (fun j a1 a2 => if_neg (by omega)), q2]
                simp
                omega
theorem sumf_N {c : Nat → Int32} {X : Nat → Nat} {n s : Nat} (hc : ∀ k, k < n → c k = nI (X k)) : ∀ k, k ≤ n → sumf c s k = nI (smN X (fun j => bt (nI s) j) k)
  | 0, _ => rfl
  | k + 1, h => by
    rw [sumf, smN, sumf_N hc k (by omega), hc k (by omega)]
    by_cases hb : bt (nI s) k = true
    · rw [if_pos hb, if_pos hb, nI_add]
    · rw [if_neg hb, if_neg hb, Nat.add_zero]
theorem allf_b {th : Nat → Int32} {s i : Nat} : ∀ k, bt (allf th s k) i = true ↔ ∃ j, j < k ∧ bt (nI s) j = true ∧ bt (th j) i = true
  | 0 => by
    rw [allf, nI_0, b_0]
    exact ⟨fun h => (by cases h), fun ⟨j, h, _⟩ => absurd h (Nat.not_lt_zero j)⟩
  | k + 1 => by
    have ih := allf_b (th := th) (s := s) (i := i) k
    rw [allf]
    cases hb : bt (nI s) k with
    | false =>
      rw [if_neg Bool.false_ne_true, ih]
      constructor
      · rintro ⟨j, h, h2⟩
        exact ⟨j, by omega, h2⟩
      · rintro ⟨j, h, h2, h3⟩
        refine ⟨j, ?_, h2, h3⟩
        rcases Nat.lt_or_ge j k with q | q
        · exact q
        · obtain rfl : j = k := by omega
          rw [hb] at h2
          exact absurd h2 (by decide)
    | true =>
      rw [if_pos rfl, b_or, Bool.or_eq_true, ih]
      constructor
      · rintro (⟨j, h, h2⟩ | h)
        · exact ⟨j, by omega, h2⟩
        · exact ⟨k, by omega, hb, h⟩
      · rintro ⟨j, h, h2, h3⟩
        by_cases q : j = k
        · subst q; exact Or.inr h3
        · exact Or.inl ⟨j, by omega, h2, h3⟩
def fea (th : Nat → Int32) (dem : Int32) (n s : Nat) : Prop := ∀ i, bt dem i = true → ∃ j, j < n ∧ bt (nI s) j = true ∧ bt (th j) i = true
theorem fea_iff {th : Nat → Int32} {dem : Int32} {n s : Nat} : dem &&& (allf th s n ^^^ (-1)) = 0 ↔ fea th dem n s := by
  rw [and_0]
  constructor
  · intro h i hi
    have h1 := h i hi
    rw [b_not (bt_lt hi)] at h1
    exact (allf_b n).mp (by cases hb : bt (allf th s n) i with
      | true => rfl
      | false => rw [hb] at h1; exact absurd h1 (by decide))
  · intro h i hi
    rw [b_not (bt_lt hi), (allf_b n).mpr (h i hi)]
    rfl
theorem nI_ltm {a b : Nat} (ha : a < 2 ^ 31) (hb : b < 2 ^ 31) : nI a < nI b ↔ a < b := nI_ltI ha hb
theorem ofS (S : Nat → Bool) : ∀ n, ∃ s, s < 2 ^ n ∧ ∀ k, k < n → s.testBit k = S k
  | 0 => ⟨0, by decide, fun k h => absurd h (Nat.not_lt_zero k)⟩
  | n + 1 => by
    obtain ⟨s, h1, h2⟩ := ofS S n
    have hlt : s < 2 ^ (n + 1) := Nat.lt_of_lt_of_le h1 (Nat.pow_le_pow_right (by decide) (by omega))
    cases hn : S n with
    | false =>
      refine ⟨s, hlt, fun k hk => ?_⟩
      by_cases e : k = n
      · subst e; rw [hn]; exact Nat.testBit_lt_two_pow h1
      · exact h2 k (by omega)
    | true =>
      refine ⟨s ||| 2 ^ n, Nat.or_lt_two_pow hlt (Nat.pow_lt_pow_right (by decide) (by omega)), fun k hk => ?_⟩
      rw [Nat.testBit_or, Nat.testBit_two_pow]
      by_cases e : k = n
      · subst e; rw [hn, decide_eq_true rfl, Bool.or_true]
      · rw [decide_eq_false (Ne.symm e), Bool.or_false]; exact h2 k (by omega)
theorem smN_congr {X : Nat → Nat} {S S' : Nat → Bool} : ∀ n, (∀ k, k < n → S k = S' k) → smN X S n = smN X S' n
  | 0, _ => rfl
  | n + 1, h => by rw [smN, smN, smN_congr n (fun k hk => h k (by omega)), h n (by omega)]
theorem imax_nI {a b : Nat} (ha : a < 2 ^ 31) (hb : b < 2 ^ 31) : imax (nI a) (nI b) = nI (max a b) := by
  unfold imax
  by_cases h : a < b
  · rw [if_pos ((nI_ltI ha hb).mpr h), Nat.max_eq_right (by omega)]
  · rw [if_neg (fun q => h ((nI_ltI ha hb).mp q)), Nat.max_eq_left (by omega)]
theorem havf_le2 (th : Nat → Int32) (t : Nat) : ∀ k, havf th t k ≤ k
  | 0 => Nat.le_refl _
  | k + 1 => by
    have := havf_le2 th t k
    unfold havf
    split <;> omega
end
section
/-! ===== the law's helpers: what they read of the script ===== -/
theorem popn_s (x : Int32) (k : Nat) : nI (popn x k) + bI (bt x k) = nI (popn x (k + 1)) := by
  have e : popn x (k + 1) = if bt x k then popn x k + 1 else popn x k := rfl
  rw [e]
  cases h : bt x k
  · exact add0 _
  · exact nI_1 _
def fgt : List (Option Value) → List (Option Value) → Prop
  | [], [] => True
  | a :: l, b :: r => (b = none ∨ b = a) ∧ fgt l r
  | _, _ => False
theorem fgt_n : fgt [] [] := trivial
theorem fgt_c {a b : Option Value} {l r : List (Option Value)} (h : b = none ∨ b = a) (k : fgt l r) : fgt (a :: l) (b :: r) := ⟨h, k⟩
theorem fgt_nth : ∀ {l r : List (Option Value)} {j : Nat} {v : Value}, fgt l r → nth r j = some v → nth l j = some v
  | [], [], j, v, _, h => h
  | a :: l, b :: r, 0, v, hf, h => by
    rcases hf.1 with e | e
    · rw [e] at h; exact absurd h (by intro q; cases q)
    · rw [← h, e]; rfl
  | a :: l, b :: r, j + 1, v, hf, h => fgt_nth (l := l) (r := r) (j := j) hf.2 h
  | [], b :: r, j, v, hf, h => hf.elim
  | a :: l, [], j, v, hf, h => hf.elim
theorem fgt_len : ∀ {l r : List (Option Value)}, fgt l r → l.length = r.length
  | [], [], _ => rfl
  | a :: l, b :: r, hf => by rw [List.length_cons, List.length_cons, fgt_len hf.2]
  | [], b :: r, hf => hf.elim
  | a :: l, [], hf => hf.elim
theorem Lw.fg {X : XC} {pc : Nat} {ls ls' : List (Option Value)} {st : List Value} {σ : Mem} (hf : fgt ls ls') (kk : Lw X pc ls' st σ) : Lw X pc ls st σ := by
  obtain ⟨p, l, e, R, s, m, args, below, meth, c, cells, slots, Q, A, D, ad, cs, H0⟩ := X
  intro H locs lsA hP hS hl
  refine kk H locs lsA hP hS ?_
  rw [← fgt_len hf]
  refine lv_keep hl (fun q hq => ?_)
  obtain ⟨j, v, h1, h2⟩ := lvl_mem.mp hq
  exact lvl_mem.mpr ⟨j, v, fgt_nth hf h1, h2⟩
theorem Vw.fg {X : XC} {pc : Nat} {ls ls' : List (Option Value)} {st : List Value} {σ : Mem} (hf : fgt ls ls') (kk : Vw X pc ls' st σ) : Vw X pc ls st σ := by
  obtain ⟨p, l, e, R, s, m, args, below, meth, c, cells, slots, Q, A, D, ad, cs, H0⟩ := X
  intro H locs lsA hP hS hl
  refine kk H locs lsA hP hS ?_
  rw [← fgt_len hf]
  refine lv_keep hl (fun q hq => ?_)
  obtain ⟨j, v, h1, h2⟩ := lvl_mem.mp hq
  exact lvl_mem.mpr ⟨j, v, fgt_nth hf h1, h2⟩
/-- an int of the script, or what stands for it -/
def cellF (L : Nat) (xs : Nat → Int32) (k : Nat) : Int32 := if k < L then xs k else nI 1013904223 * (nI k + nI 1)
def lowN (v : Int32) (n : Nat) : Nat := tn (v &&& nI 2147483647) % n
theorem lowN_lt {v : Int32} {n : Nat} (h : 0 < n) : lowN v n < n := Nat.mod_lt _ h
theorem low_eq {v : Int32} {n : Nat} (h0 : 0 < n) (hn : n < 2 ^ 31) : (v &&& nI 2147483647) - (v &&& nI 2147483647) / nI n * nI n = nI (lowN v n) := by
  obtain ⟨j, hj, e⟩ := pk_andE v (m := nI 2147483647) 31 (by decide +kernel)
  unfold lowN
  rw [e, tn_nI hj, pk_rem hj h0 hn]
theorem nI_ne00 {n : Nat} (h0 : 0 < n) (hn : n < 2 ^ 31) : ¬ nI n = 0 := fun q => by
  have h9 := congrArg Int32.toInt q
  have h8 : (0 : Int32).toInt = 0 := (by decide +kernel)
  rw [nI_toInt hn, h8] at h9
  omega
/-- a set's things, its cost, how many sets -/
def thX (x : Int32) : Int32 := (((x >>> (nI 8 &&& 31)) &&& (x >>> (nI 16 &&& 31))) &&& nI 4095) ||| (nI 1 <<< (nI (lowN (x >>> (nI 4 &&& 31)) 12) &&& 31))
def thF (L : Nat) (xs : Nat → Int32) (k : Nat) : Int32 := thX (cellF L xs (1 + k))
def coN (L : Nat) (xs : Nat → Int32) (k : Nat) : Nat := 1 + lowN (cellF L xs (1 + k)) 40
def nsN (L : Nat) (xs : Nat → Int32) : Nat := 1 + lowN (cellF L xs 0) 9
theorem coN_le {L : Nat} {xs : Nat → Int32} {k : Nat} : 1 ≤ coN L xs k ∧ coN L xs k ≤ 40 := by
  have := lowN_lt (v := cellF L xs (1 + k)) (n := 40) (by decide)
  unfold coN
  omega
theorem nsN_le {L : Nat} {xs : Nat → Int32} : 1 ≤ nsN L xs ∧ nsN L xs ≤ 9 := by
  have := lowN_lt (v := cellF L xs 0) (n := 9) (by decide)
  unfold nsN
  omega
theorem b_4095 (i : Nat) : bt (nI 4095) i = decide (i < 12) := by
  rcases Nat.lt_or_ge i 32 with h | h
  · exact (by decide +kernel : ∀ i, i < 32 → bt (nI 4095) i = decide (i < 12)) i h
  · rw [b_big h, decide_eq_false (by omega)]
theorem thX_ok (x : Int32) : ∃ m : Nat, 1 ≤ m ∧ m < 4096 ∧ thX x = nI m := by
  have hl := lowN_lt (v := x >>> (nI 4 &&& 31)) (n := 12) (by decide)
  have hb : ∀ i, bt (thX x) i = true → i < 12 := by
    intro i hi
    unfold thX at hi
    rw [b_or, b_and, b_4095, bt_sh (by omega), Bool.or_eq_true, Bool.and_eq_true, decide_eq_true_iff, decide_eq_true_iff] at hi
    rcases hi with hi | hi
    · exact hi.2
    · omega
  obtain ⟨m, hm, e⟩ := bits_nI (N := 12) (by decide) hb
  refine ⟨m, ?_, hm, e⟩
  rcases Nat.eq_zero_or_pos m with h0 | h0
  · exfalso
    have h1 : bt (thX x) (lowN (x >>> (nI 4 &&& 31)) 12) = true := by
      unfold thX
      rw [b_or, bt_sh (by omega), decide_eq_true rfl, Bool.or_true]
    rw [e, h0, nI_0, b_0] at h1
    exact absurd h1 (by decide)
  · exact h0
set_option maxRecDepth 100000 in
set_option maxHeartbeats 4000000 in
theorem c_cell {L : Nat} {xs : Nat → Int32} (hL : L < 2 ^ 31) (k : Nat) (hk : k < 1000) (σ : Mem) : Cs L xs yL_cell cL_cell 2 (some .int) 0 [.ref 52, .int (nI k)] σ (rI (cellF L xs k) σ) := by
  refine Cs.intro (by decide +kernel) [some (.ref 52), some (.int (nI k))] (fun _ => rfl) rfl (fun _ => Nat.le_of_ble_eq_true rfl) ?_
  intro X hX hR hr hs
  refine V_iload_n (pc := 0) (i := 1) hX dL_cell_0 rfl rfl ?_
  refine V_aload_n (pc := 1) (i := 0) hX dL_cell_1 rfl rfl ?_
  refine V_slen (pc := 2) hX hs dL_cell_2 ?_
  refine V_icmp_geN (pc := 3) (tgt := 12) hX dL_cell_3 (by decide) (by omega) (by omega) (fun h3 => ?_) (fun h3 => ?_)
  · refine V_ldc (pc := 12) hX kL_7 dL_cell_12 ?_
    refine V_iload_n (pc := 14) (i := 1) hX dL_cell_14 rfl rfl ?_
    refine V_iconst (pc := 15) (v := (nI 1)) hX dL_cell_15 (by decide +kernel) ?_
    refine V_iadd (pc := 16) hX dL_cell_16 ?_
    refine V_imul (pc := 17) hX dL_cell_17 ?_
    exact V_iret (pc := 18) (st := []) hX hr (by first | rfl | exact bI_nar _ | decide +kernel) dL_cell_18 (⟨by rw [cellF, if_neg (by omega)], rfl⟩)
  · refine V_aload_n (pc := 6) (i := 0) hX dL_cell_6 rfl rfl ?_
    refine V_iload_n (pc := 7) (i := 1) hX dL_cell_7 rfl rfl ?_
    refine V_sld (pc := 8) hX hs hL dL_cell_8 (rfl) (by omega) ?_
    refine V_goto (pc := 9) (tgt := 18) hX dL_cell_9 (by decide) ?_
    exact V_iret (pc := 18) (st := []) hX hr (by first | rfl | exact bI_nar _ | decide +kernel) dL_cell_18 (⟨by rw [cellF, if_pos (by omega)], rfl⟩)
set_option maxRecDepth 100000 in
set_option maxHeartbeats 4000000 in
theorem c_low {L : Nat} {xs : Nat → Int32} (v : Int32) (n : Nat) (h0 : 0 < n) (hn : n < 2 ^ 31) (σ : Mem) : Cs L xs yL_low cL_low 2 (some .int) 0 [.int v, .int (nI n)] σ (rI (nI (lowN v n)) σ) := by
  refine Cs.intro (by decide +kernel) [some (.int v), some (.int (nI n))] (fun _ => rfl) rfl (fun _ => Nat.le_of_ble_eq_true rfl) ?_
  intro X hX hR hr hs
  refine V_iload_n (pc := 0) (i := 0) hX dL_low_0 rfl rfl ?_
  refine V_ldc (pc := 1) hX kL_8 dL_low_1 ?_
  refine V_iand (pc := 3) hX dL_low_3 ?_
  refine V_iload_n (pc := 4) (i := 1) hX dL_low_4 rfl rfl ?_
  refine V_irem (pc := 5) hX dL_low_5 (nI_ne00 h0 hn) ?_
  exact V_iret (pc := 6) (st := []) hX hr (by first | rfl | exact bI_nar _ | decide +kernel) dL_low_6 (⟨by rw [low_eq h0 hn], rfl⟩)
set_option maxRecDepth 100000 in
set_option maxHeartbeats 4000000 in
theorem c_things {L : Nat} {xs : Nat → Int32} (hL : L < 2 ^ 31) (k : Nat) (hk : k < 100) (σ : Mem) : Cs L xs yL_things cL_things 3 (some .int) 1 [.ref 52, .int (nI k)] σ (rI (thF L xs k) σ) := by
  refine Cs.intro (by decide +kernel) [some (.ref 52), some (.int (nI k)), none] (fun _ => rfl) rfl (fun _ => Nat.le_of_ble_eq_true rfl) ?_
  intro X hX hR hr hs
  refine V_aload_n (pc := 0) (i := 0) hX dL_things_0 rfl rfl ?_
  refine V_iconst (pc := 1) (v := (nI 1)) hX dL_things_1 (by decide +kernel) ?_
  refine V_iload_n (pc := 2) (i := 1) hX dL_things_2 rfl rfl ?_
  refine V_iadd (pc := 3) hX dL_things_3 ?_
  rw [nI_add]
  refine V_callSsi (pc := 4) hX (hR.mono (by omega)) mL_9 hs (c_cell hL _ (by omega) _) dL_things_4 rfl rfl rfl (Nat.le_of_ble_eq_true rfl) ?_
  refine V_istore2 (pc := 7) hX dL_things_7 rfl ?_
  refine V_iload_n (pc := 8) (i := 2) hX dL_things_8 rfl rfl ?_
  refine V_bipush (pc := 9) (v := (nI 8)) hX dL_things_9 (by decide +kernel) ?_
  refine V_ishr (pc := 11) hX dL_things_11 ?_
  refine V_iload_n (pc := 12) (i := 2) hX dL_things_12 rfl rfl ?_
  refine V_bipush (pc := 13) (v := (nI 16)) hX dL_things_13 (by decide +kernel) ?_
  refine V_ishr (pc := 15) hX dL_things_15 ?_
  refine V_iand (pc := 16) hX dL_things_16 ?_
  refine V_sipush (pc := 17) (v := (nI 4095)) hX dL_things_17 (by decide +kernel) ?_
  refine V_iand (pc := 20) hX dL_things_20 ?_
  refine V_iconst (pc := 21) (v := (nI 1)) hX dL_things_21 (by decide +kernel) ?_
  refine V_iload_n (pc := 22) (i := 2) hX dL_things_22 rfl rfl ?_
  refine V_iconst (pc := 23) (v := (nI 4)) hX dL_things_23 (by decide +kernel) ?_
  refine V_ishr (pc := 24) hX dL_things_24 ?_
  refine V_bipush (pc := 25) (v := (nI 12)) hX dL_things_25 (by decide +kernel) ?_
  refine V_callSsi (pc := 27) hX (hR.mono (by omega)) mL_15 hs (c_low _ _ (by decide) (by decide) _) dL_things_27 rfl rfl rfl (Nat.le_of_ble_eq_true rfl) ?_
  refine V_ishl (pc := 30) hX dL_things_30 ?_
  refine V_ior (pc := 31) hX dL_things_31 ?_
  exact V_iret (pc := 32) (st := []) hX hr (by first | rfl | exact bI_nar _ | decide +kernel) dL_things_32 (⟨rfl, rfl⟩)
set_option maxRecDepth 100000 in
set_option maxHeartbeats 4000000 in
theorem c_cost {L : Nat} {xs : Nat → Int32} (hL : L < 2 ^ 31) (k : Nat) (hk : k < 100) (σ : Mem) : Cs L xs yL_cost cL_cost 2 (some .int) 1 [.ref 52, .int (nI k)] σ (rI (nI (coN L xs k)) σ) := by
  refine Cs.intro (by decide +kernel) [some (.ref 52), some (.int (nI k))] (fun _ => rfl) rfl (fun _ => Nat.le_of_ble_eq_true rfl) ?_
  intro X hX hR hr hs
  refine V_iconst (pc := 0) (v := (nI 1)) hX dL_cost_0 (by decide +kernel) ?_
  refine V_aload_n (pc := 1) (i := 0) hX dL_cost_1 rfl rfl ?_
  refine V_iconst (pc := 2) (v := (nI 1)) hX dL_cost_2 (by decide +kernel) ?_
  refine V_iload_n (pc := 3) (i := 1) hX dL_cost_3 rfl rfl ?_
  refine V_iadd (pc := 4) hX dL_cost_4 ?_
  rw [nI_add]
  refine V_callSsi (pc := 5) hX (hR.mono (by omega)) mL_9 hs (c_cell hL _ (by omega) _) dL_cost_5 rfl rfl rfl (Nat.le_of_ble_eq_true rfl) ?_
  refine V_bipush (pc := 8) (v := (nI 40)) hX dL_cost_8 (by decide +kernel) ?_
  refine V_callSsi (pc := 10) hX (hR.mono (by omega)) mL_15 hs (c_low _ _ (by decide) (by decide) _) dL_cost_10 rfl rfl rfl (Nat.le_of_ble_eq_true rfl) ?_
  refine V_iadd (pc := 13) hX dL_cost_13 ?_
  rw [nI_add]
  exact V_iret (pc := 14) (st := []) hX hr (by first | rfl | exact bI_nar _ | decide +kernel) dL_cost_14 (⟨rfl, rfl⟩)
end
section
/-! ===== shop: the sets are offered ===== -/
/-- k sets are offered, nothing is demanded -/
def SI (L : Nat) (xs : Nat → Int32) (σ : Mem) (k : Nat) : Prop := σ 2 3 = nI k ∧ (∀ j, j < k → σ 17 j = nI (coN L xs j) ∧ σ 18 j = thF L xs j) ∧ setsOK (σ 17) (σ 18) (σ 19) k (σ 2 4) 0 0 (σ 2 7) ∧ σ 2 5 = 0 ∧ σ 2 6 = 0 ∧ σ 2 8 = 0 ∧ σ 5 1 = 0
theorem inr2_nI {a b j : Nat} (h1 : a ≤ j) (h2 : j ≤ b) (hb : b < 2 ^ 31) : inr2 (nI j) a b = true := decide_eq_true (by rw [nI_toInt (by omega)]; omega)
theorem SI_off {L : Nat} {xs : Nat → Int32} {σ : Mem} {k : Nat} (h : SI L xs σ k) (hk : k < 10) : offerF k (σ 2 5) (nI (coN L xs k)) (thF L xs k) = nI k ∧ offerM σ k (nI (coN L xs k)) (thF L xs k) = caddM σ k (nI (coN L xs k)) (thF L xs k) := by
  have hc := coN_le (L := L) (xs := xs) (k := k)
  obtain ⟨m, m1, m2, m3⟩ := thX_ok (cellF L xs (1 + k))
  have e1 : inr2 (nI (coN L xs k)) 1 1000 = true := inr2_nI hc.1 (by omega) (by decide)
  have e2 : inr2 (thF L xs k) 1 4095 = true := by
    show inr2 (thX _) 1 4095 = true
    rw [m3]
    exact inr2_nI m1 (by omega) (by decide)
  obtain ⟨h1, h2, h3, h4, h5, h6, h7⟩ := h
  constructor
  · rw [offerF, e1, e2, Bool.and_self, if_pos rfl, if_pos h4, if_pos hk]
  · rw [offerM, e1, e2, Bool.and_self, if_pos rfl, if_pos h4, if_pos hk]
theorem SI_next {L : Nat} {xs : Nat → Int32} {σ : Mem} {k : Nat} (h : SI L xs σ k) (hk : k < 10) : SI L xs (caddM σ k (nI (coN L xs k)) (thF L xs k)) (k + 1) := by
  have hc := coN_le (L := L) (xs := xs) (k := k)
  obtain ⟨m, m1, m2, m3⟩ := thX_ok (cellF L xs (1 + k))
  obtain ⟨h1, h2, h3, h4, h5, h6, h7⟩ := h
  have r17 : caddM σ k (nI (coN L xs k)) (thF L xs k) 17 = upd (σ 17) k (nI (coN L xs k)) := by
    rw [caddM, mu_q (by decide), mu_q (by decide), mu_q (by decide), mu_s]
  have r18 : caddM σ k (nI (coN L xs k)) (thF L xs k) 18 = upd (σ 18) k (thF L xs k) := by
    rw [caddM, mu_q (by decide), mu_q (by decide), mu_s, mu_q (by decide)]
  have r19 : caddM σ k (nI (coN L xs k)) (thF L xs k) 19 = σ 19 := by
    rw [caddM, mu_q (by decide), mu_q (by decide), mu_q (by decide), mu_q (by decide)]
  have r5 : caddM σ k (nI (coN L xs k)) (thF L xs k) 5 = σ 5 := by
    rw [caddM, mu_q (by decide), mu_q (by decide), mu_q (by decide), mu_q (by decide)]
  have r23 : caddM σ k (nI (coN L xs k)) (thF L xs k) 2 3 = nI (k + 1) := by rw [caddM, mu_at]
  have r24 : caddM σ k (nI (coN L xs k)) (thF L xs k) 2 4 = σ 2 4 ||| thF L xs k := by rw [caddM, mu_ni (by decide), mu_at]
  have r2 : ∀ j, j ≠ 3 → j ≠ 4 → caddM σ k (nI (coN L xs k)) (thF L xs k) 2 j = σ 2 j := by
    intro j a b
    rw [caddM, mu_ni a, mu_ni b, mu_np (by decide), mu_np (by decide)]
  unfold SI
  rw [r17, r18, r19, r5, r23, r24, r2 5 (by decide) (by decide), r2 6 (by decide) (by decide), r2 7 (by decide) (by decide), r2 8 (by decide) (by decide)]
  have h3' := h3
  refine ⟨rfl, fun j hj => ?_, ?_, h4, h5, h6, h7⟩
  · by_cases e : j = k
    · subst e; rw [upd_s, upd_s]; exact ⟨rfl, rfl⟩
    · rw [upd_n e, upd_n e]; exact h2 j (by omega)
  · have e : thF L xs k = nI m := m3
    rw [e]
    exact caddM_of h3' hk hc.1 (by omega) m2
set_option maxRecDepth 100000 in
set_option maxHeartbeats 4000000 in
theorem l_shop {L : Nat} {xs : Nat → Int32} {X : XC} {P : Option Value → Mem → Prop} (hX : Cok X RL cL_shop 5) (hR : Rok X 2) (hr : Ret X (some .int) P) (hs : Scr X L xs) (hL : L < 2 ^ 31) (n : Nat) (hn : n ≤ 9) (hp : ∀ τ, SI L xs τ n → P (some (.int (nI n))) τ) (k : Nat) (hk : k ≤ n) (σ : Mem) (hσ : SI L xs σ k) : Vw X 15 [some (.ref 0), some (.ref 52), some (.int (nI n)), some (.int (nI k)), none] [] σ := by
  refine V_iload_n (pc := 15) (i := 3) hX dL_shop_15 rfl rfl ?_
  refine V_iload_n (pc := 16) (i := 2) hX dL_shop_16 rfl rfl ?_
  refine V_icmp_geN (pc := 17) (tgt := 59) hX dL_shop_17 (by decide) (by omega) (by omega) (fun h17 => ?_) (fun h17 => ?_)
  · refine V_iload_n (pc := 59) (i := 2) hX dL_shop_59 rfl rfl ?_
    obtain rfl : k = n := by omega
    exact V_iret (pc := 60) (st := []) hX hr (by first | rfl | exact bI_nar _ | decide +kernel) dL_shop_60 (hp σ hσ)
  · refine V_aload_n (pc := 20) (i := 1) hX dL_shop_20 rfl rfl ?_
    refine V_iconst (pc := 21) (v := (nI 1)) hX dL_shop_21 (by decide +kernel) ?_
    refine V_iload_n (pc := 22) (i := 3) hX dL_shop_22 rfl rfl ?_
    refine V_iadd (pc := 23) hX dL_shop_23 ?_
    rw [nI_add]
    refine V_callSsi (pc := 24) hX (hR.mono (by omega)) mL_9 hs (c_cell hL _ (by omega) _) dL_shop_24 rfl rfl rfl (Nat.le_of_ble_eq_true rfl) ?_
    refine V_istore4 (pc := 27) hX dL_shop_27 rfl ?_
    refine V_aload_n (pc := 29) (i := 0) hX dL_shop_29 rfl rfl ?_
    refine V_iconst (pc := 30) (v := (nI 1)) hX dL_shop_30 (by decide +kernel) ?_
    refine V_iload (pc := 31) (i := 4) hX dL_shop_31 rfl ?_
    refine V_bipush (pc := 33) (v := (nI 40)) hX dL_shop_33 (by decide +kernel) ?_
    refine V_callSsi (pc := 35) hX (hR.mono (by omega)) mL_15 hs (c_low _ _ (by decide) (by decide) _) dL_shop_35 rfl rfl rfl (Nat.le_of_ble_eq_true rfl) ?_
    refine V_iadd (pc := 38) hX dL_shop_38 ?_
    rw [nI_add]
    refine V_aload_n (pc := 39) (i := 1) hX dL_shop_39 rfl rfl ?_
    refine V_iload_n (pc := 40) (i := 3) hX dL_shop_40 rfl rfl ?_
    refine V_callSsi (pc := 41) hX (hR.mono (by omega)) mL_19 hs (c_things hL _ (by omega) _) dL_shop_41 rfl rfl rfl (Nat.le_of_ble_eq_true rfl) ?_
    have e9 := SI_off hσ (by omega)
    have c9 := c_offer k (nI (coN L xs k)) (thF L xs k) σ hσ.1 (by omega)
    rw [e9.1, e9.2] at c9
    refine V_callVi (pc := 44) hX (hR.mono (by omega)) mL_22 (c9) dL_shop_44 rfl rfl rfl rfl (Nat.le_of_ble_eq_true rfl) ?_
    refine V_iload_n (pc := 47) (i := 3) hX dL_shop_47 rfl rfl ?_
    refine V_icmp_eq (pc := 48) (tgt := 53) hX dL_shop_48 (by decide) (fun h48 => ?_) (fun h48 => absurd h48 (fun q => q rfl))
    refine V_iinc3 (pc := 53) hX dL_shop_53 rfl (iinc1 _) ?_
    refine V_goto (pc := 56) (tgt := 15) hX dL_shop_56 (by decide) ?_
    exact Vw.fg (by repeat (first | exact fgt_n | refine fgt_c (Or.inr rfl) ?_ | refine fgt_c (Or.inl rfl) ?_)) (l_shop hX hR hr hs hL n hn hp (k + 1) (by omega) _ (SI_next hσ (by omega)))
termination_by n - k
set_option maxRecDepth 100000 in
set_option maxHeartbeats 4000000 in
theorem c_shop {L : Nat} {xs : Nat → Int32} (hL : L < 2 ^ 31) (σ : Mem) (hσ : SI L xs σ 0) : Cs L xs yL_shop cL_shop 5 (some .int) 2 [.ref 0, .ref 52] σ (fun r τ => r = some (.int (nI (nsN L xs))) ∧ SI L xs τ (nsN L xs)) := by
  refine Cs.intro (by decide +kernel) [some (.ref 0), some (.ref 52), none, none, none] (fun _ => rfl) rfl (fun _ => Nat.le_of_ble_eq_true rfl) ?_
  intro X hX hR hr hs
  refine V_iconst (pc := 0) (v := (nI 1)) hX dL_shop_0 (by decide +kernel) ?_
  refine V_aload_n (pc := 1) (i := 1) hX dL_shop_1 rfl rfl ?_
  refine V_iconst (pc := 2) (v := (nI 0)) hX dL_shop_2 (by decide +kernel) ?_
  refine V_callSsi (pc := 3) hX (hR.mono (by omega)) mL_9 hs (c_cell hL _ (by omega) _) dL_shop_3 rfl rfl rfl (Nat.le_of_ble_eq_true rfl) ?_
  refine V_bipush (pc := 6) (v := (nI 9)) hX dL_shop_6 (by decide +kernel) ?_
  refine V_callSsi (pc := 8) hX (hR.mono (by omega)) mL_15 hs (c_low _ _ (by decide) (by decide) _) dL_shop_8 rfl rfl rfl (Nat.le_of_ble_eq_true rfl) ?_
  refine V_iadd (pc := 11) hX dL_shop_11 ?_
  rw [nI_add]
  refine V_istore2 (pc := 12) hX dL_shop_12 rfl ?_
  refine V_iconst (pc := 13) (v := (nI 0)) hX dL_shop_13 (by decide +kernel) ?_
  refine V_istore3 (pc := 14) hX dL_shop_14 rfl ?_
  exact l_shop hX hR hr hs hL (nsN L xs) nsN_le.2 (fun τ h => ⟨rfl, h⟩) 0 (Nat.zero_le _) σ hσ
end
section
/-! ===== asked: ask, trace, as of one set, as its kind tells ===== -/
def okA (σ τ : Mem) : Prop := (∀ q, q ≠ 0 → q ≠ 5 → q ≠ 51 → τ q = σ q) ∧ ∃ tr : Nat, tr ≤ 16 ∧ τ 5 1 = nI tr
theorem okA.tr {σ τ ρ : Mem} (h : okA σ τ) (h2 : okA τ ρ) : okA σ ρ := ⟨fun q a b c => (h2.1 q a b c).trans (h.1 q a b c), h2.2⟩
/-- of the set k: its cost, how many things, filled, kind -/
def HS (N k co p : Nat) (F kd : Int32) (σ : Mem) : Prop := σ 2 3 = nI N ∧ N ≤ 10 ∧ k < N ∧ σ 17 k = nI co ∧ bcF (σ 18 k) = nI p ∧ pf (σ 18 k) (σ 19) 12 = F ∧ kindf (σ 2 6) k F (nI co) = kd ∧ ∃ tr : Nat, tr ≤ 16 ∧ σ 5 1 = nI tr
theorem HS.ok {N k co p : Nat} {F kd : Int32} {σ τ : Mem} (h : okA σ τ) (g : HS N k co p F kd σ) : HS N k co p F kd τ := by
  unfold HS
  rw [h.1 2 (by decide) (by decide) (by decide), h.1 17 (by decide) (by decide) (by decide), h.1 18 (by decide) (by decide) (by decide), h.1 19 (by decide) (by decide) (by decide)]
  exact ⟨g.1, g.2.1, g.2.2.1, g.2.2.2.1, g.2.2.2.2.1, g.2.2.2.2.2.1, g.2.2.2.2.2.2.1, h.2⟩
theorem tcM_51 {σ : Mem} {x : (Nat → Int32) × Nat} : tcM σ x 51 = x.1 := by unfold tcM; rw [mu_q (by decide), mf_s]
theorem tcM_5 {σ : Mem} {x : (Nat → Int32) × Nat} : tcM σ x 5 1 = nI x.2 := by unfold tcM; rw [mu_at]
theorem okA.tc {σ : Mem} {x : (Nat → Int32) × Nat} (h : x.2 ≤ 16) : okA σ (tcM σ x) := ⟨fun q _ b c => tcM_r b c, x.2, h, tcM_5⟩
theorem a_ask0 {N k co p : Nat} {F kd : Int32} {σ : Mem} (g : HS N k co p F kd σ) (hw : (wTr kd (σ 51)).2 ≤ 16) : ∃ τ, Cc yX5_ask cX5_ask 3 (some .int) 6 [.ref 0, .int (nI k), .int (nI 0)] σ (rI (wVal kd (nI co) F (nI p)) τ) ∧ okA σ τ ∧ τ 51 = (wTr kd (σ 51)).1 ∧ τ 5 1 = nI (wTr kd (σ 51)).2 := by
  obtain ⟨h1, h2, h3, h4, h5, h6, h7, tr, h8, h9⟩ := g
  have c := c_ask N tr (nI k) (nI 0) σ h1 h2 h9
  have ei : inr (nI k) N = true := inr_nI h3 (by omega)
  have et : tn (nI k) = k := tn_nI (by omega)
  have e1 : askF N (σ 17) (σ 18) (σ 19) (σ 2 6) (fun s => bcF (σ 18 s)) (nI k) (nI 0) = wVal kd (nI co) F (nI p) := by
    rw [askF, ei, if_pos rfl, if_pos rfl, et, h6, h4, h7, h5]
  have e2 : askT N (σ 17) (σ 18) (σ 19) (σ 2 6) (σ 51, tr) (nI k) (nI 0) = wTr kd (σ 51) := by
    rw [askT, ei, if_pos rfl, if_pos rfl, et, h6, h4, h7]
  rw [e1, e2] at c
  exact ⟨_, c, okA.tc hw, tcM_51, tcM_5⟩
theorem a_ask1 {N k co p : Nat} {F kd : Int32} {σ : Mem} (g : HS N k co p F kd σ) (hw : (mTr kd (σ 51)).2 ≤ 16) : ∃ τ, Cc yX5_ask cX5_ask 3 (some .int) 6 [.ref 0, .int (nI k), .int (nI 1)] σ (rI (mVal kd (nI co) (nI p)) τ) ∧ okA σ τ ∧ τ 51 = (mTr kd (σ 51)).1 ∧ τ 5 1 = nI (mTr kd (σ 51)).2 := by
  obtain ⟨h1, h2, h3, h4, h5, h6, h7, tr, h8, h9⟩ := g
  have c := c_ask N tr (nI k) (nI 1) σ h1 h2 h9
  have ei : inr (nI k) N = true := inr_nI h3 (by omega)
  have et : tn (nI k) = k := tn_nI (by omega)
  have n10 : ¬ nI 1 = nI 0 := by decide +kernel
  have e1 : askF N (σ 17) (σ 18) (σ 19) (σ 2 6) (fun s => bcF (σ 18 s)) (nI k) (nI 1) = mVal kd (nI co) (nI p) := by
    rw [askF, ei, if_pos rfl, if_neg n10, if_pos rfl, et, h6, h4, h7, h5]
  have e2 : askT N (σ 17) (σ 18) (σ 19) (σ 2 6) (σ 51, tr) (nI k) (nI 1) = mTr kd (σ 51) := by
    rw [askT, ei, if_pos rfl, if_neg n10, if_pos rfl, et, h6, h4, h7]
  rw [e1, e2] at c
  exact ⟨_, c, okA.tc hw, tcM_51, tcM_5⟩
theorem a_trace {σ : Mem} {v : Int32} {tr : Nat} (h : σ 51 0 = v) (ht : σ 5 1 = nI tr) (h1 : 1 ≤ tr) (h2 : tr ≤ 16) : Cc yX5_trace cX5_trace 2 (some .int) 1 [.ref 0, .int (nI 0)] σ (rI v σ) := by
  have c := c_trace tr (nI 0) σ ht h2
  have e : traceF (σ 51, tr) (nI 0) = v := by rw [traceF, if_pos (inr_nI (show 0 < tr by omega) (by omega)), tn_nI (by decide)]; exact h
  rw [e] at c
  exact c
theorem a_as {N k co p x : Nat} {F kd v : Int32} {σ : Mem} (g : HS N k co p F kd σ) (hx : x < 4) (hv : (if kisf (nI x) kd then nI co else (-1000013)) = v) : ∃ τ, Cc yX5_as cX5_as 3 (some .int) 5 [.ref 0, .int (nI k), .int (nI x)] σ (rI v τ) ∧ okA σ τ := by
  obtain ⟨h1, h2, h3, h4, h5, h6, h7, tr, h8, h9⟩ := g
  have c := c_as N (nI k) (nI x) σ h1 h2
  have ei : inr (nI k) N = true := inr_nI h3 (by omega)
  have ex : inr (nI x) 4 = true := inr_nI hx (by omega)
  have et : tn (nI k) = k := tn_nI (by omega)
  have e1 : asF N (σ 17) (σ 18) (σ 19) (σ 2 6) (nI k) (nI x) = v := by
    rw [asF, ei, ex, Bool.and_self, if_pos rfl, et, h6, h4, h7]
    exact hv
  rw [e1] at c
  exact ⟨_, c, fun q a b c => mu_q a, tr, h8, by rw [mu_q (by decide)]; exact h9⟩
theorem wTr1 (g : Nat → Int32) : (wTr (nI 1) g).1 0 = nI 11 ∧ (wTr (nI 1) g).2 = 2 := by
  rw [wTr, if_neg (by decide +kernel), if_neg (by decide +kernel)]
  exact ⟨rfl, rfl⟩
theorem wTr2 (g : Nat → Int32) : (wTr (nI 2) g).1 0 = nI 12 ∧ (wTr (nI 2) g).2 = 5 := by
  rw [wTr, if_pos rfl]
  exact ⟨rfl, rfl⟩
theorem wTr3 (g : Nat → Int32) : (wTr (nI 3) g).1 0 = nI 13 ∧ (wTr (nI 3) g).2 = 2 := by
  rw [wTr, if_neg (by decide +kernel), if_pos rfl]
  exact ⟨rfl, rfl⟩
theorem mTr1 (g : Nat → Int32) : (mTr (nI 1) g).1 0 = nI 20 ∧ (mTr (nI 1) g).2 = 1 := by
  rw [mTr, if_neg (by decide +kernel), if_neg (by decide +kernel)]
  exact ⟨rfl, rfl⟩
theorem mTr2 (g : Nat → Int32) : (mTr (nI 2) g).1 0 = nI 21 ∧ (mTr (nI 2) g).2 = 2 := by
  rw [mTr, if_pos rfl]
  exact ⟨rfl, rfl⟩
theorem mTr3 (g : Nat → Int32) : (mTr (nI 3) g).1 0 = nI 22 ∧ (mTr (nI 3) g).2 = 4 := by
  rw [mTr, if_neg (by decide +kernel), if_pos rfl]
  exact ⟨rfl, rfl⟩
set_option maxRecDepth 100000 in
set_option maxHeartbeats 4000000 in
theorem l_many {L : Nat} {xs : Nat → Int32} {X : XC} {σ : Mem} (hX : Cok X RL cL_asked 8) (hR : Rok X 7) (hs : Scr X L xs) (hL : L < 2 ^ 31) (k : Nat) (hk : k < 100) (kd F : Int32) (kk : Vw X 34 [some (.ref 0), some (.ref 52), some (.int (nI k)), some (.int (kd)), some (.int (F)), some (.int (nI (popn (thF L xs k) 12))), some (.int (nI 12)), none] [] σ) (i : Nat) (hi : i ≤ 12) : Vw X 6 [some (.ref 0), some (.ref 52), some (.int (nI k)), some (.int (kd)), some (.int (F)), some (.int (nI (popn (thF L xs k) i))), some (.int (nI i)), none] [] σ := by
  refine V_iload (pc := 6) (i := 6) hX dL_asked_6 rfl ?_
  refine V_bipush (pc := 8) (v := (nI 12)) hX dL_asked_8 (by decide +kernel) ?_
  refine V_icmp_geN (pc := 10) (tgt := 34) hX dL_asked_10 (by decide) (by omega) (by omega) (fun h10 => ?_) (fun h10 => ?_)
  · obtain rfl : i = 12 := by omega
    exact kk
  · refine V_iload (pc := 13) (i := 5) hX dL_asked_13 rfl ?_
    refine V_aload_n (pc := 15) (i := 1) hX dL_asked_15 rfl rfl ?_
    refine V_iload_n (pc := 16) (i := 2) hX dL_asked_16 rfl rfl ?_
    refine V_callSsi (pc := 17) hX (hR.mono (by omega)) mL_19 hs (c_things hL _ hk _) dL_asked_17 rfl rfl rfl (Nat.le_of_ble_eq_true rfl) ?_
    refine V_iload (pc := 20) (i := 6) hX dL_asked_20 rfl ?_
    refine V_ishr (pc := 22) hX dL_asked_22 ?_
    refine V_iconst (pc := 23) (v := (nI 1)) hX dL_asked_23 (by decide +kernel) ?_
    refine V_iand (pc := 24) hX dL_asked_24 ?_
    refine V_iadd (pc := 25) hX dL_asked_25 ?_
    refine V_istore5 (pc := 26) hX dL_asked_26 rfl ?_
    refine V_iinc6 (pc := 28) hX dL_asked_28 rfl (iinc1 _) ?_
    refine V_goto (pc := 31) (tgt := 6) hX dL_asked_31 (by decide) ?_
    rw [sbit (by omega), popn_s]
    exact l_many hX hR hs hL k hk kd F kk (i + 1) (by omega)
termination_by 12 - i
set_option maxRecDepth 100000 in
set_option maxHeartbeats 4000000 in
theorem l_ask1 {L : Nat} {xs : Nat → Int32} {X : XC} {P : Option Value → Mem → Prop} {σ : Mem} (hX : Cok X RL cL_asked 8) (hR : Rok X 7) (hr : Ret X (some .boolean) P) (hs : Scr X L xs) (hL : L < 2 ^ 31) {N k co p : Nat} {F : Int32} (g : HS N k co p F (nI 1) σ) (hco : coN L xs k = co) (hp : ∀ τ, okA σ τ → P (some (.int (nI 1))) τ) : Vw X 34 [some (.ref 0), some (.ref 52), some (.int (nI k)), some (.int (nI 1)), some (.int (F)), some (.int (nI p)), some (.int (nI 12)), none] [] σ := by
  have hk : k < 100 := by have := g.2.1; have := g.2.2.1; omega
  obtain ⟨τ1, c1, o1, a1, b1⟩ := a_ask0 g (by rw [(wTr1 _).2]; decide)
  have t1 : Cc yX5_trace cX5_trace 2 (some .int) 1 [.ref 0, .int (nI 0)] τ1 (rI (nI 11) τ1) := a_trace (by rw [a1, (wTr1 _).1]) b1 (by rw [(wTr1 _).2]; decide) (by rw [(wTr1 _).2]; decide)
  have g1 := g.ok o1
  obtain ⟨τ2, c2, o2, a2, b2⟩ := a_ask1 g1 (by rw [(mTr1 _).2]; decide)
  have t2 : Cc yX5_trace cX5_trace 2 (some .int) 1 [.ref 0, .int (nI 0)] τ2 (rI (nI 20) τ2) := a_trace (by rw [a2, (mTr1 _).1]) b2 (by rw [(mTr1 _).2]; decide) (by rw [(mTr1 _).2]; decide)
  have g2 := g1.ok o2
  obtain ⟨τ3, c3, o3⟩ := a_as (x := 1) (v := nI co) g2 (by decide) (by rw [if_pos (by decide +kernel)])
  have g3 := g2.ok o3
  obtain ⟨τ4, c4, o4⟩ := a_as (x := 1) (v := nI co) g3 (by decide) (by rw [if_pos (by decide +kernel)])
  have ew : wVal (nI 1) (nI co) F (nI p) = (nI co - F) + nI 0 := by rw [wVal, if_neg (by decide +kernel), if_neg (by decide +kernel), add0]
  have em : mVal (nI 1) (nI co) (nI p) = nI p + nI 0 := by rw [mVal, if_neg (by decide +kernel), if_neg (by decide +kernel), add0]
  rw [ew] at c1
  rw [em] at c2
  refine V_iload (pc := 34) (i := 5) hX dL_asked_34 rfl ?_
  refine V_iload_n (pc := 36) (i := 3) hX dL_asked_36 rfl rfl ?_
  refine V_iconst (pc := 37) (v := (nI 2)) hX dL_asked_37 (by decide +kernel) ?_
  refine V_icmp_ne (pc := 38) (tgt := 46) hX dL_asked_38 (by decide) (fun h38 => ?_) (fun h38 => absurd h38 ((by decide +kernel : ¬ nI 1 = nI 2)))
  refine V_iload_n (pc := 46) (i := 3) hX dL_asked_46 rfl rfl ?_
  refine V_iconst (pc := 47) (v := (nI 3)) hX dL_asked_47 (by decide +kernel) ?_
  refine V_icmp_ne (pc := 48) (tgt := 61) hX dL_asked_48 (by decide) (fun h48 => ?_) (fun h48 => absurd h48 ((by decide +kernel : ¬ nI 1 = nI 3)))
  refine V_iconst (pc := 61) (v := (nI 0)) hX dL_asked_61 (by decide +kernel) ?_
  refine V_iadd (pc := 62) hX dL_asked_62 ?_
  refine V_istore6 (pc := 63) hX dL_asked_63 rfl ?_
  refine V_iload_n (pc := 65) (i := 3) hX dL_asked_65 rfl rfl ?_
  refine V_iconst (pc := 66) (v := (nI 3)) hX dL_asked_66 (by decide +kernel) ?_
  refine V_icmp_ne (pc := 67) (tgt := 80) hX dL_asked_67 (by decide) (fun h67 => ?_) (fun h67 => absurd h67 ((by decide +kernel : ¬ nI 1 = nI 3)))
  refine V_aload_n (pc := 80) (i := 1) hX dL_asked_80 rfl rfl ?_
  refine V_iload_n (pc := 81) (i := 2) hX dL_asked_81 rfl rfl ?_
  refine V_callSsi (pc := 82) hX (hR.mono (by omega)) mL_33 hs (c_cost hL _ hk _) dL_asked_82 rfl rfl rfl (Nat.le_of_ble_eq_true rfl) ?_
  rw [hco]
  refine V_iload (pc := 85) (i := 4) hX dL_asked_85 rfl ?_
  refine V_isub (pc := 87) hX dL_asked_87 ?_
  refine V_iload_n (pc := 88) (i := 3) hX dL_asked_88 rfl rfl ?_
  refine V_iconst (pc := 89) (v := (nI 2)) hX dL_asked_89 (by decide +kernel) ?_
  refine V_icmp_ne (pc := 90) (tgt := 98) hX dL_asked_90 (by decide) (fun h90 => ?_) (fun h90 => absurd h90 ((by decide +kernel : ¬ nI 1 = nI 2)))
  refine V_iconst (pc := 98) (v := (nI 0)) hX dL_asked_98 (by decide +kernel) ?_
  refine V_iadd (pc := 99) hX dL_asked_99 ?_
  refine V_istore7 (pc := 100) hX dL_asked_100 rfl ?_
  refine V_aload_n (pc := 102) (i := 0) hX dL_asked_102 rfl rfl ?_
  refine V_iload_n (pc := 103) (i := 2) hX dL_asked_103 rfl rfl ?_
  refine V_iconst (pc := 104) (v := (nI 0)) hX dL_asked_104 (by decide +kernel) ?_
  refine V_callVi (pc := 105) hX (hR.mono (by omega)) mL_61 (c1) dL_asked_105 rfl rfl rfl rfl (Nat.le_of_ble_eq_true rfl) ?_
  refine V_iload (pc := 108) (i := 7) hX dL_asked_108 rfl ?_
  refine V_icmp_ne (pc := 110) (tgt := 226) hX dL_asked_110 (by decide) (fun h110 => absurd h110 (fun q => q rfl)) (fun h110 => ?_)
  refine V_aload_n (pc := 113) (i := 0) hX dL_asked_113 rfl rfl ?_
  refine V_iconst (pc := 114) (v := (nI 0)) hX dL_asked_114 (by decide +kernel) ?_
  refine V_callVi (pc := 115) hX (hR.mono (by omega)) mL_64 (t1) dL_asked_115 rfl rfl rfl rfl (Nat.le_of_ble_eq_true rfl) ?_
  refine V_iload_n (pc := 118) (i := 3) hX dL_asked_118 rfl rfl ?_
  refine V_iconst (pc := 119) (v := (nI 3)) hX dL_asked_119 (by decide +kernel) ?_
  refine V_icmp_ne (pc := 120) (tgt := 128) hX dL_asked_120 (by decide) (fun h120 => ?_) (fun h120 => absurd h120 ((by decide +kernel : ¬ nI 1 = nI 3)))
  refine V_iload_n (pc := 128) (i := 3) hX dL_asked_128 rfl rfl ?_
  refine V_iconst (pc := 129) (v := (nI 2)) hX dL_asked_129 (by decide +kernel) ?_
  refine V_icmp_ne (pc := 130) (tgt := 138) hX dL_asked_130 (by decide) (fun h130 => ?_) (fun h130 => absurd h130 ((by decide +kernel : ¬ nI 1 = nI 2)))
  refine V_bipush (pc := 138) (v := (nI 11)) hX dL_asked_138 (by decide +kernel) ?_
  refine V_icmp_ne (pc := 140) (tgt := 226) hX dL_asked_140 (by decide) (fun h140 => absurd h140 (fun q => q rfl)) (fun h140 => ?_)
  refine V_aload_n (pc := 143) (i := 0) hX dL_asked_143 rfl rfl ?_
  refine V_iload_n (pc := 144) (i := 2) hX dL_asked_144 rfl rfl ?_
  refine V_iconst (pc := 145) (v := (nI 1)) hX dL_asked_145 (by decide +kernel) ?_
  refine V_callVi (pc := 146) hX (hR.mono (by omega)) mL_61 (c2) dL_asked_146 rfl rfl rfl rfl (Nat.le_of_ble_eq_true rfl) ?_
  refine V_iload (pc := 149) (i := 6) hX dL_asked_149 rfl ?_
  refine V_icmp_ne (pc := 151) (tgt := 226) hX dL_asked_151 (by decide) (fun h151 => absurd h151 (fun q => q rfl)) (fun h151 => ?_)
  refine V_aload_n (pc := 154) (i := 0) hX dL_asked_154 rfl rfl ?_
  refine V_iconst (pc := 155) (v := (nI 0)) hX dL_asked_155 (by decide +kernel) ?_
  refine V_callVi (pc := 156) hX (hR.mono (by omega)) mL_64 (t2) dL_asked_156 rfl rfl rfl rfl (Nat.le_of_ble_eq_true rfl) ?_
  refine V_iload_n (pc := 159) (i := 3) hX dL_asked_159 rfl rfl ?_
  refine V_iconst (pc := 160) (v := (nI 3)) hX dL_asked_160 (by decide +kernel) ?_
  refine V_icmp_ne (pc := 161) (tgt := 169) hX dL_asked_161 (by decide) (fun h161 => ?_) (fun h161 => absurd h161 ((by decide +kernel : ¬ nI 1 = nI 3)))
  refine V_iload_n (pc := 169) (i := 3) hX dL_asked_169 rfl rfl ?_
  refine V_iconst (pc := 170) (v := (nI 2)) hX dL_asked_170 (by decide +kernel) ?_
  refine V_icmp_ne (pc := 171) (tgt := 179) hX dL_asked_171 (by decide) (fun h171 => ?_) (fun h171 => absurd h171 ((by decide +kernel : ¬ nI 1 = nI 2)))
  refine V_bipush (pc := 179) (v := (nI 20)) hX dL_asked_179 (by decide +kernel) ?_
  refine V_icmp_ne (pc := 181) (tgt := 226) hX dL_asked_181 (by decide) (fun h181 => absurd h181 (fun q => q rfl)) (fun h181 => ?_)
  refine V_aload_n (pc := 184) (i := 0) hX dL_asked_184 rfl rfl ?_
  refine V_iload_n (pc := 185) (i := 2) hX dL_asked_185 rfl rfl ?_
  refine V_iload_n (pc := 186) (i := 3) hX dL_asked_186 rfl rfl ?_
  refine V_callVi (pc := 187) hX (hR.mono (by omega)) mL_67 (c3) dL_asked_187 rfl rfl rfl rfl (Nat.le_of_ble_eq_true rfl) ?_
  refine V_aload_n (pc := 190) (i := 1) hX dL_asked_190 rfl rfl ?_
  refine V_iload_n (pc := 191) (i := 2) hX dL_asked_191 rfl rfl ?_
  refine V_callSsi (pc := 192) hX (hR.mono (by omega)) mL_33 hs (c_cost hL _ hk _) dL_asked_192 rfl rfl rfl (Nat.le_of_ble_eq_true rfl) ?_
  rw [hco]
  refine V_icmp_ne (pc := 195) (tgt := 226) hX dL_asked_195 (by decide) (fun h195 => absurd h195 (fun q => q rfl)) (fun h195 => ?_)
  refine V_aload_n (pc := 198) (i := 0) hX dL_asked_198 rfl rfl ?_
  refine V_iload_n (pc := 199) (i := 2) hX dL_asked_199 rfl rfl ?_
  refine V_iconst (pc := 200) (v := (nI 1)) hX dL_asked_200 (by decide +kernel) ?_
  refine V_callVi (pc := 201) hX (hR.mono (by omega)) mL_67 (c4) dL_asked_201 rfl rfl rfl rfl (Nat.le_of_ble_eq_true rfl) ?_
  refine V_iload_n (pc := 204) (i := 3) hX dL_asked_204 rfl rfl ?_
  refine V_iconst (pc := 205) (v := (nI 3)) hX dL_asked_205 (by decide +kernel) ?_
  refine V_icmp_ne (pc := 206) (tgt := 214) hX dL_asked_206 (by decide) (fun h206 => ?_) (fun h206 => absurd h206 ((by decide +kernel : ¬ nI 1 = nI 3)))
  refine V_aload_n (pc := 214) (i := 1) hX dL_asked_214 rfl rfl ?_
  refine V_iload_n (pc := 215) (i := 2) hX dL_asked_215 rfl rfl ?_
  refine V_callSsi (pc := 216) hX (hR.mono (by omega)) mL_33 hs (c_cost hL _ hk _) dL_asked_216 rfl rfl rfl (Nat.le_of_ble_eq_true rfl) ?_
  rw [hco]
  refine V_icmp_ne (pc := 219) (tgt := 226) hX dL_asked_219 (by decide) (fun h219 => absurd h219 (fun q => q rfl)) (fun h219 => ?_)
  refine V_iconst (pc := 222) (v := (nI 1)) hX dL_asked_222 (by decide +kernel) ?_
  refine V_goto (pc := 223) (tgt := 227) hX dL_asked_223 (by decide) ?_
  exact V_iret (pc := 227) (st := []) hX hr (by first | rfl | exact bI_nar _ | decide +kernel) dL_asked_227 (hp _ ((((o1.tr o2).tr o3).tr o4)))
set_option maxRecDepth 100000 in
set_option maxHeartbeats 4000000 in
theorem l_ask2 {L : Nat} {xs : Nat → Int32} {X : XC} {P : Option Value → Mem → Prop} {σ : Mem} (hX : Cok X RL cL_asked 8) (hR : Rok X 7) (hr : Ret X (some .boolean) P) (hs : Scr X L xs) (hL : L < 2 ^ 31) {N k co p : Nat} {F : Int32} (g : HS N k co p F (nI 2) σ) (hco : coN L xs k = co) (hp : ∀ τ, okA σ τ → P (some (.int (nI 1))) τ) : Vw X 34 [some (.ref 0), some (.ref 52), some (.int (nI k)), some (.int (nI 2)), some (.int (F)), some (.int (nI p)), some (.int (nI 12)), none] [] σ := by
  have hk : k < 100 := by have := g.2.1; have := g.2.2.1; omega
  obtain ⟨τ1, c1, o1, a1, b1⟩ := a_ask0 g (by rw [(wTr2 _).2]; decide)
  have t1 : Cc yX5_trace cX5_trace 2 (some .int) 1 [.ref 0, .int (nI 0)] τ1 (rI (nI 12) τ1) := a_trace (by rw [a1, (wTr2 _).1]) b1 (by rw [(wTr2 _).2]; decide) (by rw [(wTr2 _).2]; decide)
  have g1 := g.ok o1
  obtain ⟨τ2, c2, o2, a2, b2⟩ := a_ask1 g1 (by rw [(mTr2 _).2]; decide)
  have t2 : Cc yX5_trace cX5_trace 2 (some .int) 1 [.ref 0, .int (nI 0)] τ2 (rI (nI 21) τ2) := a_trace (by rw [a2, (mTr2 _).1]) b2 (by rw [(mTr2 _).2]; decide) (by rw [(mTr2 _).2]; decide)
  have g2 := g1.ok o2
  obtain ⟨τ3, c3, o3⟩ := a_as (x := 2) (v := nI co) g2 (by decide) (by rw [if_pos (by decide +kernel)])
  have g3 := g2.ok o3
  obtain ⟨τ4, c4, o4⟩ := a_as (x := 1) (v := nI co) g3 (by decide) (by rw [if_pos (by decide +kernel)])
  have ew : wVal (nI 2) (nI co) F (nI p) = (nI co - F) + (nI p + nI 100) := by rw [wVal, if_pos rfl]
  have em : mVal (nI 2) (nI co) (nI p) = nI p + nI 100 := by rw [mVal, if_pos rfl]
  rw [ew] at c1
  rw [em] at c2
  refine V_iload (pc := 34) (i := 5) hX dL_asked_34 rfl ?_
  refine V_iload_n (pc := 36) (i := 3) hX dL_asked_36 rfl rfl ?_
  refine V_iconst (pc := 37) (v := (nI 2)) hX dL_asked_37 (by decide +kernel) ?_
  refine V_icmp_ne (pc := 38) (tgt := 46) hX dL_asked_38 (by decide) (fun h38 => absurd h38 (fun q => q rfl)) (fun h38 => ?_)
  refine V_bipush (pc := 41) (v := (nI 100)) hX dL_asked_41 (by decide +kernel) ?_
  refine V_goto (pc := 43) (tgt := 62) hX dL_asked_43 (by decide) ?_
  refine V_iadd (pc := 62) hX dL_asked_62 ?_
  refine V_istore6 (pc := 63) hX dL_asked_63 rfl ?_
  refine V_iload_n (pc := 65) (i := 3) hX dL_asked_65 rfl rfl ?_
  refine V_iconst (pc := 66) (v := (nI 3)) hX dL_asked_66 (by decide +kernel) ?_
  refine V_icmp_ne (pc := 67) (tgt := 80) hX dL_asked_67 (by decide) (fun h67 => ?_) (fun h67 => absurd h67 ((by decide +kernel : ¬ nI 2 = nI 3)))
  refine V_aload_n (pc := 80) (i := 1) hX dL_asked_80 rfl rfl ?_
  refine V_iload_n (pc := 81) (i := 2) hX dL_asked_81 rfl rfl ?_
  refine V_callSsi (pc := 82) hX (hR.mono (by omega)) mL_33 hs (c_cost hL _ hk _) dL_asked_82 rfl rfl rfl (Nat.le_of_ble_eq_true rfl) ?_
  rw [hco]
  refine V_iload (pc := 85) (i := 4) hX dL_asked_85 rfl ?_
  refine V_isub (pc := 87) hX dL_asked_87 ?_
  refine V_iload_n (pc := 88) (i := 3) hX dL_asked_88 rfl rfl ?_
  refine V_iconst (pc := 89) (v := (nI 2)) hX dL_asked_89 (by decide +kernel) ?_
  refine V_icmp_ne (pc := 90) (tgt := 98) hX dL_asked_90 (by decide) (fun h90 => absurd h90 (fun q => q rfl)) (fun h90 => ?_)
  refine V_iload (pc := 93) (i := 6) hX dL_asked_93 rfl ?_
  refine V_goto (pc := 95) (tgt := 99) hX dL_asked_95 (by decide) ?_
  refine V_iadd (pc := 99) hX dL_asked_99 ?_
  refine V_istore7 (pc := 100) hX dL_asked_100 rfl ?_
  refine V_aload_n (pc := 102) (i := 0) hX dL_asked_102 rfl rfl ?_
  refine V_iload_n (pc := 103) (i := 2) hX dL_asked_103 rfl rfl ?_
  refine V_iconst (pc := 104) (v := (nI 0)) hX dL_asked_104 (by decide +kernel) ?_
  refine V_callVi (pc := 105) hX (hR.mono (by omega)) mL_61 (c1) dL_asked_105 rfl rfl rfl rfl (Nat.le_of_ble_eq_true rfl) ?_
  refine V_iload (pc := 108) (i := 7) hX dL_asked_108 rfl ?_
  refine V_icmp_ne (pc := 110) (tgt := 226) hX dL_asked_110 (by decide) (fun h110 => absurd h110 (fun q => q rfl)) (fun h110 => ?_)
  refine V_aload_n (pc := 113) (i := 0) hX dL_asked_113 rfl rfl ?_
  refine V_iconst (pc := 114) (v := (nI 0)) hX dL_asked_114 (by decide +kernel) ?_
  refine V_callVi (pc := 115) hX (hR.mono (by omega)) mL_64 (t1) dL_asked_115 rfl rfl rfl rfl (Nat.le_of_ble_eq_true rfl) ?_
  refine V_iload_n (pc := 118) (i := 3) hX dL_asked_118 rfl rfl ?_
  refine V_iconst (pc := 119) (v := (nI 3)) hX dL_asked_119 (by decide +kernel) ?_
  refine V_icmp_ne (pc := 120) (tgt := 128) hX dL_asked_120 (by decide) (fun h120 => ?_) (fun h120 => absurd h120 ((by decide +kernel : ¬ nI 2 = nI 3)))
  refine V_iload_n (pc := 128) (i := 3) hX dL_asked_128 rfl rfl ?_
  refine V_iconst (pc := 129) (v := (nI 2)) hX dL_asked_129 (by decide +kernel) ?_
  refine V_icmp_ne (pc := 130) (tgt := 138) hX dL_asked_130 (by decide) (fun h130 => absurd h130 (fun q => q rfl)) (fun h130 => ?_)
  refine V_bipush (pc := 133) (v := (nI 12)) hX dL_asked_133 (by decide +kernel) ?_
  refine V_goto (pc := 135) (tgt := 140) hX dL_asked_135 (by decide) ?_
  refine V_icmp_ne (pc := 140) (tgt := 226) hX dL_asked_140 (by decide) (fun h140 => absurd h140 (fun q => q rfl)) (fun h140 => ?_)
  refine V_aload_n (pc := 143) (i := 0) hX dL_asked_143 rfl rfl ?_
  refine V_iload_n (pc := 144) (i := 2) hX dL_asked_144 rfl rfl ?_
  refine V_iconst (pc := 145) (v := (nI 1)) hX dL_asked_145 (by decide +kernel) ?_
  refine V_callVi (pc := 146) hX (hR.mono (by omega)) mL_61 (c2) dL_asked_146 rfl rfl rfl rfl (Nat.le_of_ble_eq_true rfl) ?_
  refine V_iload (pc := 149) (i := 6) hX dL_asked_149 rfl ?_
  refine V_icmp_ne (pc := 151) (tgt := 226) hX dL_asked_151 (by decide) (fun h151 => absurd h151 (fun q => q rfl)) (fun h151 => ?_)
  refine V_aload_n (pc := 154) (i := 0) hX dL_asked_154 rfl rfl ?_
  refine V_iconst (pc := 155) (v := (nI 0)) hX dL_asked_155 (by decide +kernel) ?_
  refine V_callVi (pc := 156) hX (hR.mono (by omega)) mL_64 (t2) dL_asked_156 rfl rfl rfl rfl (Nat.le_of_ble_eq_true rfl) ?_
  refine V_iload_n (pc := 159) (i := 3) hX dL_asked_159 rfl rfl ?_
  refine V_iconst (pc := 160) (v := (nI 3)) hX dL_asked_160 (by decide +kernel) ?_
  refine V_icmp_ne (pc := 161) (tgt := 169) hX dL_asked_161 (by decide) (fun h161 => ?_) (fun h161 => absurd h161 ((by decide +kernel : ¬ nI 2 = nI 3)))
  refine V_iload_n (pc := 169) (i := 3) hX dL_asked_169 rfl rfl ?_
  refine V_iconst (pc := 170) (v := (nI 2)) hX dL_asked_170 (by decide +kernel) ?_
  refine V_icmp_ne (pc := 171) (tgt := 179) hX dL_asked_171 (by decide) (fun h171 => absurd h171 (fun q => q rfl)) (fun h171 => ?_)
  refine V_bipush (pc := 174) (v := (nI 21)) hX dL_asked_174 (by decide +kernel) ?_
  refine V_goto (pc := 176) (tgt := 181) hX dL_asked_176 (by decide) ?_
  refine V_icmp_ne (pc := 181) (tgt := 226) hX dL_asked_181 (by decide) (fun h181 => absurd h181 (fun q => q rfl)) (fun h181 => ?_)
  refine V_aload_n (pc := 184) (i := 0) hX dL_asked_184 rfl rfl ?_
  refine V_iload_n (pc := 185) (i := 2) hX dL_asked_185 rfl rfl ?_
  refine V_iload_n (pc := 186) (i := 3) hX dL_asked_186 rfl rfl ?_
  refine V_callVi (pc := 187) hX (hR.mono (by omega)) mL_67 (c3) dL_asked_187 rfl rfl rfl rfl (Nat.le_of_ble_eq_true rfl) ?_
  refine V_aload_n (pc := 190) (i := 1) hX dL_asked_190 rfl rfl ?_
  refine V_iload_n (pc := 191) (i := 2) hX dL_asked_191 rfl rfl ?_
  refine V_callSsi (pc := 192) hX (hR.mono (by omega)) mL_33 hs (c_cost hL _ hk _) dL_asked_192 rfl rfl rfl (Nat.le_of_ble_eq_true rfl) ?_
  rw [hco]
  refine V_icmp_ne (pc := 195) (tgt := 226) hX dL_asked_195 (by decide) (fun h195 => absurd h195 (fun q => q rfl)) (fun h195 => ?_)
  refine V_aload_n (pc := 198) (i := 0) hX dL_asked_198 rfl rfl ?_
  refine V_iload_n (pc := 199) (i := 2) hX dL_asked_199 rfl rfl ?_
  refine V_iconst (pc := 200) (v := (nI 1)) hX dL_asked_200 (by decide +kernel) ?_
  refine V_callVi (pc := 201) hX (hR.mono (by omega)) mL_67 (c4) dL_asked_201 rfl rfl rfl rfl (Nat.le_of_ble_eq_true rfl) ?_
  refine V_iload_n (pc := 204) (i := 3) hX dL_asked_204 rfl rfl ?_
  refine V_iconst (pc := 205) (v := (nI 3)) hX dL_asked_205 (by decide +kernel) ?_
  refine V_icmp_ne (pc := 206) (tgt := 214) hX dL_asked_206 (by decide) (fun h206 => ?_) (fun h206 => absurd h206 ((by decide +kernel : ¬ nI 2 = nI 3)))
  refine V_aload_n (pc := 214) (i := 1) hX dL_asked_214 rfl rfl ?_
  refine V_iload_n (pc := 215) (i := 2) hX dL_asked_215 rfl rfl ?_
  refine V_callSsi (pc := 216) hX (hR.mono (by omega)) mL_33 hs (c_cost hL _ hk _) dL_asked_216 rfl rfl rfl (Nat.le_of_ble_eq_true rfl) ?_
  rw [hco]
  refine V_icmp_ne (pc := 219) (tgt := 226) hX dL_asked_219 (by decide) (fun h219 => absurd h219 (fun q => q rfl)) (fun h219 => ?_)
  refine V_iconst (pc := 222) (v := (nI 1)) hX dL_asked_222 (by decide +kernel) ?_
  refine V_goto (pc := 223) (tgt := 227) hX dL_asked_223 (by decide) ?_
  exact V_iret (pc := 227) (st := []) hX hr (by first | rfl | exact bI_nar _ | decide +kernel) dL_asked_227 (hp _ ((((o1.tr o2).tr o3).tr o4)))
set_option maxRecDepth 100000 in
set_option maxHeartbeats 4000000 in
theorem l_ask3 {L : Nat} {xs : Nat → Int32} {X : XC} {P : Option Value → Mem → Prop} {σ : Mem} (hX : Cok X RL cL_asked 8) (hR : Rok X 7) (hr : Ret X (some .boolean) P) (hs : Scr X L xs) (hL : L < 2 ^ 31) {N k co p : Nat} {F : Int32} (g : HS N k co p F (nI 3) σ) (hco : coN L xs k = co) (hp : ∀ τ, okA σ τ → P (some (.int (nI 1))) τ) : Vw X 34 [some (.ref 0), some (.ref 52), some (.int (nI k)), some (.int (nI 3)), some (.int (F)), some (.int (nI p)), some (.int (nI 12)), none] [] σ := by
  have hk : k < 100 := by have := g.2.1; have := g.2.2.1; omega
  obtain ⟨τ1, c1, o1, a1, b1⟩ := a_ask0 g (by rw [(wTr3 _).2]; decide)
  have t1 : Cc yX5_trace cX5_trace 2 (some .int) 1 [.ref 0, .int (nI 0)] τ1 (rI (nI 13) τ1) := a_trace (by rw [a1, (wTr3 _).1]) b1 (by rw [(wTr3 _).2]; decide) (by rw [(wTr3 _).2]; decide)
  have g1 := g.ok o1
  obtain ⟨τ2, c2, o2, a2, b2⟩ := a_ask1 g1 (by rw [(mTr3 _).2]; decide)
  have t2 : Cc yX5_trace cX5_trace 2 (some .int) 1 [.ref 0, .int (nI 0)] τ2 (rI (nI 22) τ2) := a_trace (by rw [a2, (mTr3 _).1]) b2 (by rw [(mTr3 _).2]; decide) (by rw [(mTr3 _).2]; decide)
  have g2 := g1.ok o2
  obtain ⟨τ3, c3, o3⟩ := a_as (x := 3) (v := nI co) g2 (by decide) (by rw [if_pos (by decide +kernel)])
  have g3 := g2.ok o3
  obtain ⟨τ4, c4, o4⟩ := a_as (x := 1) (v := (-1000013)) g3 (by decide) (by rw [if_neg (by decide +kernel)])
  have ew : wVal (nI 3) (nI co) F (nI p) = nI 2 * nI co := by rw [wVal, if_neg (by decide +kernel), if_pos rfl]
  have em : mVal (nI 3) (nI co) (nI p) = nI p + nI 2 * nI co := by rw [mVal, if_neg (by decide +kernel), if_pos rfl]
  rw [ew] at c1
  rw [em] at c2
  refine V_iload (pc := 34) (i := 5) hX dL_asked_34 rfl ?_
  refine V_iload_n (pc := 36) (i := 3) hX dL_asked_36 rfl rfl ?_
  refine V_iconst (pc := 37) (v := (nI 2)) hX dL_asked_37 (by decide +kernel) ?_
  refine V_icmp_ne (pc := 38) (tgt := 46) hX dL_asked_38 (by decide) (fun h38 => ?_) (fun h38 => absurd h38 ((by decide +kernel : ¬ nI 3 = nI 2)))
  refine V_iload_n (pc := 46) (i := 3) hX dL_asked_46 rfl rfl ?_
  refine V_iconst (pc := 47) (v := (nI 3)) hX dL_asked_47 (by decide +kernel) ?_
  refine V_icmp_ne (pc := 48) (tgt := 61) hX dL_asked_48 (by decide) (fun h48 => absurd h48 (fun q => q rfl)) (fun h48 => ?_)
  refine V_iconst (pc := 51) (v := (nI 2)) hX dL_asked_51 (by decide +kernel) ?_
  refine V_aload_n (pc := 52) (i := 1) hX dL_asked_52 rfl rfl ?_
  refine V_iload_n (pc := 53) (i := 2) hX dL_asked_53 rfl rfl ?_
  refine V_callSsi (pc := 54) hX (hR.mono (by omega)) mL_33 hs (c_cost hL _ hk _) dL_asked_54 rfl rfl rfl (Nat.le_of_ble_eq_true rfl) ?_
  rw [hco]
  refine V_imul (pc := 57) hX dL_asked_57 ?_
  refine V_goto (pc := 58) (tgt := 62) hX dL_asked_58 (by decide) ?_
  refine V_iadd (pc := 62) hX dL_asked_62 ?_
  refine V_istore6 (pc := 63) hX dL_asked_63 rfl ?_
  refine V_iload_n (pc := 65) (i := 3) hX dL_asked_65 rfl rfl ?_
  refine V_iconst (pc := 66) (v := (nI 3)) hX dL_asked_66 (by decide +kernel) ?_
  refine V_icmp_ne (pc := 67) (tgt := 80) hX dL_asked_67 (by decide) (fun h67 => absurd h67 (fun q => q rfl)) (fun h67 => ?_)
  refine V_iconst (pc := 70) (v := (nI 2)) hX dL_asked_70 (by decide +kernel) ?_
  refine V_aload_n (pc := 71) (i := 1) hX dL_asked_71 rfl rfl ?_
  refine V_iload_n (pc := 72) (i := 2) hX dL_asked_72 rfl rfl ?_
  refine V_callSsi (pc := 73) hX (hR.mono (by omega)) mL_33 hs (c_cost hL _ hk _) dL_asked_73 rfl rfl rfl (Nat.le_of_ble_eq_true rfl) ?_
  rw [hco]
  refine V_imul (pc := 76) hX dL_asked_76 ?_
  refine V_goto (pc := 77) (tgt := 100) hX dL_asked_77 (by decide) ?_
  refine V_istore7 (pc := 100) hX dL_asked_100 rfl ?_
  refine V_aload_n (pc := 102) (i := 0) hX dL_asked_102 rfl rfl ?_
  refine V_iload_n (pc := 103) (i := 2) hX dL_asked_103 rfl rfl ?_
  refine V_iconst (pc := 104) (v := (nI 0)) hX dL_asked_104 (by decide +kernel) ?_
  refine V_callVi (pc := 105) hX (hR.mono (by omega)) mL_61 (c1) dL_asked_105 rfl rfl rfl rfl (Nat.le_of_ble_eq_true rfl) ?_
  refine V_iload (pc := 108) (i := 7) hX dL_asked_108 rfl ?_
  refine V_icmp_ne (pc := 110) (tgt := 226) hX dL_asked_110 (by decide) (fun h110 => absurd h110 (fun q => q rfl)) (fun h110 => ?_)
  refine V_aload_n (pc := 113) (i := 0) hX dL_asked_113 rfl rfl ?_
  refine V_iconst (pc := 114) (v := (nI 0)) hX dL_asked_114 (by decide +kernel) ?_
  refine V_callVi (pc := 115) hX (hR.mono (by omega)) mL_64 (t1) dL_asked_115 rfl rfl rfl rfl (Nat.le_of_ble_eq_true rfl) ?_
  refine V_iload_n (pc := 118) (i := 3) hX dL_asked_118 rfl rfl ?_
  refine V_iconst (pc := 119) (v := (nI 3)) hX dL_asked_119 (by decide +kernel) ?_
  refine V_icmp_ne (pc := 120) (tgt := 128) hX dL_asked_120 (by decide) (fun h120 => absurd h120 (fun q => q rfl)) (fun h120 => ?_)
  refine V_bipush (pc := 123) (v := (nI 13)) hX dL_asked_123 (by decide +kernel) ?_
  refine V_goto (pc := 125) (tgt := 140) hX dL_asked_125 (by decide) ?_
  refine V_icmp_ne (pc := 140) (tgt := 226) hX dL_asked_140 (by decide) (fun h140 => absurd h140 (fun q => q rfl)) (fun h140 => ?_)
  refine V_aload_n (pc := 143) (i := 0) hX dL_asked_143 rfl rfl ?_
  refine V_iload_n (pc := 144) (i := 2) hX dL_asked_144 rfl rfl ?_
  refine V_iconst (pc := 145) (v := (nI 1)) hX dL_asked_145 (by decide +kernel) ?_
  refine V_callVi (pc := 146) hX (hR.mono (by omega)) mL_61 (c2) dL_asked_146 rfl rfl rfl rfl (Nat.le_of_ble_eq_true rfl) ?_
  refine V_iload (pc := 149) (i := 6) hX dL_asked_149 rfl ?_
  refine V_icmp_ne (pc := 151) (tgt := 226) hX dL_asked_151 (by decide) (fun h151 => absurd h151 (fun q => q rfl)) (fun h151 => ?_)
  refine V_aload_n (pc := 154) (i := 0) hX dL_asked_154 rfl rfl ?_
  refine V_iconst (pc := 155) (v := (nI 0)) hX dL_asked_155 (by decide +kernel) ?_
  refine V_callVi (pc := 156) hX (hR.mono (by omega)) mL_64 (t2) dL_asked_156 rfl rfl rfl rfl (Nat.le_of_ble_eq_true rfl) ?_
  refine V_iload_n (pc := 159) (i := 3) hX dL_asked_159 rfl rfl ?_
  refine V_iconst (pc := 160) (v := (nI 3)) hX dL_asked_160 (by decide +kernel) ?_
  refine V_icmp_ne (pc := 161) (tgt := 169) hX dL_asked_161 (by decide) (fun h161 => absurd h161 (fun q => q rfl)) (fun h161 => ?_)
  refine V_bipush (pc := 164) (v := (nI 22)) hX dL_asked_164 (by decide +kernel) ?_
  refine V_goto (pc := 166) (tgt := 181) hX dL_asked_166 (by decide) ?_
  refine V_icmp_ne (pc := 181) (tgt := 226) hX dL_asked_181 (by decide) (fun h181 => absurd h181 (fun q => q rfl)) (fun h181 => ?_)
  refine V_aload_n (pc := 184) (i := 0) hX dL_asked_184 rfl rfl ?_
  refine V_iload_n (pc := 185) (i := 2) hX dL_asked_185 rfl rfl ?_
  refine V_iload_n (pc := 186) (i := 3) hX dL_asked_186 rfl rfl ?_
  refine V_callVi (pc := 187) hX (hR.mono (by omega)) mL_67 (c3) dL_asked_187 rfl rfl rfl rfl (Nat.le_of_ble_eq_true rfl) ?_
  refine V_aload_n (pc := 190) (i := 1) hX dL_asked_190 rfl rfl ?_
  refine V_iload_n (pc := 191) (i := 2) hX dL_asked_191 rfl rfl ?_
  refine V_callSsi (pc := 192) hX (hR.mono (by omega)) mL_33 hs (c_cost hL _ hk _) dL_asked_192 rfl rfl rfl (Nat.le_of_ble_eq_true rfl) ?_
  rw [hco]
  refine V_icmp_ne (pc := 195) (tgt := 226) hX dL_asked_195 (by decide) (fun h195 => absurd h195 (fun q => q rfl)) (fun h195 => ?_)
  refine V_aload_n (pc := 198) (i := 0) hX dL_asked_198 rfl rfl ?_
  refine V_iload_n (pc := 199) (i := 2) hX dL_asked_199 rfl rfl ?_
  refine V_iconst (pc := 200) (v := (nI 1)) hX dL_asked_200 (by decide +kernel) ?_
  refine V_callVi (pc := 201) hX (hR.mono (by omega)) mL_67 (c4) dL_asked_201 rfl rfl rfl rfl (Nat.le_of_ble_eq_true rfl) ?_
  refine V_iload_n (pc := 204) (i := 3) hX dL_asked_204 rfl rfl ?_
  refine V_iconst (pc := 205) (v := (nI 3)) hX dL_asked_205 (by decide +kernel) ?_
  refine V_icmp_ne (pc := 206) (tgt := 214) hX dL_asked_206 (by decide) (fun h206 => absurd h206 (fun q => q rfl)) (fun h206 => ?_)
  refine V_ldc (pc := 209) hX kL_70 dL_asked_209 ?_
  refine V_goto (pc := 211) (tgt := 219) hX dL_asked_211 (by decide) ?_
  skip
  refine V_icmp_ne (pc := 219) (tgt := 226) hX dL_asked_219 (by decide) (fun h219 => absurd h219 (fun q => q rfl)) (fun h219 => ?_)
  refine V_iconst (pc := 222) (v := (nI 1)) hX dL_asked_222 (by decide +kernel) ?_
  refine V_goto (pc := 223) (tgt := 227) hX dL_asked_223 (by decide) ?_
  exact V_iret (pc := 227) (st := []) hX hr (by first | rfl | exact bI_nar _ | decide +kernel) dL_asked_227 (hp _ ((((o1.tr o2).tr o3).tr o4)))
theorem kd_cases {bo : Int32} {k : Nat} {F c : Int32} : kindf bo k F c = nI 1 ∨ kindf bo k F c = nI 2 ∨ kindf bo k F c = nI 3 := by
  unfold kindf
  split
  · exact Or.inr (Or.inr rfl)
  · split
    · exact Or.inl rfl
    · exact Or.inr (Or.inl rfl)
set_option maxRecDepth 100000 in
set_option maxHeartbeats 4000000 in
theorem c_asked {L : Nat} {xs : Nat → Int32} (hL : L < 2 ^ 31) {N k : Nat} {F kd : Int32} (σ : Mem) (g : HS N k (coN L xs k) (popn (thF L xs k) 12) F kd σ) : Cs L xs yL_asked cL_asked 8 (some .boolean) 7 [.ref 0, .ref 52, .int (nI k), .int kd, .int F] σ (fun r τ => r = some (.int (nI 1)) ∧ okA σ τ) := by
  refine Cs.intro (by decide +kernel) [some (.ref 0), some (.ref 52), some (.int (nI k)), some (.int kd), some (.int F), none, none, none] (fun _ => rfl) rfl (fun _ => Nat.le_of_ble_eq_true rfl) ?_
  intro X hX hR hr hs
  have hk : k < 100 := by have := g.2.1; have := g.2.2.1; omega
  refine V_iconst (pc := 0) (v := (nI 0)) hX dL_asked_0 (by decide +kernel) ?_
  refine V_istore5 (pc := 1) hX dL_asked_1 rfl ?_
  refine V_iconst (pc := 3) (v := (nI 0)) hX dL_asked_3 (by decide +kernel) ?_
  refine V_istore6 (pc := 4) hX dL_asked_4 rfl ?_
  refine l_many hX hR hs hL k hk kd F ?_ 0 (Nat.zero_le _)
  have hkd := kd_cases (bo := σ 2 6) (k := k) (F := F) (c := nI (coN L xs k))
  rw [g.2.2.2.2.2.2.1] at hkd
  rcases hkd with rfl | rfl | rfl
  · exact l_ask1 hX hR hr hs hL g rfl (fun τ h => ⟨rfl, h⟩)
  · exact l_ask2 hX hR hr hs hL g rfl (fun τ h => ⟨rfl, h⟩)
  · exact l_ask3 hX hR hr hs hL g rfl (fun τ h => ⟨rfl, h⟩)
end
section
/-! ===== the law's body: the loops of a demand ===== -/
def cF (L : Nat) (xs : Nat → Int32) : Nat → Int32 := fun k => nI (coN L xs k)
theorem sub2 (a p q : Int32) : (a - p) - q = a - (p + q) := by
  rw [Int32.sub_eq_add_neg, Int32.sub_eq_add_neg, Int32.sub_eq_add_neg, Int32.neg_add, Int32.sub_eq_add_neg, Int32.add_assoc]
theorem mul0 (a : Int32) : nI 0 * a = nI 0 := by rw [nI_0, Int32.zero_mul]
theorem mul1 (a : Int32) : nI 1 * a = a := by rw [show nI 1 = (1 : Int32) by decide +kernel, Int32.one_mul]
theorem sub0 (a : Int32) : a - nI 0 = a := by rw [nI_0, Int32.sub_zero]
theorem left_s {a b : Int32} {pr : Nat → Int32} {i : Nat} (h : i < 32) : (a - pf b pr i) - ((b >>> (nI i &&& 31)) &&& nI 1) * pr i = a - pf b pr (i + 1) := by
  rw [sbit h, pf]
  cases bt b i with
  | false => rw [if_neg Bool.false_ne_true, show bI false = nI 0 from rfl, mul0, sub0]
  | true => rw [if_pos rfl, show bI true = nI 1 from rfl, mul1, sub2]
theorem fill_s {b : Int32} {pr : Nat → Int32} {i : Nat} (h : i < 32) : pf b pr i + ((b >>> (nI i &&& 31)) &&& nI 1) * pr i = pf b pr (i + 1) := by
  rw [sbit h, pf]
  cases bt b i with
  | false => rw [if_neg Bool.false_ne_true, show bI false = nI 0 from rfl, mul0, add0]
  | true => rw [if_pos rfl, show bI true = nI 1 from rfl, mul1]
theorem left_0 (a b : Int32) (pr : Nat → Int32) : a - pf b pr 0 = a := sub0 a
/-- which of the first k sets have t -/
def hadF (th : Nat → Int32) (t : Nat) : Nat → Int32
  | 0 => nI 0
  | k + 1 => if bt (th k) t then hadF th t k ||| (nI 1 <<< (nI k &&& 31)) else hadF th t k
theorem hadF_bt {th : Nat → Int32} {t i : Nat} : ∀ k, k ≤ 32 → (bt (hadF th t k) i = true ↔ i < k ∧ bt (th i) t = true)
  | 0, _ => by
    rw [hadF, nI_0, b_0]
    exact ⟨fun h => (by cases h), fun h => absurd h.1 (Nat.not_lt_zero i)⟩
  | k + 1, hk => by
    have ih := hadF_bt (th := th) (t := t) (i := i) k (by omega)
    rw [hadF]
    cases hb : bt (th k) t with
    | false =>
      rw [if_neg Bool.false_ne_true, ih]
      constructor
      · rintro ⟨h1, h2⟩; exact ⟨by omega, h2⟩
      · rintro ⟨h1, h2⟩
        refine ⟨?_, h2⟩
        rcases Nat.lt_or_ge i k with q | q
        · exact q
        · obtain rfl : i = k := by omega
          rw [hb] at h2; exact absurd h2 (by decide)
    | true =>
      rw [if_pos rfl, b_or, Bool.or_eq_true, ih, bt_sh (by omega), decide_eq_true_iff]
      constructor
      · rintro (⟨h1, h2⟩ | rfl)
        · exact ⟨by omega, h2⟩
        · exact ⟨by omega, hb⟩
      · rintro ⟨h1, h2⟩
        by_cases q : i = k
        · exact Or.inr q
        · exact Or.inl ⟨by omega, h2⟩
set_option maxRecDepth 100000 in
set_option maxHeartbeats 4000000 in
theorem l_left1 {L : Nat} {xs : Nat → Int32} {X : XC} (hX : Cok X RL cL_law 15) (hp : Pok X) (hR : Rok X 20) (hs : Scr X L xs) (hL : L < 2 ^ 31) {σ : Mem} {N k : Nat} {dem bo pd t x had least : Int32} (hk : k < 100) (kk : Lw X 154 [some (.ref 52), some (.ref 0), some (.int (nI N)), some (.int (dem)), some (.int (bo)), some (.int (pd)), some (.ref 53), some (.int (t)), some (.int (x)), some (.int (had)), some (.int (least)), some (.int (nI k)), some (.int (nI (coN L xs k) - pf (thF L xs k) (σ 53) 12)), some (.int (nI 12)), none] [] σ) (i : Nat) (hi : i ≤ 12) : Lw X 119 [some (.ref 52), some (.ref 0), some (.int (nI N)), some (.int (dem)), some (.int (bo)), some (.int (pd)), some (.ref 53), some (.int (t)), some (.int (x)), some (.int (had)), some (.int (least)), some (.int (nI k)), some (.int (nI (coN L xs k) - pf (thF L xs k) (σ 53) i)), some (.int (nI i)), none] [] σ := by
  refine L_iload (pc := 119) (i := 13) hX dL_law_119 rfl ?_
  refine L_bipush (pc := 121) (v := (nI 12)) hX dL_law_121 (by decide +kernel) ?_
  refine L_icmp_geN (pc := 123) (tgt := 154) hX dL_law_123 (by decide) (by omega) (by omega) (fun h123 => ?_) (fun h123 => ?_)
  · obtain rfl : i = 12 := by omega
    exact kk
  · refine L_iload (pc := 126) (i := 12) hX dL_law_126 rfl ?_
    refine L_aload_n (pc := 128) (i := 0) hX dL_law_128 rfl rfl ?_
    refine L_iload (pc := 129) (i := 11) hX dL_law_129 rfl ?_
    refine L_callSsi (pc := 131) hX hp (hR.mono (by omega)) mL_19 hs (c_things hL _ hk _) dL_law_131 rfl rfl rfl (Nat.le_of_ble_eq_true rfl) (rfl) ?_
    refine L_iload (pc := 134) (i := 13) hX dL_law_134 rfl ?_
    refine L_ishr (pc := 136) hX dL_law_136 ?_
    refine L_iconst (pc := 137) (v := (nI 1)) hX dL_law_137 (by decide +kernel) ?_
    refine L_iand (pc := 138) hX dL_law_138 ?_
    refine L_aload (pc := 139) (i := 6) hX dL_law_139 rfl ?_
    refine L_iload (pc := 141) (i := 13) hX dL_law_141 rfl ?_
    refine L_pld (pc := 143) hX dL_law_143 (rfl) (by omega) ?_
    refine L_imul (pc := 144) hX dL_law_144 ?_
    refine L_isub (pc := 145) hX dL_law_145 ?_
    refine L_istore12 (pc := 146) hX dL_law_146 rfl ?_
    refine L_iinc13 (pc := 148) hX dL_law_148 rfl (iinc1 _) ?_
    refine L_goto (pc := 151) (tgt := 119) hX dL_law_151 (by decide) ?_
    rw [left_s (by omega)]
    exact l_left1 hX hp hR hs hL hk kk (i + 1) (by omega)
termination_by 12 - i
set_option maxRecDepth 100000 in
set_option maxHeartbeats 4000000 in
theorem l_154 {L : Nat} {xs : Nat → Int32} {X : XC} (hX : Cok X RL cL_law 15) (hp : Pok X) (hR : Rok X 20) (hs : Scr X L xs) (hL : L < 2 ^ 31) {σ : Mem} {N k : Nat} {dem bo pd t x had least left v : Int32} (ih : Lw X 71 [some (.ref 52), some (.ref 0), some (.int (nI N)), some (.int (dem)), some (.int (bo)), some (.int (pd)), some (.ref 53), some (.int (t)), some (.int (x)), some (.int (had)), some (.int (imin least left)), some (.int (nI (k + 1))), none, none, none] [] σ) : Lw X 154 [some (.ref 52), some (.ref 0), some (.int (nI N)), some (.int (dem)), some (.int (bo)), some (.int (pd)), some (.ref 53), some (.int (t)), some (.int (x)), some (.int (had)), some (.int (least)), some (.int (nI k)), some (.int (left)), some (.int (v)), none] [] σ := by
  refine L_iload (pc := 154) (i := 12) hX dL_law_154 rfl ?_
  refine L_iload (pc := 156) (i := 10) hX dL_law_156 rfl ?_
  refine L_icmp_ge (pc := 158) (tgt := 166) hX dL_law_158 (by decide) (fun h158 => ?_) (fun h158 => ?_)
  · refine L_iload (pc := 166) (i := 10) hX dL_law_166 rfl ?_
    refine L_istore10 (pc := 168) hX dL_law_168 rfl ?_
    refine L_iinc11 (pc := 170) hX dL_law_170 rfl (iinc1 _) ?_
    refine L_goto (pc := 173) (tgt := 71) hX dL_law_173 (by decide) ?_
    rw [imin, if_neg (Int32.not_lt.mpr h158)] at ih
    exact Lw.fg (by repeat (first | exact fgt_n | refine fgt_c (Or.inr rfl) ?_ | refine fgt_c (Or.inl rfl) ?_)) ih
  · refine L_iload (pc := 161) (i := 12) hX dL_law_161 rfl ?_
    refine L_goto (pc := 163) (tgt := 168) hX dL_law_163 (by decide) ?_
    refine L_istore10 (pc := 168) hX dL_law_168 rfl ?_
    refine L_iinc11 (pc := 170) hX dL_law_170 rfl (iinc1 _) ?_
    refine L_goto (pc := 173) (tgt := 71) hX dL_law_173 (by decide) ?_
    rw [imin, if_pos (Int32.not_le.mp h158)] at ih
    exact Lw.fg (by repeat (first | exact fgt_n | refine fgt_c (Or.inr rfl) ?_ | refine fgt_c (Or.inl rfl) ?_)) ih
set_option maxRecDepth 100000 in
set_option maxHeartbeats 4000000 in
theorem l_had {L : Nat} {xs : Nat → Int32} {X : XC} (hX : Cok X RL cL_law 15) (hp : Pok X) (hR : Rok X 20) (hs : Scr X L xs) (hL : L < 2 ^ 31) {σ : Mem} {N x : Nat} {dem bo pd t : Int32} (hN : N ≤ 9) (hx : x < 12) (kk : Lw X 176 [some (.ref 52), some (.ref 0), some (.int (nI N)), some (.int (dem)), some (.int (bo)), some (.int (pd)), some (.ref 53), some (.int (t)), some (.int (nI x)), some (.int (hadF (thF L xs) x N)), some (.int (lgm (cF L xs) (thF L xs) (σ 53) x N)), some (.int (nI N)), none, none, none] [] σ) (k : Nat) (hk : k ≤ N) : Lw X 71 [some (.ref 52), some (.ref 0), some (.int (nI N)), some (.int (dem)), some (.int (bo)), some (.int (pd)), some (.ref 53), some (.int (t)), some (.int (nI x)), some (.int (hadF (thF L xs) x k)), some (.int (lgm (cF L xs) (thF L xs) (σ 53) x k)), some (.int (nI k)), none, none, none] [] σ := by
  refine L_iload (pc := 71) (i := 11) hX dL_law_71 rfl ?_
  refine L_iload_n (pc := 73) (i := 2) hX dL_law_73 rfl rfl ?_
  refine L_icmp_geN (pc := 74) (tgt := 176) hX dL_law_74 (by decide) (by omega) (by omega) (fun h74 => ?_) (fun h74 => ?_)
  · obtain rfl : k = N := by omega
    exact kk
  · refine L_iload (pc := 77) (i := 8) hX dL_law_77 rfl ?_
    refine L_bipush (pc := 79) (v := (nI 12)) hX dL_law_79 (by decide +kernel) ?_
    refine L_icmp_geN (pc := 81) (tgt := 170) hX dL_law_81 (by decide) (by omega) (by omega) (fun h81 => absurd h81 ((by omega))) (fun h81 => ?_)
    refine L_aload_n (pc := 84) (i := 0) hX dL_law_84 rfl rfl ?_
    refine L_iload (pc := 85) (i := 11) hX dL_law_85 rfl ?_
    refine L_callSsi (pc := 87) hX hp (hR.mono (by omega)) mL_19 hs (c_things hL _ (by omega) _) dL_law_87 rfl rfl rfl (Nat.le_of_ble_eq_true rfl) (rfl) ?_
    refine L_iload (pc := 90) (i := 8) hX dL_law_90 rfl ?_
    refine L_ishr (pc := 92) hX dL_law_92 ?_
    refine L_iconst (pc := 93) (v := (nI 1)) hX dL_law_93 (by decide +kernel) ?_
    refine L_iand (pc := 94) hX dL_law_94 ?_
    refine L_iconst (pc := 95) (v := (nI 1)) hX dL_law_95 (by decide +kernel) ?_
    refine L_icmp_neS (pc := 96) (tgt := 170) hX dL_law_96 (by decide) (by omega) (fun h96 => ?_) (fun h96 => ?_)
    · refine L_iinc11 (pc := 170) hX dL_law_170 rfl (iinc1 _) ?_
      refine L_goto (pc := 173) (tgt := 71) hX dL_law_173 (by decide) ?_
      have ih := l_had hX hp hR hs hL hN hx kk (k + 1) (by omega)
      rw [hadF, lgm, h96, if_neg Bool.false_ne_true, if_neg Bool.false_ne_true] at ih
      exact ih
    · refine L_iload (pc := 99) (i := 9) hX dL_law_99 rfl ?_
      refine L_iconst (pc := 101) (v := (nI 1)) hX dL_law_101 (by decide +kernel) ?_
      refine L_iload (pc := 102) (i := 11) hX dL_law_102 rfl ?_
      refine L_ishl (pc := 104) hX dL_law_104 ?_
      refine L_ior (pc := 105) hX dL_law_105 ?_
      refine L_istore9 (pc := 106) hX dL_law_106 rfl ?_
      refine L_aload_n (pc := 108) (i := 0) hX dL_law_108 rfl rfl ?_
      refine L_iload (pc := 109) (i := 11) hX dL_law_109 rfl ?_
      refine L_callSsi (pc := 111) hX hp (hR.mono (by omega)) mL_33 hs (c_cost hL _ (by omega) _) dL_law_111 rfl rfl rfl (Nat.le_of_ble_eq_true rfl) (rfl) ?_
      refine L_istore12 (pc := 114) hX dL_law_114 rfl ?_
      refine L_iconst (pc := 116) (v := (nI 0)) hX dL_law_116 (by decide +kernel) ?_
      refine L_istore13 (pc := 117) hX dL_law_117 rfl ?_
      have ih := l_had hX hp hR hs hL hN hx kk (k + 1) (by omega)
      rw [hadF, lgm, h96, if_pos rfl, if_pos rfl] at ih
      have h9 := l_left1 hX hp hR hs hL (σ := σ) (by omega) (l_154 hX hp hR hs hL ih) 0 (Nat.zero_le _)
      rw [left_0] at h9
      exact h9
termination_by N - k
set_option maxRecDepth 100000 in
set_option maxHeartbeats 4000000 in
theorem l_had12 {L : Nat} {xs : Nat → Int32} {X : XC} (hX : Cok X RL cL_law 15) (hp : Pok X) (hR : Rok X 20) (hs : Scr X L xs) (hL : L < 2 ^ 31) {σ : Mem} {N : Nat} {dem bo pd t : Int32} (hN : N ≤ 9) (kk : Lw X 176 [some (.ref 52), some (.ref 0), some (.int (nI N)), some (.int (dem)), some (.int (bo)), some (.int (pd)), some (.ref 53), some (.int (t)), some (.int (nI 12)), some (.int (nI 0)), some (.int (nI 1000000)), some (.int (nI N)), none, none, none] [] σ) (k : Nat) (hk : k ≤ N) : Lw X 71 [some (.ref 52), some (.ref 0), some (.int (nI N)), some (.int (dem)), some (.int (bo)), some (.int (pd)), some (.ref 53), some (.int (t)), some (.int (nI 12)), some (.int (nI 0)), some (.int (nI 1000000)), some (.int (nI k)), none, none, none] [] σ := by
  refine L_iload (pc := 71) (i := 11) hX dL_law_71 rfl ?_
  refine L_iload_n (pc := 73) (i := 2) hX dL_law_73 rfl rfl ?_
  refine L_icmp_geN (pc := 74) (tgt := 176) hX dL_law_74 (by decide) (by omega) (by omega) (fun h74 => ?_) (fun h74 => ?_)
  · obtain rfl : k = N := by omega
    exact kk
  · refine L_iload (pc := 77) (i := 8) hX dL_law_77 rfl ?_
    refine L_bipush (pc := 79) (v := (nI 12)) hX dL_law_79 (by decide +kernel) ?_
    refine L_icmp_geN (pc := 81) (tgt := 170) hX dL_law_81 (by decide) (by omega) (by omega) (fun h81 => ?_) (fun h81 => absurd h81 ((by omega)))
    refine L_iinc11 (pc := 170) hX dL_law_170 rfl (iinc1 _) ?_
    refine L_goto (pc := 173) (tgt := 71) hX dL_law_173 (by decide) ?_
    exact l_had12 hX hp hR hs hL hN kk (k + 1) (by omega)
termination_by N - k
set_option maxRecDepth 100000 in
set_option maxHeartbeats 4000000 in
theorem l_left2 {L : Nat} {xs : Nat → Int32} {X : XC} (hX : Cok X RL cL_law 15) (hp : Pok X) (hR : Rok X 20) (hs : Scr X L xs) (hL : L < 2 ^ 31) {σ : Mem} {N k : Nat} {dem bo pd t x had least pays : Int32} (hk : k < 100) (kk : Lw X 264 [some (.ref 52), some (.ref 0), some (.int (nI N)), some (.int (dem)), some (.int (bo)), some (.int (pd)), some (.ref 53), some (.int (t)), some (.int (x)), some (.int (had)), some (.int (least)), some (.int (pays)), some (.int (nI k)), some (.int (nI (coN L xs k) - pf (thF L xs k) (σ 53) 12)), some (.int (nI 12))] [] σ) (i : Nat) (hi : i ≤ 12) : Lw X 229 [some (.ref 52), some (.ref 0), some (.int (nI N)), some (.int (dem)), some (.int (bo)), some (.int (pd)), some (.ref 53), some (.int (t)), some (.int (x)), some (.int (had)), some (.int (least)), some (.int (pays)), some (.int (nI k)), some (.int (nI (coN L xs k) - pf (thF L xs k) (σ 53) i)), some (.int (nI i))] [] σ := by
  refine L_iload (pc := 229) (i := 14) hX dL_law_229 rfl ?_
  refine L_bipush (pc := 231) (v := (nI 12)) hX dL_law_231 (by decide +kernel) ?_
  refine L_icmp_geN (pc := 233) (tgt := 264) hX dL_law_233 (by decide) (by omega) (by omega) (fun h233 => ?_) (fun h233 => ?_)
  · obtain rfl : i = 12 := by omega
    exact kk
  · refine L_iload (pc := 236) (i := 13) hX dL_law_236 rfl ?_
    refine L_aload_n (pc := 238) (i := 0) hX dL_law_238 rfl rfl ?_
    refine L_iload (pc := 239) (i := 12) hX dL_law_239 rfl ?_
    refine L_callSsi (pc := 241) hX hp (hR.mono (by omega)) mL_19 hs (c_things hL _ hk _) dL_law_241 rfl rfl rfl (Nat.le_of_ble_eq_true rfl) (rfl) ?_
    refine L_iload (pc := 244) (i := 14) hX dL_law_244 rfl ?_
    refine L_ishr (pc := 246) hX dL_law_246 ?_
    refine L_iconst (pc := 247) (v := (nI 1)) hX dL_law_247 (by decide +kernel) ?_
    refine L_iand (pc := 248) hX dL_law_248 ?_
    refine L_aload (pc := 249) (i := 6) hX dL_law_249 rfl ?_
    refine L_iload (pc := 251) (i := 14) hX dL_law_251 rfl ?_
    refine L_pld (pc := 253) hX dL_law_253 (rfl) (by omega) ?_
    refine L_imul (pc := 254) hX dL_law_254 ?_
    refine L_isub (pc := 255) hX dL_law_255 ?_
    refine L_istore13 (pc := 256) hX dL_law_256 rfl ?_
    refine L_iinc14 (pc := 258) hX dL_law_258 rfl (iinc1 _) ?_
    refine L_goto (pc := 261) (tgt := 229) hX dL_law_261 (by decide) ?_
    rw [left_s (by omega)]
    exact l_left2 hX hp hR hs hL hk kk (i + 1) (by omega)
termination_by 12 - i
theorem left_z {a p : Int32} : a - p = 0 ↔ p = a := by
  constructor
  · intro h
    have h2 := congrArg (fun z => z + p) h
    simp only [Int32.sub_add_cancel, Int32.zero_add] at h2
    exact h2.symm
  · rintro rfl; exact Int32.sub_self _
set_option maxRecDepth 100000 in
set_option maxHeartbeats 4000000 in
theorem l_264 {L : Nat} {xs : Nat → Int32} {X : XC} (hX : Cok X RL cL_law 15) (hp : Pok X) (hR : Rok X 20) (hs : Scr X L xs) (hL : L < 2 ^ 31) {σ : Mem} {N k x : Nat} {dem bo pd t had least pays v : Int32} (hk : k < 31) (hh : bt had k = bt (thF L xs k) x) (ih : Lw X 212 [some (.ref 52), some (.ref 0), some (.int (nI N)), some (.int (dem)), some (.int ((if tight (cF L xs) (thF L xs) (σ 53) x k then bo ||| (nI 1 <<< (nI k &&& 31)) else bo))), some (.int (pd)), some (.ref 53), some (.int (t)), some (.int (nI x)), some (.int (had)), some (.int (least)), some (.int ((if tight (cF L xs) (thF L xs) (σ 53) x k then pays + nI (coN L xs k) else pays))), some (.int (nI (k + 1))), none, none] [] σ) : Lw X 264 [some (.ref 52), some (.ref 0), some (.int (nI N)), some (.int (dem)), some (.int (bo)), some (.int (pd)), some (.ref 53), some (.int (t)), some (.int (nI x)), some (.int (had)), some (.int (least)), some (.int (pays)), some (.int (nI k)), some (.int (nI (coN L xs k) - pf (thF L xs k) (σ 53) 12)), some (.int (v))] [] σ := by
  refine L_iload (pc := 264) (i := 9) hX dL_law_264 rfl ?_
  refine L_iload (pc := 266) (i := 12) hX dL_law_266 rfl ?_
  refine L_ishr (pc := 268) hX dL_law_268 ?_
  refine L_iconst (pc := 269) (v := (nI 1)) hX dL_law_269 (by decide +kernel) ?_
  refine L_iand (pc := 270) hX dL_law_270 ?_
  refine L_iconst (pc := 271) (v := (nI 1)) hX dL_law_271 (by decide +kernel) ?_
  refine L_icmp_neS (pc := 272) (tgt := 300) hX dL_law_272 (by decide) (by omega) (fun h272 => ?_) (fun h272 => ?_)
  · refine L_iinc12 (pc := 300) hX dL_law_300 rfl (iinc1 _) ?_
    refine L_goto (pc := 303) (tgt := 212) hX dL_law_303 (by decide) ?_
    have e : tight (cF L xs) (thF L xs) (σ 53) x k = false := by rw [tight, ← hh, h272, Bool.false_and]
    rw [e, if_neg Bool.false_ne_true, if_neg Bool.false_ne_true] at ih
    exact Lw.fg (by repeat (first | exact fgt_n | refine fgt_c (Or.inr rfl) ?_ | refine fgt_c (Or.inl rfl) ?_)) ih
  · refine L_iload (pc := 275) (i := 13) hX dL_law_275 rfl ?_
    refine L_if_ne (pc := 277) (tgt := 300) hX dL_law_277 (by decide) (fun h277 => ?_) (fun h277 => ?_)
    · refine L_iinc12 (pc := 300) hX dL_law_300 rfl (iinc1 _) ?_
      refine L_goto (pc := 303) (tgt := 212) hX dL_law_303 (by decide) ?_
      have e : tight (cF L xs) (thF L xs) (σ 53) x k = false := by
        have e2 : decide (pf (thF L xs k) (σ 53) 12 = cF L xs k) = false := decide_eq_false (fun q => h277 (left_z.mpr q))
        rw [tight, e2, Bool.and_false]
      rw [e, if_neg Bool.false_ne_true, if_neg Bool.false_ne_true] at ih
      exact Lw.fg (by repeat (first | exact fgt_n | refine fgt_c (Or.inr rfl) ?_ | refine fgt_c (Or.inl rfl) ?_)) ih
    · refine L_iload (pc := 280) (i := 4) hX dL_law_280 rfl ?_
      refine L_iconst (pc := 282) (v := (nI 1)) hX dL_law_282 (by decide +kernel) ?_
      refine L_iload (pc := 283) (i := 12) hX dL_law_283 rfl ?_
      refine L_ishl (pc := 285) hX dL_law_285 ?_
      refine L_ior (pc := 286) hX dL_law_286 ?_
      refine L_istore4 (pc := 287) hX dL_law_287 rfl ?_
      refine L_iload (pc := 289) (i := 11) hX dL_law_289 rfl ?_
      refine L_aload_n (pc := 291) (i := 0) hX dL_law_291 rfl rfl ?_
      refine L_iload (pc := 292) (i := 12) hX dL_law_292 rfl ?_
      refine L_callSsi (pc := 294) hX hp (hR.mono (by omega)) mL_33 hs (c_cost hL _ (by omega) _) dL_law_294 rfl rfl rfl (Nat.le_of_ble_eq_true rfl) (rfl) ?_
      refine L_iadd (pc := 297) hX dL_law_297 ?_
      refine L_istore11 (pc := 298) hX dL_law_298 rfl ?_
      refine L_iinc12 (pc := 300) hX dL_law_300 rfl (iinc1 _) ?_
      refine L_goto (pc := 303) (tgt := 212) hX dL_law_303 (by decide) ?_
      have e : tight (cF L xs) (thF L xs) (σ 53) x k = true := by
        rw [tight, ← hh, h272, Bool.true_and]
        exact decide_eq_true (left_z.mp h277)
      rw [e, if_pos rfl, if_pos rfl] at ih
      exact Lw.fg (by repeat (first | exact fgt_n | refine fgt_c (Or.inr rfl) ?_ | refine fgt_c (Or.inl rfl) ?_)) ih
set_option maxRecDepth 100000 in
set_option maxHeartbeats 4000000 in
theorem l_buy {L : Nat} {xs : Nat → Int32} {X : XC} (hX : Cok X RL cL_law 15) (hp : Pok X) (hR : Rok X 20) (hs : Scr X L xs) (hL : L < 2 ^ 31) {σ : Mem} {N x : Nat} {dem bo pd t had least : Int32} (hN : N ≤ 9) (hh : ∀ k, k < N → bt had k = bt (thF L xs k) x) (kk : Lw X 306 [some (.ref 52), some (.ref 0), some (.int (nI N)), some (.int (dem)), some (.int (buyB (cF L xs) (thF L xs) (σ 53) x bo N)), some (.int (pd)), some (.ref 53), some (.int (t)), some (.int (nI x)), some (.int (had)), some (.int (least)), some (.int (buyC (cF L xs) (thF L xs) (σ 53) x N)), some (.int (nI N)), none, none] [] σ) (k : Nat) (hk : k ≤ N) : Lw X 212 [some (.ref 52), some (.ref 0), some (.int (nI N)), some (.int (dem)), some (.int (buyB (cF L xs) (thF L xs) (σ 53) x bo k)), some (.int (pd)), some (.ref 53), some (.int (t)), some (.int (nI x)), some (.int (had)), some (.int (least)), some (.int (buyC (cF L xs) (thF L xs) (σ 53) x k)), some (.int (nI k)), none, none] [] σ := by
  refine L_iload (pc := 212) (i := 12) hX dL_law_212 rfl ?_
  refine L_iload_n (pc := 214) (i := 2) hX dL_law_214 rfl rfl ?_
  refine L_icmp_geN (pc := 215) (tgt := 306) hX dL_law_215 (by decide) (by omega) (by omega) (fun h215 => ?_) (fun h215 => ?_)
  · obtain rfl : k = N := by omega
    exact kk
  · refine L_aload_n (pc := 218) (i := 0) hX dL_law_218 rfl rfl ?_
    refine L_iload (pc := 219) (i := 12) hX dL_law_219 rfl ?_
    refine L_callSsi (pc := 221) hX hp (hR.mono (by omega)) mL_33 hs (c_cost hL _ (by omega) _) dL_law_221 rfl rfl rfl (Nat.le_of_ble_eq_true rfl) (rfl) ?_
    refine L_istore13 (pc := 224) hX dL_law_224 rfl ?_
    refine L_iconst (pc := 226) (v := (nI 0)) hX dL_law_226 (by decide +kernel) ?_
    refine L_istore14 (pc := 227) hX dL_law_227 rfl ?_
    have ih := l_buy hX hp hR hs hL hN hh kk (k + 1) (by omega)
    rw [buyB, buyC] at ih
    have h9 := l_left2 hX hp hR hs hL (σ := σ) (by omega) (l_264 hX hp hR hs hL (by omega) (hh k (by omega)) ih) 0 (Nat.zero_le _)
    rw [left_0] at h9
    exact h9
termination_by N - k
end
section
/-! ===== one demand: the state of the law and of the class ===== -/
theorem pf_cg {b : Int32} {pr pr' : Nat → Int32} : ∀ m, (∀ i, i < m → pr i = pr' i) → pf b pr m = pf b pr' m
  | 0, _ => rfl
  | m + 1, h => by rw [pf, pf, pf_cg m (fun i hi => h i (by omega)), h m (by omega)]
theorem lgm_cg {c c' th th' pr pr' : Nat → Int32} {t : Nat} (hp : ∀ i, i < 12 → pr i = pr' i) : ∀ k, (∀ j, j < k → c j = c' j ∧ th j = th' j) → lgm c th pr t k = lgm c' th' pr' t k
  | 0, _ => rfl
  | k + 1, h => by rw [lgm, lgm, lgm_cg hp k (fun j hj => h j (by omega)), (h k (by omega)).1, (h k (by omega)).2, pf_cg 12 hp]
theorem tight_cg {c c' th th' pr pr' : Nat → Int32} {t k : Nat} (hp : ∀ i, i < 12 → pr i = pr' i) (hc : c k = c' k) (ht : th k = th' k) : tight c th pr t k = tight c' th' pr' t k := by
  unfold tight
  rw [hc, ht, pf_cg 12 hp]
theorem buyB_cg {c c' th th' pr pr' : Nat → Int32} {t : Nat} {b : Int32} (hp : ∀ i, i < 12 → pr i = pr' i) : ∀ k, (∀ j, j < k → c j = c' j ∧ th j = th' j) → buyB c th pr t b k = buyB c' th' pr' t b k
  | 0, _ => rfl
  | k + 1, h => by rw [buyB, buyB, buyB_cg hp k (fun j hj => h j (by omega)), tight_cg hp (h k (by omega)).1 (h k (by omega)).2]
theorem buyC_cg {c c' th th' pr pr' : Nat → Int32} {t : Nat} (hp : ∀ i, i < 12 → pr i = pr' i) : ∀ k, (∀ j, j < k → c j = c' j ∧ th j = th' j) → buyC c th pr t k = buyC c' th' pr' t k
  | 0, _ => rfl
  | k + 1, h => by rw [buyC, buyC, buyC_cg hp k (fun j hj => h j (by omega)), tight_cg hp (h k (by omega)).1 (h k (by omega)).2, (h k (by omega)).1]
theorem lgm_att {c th pr : Nat → Int32} {t n : Nat} {X Y : Nat → Nat} (hc : ∀ k, k < n → c k = nI (X k) ∧ pf (th k) pr 12 = nI (Y k) ∧ Y k ≤ X k ∧ X k ≤ 1000) : ∀ k, k ≤ n → (lgm c th pr t k = nI 1000000 ∧ ∀ j, j < k → bt (th j) t = false) ∨ ∃ j, j < k ∧ bt (th j) t = true ∧ lgm c th pr t k = nI (X j - Y j)
  | 0, _ => Or.inl ⟨rfl, fun j h => absurd h (Nat.not_lt_zero j)⟩
  | k + 1, hk => by
    obtain ⟨e1, e2, e3, e4⟩ := hc k (by omega)
    rw [lgm]
    cases hb : bt (th k) t with
    | false =>
      rw [if_neg Bool.false_ne_true]
      rcases lgm_att hc k (by omega) with ⟨h1, h2⟩ | ⟨j, h1, h2, h3⟩
      · refine Or.inl ⟨h1, fun j hj => ?_⟩
        by_cases q : j = k
        · subst q; exact hb
        · exact h2 j (by omega)
      · exact Or.inr ⟨j, by omega, h2, h3⟩
    | true =>
      rw [if_pos rfl, e1, e2, pk_sub e3]
      refine Or.inr ?_
      rcases lgm_att hc k (by omega) with ⟨h1, h2⟩ | ⟨j, h1, h2, h3⟩
      · rw [h1, imin_nI (by decide) (by omega), Nat.min_eq_right (by omega)]
        exact ⟨k, by omega, hb, rfl⟩
      · rw [h3, imin_nI (by have := hc j (by omega); omega) (by omega)]
        by_cases q : X j - Y j ≤ X k - Y k
        · rw [Nat.min_eq_left q]
          exact ⟨j, by omega, h2, rfl⟩
        · rw [Nat.min_eq_right (by omega)]
          exact ⟨k, by omega, hb, rfl⟩
theorem smN_or {X : Nat → Nat} {S T U : Nat → Bool} : ∀ n, (∀ k, k < n → U k = (S k || T k)) → (∀ k, k < n → S k = true → T k = false) → smN X U n = smN X S n + smN X T n
  | 0, _, _ => rfl
  | n + 1, h, h2 => by
    rw [smN, smN, smN, smN_or n (fun k hk => h k (by omega)) (fun k hk => h2 k (by omega)), h n (by omega)]
    cases hs : S n with
    | false =>
      rw [Bool.false_or, if_neg Bool.false_ne_true]
      omega
    | true =>
      rw [Bool.true_or, if_pos rfl, h2 n (by omega) hs, if_neg Bool.false_ne_true]
      omega
theorem smN_mem {X : Nat → Nat} {S : Nat → Bool} {j : Nat} : ∀ n, j < n → S j = true → X j ≤ smN X S n
  | 0, h, _ => absurd h (Nat.not_lt_zero j)
  | n + 1, h, hs => by
    rw [smN]
    by_cases q : j = n
    · subst q
      rw [if_pos hs]
      omega
    · have := smN_mem (X := X) n (by omega) hs
      omega
theorem smN_le {X : Nat → Nat} {S : Nat → Bool} {B : Nat} : ∀ n, (∀ k, k < n → X k ≤ B) → smN X S n ≤ B * n
  | 0, _ => Nat.zero_le _
  | n + 1, h => by
    have h1 := smN_le (S := S) n (fun k hk => h k (by omega))
    have h2 := h n (by omega)
    rw [smN, Nat.mul_succ]
    split <;> omega
theorem buyC_sm {c th pr : Nat → Int32} {t n : Nat} {X : Nat → Nat} (hc : ∀ k, k < n → c k = nI (X k)) : ∀ k, k ≤ n → buyC c th pr t k = nI (smN X (fun j => tight c th pr t j) k)
  | 0, _ => rfl
  | k + 1, h => by
    rw [buyC, smN, buyC_sm hc k (by omega), hc k (by omega)]
    by_cases q : tight c th pr t k = true
    · rw [if_pos q, if_pos q, nI_add]
    · rw [if_neg q, if_neg q, Nat.add_zero]
/-- the law's numbers beside the class's memory -/
def LI (L : Nat) (xs : Nat → Int32) (σ : Mem) (N : Nat) (dem bo : Int32) (P : Nat) : Prop :=
  (1 ≤ N ∧ N ≤ 9 ∧ σ 2 3 = nI N) ∧ (∀ k, k < N → σ 17 k = cF L xs k ∧ σ 18 k = thF L xs k) ∧ setsOK (σ 17) (σ 18) (σ 19) N (σ 2 4) dem bo (σ 2 7) ∧ (σ 2 5 = dem ∧ σ 2 6 = bo ∧ σ 2 8 = nI P) ∧ (∀ i, i < 12 → σ 53 i = σ 19 i) ∧ (∃ tr : Nat, tr ≤ 16 ∧ σ 5 1 = nI tr) ∧
  (∀ k, k < N → bt bo k = true → pf (σ 18 k) (σ 19) 12 = σ 17 k) ∧ (∀ i, bt dem i = true → ∃ k, k < N ∧ bt bo k = true ∧ bt (σ 18 k) i = true) ∧ P = smN (coN L xs) (fun k => bt bo k) N ∧ (∀ i, i < 12 → ∃ q : Nat, q ≤ 1000 ∧ σ 19 i = nI q)
theorem had_z {th : Nat → Int32} {t N : Nat} (hN : N ≤ 32) : hadF th t N = 0 ↔ ∀ k, k < N → bt (th k) t = false := by
  rw [x0_b]
  constructor
  · intro h k hk
    cases hb : bt (th k) t with
    | false => rfl
    | true =>
      have := (hadF_bt (th := th) (t := t) (i := k) N hN).mpr ⟨hk, hb⟩
      rw [h k] at this
      exact absurd this (by decide)
  · intro h i
    cases hb : bt (hadF th t N) i with
    | false => rfl
    | true =>
      obtain ⟨h1, h2⟩ := (hadF_bt (th := th) (t := t) (i := i) N hN).mp hb
      rw [h i h1] at h2
      exact absurd h2 (by decide)
/-- among the sets with t there is a bought one -/
theorem had_bo {th : Nat → Int32} {t N : Nat} {bo : Int32} (hN : N ≤ 32) : ¬ hadF th t N &&& bo = 0 ↔ ∃ k, k < N ∧ bt bo k = true ∧ bt (th k) t = true := by
  rw [and_0]
  constructor
  · intro h
    refine Classical.byContradiction fun q => h fun i hi => ?_
    obtain ⟨h1, h2⟩ := (hadF_bt N hN).mp hi
    cases hb : bt bo i with
    | false => rfl
    | true => exact absurd ⟨i, h1, hb, h2⟩ q
  · rintro ⟨k, h1, h2, h3⟩ h
    have := h k ((hadF_bt N hN).mpr ⟨h1, h3⟩)
    rw [h2] at this
    exact absurd this (by decide)
theorem st_12 {σ : Mem} {N : Nat} : demandV σ N (nI 12) = (-1000001) ∧ demandM σ N (nI 12) = σ := by
  have e : inr (nI 12) 12 = false := by decide +kernel
  exact ⟨by rw [demandV, e, if_neg Bool.false_ne_true], by rw [demandM, e, if_neg Bool.false_ne_true]⟩
theorem st_no {L : Nat} {xs : Nat → Int32} {σ : Mem} {N x P : Nat} {dem bo : Int32} (h : LI L xs σ N dem bo P) (hx : x < 12) (hz : ∀ k, k < N → bt (thF L xs k) x = false) : demandV σ N (nI x) = (-1000002) ∧ demandM σ N (nI x) = σ := by
  obtain ⟨⟨n1, n2, n3⟩, hc, hs, -⟩ := h
  have e : inr (nI x) 12 = true := inr_nI hx (by decide)
  have et : tn (nI x) = x := tn_nI (by omega)
  have eo : bt (σ 2 4) x = false := by
    cases hb : bt (σ 2 4) x with
    | false => rfl
    | true =>
      obtain ⟨k, h1, h2⟩ := (hs.2.2.2.1 x hx).mp hb
      rw [(hc k h1).2, hz k h1] at h2
      exact absurd h2 (by decide)
  exact ⟨by rw [demandV, e, if_pos rfl, et, eo, if_neg Bool.false_ne_true], by rw [demandM, e, if_pos rfl, et, eo, if_neg Bool.false_ne_true]⟩
theorem st_of {L : Nat} {xs : Nat → Int32} {σ : Mem} {N x P : Nat} {dem bo : Int32} (h : LI L xs σ N dem bo P) (hx : x < 12) (hex : ∃ k, k < N ∧ bt (thF L xs k) x = true) : bt (σ 2 4) x = true := by
  obtain ⟨-, hc, hs, -⟩ := h
  obtain ⟨k, h1, h2⟩ := hex
  exact (hs.2.2.2.1 x hx).mpr ⟨k, h1, by rw [(hc k h1).2]; exact h2⟩
theorem st_me {L : Nat} {xs : Nat → Int32} {σ : Mem} {N x P : Nat} {dem bo : Int32} (h : LI L xs σ N dem bo P) (hx : x < 12) : (¬ hadF (thF L xs) x N &&& bo = 0) ↔ bt (σ 2 7) x = true := by
  obtain ⟨⟨n1, n2, n3⟩, hc, hs, -⟩ := h
  rw [had_bo (by omega), hs.2.2.2.2.2.2 x hx]
  constructor
  · rintro ⟨k, h1, h2, h3⟩
    exact ⟨k, h1, h2, by rw [(hc k h1).2]; exact h3⟩
  · rintro ⟨k, h1, h2, h3⟩
    exact ⟨k, h1, h2, by rw [(hc k h1).2] at h3; exact h3⟩
theorem st_met {L : Nat} {xs : Nat → Int32} {σ : Mem} {N x P : Nat} {dem bo : Int32} (h : LI L xs σ N dem bo P) (hx : x < 12) (hex : ∃ k, k < N ∧ bt (thF L xs k) x = true) (hme : bt (σ 2 7) x = true) : demandV σ N (nI x) = nI 0 ∧ LI L xs (demandM σ N (nI x)) N (dem ||| (nI 1 <<< (nI x &&& 31))) bo P ∧ demandM σ N (nI x) 53 = σ 53 := by
  have ho := st_of h hx hex
  obtain ⟨⟨n1, n2, n3⟩, hc, hs, ⟨d1, d2, d3⟩, hpr, htr, ha, hb, hP⟩ := h
  have e : inr (nI x) 12 = true := inr_nI hx (by decide)
  have et : tn (nI x) = x := tn_nI (by omega)
  have eM : demandM σ N (nI x) = mask σ x := by rw [demandM, e, if_pos rfl, et, ho, if_pos rfl, cmeetM, hme, if_pos rfl]
  rw [eM]
  have r2 : ∀ j, j ≠ 5 → mask σ x 2 j = σ 2 j := fun j hj => mask_c hj
  have r5 : mask σ x 2 5 = dem ||| (nI 1 <<< (nI x &&& 31)) := by unfold mask; rw [mu_at, d1]
  refine ⟨by rw [demandV, e, if_pos rfl, et, ho, if_pos rfl, cmeetV, hme, if_pos rfl], ?_, mask_r (by decide)⟩
  unfold LI
  rw [mask_r (σ := σ) (t := x) (q := 17) (by decide), mask_r (σ := σ) (t := x) (q := 18) (by decide), mask_r (σ := σ) (t := x) (q := 19) (by decide), mask_r (σ := σ) (t := x) (q := 53) (by decide), mask_r (σ := σ) (t := x) (q := 5) (by decide), r2 3 (by decide), r2 4 (by decide), r2 7 (by decide), r2 6 (by decide), r2 8 (by decide), r5]
  refine ⟨⟨n1, n2, n3⟩, hc, or_dem hs hx ho, ⟨rfl, d2, d3⟩, hpr, htr, ha, fun i hi => ?_, hP⟩
  rw [b_or, Bool.or_eq_true, bt_sh (by omega), decide_eq_true_iff] at hi
  rcases hi with hi | rfl
  · exact hb i hi
  · exact (hs.2.2.2.2.2.2 i hx).mp hme
theorem st_buy {L : Nat} {xs : Nat → Int32} {σ : Mem} {N x P : Nat} {dem bo : Int32} (h : LI L xs σ N dem bo P) (hx : x < 12) (hex : ∃ k, k < N ∧ bt (thF L xs k) x = true) (hno : bt (σ 2 7) x = false) {τ : Mem} (hτ : τ = mu σ 53 x (σ 53 x + lgm (cF L xs) (thF L xs) (σ 53) x N)) :
    ∃ S : Nat, 1 ≤ S ∧ S ≤ 400 ∧ buyC (cF L xs) (thF L xs) (τ 53) x N = nI S ∧ demandV τ N (nI x) = nI S ∧ LI L xs (demandM τ N (nI x)) N (dem ||| (nI 1 <<< (nI x &&& 31))) (buyB (cF L xs) (thF L xs) (τ 53) x bo N) (P + S) ∧ demandM τ N (nI x) 53 = τ 53 := by
  have ho := st_of h hx hex
  obtain ⟨⟨n1, n2, n3⟩, hc, hs, ⟨d1, d2, d3⟩, hpr, htr, ha, hb, hP, hpn⟩ := h
  have e : inr (nI x) 12 = true := inr_nI hx (by decide)
  have et : tn (nI x) = x := tn_nI (by omega)
  have q2 : τ 2 = σ 2 := by rw [hτ, mu_q (by decide)]
  have q17 : τ 17 = σ 17 := by rw [hτ, mu_q (by decide)]
  have q18 : τ 18 = σ 18 := by rw [hτ, mu_q (by decide)]
  have q19 : τ 19 = σ 19 := by rw [hτ, mu_q (by decide)]
  have q5 : τ 5 = σ 5 := by rw [hτ, mu_q (by decide)]
  have q53 : τ 53 = upd (σ 53) x (σ 53 x + lgm (cF L xs) (thF L xs) (σ 53) x N) := by rw [hτ, mu_s]
  obtain ⟨b1, b2⟩ := buy_ok (by omega) hs hx ho
  have elg : lgm (cF L xs) (thF L xs) (σ 53) x N = lgap (σ 17) (σ 18) (σ 19) x N := by
    rw [← b1]
    exact lgm_cg hpr N (fun j hj => ⟨(hc j hj).1.symm, (hc j hj).2.symm⟩)
  generalize hg : lgap (σ 17) (σ 18) (σ 19) x N = g at b1 b2 elg
  have hpr' : ∀ i, i < 12 → τ 53 i = upd (σ 19) x (σ 19 x + g) i := by
    intro i hi
    rw [q53, elg]
    by_cases q : i = x
    · subst q; rw [upd_s, upd_s, hpr i hi]
    · rw [upd_n q, upd_n q, hpr i hi]
  have hcg : ∀ j, j < N → cF L xs j = σ 17 j ∧ thF L xs j = σ 18 j := fun j hj => ⟨(hc j hj).1.symm, (hc j hj).2.symm⟩
  have eB : buyB (cF L xs) (thF L xs) (τ 53) x bo N = buyB (σ 17) (σ 18) (upd (σ 19) x (σ 19 x + g)) x bo N := buyB_cg hpr' N hcg
  have eC : buyC (cF L xs) (thF L xs) (τ 53) x N = buyC (σ 17) (σ 18) (upd (σ 19) x (σ 19 x + g)) x N := buyC_cg hpr' N hcg
  have hco : ∀ k, k < N → σ 17 k = nI (coN L xs k) := fun k hk => (hc k hk).1
  generalize hpp : upd (σ 19) x (σ 19 x + g) = pr' at hpr' eB eC b2
  have hpf : ∀ k, pf (σ 18 k) pr' 12 = if x < 12 ∧ bt (σ 18 k) x = true then pf (σ 18 k) (σ 19) 12 + g else pf (σ 18 k) (σ 19) 12 := fun k => by rw [← hpp]; exact pf_upd 12
  -- no bought set has x
  have hnb : ∀ k, k < N → bt bo k = true → bt (σ 18 k) x = false := by
    intro k hk hbk
    cases hbx : bt (σ 18 k) x with
    | false => rfl
    | true =>
      rw [(hs.2.2.2.2.2.2 x hx).mpr ⟨k, hk, hbk, hbx⟩] at hno
      exact absurd hno (by decide)
  -- a set with x is tight now
  obtain ⟨X, Y, hXY⟩ := X_Y hs.1
  have htg : ∃ j, j < N ∧ tight (σ 17) (σ 18) pr' x j = true := by
    rcases lgm_att (t := x) (fun k hk => ⟨(hXY k hk).1, (hXY k hk).2.1, (hXY k hk).2.2.1, (hXY k hk).2.2.2.1⟩) N (Nat.le_refl N) with ⟨h1, h2⟩ | ⟨j, h1, h2, h3⟩
    · obtain ⟨k, k1, k2⟩ := hex
      have := h2 k k1
      rw [(hc k k1).2, k2] at this
      exact absurd this (by decide)
    · refine ⟨j, h1, tight_iff.mpr ⟨h2, ?_⟩⟩
      obtain ⟨a1, a2, a3, a4, a5⟩ := hXY j h1
      rw [hpf, if_pos ⟨hx, h2⟩, ← b1, h3, a2, a1, nI_add]
      congr 1
      omega
  have hsm : buyC (σ 17) (σ 18) pr' x N = nI (smN (coN L xs) (fun j => tight (σ 17) (σ 18) pr' x j) N) := buyC_sm hco N (Nat.le_refl N)
  have hcol : ∀ k, k < N → coN L xs k ≤ 40 := fun k _ => coN_le.2
  have hS2 := smN_le (S := fun j => tight (σ 17) (σ 18) pr' x j) N hcol
  have hS1 : 1 ≤ smN (coN L xs) (fun j => tight (σ 17) (σ 18) pr' x j) N := by
    obtain ⟨j, j1, j2⟩ := htg
    exact Nat.le_trans coN_le.1 (smN_mem N j1 j2)
  generalize hSd : smN (coN L xs) (fun j => tight (σ 17) (σ 18) pr' x j) N = S at hsm hS2 hS1
  have m7 : bt (τ 2 7) x = false := by rw [q2]; exact hno
  have o4 : bt (τ 2 4) x = true := by rw [q2]; exact ho
  have r19 : mraise τ N x 19 = pr' := by
    rw [mraise, mu_s, q17, q18, q19, mask_r (by decide), q19, hg, hpp]
  have r17 : mraise τ N x 17 = σ 17 := by rw [mraise_r (by decide), mask_r (by decide), q17]
  have r18 : mraise τ N x 18 = σ 18 := by rw [mraise_r (by decide), mask_r (by decide), q18]
  have r2 : mraise τ N x 2 = mask τ x 2 := mraise_r (by decide)
  have eM : demandM τ N (nI x) = mu (mbuy (mraise τ N x) x N) 2 8 (nI (P + S)) := by
    rw [demandM, e, if_pos rfl, et, o4, if_pos rfl, cmeetM, m7, if_neg Bool.false_ne_true, r19, q17, q18, q2, d3, hsm, nI_add]
  have eV : demandV τ N (nI x) = nI S := by
    rw [demandV, e, if_pos rfl, et, o4, if_pos rfl, cmeetV, m7, if_neg Bool.false_ne_true, r19, q17, q18, hsm]
  have t53 : demandM τ N (nI x) 53 = τ 53 := by rw [eM, mu_q (by decide), mbuy_r (by decide), mraise_r (by decide), mask_r (by decide)]
  refine ⟨S, hS1, by omega, by rw [eC, hsm], eV, ?_, t53⟩
  have t17 : demandM τ N (nI x) 17 = σ 17 := by rw [eM, mu_q (by decide), mbuy_r (by decide), r17]
  have t18 : demandM τ N (nI x) 18 = σ 18 := by rw [eM, mu_q (by decide), mbuy_r (by decide), r18]
  have t19 : demandM τ N (nI x) 19 = pr' := by rw [eM, mu_q (by decide), mbuy_r (by decide), r19]
  have t5 : demandM τ N (nI x) 5 = σ 5 := by rw [eM, mu_q (by decide), mbuy_r (by decide), mraise_r (by decide), mask_r (by decide), q5]
  have t2 : ∀ j, j ≠ 5 → j ≠ 6 → j ≠ 7 → j ≠ 8 → demandM τ N (nI x) 2 j = σ 2 j := by
    intro j h5 h6 h7 h8
    rw [eM, mu_ni h8, mbuy_c h6 h7, r2, mask_c h5, q2]
  have t25 : demandM τ N (nI x) 2 5 = dem ||| (nI 1 <<< (nI x &&& 31)) := by
    rw [eM, mu_ni (by decide), mbuy_c (by decide) (by decide), r2, mask, mu_at, q2, d1]
  have t26 : demandM τ N (nI x) 2 6 = buyB (σ 17) (σ 18) pr' x bo N := by
    rw [eM, mu_ni (by decide), mbuy, mu_ni (by decide), mu_at, r17, r18, r19, r2, mask_c (by decide), q2, d2]
  have t27 : demandM τ N (nI x) 2 7 = buyM (σ 17) (σ 18) pr' x (σ 2 7) N := by
    rw [eM, mu_ni (by decide), mbuy, mu_at, r17, r18, r19, r2, mask_c (by decide), q2]
  have t28 : demandM τ N (nI x) 2 8 = nI (P + S) := by rw [eM, mu_at]
  unfold LI
  rw [t17, t18, t19, t53, t5, t2 3 (by decide) (by decide) (by decide) (by decide), t2 4 (by decide) (by decide) (by decide) (by decide), t25, t26, t27, t28, eB]
  have hbb : ∀ k, bt (buyB (σ 17) (σ 18) pr' x bo N) k = true ↔ bt bo k = true ∨ (k < N ∧ tight (σ 17) (σ 18) pr' x k = true) := fun k => buyB_bt N (by omega)
  refine ⟨⟨n1, n2, n3⟩, hc, b2, ⟨rfl, rfl, rfl⟩, hpr', htr, fun k hk hbk => ?_, fun i hi => ?_, ?_, fun i hi => ?_⟩
  · rcases (hbb k).mp hbk with q | q
    · rw [hpf, if_neg (fun z => by rw [hnb k hk q] at z; exact absurd z.2 (by decide))]
      exact ha k hk q
    · exact (tight_iff.mp q.2).2
  · rw [b_or, Bool.or_eq_true, bt_sh (by omega), decide_eq_true_iff] at hi
    rcases hi with hi | rfl
    · obtain ⟨k, k1, k2, k3⟩ := hb i hi
      exact ⟨k, k1, (hbb k).mpr (Or.inl k2), k3⟩
    · obtain ⟨j, j1, j2⟩ := htg
      exact ⟨j, j1, (hbb j).mpr (Or.inr ⟨j1, j2⟩), (tight_iff.mp j2).1⟩
  · rw [hP, ← hSd]
    refine (smN_or N (fun k hk => ?_) (fun k hk hbk => ?_)).symm
    · have hb9 := hbb k
      cases h1 : bt bo k with
      | true => rw [Bool.true_or]; exact hb9.mpr (Or.inl h1)
      | false =>
        cases h2 : tight (σ 17) (σ 18) pr' x k with
        | true => rw [Bool.false_or]; exact hb9.mpr (Or.inr ⟨hk, h2⟩)
        | false =>
          rw [Bool.false_or]
          cases h3 : bt (buyB (σ 17) (σ 18) pr' x bo N) k with
          | false => rfl
          | true =>
            rcases hb9.mp h3 with q | q
            · rw [h1] at q; exact absurd q (by decide)
            · rw [h2] at q; exact absurd q.2 (by decide)
    · cases h2 : tight (σ 17) (σ 18) pr' x k with
      | false => rfl
      | true =>
        have := (tight_iff.mp h2).1
        rw [hnb k hk hbk] at this
        exact absurd this (by decide)
  · by_cases q : i = x
    · subst q
      have hdx : bt dem i = false := by
        cases hd : bt dem i with
        | false => rfl
        | true =>
          obtain ⟨k, k1, k2, k3⟩ := hb i hd
          rw [hnb k k1 k2] at k3
          exact absurd k3 (by decide)
      rcases lgm_att (t := i) (fun k hk => ⟨(hXY k hk).1, (hXY k hk).2.1, (hXY k hk).2.2.1, (hXY k hk).2.2.2.1⟩) N (Nat.le_refl N) with ⟨h1, h2⟩ | ⟨j, h1, h2, h3⟩
      · obtain ⟨k, k1, k2⟩ := hex
        have := h2 k k1
        rw [(hc k k1).2, k2] at this
        exact absurd this (by decide)
      · refine ⟨X j - Y j, by have := (hXY j h1).2.2.2.1; omega, ?_⟩
        rw [← hpp, upd_s, hs.2.2.1 i hi hdx, ← b1, h3, nI_add, Nat.zero_add]
    · rw [← hpp, upd_n q]
      exact hpn i hi
end
section
/-! ===== the law's body: the demands ===== -/
theorem LI.n {L : Nat} {xs : Nat → Int32} {σ : Mem} {N P : Nat} {dem bo : Int32} (h : LI L xs σ N dem bo P) : σ 2 3 = nI N ∧ N ≤ 10 := ⟨h.1.2.2, by have := h.1.2.1; omega⟩
theorem k_cov0 {L : Nat} {xs : Nat → Int32} {σ : Mem} {N P : Nat} {dem bo : Int32} (h : LI L xs σ N dem bo P) : Cc yX5_covers cX5_covers 2 (some .int) 13 [.ref 0, .int (nI 0)] σ (rI (nI P) σ) := by
  have c := c_covers N (nI 0) σ h.n.1 h.n.2
  rw [coversF, if_pos rfl, h.2.2.2.1.2.2] at c
  exact c
theorem k_cov4 {L : Nat} {xs : Nat → Int32} {σ : Mem} {N P : Nat} {dem bo : Int32} (h : LI L xs σ N dem bo P) : Cc yX5_covers cX5_covers 2 (some .int) 13 [.ref 0, .int (nI 4)] σ (rI dem σ) := by
  have c := c_covers N (nI 4) σ h.n.1 h.n.2
  rw [coversF, if_neg (by decide +kernel), if_neg (by decide +kernel), if_neg (by decide +kernel), if_neg (by decide +kernel), if_pos rfl, h.2.2.2.1.1] at c
  exact c
theorem k_cov5 {L : Nat} {xs : Nat → Int32} {σ : Mem} {N P : Nat} {dem bo : Int32} (h : LI L xs σ N dem bo P) : Cc yX5_covers cX5_covers 2 (some .int) 13 [.ref 0, .int (nI 5)] σ (rI bo σ) := by
  have c := c_covers N (nI 5) σ h.n.1 h.n.2
  rw [coversF, if_neg (by decide +kernel), if_neg (by decide +kernel), if_neg (by decide +kernel), if_neg (by decide +kernel), if_neg (by decide +kernel), if_pos rfl, h.2.2.2.1.2.1] at c
  exact c
theorem k_price {L : Nat} {xs : Nat → Int32} {σ : Mem} {N P x : Nat} {dem bo : Int32} (h : LI L xs σ N dem bo P) (hx : x < 12) : Cc yX5_price cX5_price 2 (some .int) 1 [.ref 0, .int (nI x)] σ (rI (σ 53 x) σ) := by
  have c := c_price (nI x) σ
  rw [priceF, if_pos (inr_nI hx (by decide)), tn_nI (by omega), ← h.2.2.2.2.1 x hx] at c
  exact c
set_option maxRecDepth 100000 in
set_option maxHeartbeats 4000000 in
theorem l_359 {L : Nat} {xs : Nat → Int32} {X : XC} (hX : Cok X RL cL_law 15) (hp : Pok X) (hR : Rok X 20) (hs : Scr X L xs) (hL : L < 2 ^ 31) {σ : Mem} {N P x t : Nat} {dem bo pd had pays : Int32} {v10 v12 v13 v14 : Option Value} (hx : x ≤ 12) (h : LI L xs σ N dem bo P) (hP : pd + pays = nI P) (ih : Lw X 38 [some (.ref 52), some (.ref 0), some (.int (nI N)), some (.int (dem)), some (.int (bo)), some (.int (nI P)), some (.ref 53), some (.int (nI (t + 1))), none, none, none, none, none, none, none] [] σ) : Lw X 359 [some (.ref 52), some (.ref 0), some (.int (nI N)), some (.int (dem)), some (.int (bo)), some (.int (pd)), some (.ref 53), some (.int (nI t)), some (.int (nI x)), some (.int (had)), none, some (.int (pays)), none, none, none] [] σ := by
  refine L_iload (pc := 359) (i := 5) hX dL_law_359 rfl ?_
  refine L_iload (pc := 361) (i := 11) hX dL_law_361 rfl ?_
  refine L_iadd (pc := 363) hX dL_law_363 ?_
  refine L_istore5 (pc := 364) hX dL_law_364 rfl ?_
  rw [hP]
  refine L_aload_n (pc := 366) (i := 1) hX dL_law_366 rfl rfl ?_
  refine L_iconst (pc := 367) (v := (nI 0)) hX dL_law_367 (by decide +kernel) ?_
  refine L_callVi (pc := 368) hX hp (hR.mono (by omega)) mL_42 (k_cov0 h) dL_law_368 rfl rfl rfl rfl (Nat.le_of_ble_eq_true rfl) (rfl) ?_
  refine L_iload (pc := 371) (i := 5) hX dL_law_371 rfl ?_
  refine L_icmp_ne (pc := 373) (tgt := 416) hX dL_law_373 (by decide) (fun h373 => absurd h373 (fun q => q rfl)) (fun h373 => ?_)
  refine L_aload_n (pc := 376) (i := 1) hX dL_law_376 rfl rfl ?_
  refine L_iconst (pc := 377) (v := (nI 4)) hX dL_law_377 (by decide +kernel) ?_
  refine L_callVi (pc := 378) hX hp (hR.mono (by omega)) mL_42 (k_cov4 h) dL_law_378 rfl rfl rfl rfl (Nat.le_of_ble_eq_true rfl) (rfl) ?_
  refine L_iload_n (pc := 381) (i := 3) hX dL_law_381 rfl rfl ?_
  refine L_icmp_ne (pc := 382) (tgt := 416) hX dL_law_382 (by decide) (fun h382 => absurd h382 (fun q => q rfl)) (fun h382 => ?_)
  refine L_aload_n (pc := 385) (i := 1) hX dL_law_385 rfl rfl ?_
  refine L_iconst (pc := 386) (v := (nI 5)) hX dL_law_386 (by decide +kernel) ?_
  refine L_callVi (pc := 387) hX hp (hR.mono (by omega)) mL_42 (k_cov5 h) dL_law_387 rfl rfl rfl rfl (Nat.le_of_ble_eq_true rfl) (rfl) ?_
  refine L_iload (pc := 390) (i := 4) hX dL_law_390 rfl ?_
  refine L_icmp_ne (pc := 392) (tgt := 416) hX dL_law_392 (by decide) (fun h392 => absurd h392 (fun q => q rfl)) (fun h392 => ?_)
  refine L_iload (pc := 395) (i := 8) hX dL_law_395 rfl ?_
  refine L_bipush (pc := 397) (v := (nI 12)) hX dL_law_397 (by decide +kernel) ?_
  refine L_icmp_geN (pc := 399) (tgt := 418) hX dL_law_399 (by decide) (by omega) (by omega) (fun h399 => ?_) (fun h399 => ?_)
  · refine L_iinc7 (pc := 418) hX dL_law_418 rfl (iinc1 _) ?_
    refine L_goto (pc := 421) (tgt := 38) hX dL_law_421 (by decide) ?_
    exact Lw.fg (by repeat (first | exact fgt_n | refine fgt_c (Or.inr rfl) ?_ | refine fgt_c (Or.inl rfl) ?_)) ih
  · refine L_aload_n (pc := 402) (i := 1) hX dL_law_402 rfl rfl ?_
    refine L_iload (pc := 403) (i := 8) hX dL_law_403 rfl ?_
    refine L_callVi (pc := 405) hX hp (hR.mono (by omega)) mL_45 (k_price h (by omega)) dL_law_405 rfl rfl rfl rfl (Nat.le_of_ble_eq_true rfl) (rfl) ?_
    refine L_aload (pc := 408) (i := 6) hX dL_law_408 rfl ?_
    refine L_iload (pc := 410) (i := 8) hX dL_law_410 rfl ?_
    refine L_pld (pc := 412) hX dL_law_412 (rfl) (by omega) ?_
    refine L_icmp_eq (pc := 413) (tgt := 418) hX dL_law_413 (by decide) (fun h413 => ?_) (fun h413 => absurd h413 (fun q => q rfl))
    refine L_iinc7 (pc := 418) hX dL_law_418 rfl (iinc1 _) ?_
    refine L_goto (pc := 421) (tgt := 38) hX dL_law_421 (by decide) ?_
    exact Lw.fg (by repeat (first | exact fgt_n | refine fgt_c (Or.inr rfl) ?_ | refine fgt_c (Or.inl rfl) ?_)) ih
set_option maxRecDepth 100000 in
set_option maxHeartbeats 4000000 in
theorem l_306 {L : Nat} {xs : Nat → Int32} {X : XC} (hX : Cok X RL cL_law 15) (hp : Pok X) (hR : Rok X 20) (hs : Scr X L xs) (hL : L < 2 ^ 31) {σ τ : Mem} {N P x t : Nat} {dem bo pd had pays v : Int32} (hx : x ≤ 12) (hn : σ 2 3 = nI N) (hN : N ≤ 10) (hV : demandV σ N (nI x) = v) (hM : demandM σ N (nI x) = τ) (h53 : τ 53 = σ 53) (hv : v = if x = 12 then (-1000001) else if had = 0 then (-1000002) else pays) (hz : pays = 0 → ¬ had = 0 → ¬ had &&& bo = 0) (h : LI L xs τ N dem bo P) (hP : pd + pays = nI P) (ih : Lw X 38 [some (.ref 52), some (.ref 0), some (.int (nI N)), some (.int (dem)), some (.int (bo)), some (.int (nI P)), some (.ref 53), some (.int (nI (t + 1))), none, none, none, none, none, none, none] [] τ) : Lw X 306 [some (.ref 52), some (.ref 0), some (.int (nI N)), some (.int (dem)), some (.int (bo)), some (.int (pd)), some (.ref 53), some (.int (nI t)), some (.int (nI x)), some (.int (had)), none, some (.int (pays)), none, none, none] [] σ := by
  have c := c_demand N (nI x) σ hn hN
  rw [hV, hM] at c
  refine L_aload_n (pc := 306) (i := 1) hX dL_law_306 rfl rfl ?_
  refine L_iload (pc := 307) (i := 8) hX dL_law_307 rfl ?_
  refine L_callVi (pc := 309) hX hp (hR.mono (by omega)) mL_36 (c) dL_law_309 rfl rfl rfl rfl (Nat.le_of_ble_eq_true rfl) (h53) ?_
  refine L_iload (pc := 312) (i := 8) hX dL_law_312 rfl ?_
  refine L_bipush (pc := 314) (v := (nI 12)) hX dL_law_314 (by decide +kernel) ?_
  refine L_icmp_neN (pc := 316) (tgt := 324) hX dL_law_316 (by decide) (by omega) (by omega) (fun h316 => ?_) (fun h316 => ?_)
  · refine L_iload (pc := 324) (i := 9) hX dL_law_324 rfl ?_
    refine L_if_ne (pc := 326) (tgt := 334) hX dL_law_326 (by decide) (fun h326 => ?_) (fun h326 => ?_)
    · refine L_iload (pc := 334) (i := 11) hX dL_law_334 rfl ?_
      refine L_icmp_ne (pc := 336) (tgt := 357) hX dL_law_336 (by decide) (fun h336 => absurd h336 (fun q => q (by first | (rw [hv, if_pos h316]) | (rw [hv, if_neg h316, if_pos h326]) | (rw [hv, if_neg h316, if_neg h326])))) (fun h336 => ?_)
      refine L_iload (pc := 339) (i := 11) hX dL_law_339 rfl ?_
      refine L_if_ne (pc := 341) (tgt := 359) hX dL_law_341 (by decide) (fun h341 => ?_) (fun h341 => ?_)
      · exact l_359 hX hp hR hs hL (v10 := none) (v12 := none) (v13 := none) (v14 := none) hx h hP ih
      · refine L_iload (pc := 344) (i := 9) hX dL_law_344 rfl ?_
        refine L_if_eq (pc := 346) (tgt := 359) hX dL_law_346 (by decide) (fun h346 => ?_) (fun h346 => ?_)
        · exact l_359 hX hp hR hs hL (v10 := none) (v12 := none) (v13 := none) (v14 := none) hx h hP ih
        · refine L_iload (pc := 349) (i := 9) hX dL_law_349 rfl ?_
          refine L_iload (pc := 351) (i := 4) hX dL_law_351 rfl ?_
          refine L_iand (pc := 353) hX dL_law_353 ?_
          refine L_if_ne (pc := 354) (tgt := 359) hX dL_law_354 (by decide) (fun h354 => ?_) (fun h354 => absurd h354 ((hz h341 h346)))
          exact l_359 hX hp hR hs hL (v10 := none) (v12 := none) (v13 := none) (v14 := none) hx h hP ih
    · refine L_ldc (pc := 329) hX kL_41 dL_law_329 ?_
      refine L_goto (pc := 331) (tgt := 336) hX dL_law_331 (by decide) ?_
      refine L_icmp_ne (pc := 336) (tgt := 357) hX dL_law_336 (by decide) (fun h336 => absurd h336 (fun q => q (by first | (rw [hv, if_pos h316]) | (rw [hv, if_neg h316, if_pos h326]) | (rw [hv, if_neg h316, if_neg h326])))) (fun h336 => ?_)
      refine L_iload (pc := 339) (i := 11) hX dL_law_339 rfl ?_
      refine L_if_ne (pc := 341) (tgt := 359) hX dL_law_341 (by decide) (fun h341 => ?_) (fun h341 => ?_)
      · exact l_359 hX hp hR hs hL (v10 := none) (v12 := none) (v13 := none) (v14 := none) hx h hP ih
      · refine L_iload (pc := 344) (i := 9) hX dL_law_344 rfl ?_
        refine L_if_eq (pc := 346) (tgt := 359) hX dL_law_346 (by decide) (fun h346 => ?_) (fun h346 => ?_)
        · exact l_359 hX hp hR hs hL (v10 := none) (v12 := none) (v13 := none) (v14 := none) hx h hP ih
        · refine L_iload (pc := 349) (i := 9) hX dL_law_349 rfl ?_
          refine L_iload (pc := 351) (i := 4) hX dL_law_351 rfl ?_
          refine L_iand (pc := 353) hX dL_law_353 ?_
          refine L_if_ne (pc := 354) (tgt := 359) hX dL_law_354 (by decide) (fun h354 => ?_) (fun h354 => absurd h354 ((hz h341 h346)))
          exact l_359 hX hp hR hs hL (v10 := none) (v12 := none) (v13 := none) (v14 := none) hx h hP ih
  · refine L_ldc (pc := 319) hX kL_40 dL_law_319 ?_
    refine L_goto (pc := 321) (tgt := 336) hX dL_law_321 (by decide) ?_
    refine L_icmp_ne (pc := 336) (tgt := 357) hX dL_law_336 (by decide) (fun h336 => absurd h336 (fun q => q (by first | (rw [hv, if_pos h316]) | (rw [hv, if_neg h316, if_pos h326]) | (rw [hv, if_neg h316, if_neg h326])))) (fun h336 => ?_)
    refine L_iload (pc := 339) (i := 11) hX dL_law_339 rfl ?_
    refine L_if_ne (pc := 341) (tgt := 359) hX dL_law_341 (by decide) (fun h341 => ?_) (fun h341 => ?_)
    · exact l_359 hX hp hR hs hL (v10 := none) (v12 := none) (v13 := none) (v14 := none) hx h hP ih
    · refine L_iload (pc := 344) (i := 9) hX dL_law_344 rfl ?_
      refine L_if_eq (pc := 346) (tgt := 359) hX dL_law_346 (by decide) (fun h346 => ?_) (fun h346 => ?_)
      · exact l_359 hX hp hR hs hL (v10 := none) (v12 := none) (v13 := none) (v14 := none) hx h hP ih
      · refine L_iload (pc := 349) (i := 9) hX dL_law_349 rfl ?_
        refine L_iload (pc := 351) (i := 4) hX dL_law_351 rfl ?_
        refine L_iand (pc := 353) hX dL_law_353 ?_
        refine L_if_ne (pc := 354) (tgt := 359) hX dL_law_354 (by decide) (fun h354 => ?_) (fun h354 => absurd h354 ((hz h341 h346)))
        exact l_359 hX hp hR hs hL (v10 := none) (v12 := none) (v13 := none) (v14 := none) hx h hP ih
theorem LI.mem {L : Nat} {xs : Nat → Int32} {σ : Mem} {N P : Nat} {dem bo : Int32} (h : LI L xs σ N dem bo P) : N ≤ 9 ∧ 1 ≤ N := ⟨h.1.2.1, h.1.1⟩
set_option maxRecDepth 100000 in
set_option maxHeartbeats 4000000 in
theorem l_176 {L : Nat} {xs : Nat → Int32} {X : XC} (hX : Cok X RL cL_law 15) (hp : Pok X) (hR : Rok X 20) (hs : Scr X L xs) (hL : L < 2 ^ 31) {σ : Mem} {N P x t : Nat} {dem bo : Int32} (hx : x < 12) (h : LI L xs σ N dem bo P) (ih : ∀ dem2 bo2 P2 τ, LI L xs τ N dem2 bo2 P2 → Lw X 38 [some (.ref 52), some (.ref 0), some (.int (nI N)), some (.int (dem2)), some (.int (bo2)), some (.int (nI P2)), some (.ref 53), some (.int (nI (t + 1))), none, none, none, none, none, none, none] [] τ) : Lw X 176 [some (.ref 52), some (.ref 0), some (.int (nI N)), some (.int (dem)), some (.int (bo)), some (.int (nI P)), some (.ref 53), some (.int (nI t)), some (.int (nI x)), some (.int (hadF (thF L xs) x N)), some (.int (lgm (cF L xs) (thF L xs) (σ 53) x N)), some (.int (nI N)), none, none, none] [] σ := by
  have hN := h.mem.1
  refine L_iconst (pc := 176) (v := (nI 0)) hX dL_law_176 (by decide +kernel) ?_
  refine L_istore11 (pc := 177) hX dL_law_177 rfl ?_
  refine L_iload (pc := 179) (i := 9) hX dL_law_179 rfl ?_
  refine L_if_eq (pc := 181) (tgt := 306) hX dL_law_181 (by decide) (fun h181 => ?_) (fun h181 => ?_)
  · have hz := (had_z (by omega)).mp h181
    have s := st_no h hx hz
    exact Lw.fg (by repeat (first | exact fgt_n | refine fgt_c (Or.inr rfl) ?_ | refine fgt_c (Or.inl rfl) ?_)) (l_306 (τ := σ) hX hp hR hs hL (by omega) h.n.1 h.n.2 s.1 s.2 rfl (by rw [if_neg (by omega), if_pos h181]) (fun _ q => absurd h181 q) h (add0 _) (ih _ _ _ _ h))
  · refine L_iload_n (pc := 184) (i := 3) hX dL_law_184 rfl rfl ?_
    refine L_iconst (pc := 185) (v := (nI 1)) hX dL_law_185 (by decide +kernel) ?_
    refine L_iload (pc := 186) (i := 8) hX dL_law_186 rfl ?_
    refine L_ishl (pc := 188) hX dL_law_188 ?_
    refine L_ior (pc := 189) hX dL_law_189 ?_
    refine L_istore3 (pc := 190) hX dL_law_190 rfl ?_
    refine L_iload (pc := 191) (i := 9) hX dL_law_191 rfl ?_
    refine L_iload (pc := 193) (i := 4) hX dL_law_193 rfl ?_
    refine L_iand (pc := 195) hX dL_law_195 ?_
    refine L_if_ne (pc := 196) (tgt := 306) hX dL_law_196 (by decide) (fun h196 => ?_) (fun h196 => ?_)
    · have hex : ∃ k, k < N ∧ bt (thF L xs k) x = true := Classical.byContradiction fun q => h181 ((had_z (by omega)).mpr fun k hk => by
        cases hb : bt (thF L xs k) x with
        | false => rfl
        | true => exact absurd ⟨k, hk, hb⟩ q)
      have s := st_met h hx hex ((st_me h hx).mp h196)
      exact Lw.fg (by repeat (first | exact fgt_n | refine fgt_c (Or.inr rfl) ?_ | refine fgt_c (Or.inl rfl) ?_)) (l_306 hX hp hR hs hL (by omega) h.n.1 h.n.2 s.1 rfl s.2.2 (by rw [if_neg (by omega), if_neg h181]) (fun _ _ => h196) s.2.1 (add0 _) (ih _ _ _ _ s.2.1))
    · refine L_aload (pc := 199) (i := 6) hX dL_law_199 rfl ?_
      refine L_iload (pc := 201) (i := 8) hX dL_law_201 rfl ?_
      refine L_dup2 (pc := 203) hX dL_law_203 rfl rfl ?_
      refine L_pld (pc := 204) hX dL_law_204 (rfl) (hx) ?_
      refine L_iload (pc := 205) (i := 10) hX dL_law_205 rfl ?_
      refine L_iadd (pc := 207) hX dL_law_207 ?_
      refine L_past (pc := 208) hX hp dL_law_208 (rfl) (hx) ?_
      refine L_iconst (pc := 209) (v := (nI 0)) hX dL_law_209 (by decide +kernel) ?_
      refine L_istore12 (pc := 210) hX dL_law_210 rfl ?_
      have hex : ∃ k, k < N ∧ bt (thF L xs k) x = true := Classical.byContradiction fun q => h181 ((had_z (by omega)).mpr fun k hk => by
        cases hb : bt (thF L xs k) x with
        | false => rfl
        | true => exact absurd ⟨k, hk, hb⟩ q)
      have hno : bt (σ 2 7) x = false := by
        cases hb : bt (σ 2 7) x with
        | false => rfl
        | true => exact absurd h196 ((st_me h hx).mpr hb)
      obtain ⟨S, s1, s2, s3, s4, s5, s6⟩ := st_buy h hx hex hno rfl
      refine l_buy hX hp hR hs hL (bo := bo) hN (fun k hk => ?_) ?_ 0 (Nat.zero_le _)
      · cases hb : bt (thF L xs k) x with
        | true => exact (hadF_bt N (by omega)).mpr ⟨hk, hb⟩
        | false =>
          cases hb2 : bt (hadF (thF L xs) x N) k with
          | false => rfl
          | true =>
            have := ((hadF_bt N (by omega)).mp hb2).2
            rw [hb] at this
            exact absurd this (by decide)
      · rw [s3]
        exact Lw.fg (by repeat (first | exact fgt_n | refine fgt_c (Or.inr rfl) ?_ | refine fgt_c (Or.inl rfl) ?_)) (l_306 hX hp hR hs hL (by omega) (by rw [mu_q (by decide)]; exact h.n.1) h.n.2 s4 rfl s6 (by rw [if_neg (by omega), if_neg h181]) (fun q _ => absurd q (nI_ne00 (by omega) (by omega))) s5 (nI_add _ _) (ih _ _ _ _ s5))
set_option maxRecDepth 100000 in
set_option maxHeartbeats 4000000 in
theorem l_176x {L : Nat} {xs : Nat → Int32} {X : XC} (hX : Cok X RL cL_law 15) (hp : Pok X) (hR : Rok X 20) (hs : Scr X L xs) (hL : L < 2 ^ 31) {σ : Mem} {N P t : Nat} {dem bo : Int32} (h : LI L xs σ N dem bo P) (ih : ∀ dem2 bo2 P2 τ, LI L xs τ N dem2 bo2 P2 → Lw X 38 [some (.ref 52), some (.ref 0), some (.int (nI N)), some (.int (dem2)), some (.int (bo2)), some (.int (nI P2)), some (.ref 53), some (.int (nI (t + 1))), none, none, none, none, none, none, none] [] τ) : Lw X 176 [some (.ref 52), some (.ref 0), some (.int (nI N)), some (.int (dem)), some (.int (bo)), some (.int (nI P)), some (.ref 53), some (.int (nI t)), some (.int (nI 12)), some (.int (nI 0)), some (.int (nI 1000000)), some (.int (nI N)), none, none, none] [] σ := by
  refine L_iconst (pc := 176) (v := (nI 0)) hX dL_law_176 (by decide +kernel) ?_
  refine L_istore11 (pc := 177) hX dL_law_177 rfl ?_
  refine L_iload (pc := 179) (i := 9) hX dL_law_179 rfl ?_
  refine L_if_eq (pc := 181) (tgt := 306) hX dL_law_181 (by decide) (fun h181 => ?_) (fun h181 => absurd h181 (fun q => q nI_0))
  exact Lw.fg (by repeat (first | exact fgt_n | refine fgt_c (Or.inr rfl) ?_ | refine fgt_c (Or.inl rfl) ?_)) (l_306 (τ := σ) hX hp hR hs hL (by omega) h.n.1 h.n.2 st_12.1 st_12.2 rfl (by rw [if_pos rfl]) (fun _ q => absurd nI_0 q) h (add0 _) (ih _ _ _ _ h))
set_option maxRecDepth 100000 in
set_option maxHeartbeats 4000000 in
theorem l_iter {L : Nat} {xs : Nat → Int32} {X : XC} (hX : Cok X RL cL_law 15) (hp : Pok X) (hR : Rok X 20) (hs : Scr X L xs) (hL : L < 2 ^ 31) {N : Nat} (kk : ∀ dem bo P σ, LI L xs σ N dem bo P → Lw X 424 [some (.ref 52), some (.ref 0), some (.int (nI N)), some (.int (dem)), some (.int (bo)), some (.int (nI P)), some (.ref 53), some (.int (nI 20)), none, none, none, none, none, none, none] [] σ) (t : Nat) (ht : t ≤ 20) {σ : Mem} {dem bo : Int32} {P : Nat} (h : LI L xs σ N dem bo P) : Lw X 38 [some (.ref 52), some (.ref 0), some (.int (nI N)), some (.int (dem)), some (.int (bo)), some (.int (nI P)), some (.ref 53), some (.int (nI t)), none, none, none, none, none, none, none] [] σ := by
  have hN := h.mem.1
  refine L_iload (pc := 38) (i := 7) hX dL_law_38 rfl ?_
  refine L_bipush (pc := 40) (v := (nI 20)) hX dL_law_40 (by decide +kernel) ?_
  refine L_icmp_geN (pc := 42) (tgt := 424) hX dL_law_42 (by decide) (by omega) (by omega) (fun h42 => ?_) (fun h42 => ?_)
  · obtain rfl : t = 20 := by omega
    exact kk _ _ _ _ h
  · refine L_aload_n (pc := 45) (i := 0) hX dL_law_45 rfl rfl ?_
    refine L_bipush (pc := 46) (v := (nI 11)) hX dL_law_46 (by decide +kernel) ?_
    refine L_iload (pc := 48) (i := 7) hX dL_law_48 rfl ?_
    refine L_iadd (pc := 50) hX dL_law_50 ?_
    rw [nI_add]
    refine L_callSsi (pc := 51) hX hp (hR.mono (by omega)) mL_9 hs (c_cell hL _ (by omega) _) dL_law_51 rfl rfl rfl (Nat.le_of_ble_eq_true rfl) (rfl) ?_
    refine L_bipush (pc := 54) (v := (nI 13)) hX dL_law_54 (by decide +kernel) ?_
    refine L_callSsi (pc := 56) hX hp (hR.mono (by omega)) mL_15 hs (c_low _ _ (by decide) (by decide) _) dL_law_56 rfl rfl rfl (Nat.le_of_ble_eq_true rfl) (rfl) ?_
    refine L_istore8 (pc := 59) hX dL_law_59 rfl ?_
    refine L_iconst (pc := 61) (v := (nI 0)) hX dL_law_61 (by decide +kernel) ?_
    refine L_istore9 (pc := 62) hX dL_law_62 rfl ?_
    refine L_ldc (pc := 64) hX kL_32 dL_law_64 ?_
    refine L_istore10 (pc := 66) hX dL_law_66 rfl ?_
    refine L_iconst (pc := 68) (v := (nI 0)) hX dL_law_68 (by decide +kernel) ?_
    refine L_istore11 (pc := 69) hX dL_law_69 rfl ?_
    have hx := lowN_lt (v := cellF L xs (11 + t)) (n := 13) (by decide)
    generalize lowN (cellF L xs (11 + t)) 13 = x at hx ⊢
    have ih : ∀ dem2 bo2 P2 τ, LI L xs τ N dem2 bo2 P2 → Lw X 38 [some (.ref 52), some (.ref 0), some (.int (nI N)), some (.int (dem2)), some (.int (bo2)), some (.int (nI P2)), some (.ref 53), some (.int (nI (t + 1))), none, none, none, none, none, none, none] [] τ := fun dem2 bo2 P2 τ h2 => l_iter hX hp hR hs hL kk (t + 1) (by omega) h2
    by_cases q : x = 12
    · subst q
      exact l_had12 hX hp hR hs hL hN (l_176x hX hp hR hs hL h ih) 0 (Nat.zero_le _)
    · exact l_had hX hp hR hs hL hN (show x < 12 by omega) (l_176 hX hp hR hs hL (by omega) h ih) 0 (Nat.zero_le _)
termination_by 20 - t
end
section
/-! ===== the law's body: prices added, share, each set, the best ===== -/
theorem and1 (a b : Int32) : (a &&& b) &&& nI 1 = (a &&& nI 1) &&& (b &&& nI 1) := by
  apply b_ext
  intro i hi
  rw [b_and, b_and, b_and, b_and, b_and]
  cases bt a i <;> cases bt b i <;> cases bt (nI 1) i <;> rfl
theorem sbit2 {a b : Int32} {i : Nat} (h : i < 32) : ((a >>> (nI i &&& 31)) &&& (b >>> (nI i &&& 31))) &&& nI 1 = bI (bt a i && bt b i) := by
  rw [and1, sbit h, sbit h]
  cases bt a i <;> cases bt b i <;> decide +kernel
/-- of the first k sets, how many have the demanded thing i -/
def ofN (dem : Int32) (th : Nat → Int32) (i k : Nat) : Nat := if bt dem i then havf th i k else 0
theorem ofN_s {dem : Int32} {th : Nat → Int32} {i k : Nat} (h : i < 32) : nI (ofN dem th i k) + (((th k >>> (nI i &&& 31)) &&& (dem >>> (nI i &&& 31))) &&& nI 1) = nI (ofN dem th i (k + 1)) := by
  rw [sbit2 h, ofN, ofN, havf]
  cases bt dem i with
  | false =>
    rw [Bool.and_false, if_neg Bool.false_ne_true, if_neg Bool.false_ne_true]
    exact add0 _
  | true =>
    rw [Bool.and_true, if_pos rfl, if_pos rfl]
    cases bt (th k) i with
    | false => rw [if_neg Bool.false_ne_true]; exact add0 _
    | true => rw [if_pos rfl]; exact nI_1 _
theorem ofN_le {dem : Int32} {th : Nat → Int32} {i k : Nat} : ofN dem th i k ≤ k := by
  have := havf_le th i k
  unfold ofN
  split <;> omega
theorem sharf_s {dem : Int32} {th : Nat → Int32} {n i : Nat} (hn : n ≤ 10) : ∃ s : Nat, s ≤ 10 ∧ sharf dem th n i = nI s ∧ sharf dem th n (i + 1) = nI (max s (ofN dem th i n)) := by
  have key : ∀ i, ∃ s : Nat, s ≤ 10 ∧ sharf dem th n i = nI s := by
    intro i
    induction i with
    | zero => exact ⟨0, by omega, rfl⟩
    | succ i ih =>
      obtain ⟨s, h1, h2⟩ := ih
      have := havf_le th i n
      rw [sharf, h2]
      split
      · rw [imax_nI (by omega) (by omega)]
        exact ⟨_, by omega, rfl⟩
      · exact ⟨s, h1, rfl⟩
  obtain ⟨s, h1, h2⟩ := key i
  refine ⟨s, h1, h2, ?_⟩
  have := havf_le th i n
  rw [sharf, h2, ofN]
  split
  · rw [imax_nI (by omega) (by omega)]
  · rw [Nat.max_eq_left (Nat.zero_le s)]
theorem all_s {pr : Nat → Int32} {i : Nat} (h : i < 12) : pf (nI 4095) pr i + pr i = pf (nI 4095) pr (i + 1) := by
  rw [pf, b_4095, decide_eq_true h, if_pos rfl]
set_option maxRecDepth 100000 in
set_option maxHeartbeats 4000000 in
theorem l_of {L : Nat} {xs : Nat → Int32} {X : XC} (hX : Cok X RL cL_law 15) (hp : Pok X) (hR : Rok X 20) (hs : Scr X L xs) (hL : L < 2 ^ 31) {σ : Mem} {N i : Nat} {dem bo pd all sh : Int32} (hN : N ≤ 9) (hi : i < 12) (kk : Lw X 489 [some (.ref 52), some (.ref 0), some (.int (nI N)), some (.int (dem)), some (.int (bo)), some (.int (pd)), some (.ref 53), some (.int (all)), some (.int (sh)), some (.int (nI i)), some (.int (nI (ofN dem (thF L xs) i N))), some (.int (nI N)), none, none, none] [] σ) (k : Nat) (hk : k ≤ N) : Lw X 456 [some (.ref 52), some (.ref 0), some (.int (nI N)), some (.int (dem)), some (.int (bo)), some (.int (pd)), some (.ref 53), some (.int (all)), some (.int (sh)), some (.int (nI i)), some (.int (nI (ofN dem (thF L xs) i k))), some (.int (nI k)), none, none, none] [] σ := by
  refine L_iload (pc := 456) (i := 11) hX dL_law_456 rfl ?_
  refine L_iload_n (pc := 458) (i := 2) hX dL_law_458 rfl rfl ?_
  refine L_icmp_geN (pc := 459) (tgt := 489) hX dL_law_459 (by decide) (by omega) (by omega) (fun h459 => ?_) (fun h459 => ?_)
  · obtain rfl : k = N := by omega
    exact kk
  · refine L_iload (pc := 462) (i := 10) hX dL_law_462 rfl ?_
    refine L_aload_n (pc := 464) (i := 0) hX dL_law_464 rfl rfl ?_
    refine L_iload (pc := 465) (i := 11) hX dL_law_465 rfl ?_
    refine L_callSsi (pc := 467) hX hp (hR.mono (by omega)) mL_19 hs (c_things hL _ (by omega) _) dL_law_467 rfl rfl rfl (Nat.le_of_ble_eq_true rfl) (rfl) ?_
    refine L_iload (pc := 470) (i := 9) hX dL_law_470 rfl ?_
    refine L_ishr (pc := 472) hX dL_law_472 ?_
    refine L_iload_n (pc := 473) (i := 3) hX dL_law_473 rfl rfl ?_
    refine L_iload (pc := 474) (i := 9) hX dL_law_474 rfl ?_
    refine L_ishr (pc := 476) hX dL_law_476 ?_
    refine L_iand (pc := 477) hX dL_law_477 ?_
    refine L_iconst (pc := 478) (v := (nI 1)) hX dL_law_478 (by decide +kernel) ?_
    refine L_iand (pc := 479) hX dL_law_479 ?_
    refine L_iadd (pc := 480) hX dL_law_480 ?_
    refine L_istore10 (pc := 481) hX dL_law_481 rfl ?_
    refine L_iinc11 (pc := 483) hX dL_law_483 rfl (iinc1 _) ?_
    refine L_goto (pc := 486) (tgt := 456) hX dL_law_486 (by decide) ?_
    rw [ofN_s (by omega)]
    exact l_of hX hp hR hs hL hN hi kk (k + 1) (by omega)
termination_by N - k
set_option maxRecDepth 100000 in
set_option maxHeartbeats 4000000 in
theorem l_489 {L : Nat} {xs : Nat → Int32} {X : XC} (hX : Cok X RL cL_law 15) (hp : Pok X) (hR : Rok X 20) (hs : Scr X L xs) (hL : L < 2 ^ 31) {σ : Mem} {N i s w : Nat} {dem bo pd all v : Int32} (hs1 : s ≤ 10) (hw : w ≤ 10) (ih : Lw X 433 [some (.ref 52), some (.ref 0), some (.int (nI N)), some (.int (dem)), some (.int (bo)), some (.int (pd)), some (.ref 53), some (.int (all)), some (.int (nI (max s w))), some (.int (nI (i + 1))), none, none, none, none, none] [] σ) : Lw X 489 [some (.ref 52), some (.ref 0), some (.int (nI N)), some (.int (dem)), some (.int (bo)), some (.int (pd)), some (.ref 53), some (.int (all)), some (.int (nI s)), some (.int (nI i)), some (.int (nI w)), some (.int (v)), none, none, none] [] σ := by
  refine L_iload (pc := 489) (i := 10) hX dL_law_489 rfl ?_
  refine L_iload (pc := 491) (i := 8) hX dL_law_491 rfl ?_
  refine L_icmp_leN (pc := 493) (tgt := 501) hX dL_law_493 (by decide) (by omega) (by omega) (fun h493 => ?_) (fun h493 => ?_)
  · refine L_iload (pc := 501) (i := 8) hX dL_law_501 rfl ?_
    refine L_istore8 (pc := 503) hX dL_law_503 rfl ?_
    refine L_iinc9 (pc := 505) hX dL_law_505 rfl (iinc1 _) ?_
    refine L_goto (pc := 508) (tgt := 433) hX dL_law_508 (by decide) ?_
    rw [Nat.max_eq_left (by omega)] at ih
    exact Lw.fg (by repeat (first | exact fgt_n | refine fgt_c (Or.inr rfl) ?_ | refine fgt_c (Or.inl rfl) ?_)) ih
  · refine L_iload (pc := 496) (i := 10) hX dL_law_496 rfl ?_
    refine L_goto (pc := 498) (tgt := 503) hX dL_law_498 (by decide) ?_
    refine L_istore8 (pc := 503) hX dL_law_503 rfl ?_
    refine L_iinc9 (pc := 505) hX dL_law_505 rfl (iinc1 _) ?_
    refine L_goto (pc := 508) (tgt := 433) hX dL_law_508 (by decide) ?_
    rw [Nat.max_eq_right (by omega)] at ih
    exact Lw.fg (by repeat (first | exact fgt_n | refine fgt_c (Or.inr rfl) ?_ | refine fgt_c (Or.inl rfl) ?_)) ih
set_option maxRecDepth 100000 in
set_option maxHeartbeats 4000000 in
theorem l_all {L : Nat} {xs : Nat → Int32} {X : XC} (hX : Cok X RL cL_law 15) (hp : Pok X) (hR : Rok X 20) (hs : Scr X L xs) (hL : L < 2 ^ 31) {σ : Mem} {N : Nat} {dem bo pd : Int32} (hN : N ≤ 9) (kk : Lw X 511 [some (.ref 52), some (.ref 0), some (.int (nI N)), some (.int (dem)), some (.int (bo)), some (.int (pd)), some (.ref 53), some (.int (pf (nI 4095) (σ 53) 12)), some (.int (sharf dem (thF L xs) N 12)), some (.int (nI 12)), none, none, none, none, none] [] σ) (i : Nat) (hi : i ≤ 12) : Lw X 433 [some (.ref 52), some (.ref 0), some (.int (nI N)), some (.int (dem)), some (.int (bo)), some (.int (pd)), some (.ref 53), some (.int (pf (nI 4095) (σ 53) i)), some (.int (sharf dem (thF L xs) N i)), some (.int (nI i)), none, none, none, none, none] [] σ := by
  refine L_iload (pc := 433) (i := 9) hX dL_law_433 rfl ?_
  refine L_bipush (pc := 435) (v := (nI 12)) hX dL_law_435 (by decide +kernel) ?_
  refine L_icmp_geN (pc := 437) (tgt := 511) hX dL_law_437 (by decide) (by omega) (by omega) (fun h437 => ?_) (fun h437 => ?_)
  · obtain rfl : i = 12 := by omega
    exact kk
  · refine L_iload (pc := 440) (i := 7) hX dL_law_440 rfl ?_
    refine L_aload (pc := 442) (i := 6) hX dL_law_442 rfl ?_
    refine L_iload (pc := 444) (i := 9) hX dL_law_444 rfl ?_
    refine L_pld (pc := 446) hX dL_law_446 (rfl) (by omega) ?_
    refine L_iadd (pc := 447) hX dL_law_447 ?_
    refine L_istore7 (pc := 448) hX dL_law_448 rfl ?_
    refine L_iconst (pc := 450) (v := (nI 0)) hX dL_law_450 (by decide +kernel) ?_
    refine L_istore10 (pc := 451) hX dL_law_451 rfl ?_
    refine L_iconst (pc := 453) (v := (nI 0)) hX dL_law_453 (by decide +kernel) ?_
    refine L_istore11 (pc := 454) hX dL_law_454 rfl ?_
    have ih := l_all hX hp hR hs hL hN kk (i + 1) (by omega)
    rw [all_s (by omega)]
    obtain ⟨s, s1, s2, s3⟩ := sharf_s (dem := dem) (th := thF L xs) (n := N) (i := i) (by omega)
    rw [s3] at ih
    rw [s2]
    have hw := ofN_le (dem := dem) (th := thF L xs) (i := i) (k := N)
    refine Lw.mem rfl (l_of hX hp hR hs hL hN (by omega) (l_489 hX hp hR hs hL s1 (by omega) ih) 0 (Nat.zero_le _) |> fun q => ?_)
    have e0 : ofN dem (thF L xs) i 0 = 0 := by rw [ofN]; split <;> rfl
    rw [e0] at q
    exact q
termination_by 12 - i
end
section
/-! ===== the law's body: each set ===== -/
theorem LI.ok {L : Nat} {xs : Nat → Int32} {σ τ : Mem} {N P : Nat} {dem bo : Int32} (h : LI L xs σ N dem bo P) (g : okA σ τ) : LI L xs τ N dem bo P := by
  unfold LI
  rw [g.1 2 (by decide) (by decide) (by decide), g.1 17 (by decide) (by decide) (by decide), g.1 18 (by decide) (by decide) (by decide), g.1 19 (by decide) (by decide) (by decide), g.1 53 (by decide) (by decide) (by decide)]
  exact ⟨h.1, h.2.1, h.2.2.1, h.2.2.2.1, h.2.2.2.2.1, g.2, h.2.2.2.2.2.2⟩
theorem LI_pf {L : Nat} {xs : Nat → Int32} {σ : Mem} {N P k : Nat} {dem bo : Int32} (h : LI L xs σ N dem bo P) (hk : k < N) : pf (σ 18 k) (σ 19) 12 = pf (thF L xs k) (σ 53) 12 := by
  rw [(h.2.1 k hk).2]
  exact (pf_cg 12 h.2.2.2.2.1).symm
theorem LI.fill {L : Nat} {xs : Nat → Int32} {σ : Mem} {N P k : Nat} {dem bo : Int32} (h : LI L xs σ N dem bo P) (hk : k < N) : ∃ y : Nat, pf (thF L xs k) (σ 53) 12 = nI y ∧ y ≤ coN L xs k ∧ (bt bo k = true → y = coN L xs k) := by
  obtain ⟨x, y, a1, a2, a3, a4, a5⟩ := h.2.2.1.1 k hk
  have hc := coN_le (L := L) (xs := xs) (k := k)
  have ex : x = coN L xs k := by
    have e := (h.2.1 k hk).1
    rw [a3] at e
    have e2 := congrArg tn (show nI x = nI (coN L xs k) from e)
    rwa [tn_nI (by omega), tn_nI (by omega)] at e2
  refine ⟨y, by rw [← LI_pf h hk, a5], by omega, fun hb => ?_⟩
  have e := h.2.2.2.2.2.2.1 k hk hb
  rw [a5, a3] at e
  have e2 := congrArg tn e
  rw [tn_nI (by omega), tn_nI (by omega)] at e2
  omega
theorem k_told2 {L : Nat} {xs : Nat → Int32} {σ : Mem} {N P k : Nat} {dem bo : Int32} (h : LI L xs σ N dem bo P) (hk : k < N) : Cc yX5_told cX5_told 3 (some .int) 4 [.ref 0, .int (nI k), .int (nI 2)] σ (rI (pf (thF L xs k) (σ 53) 12) σ) := by
  have c := c_told N (nI k) (nI 2) σ h.n.1 h.n.2
  have hN := h.n.2
  rw [toldF, if_pos (inr_nI hk (by omega)), if_neg (by decide +kernel), if_neg (by decide +kernel), if_pos rfl, tn_nI (by omega), LI_pf h hk] at c
  exact c
theorem k_told3 {L : Nat} {xs : Nat → Int32} {σ : Mem} {N P k : Nat} {dem bo : Int32} (h : LI L xs σ N dem bo P) (hk : k < N) : Cc yX5_told cX5_told 3 (some .int) 4 [.ref 0, .int (nI k), .int (nI 3)] σ (rI (bI (bt bo k)) σ) := by
  have c := c_told N (nI k) (nI 3) σ h.n.1 h.n.2
  have hN := h.n.2
  rw [toldF, if_pos (inr_nI hk (by omega)), if_neg (by decide +kernel), if_neg (by decide +kernel), if_neg (by decide +kernel), if_pos rfl, tn_nI (by omega), h.2.2.2.1.2.1] at c
  exact c
/-- the kind of the set k -/
def kdF (L : Nat) (xs : Nat → Int32) (bo : Int32) (pr : Nat → Int32) (k : Nat) : Int32 := kindf bo k (pf (thF L xs k) pr 12) (nI (coN L xs k))
theorem k_kind {L : Nat} {xs : Nat → Int32} {σ : Mem} {N P k : Nat} {dem bo : Int32} (h : LI L xs σ N dem bo P) (hk : k < N) : Cc yX5_kind cX5_kind 2 (some .int) 5 [.ref 0, .int (nI k)] σ (rI (kdF L xs bo (σ 53) k) σ) := by
  have c := c_kind N (nI k) σ h.n.1 h.n.2
  have hN := h.n.2
  rw [kindF, if_pos (inr_nI hk (by omega)), tn_nI (by omega), LI_pf h hk, h.2.2.2.1.2.1, (h.2.1 k hk).1] at c
  exact c
theorem LI.hs {L : Nat} {xs : Nat → Int32} {σ : Mem} {N P k : Nat} {dem bo : Int32} (h : LI L xs σ N dem bo P) (hk : k < N) : HS N k (coN L xs k) (popn (thF L xs k) 12) (pf (thF L xs k) (σ 53) 12) (kdF L xs bo (σ 53) k) σ := by
  have c := h.2.1 k hk
  obtain ⟨m, m1, m2, m3⟩ := thX_ok (cellF L xs (1 + k))
  have m4 : thF L xs k = nI m := m3
  refine ⟨h.n.1, h.n.2, hk, c.1, ?_, LI_pf h hk, by rw [h.2.2.2.1.2.1]; rfl, h.2.2.2.2.2.1⟩
  rw [c.2, m4, bcF_pop m m2]
set_option maxRecDepth 100000 in
set_option maxHeartbeats 4000000 in
theorem l_fill {L : Nat} {xs : Nat → Int32} {X : XC} (hX : Cok X RL cL_law 15) (hp : Pok X) (hR : Rok X 20) (hs : Scr X L xs) (hL : L < 2 ^ 31) {σ : Mem} {N k : Nat} {dem bo pd all sh near : Int32} (hk : k < 100) (kk : Lw X 564 [some (.ref 52), some (.ref 0), some (.int (nI N)), some (.int (dem)), some (.int (bo)), some (.int (pd)), some (.ref 53), some (.int (all)), some (.int (sh)), some (.int (near)), some (.int (nI k)), some (.int (pf (thF L xs k) (σ 53) 12)), some (.int (nI 12)), none, none] [] σ) (i : Nat) (hi : i ≤ 12) : Lw X 529 [some (.ref 52), some (.ref 0), some (.int (nI N)), some (.int (dem)), some (.int (bo)), some (.int (pd)), some (.ref 53), some (.int (all)), some (.int (sh)), some (.int (near)), some (.int (nI k)), some (.int (pf (thF L xs k) (σ 53) i)), some (.int (nI i)), none, none] [] σ := by
  refine L_iload (pc := 529) (i := 12) hX dL_law_529 rfl ?_
  refine L_bipush (pc := 531) (v := (nI 12)) hX dL_law_531 (by decide +kernel) ?_
  refine L_icmp_geN (pc := 533) (tgt := 564) hX dL_law_533 (by decide) (by omega) (by omega) (fun h533 => ?_) (fun h533 => ?_)
  · obtain rfl : i = 12 := by omega
    exact kk
  · refine L_iload (pc := 536) (i := 11) hX dL_law_536 rfl ?_
    refine L_aload_n (pc := 538) (i := 0) hX dL_law_538 rfl rfl ?_
    refine L_iload (pc := 539) (i := 10) hX dL_law_539 rfl ?_
    refine L_callSsi (pc := 541) hX hp (hR.mono (by omega)) mL_19 hs (c_things hL _ hk _) dL_law_541 rfl rfl rfl (Nat.le_of_ble_eq_true rfl) (rfl) ?_
    refine L_iload (pc := 544) (i := 12) hX dL_law_544 rfl ?_
    refine L_ishr (pc := 546) hX dL_law_546 ?_
    refine L_iconst (pc := 547) (v := (nI 1)) hX dL_law_547 (by decide +kernel) ?_
    refine L_iand (pc := 548) hX dL_law_548 ?_
    refine L_aload (pc := 549) (i := 6) hX dL_law_549 rfl ?_
    refine L_iload (pc := 551) (i := 12) hX dL_law_551 rfl ?_
    refine L_pld (pc := 553) hX dL_law_553 (rfl) (by omega) ?_
    refine L_imul (pc := 554) hX dL_law_554 ?_
    refine L_iadd (pc := 555) hX dL_law_555 ?_
    refine L_istore11 (pc := 556) hX dL_law_556 rfl ?_
    refine L_iinc12 (pc := 558) hX dL_law_558 rfl (iinc1 _) ?_
    refine L_goto (pc := 561) (tgt := 529) hX dL_law_561 (by decide) ?_
    rw [fill_s (by omega)]
    exact l_fill hX hp hR hs hL hk kk (i + 1) (by omega)
termination_by 12 - i
set_option maxRecDepth 100000 in
set_option maxHeartbeats 4000000 in
theorem l_708 {L : Nat} {xs : Nat → Int32} {X : XC} (hX : Cok X RL cL_law 15) (hp : Pok X) (hR : Rok X 20) (hs : Scr X L xs) (hL : L < 2 ^ 31) {σ τ : Mem} {N k : Nat} {dem bo pd all sh near v11 v12 v13 : Int32} {r : Option Value} (hq : r = some (.int (nI 1)) ∧ okA σ τ) (ih : ∀ τ, okA σ τ → Lw X 517 [some (.ref 52), some (.ref 0), some (.int (nI N)), some (.int (dem)), some (.int (bo)), some (.int (pd)), some (.ref 53), some (.int (all)), some (.int (sh)), some (.int (near)), some (.int (nI (k + 1))), none, none, none, none] [] τ) : Lw X 708 [some (.ref 52), some (.ref 0), some (.int (nI N)), some (.int (dem)), some (.int (bo)), some (.int (pd)), some (.ref 53), some (.int (all)), some (.int (sh)), some (.int (near)), some (.int (nI k)), some (.int (v11)), some (.int (v12)), some (.int (v13)), none] (r.toList ++ []) τ := by
  obtain ⟨rfl, hok⟩ := hq
  show Lw X 708 [some (.ref 52), some (.ref 0), some (.int (nI N)), some (.int (dem)), some (.int (bo)), some (.int (pd)), some (.ref 53), some (.int (all)), some (.int (sh)), some (.int (near)), some (.int (nI k)), some (.int (v11)), some (.int (v12)), some (.int (v13)), none] [.int (nI 1)] τ
  refine L_if_ne (pc := 708) (tgt := 713) hX dL_law_708 (by decide) (fun h708 => ?_) (fun h708 => absurd h708 ((by decide +kernel)))
  refine L_iinc10 (pc := 713) hX dL_law_713 rfl (iinc1 _) ?_
  refine L_goto (pc := 716) (tgt := 517) hX dL_law_716 (by decide) ?_
  exact Lw.fg (by repeat (first | exact fgt_n | refine fgt_c (Or.inr rfl) ?_ | refine fgt_c (Or.inl rfl) ?_)) (ih τ hok)
set_option maxRecDepth 100000 in
set_option maxHeartbeats 4000000 in
theorem l_627 {L : Nat} {xs : Nat → Int32} {X : XC} (hX : Cok X RL cL_law 15) (hp : Pok X) (hR : Rok X 20) (hs : Scr X L xs) (hL : L < 2 ^ 31) {σ : Mem} {N P k : Nat} {dem bo pd all sh near : Int32} (h : LI L xs σ N dem bo P) (hk : k < N) (ih : ∀ τ, okA σ τ → Lw X 517 [some (.ref 52), some (.ref 0), some (.int (nI N)), some (.int (dem)), some (.int (bo)), some (.int (pd)), some (.ref 53), some (.int (all)), some (.int (sh)), some (.int (near)), some (.int (nI (k + 1))), none, none, none, none] [] τ) : Lw X 627 [some (.ref 52), some (.ref 0), some (.int (nI N)), some (.int (dem)), some (.int (bo)), some (.int (pd)), some (.ref 53), some (.int (all)), some (.int (sh)), some (.int (near)), some (.int (nI k)), some (.int (pf (thF L xs k) (σ 53) 12)), some (.int (bI (bt bo k))), some (.int (kdF L xs bo (σ 53) k)), none] [] σ := by
  have hN := h.mem.1
  obtain ⟨y, y1, y2, y3⟩ := h.fill hk
  have hc := coN_le (L := L) (xs := xs) (k := k)
  have hle : ¬ nI (coN L xs k) < pf (thF L xs k) (σ 53) 12 := by
    rw [y1, nI_ltI (by omega) (by omega)]
    omega
  have heq : bt bo k = true → pf (thF L xs k) (σ 53) 12 = nI (coN L xs k) := fun q => by rw [y1, y3 q]
  refine L_iload (pc := 627) (i := 11) hX dL_law_627 rfl ?_
  refine L_aload_n (pc := 629) (i := 0) hX dL_law_629 rfl rfl ?_
  refine L_iload (pc := 630) (i := 10) hX dL_law_630 rfl ?_
  refine L_callSsi (pc := 632) hX hp (hR.mono (by omega)) mL_33 hs (c_cost hL _ (by omega) _) dL_law_632 rfl rfl rfl (Nat.le_of_ble_eq_true rfl) (rfl) ?_
  refine L_icmp_gt (pc := 635) (tgt := 711) hX dL_law_635 (by decide) (fun h635 => absurd h635 (hle)) (fun h635 => ?_)
  refine L_iload (pc := 638) (i := 12) hX dL_law_638 rfl ?_
  refine L_if_eqB (pc := 640) (tgt := 654) hX dL_law_640 (by decide) (fun h640 => ?_) (fun h640 => ?_)
  · refine L_aload_n (pc := 654) (i := 1) hX dL_law_654 rfl rfl ?_
    refine L_iload (pc := 655) (i := 10) hX dL_law_655 rfl ?_
    refine L_iconst (pc := 657) (v := (nI 2)) hX dL_law_657 (by decide +kernel) ?_
    refine L_callVi (pc := 658) hX hp (hR.mono (by omega)) mL_48 (k_told2 h hk) dL_law_658 rfl rfl rfl rfl (Nat.le_of_ble_eq_true rfl) (rfl) ?_
    refine L_iload (pc := 661) (i := 11) hX dL_law_661 rfl ?_
    refine L_icmp_ne (pc := 663) (tgt := 711) hX dL_law_663 (by decide) (fun h663 => absurd h663 (fun q => q rfl)) (fun h663 => ?_)
    refine L_aload_n (pc := 666) (i := 1) hX dL_law_666 rfl rfl ?_
    refine L_iload (pc := 667) (i := 10) hX dL_law_667 rfl ?_
    refine L_iconst (pc := 669) (v := (nI 3)) hX dL_law_669 (by decide +kernel) ?_
    refine L_callVi (pc := 670) hX hp (hR.mono (by omega)) mL_48 (k_told3 h hk) dL_law_670 rfl rfl rfl rfl (Nat.le_of_ble_eq_true rfl) (rfl) ?_
    refine L_iload (pc := 673) (i := 12) hX dL_law_673 rfl ?_
    refine L_if_eqB (pc := 675) (tgt := 682) hX dL_law_675 (by decide) (fun h675 => ?_) (fun h675 => ?_)
    · refine L_iconst (pc := 682) (v := (nI 0)) hX dL_law_682 (by decide +kernel) ?_
      refine L_icmp_ne (pc := 683) (tgt := 711) hX dL_law_683 (by decide) (fun h683 => absurd h683 (fun q => q (by rw [h675]; rfl))) (fun h683 => ?_)
      refine L_aload_n (pc := 686) (i := 1) hX dL_law_686 rfl rfl ?_
      refine L_iload (pc := 687) (i := 10) hX dL_law_687 rfl ?_
      refine L_callVi (pc := 689) hX hp (hR.mono (by omega)) mL_51 (k_kind h hk) dL_law_689 rfl rfl rfl rfl (Nat.le_of_ble_eq_true rfl) (rfl) ?_
      refine L_iload (pc := 692) (i := 13) hX dL_law_692 rfl ?_
      refine L_icmp_ne (pc := 694) (tgt := 711) hX dL_law_694 (by decide) (fun h694 => absurd h694 (fun q => q rfl)) (fun h694 => ?_)
      refine L_aload_n (pc := 697) (i := 1) hX dL_law_697 rfl rfl ?_
      refine L_aload_n (pc := 698) (i := 0) hX dL_law_698 rfl rfl ?_
      refine L_iload (pc := 699) (i := 10) hX dL_law_699 rfl ?_
      refine L_iload (pc := 701) (i := 13) hX dL_law_701 rfl ?_
      refine L_iload (pc := 703) (i := 11) hX dL_law_703 rfl ?_
      refine L_callSs (pc := 705) hX hp (hR.mono (by omega)) mL_54 hs (c_asked hL σ (h.hs hk)) dL_law_705 rfl rfl rfl (Nat.le_of_ble_eq_true rfl) (fun r τ q => q.2.1 53 (by decide) (by decide) (by decide)) (fun r τ q => l_708 hX hp hR hs hL q ih)
    · refine L_iconst (pc := 678) (v := (nI 1)) hX dL_law_678 (by decide +kernel) ?_
      refine L_goto (pc := 679) (tgt := 683) hX dL_law_679 (by decide) ?_
      refine L_icmp_ne (pc := 683) (tgt := 711) hX dL_law_683 (by decide) (fun h683 => absurd h683 (fun q => q (by rw [h675]; rfl))) (fun h683 => ?_)
      refine L_aload_n (pc := 686) (i := 1) hX dL_law_686 rfl rfl ?_
      refine L_iload (pc := 687) (i := 10) hX dL_law_687 rfl ?_
      refine L_callVi (pc := 689) hX hp (hR.mono (by omega)) mL_51 (k_kind h hk) dL_law_689 rfl rfl rfl rfl (Nat.le_of_ble_eq_true rfl) (rfl) ?_
      refine L_iload (pc := 692) (i := 13) hX dL_law_692 rfl ?_
      refine L_icmp_ne (pc := 694) (tgt := 711) hX dL_law_694 (by decide) (fun h694 => absurd h694 (fun q => q rfl)) (fun h694 => ?_)
      refine L_aload_n (pc := 697) (i := 1) hX dL_law_697 rfl rfl ?_
      refine L_aload_n (pc := 698) (i := 0) hX dL_law_698 rfl rfl ?_
      refine L_iload (pc := 699) (i := 10) hX dL_law_699 rfl ?_
      refine L_iload (pc := 701) (i := 13) hX dL_law_701 rfl ?_
      refine L_iload (pc := 703) (i := 11) hX dL_law_703 rfl ?_
      refine L_callSs (pc := 705) hX hp (hR.mono (by omega)) mL_54 hs (c_asked hL σ (h.hs hk)) dL_law_705 rfl rfl rfl (Nat.le_of_ble_eq_true rfl) (fun r τ q => q.2.1 53 (by decide) (by decide) (by decide)) (fun r τ q => l_708 hX hp hR hs hL q ih)
  · refine L_iload (pc := 643) (i := 11) hX dL_law_643 rfl ?_
    refine L_aload_n (pc := 645) (i := 0) hX dL_law_645 rfl rfl ?_
    refine L_iload (pc := 646) (i := 10) hX dL_law_646 rfl ?_
    refine L_callSsi (pc := 648) hX hp (hR.mono (by omega)) mL_33 hs (c_cost hL _ (by omega) _) dL_law_648 rfl rfl rfl (Nat.le_of_ble_eq_true rfl) (rfl) ?_
    refine L_icmp_ne (pc := 651) (tgt := 711) hX dL_law_651 (by decide) (fun h651 => absurd h651 (fun q => q (heq h640))) (fun h651 => ?_)
    refine L_aload_n (pc := 654) (i := 1) hX dL_law_654 rfl rfl ?_
    refine L_iload (pc := 655) (i := 10) hX dL_law_655 rfl ?_
    refine L_iconst (pc := 657) (v := (nI 2)) hX dL_law_657 (by decide +kernel) ?_
    refine L_callVi (pc := 658) hX hp (hR.mono (by omega)) mL_48 (k_told2 h hk) dL_law_658 rfl rfl rfl rfl (Nat.le_of_ble_eq_true rfl) (rfl) ?_
    refine L_iload (pc := 661) (i := 11) hX dL_law_661 rfl ?_
    refine L_icmp_ne (pc := 663) (tgt := 711) hX dL_law_663 (by decide) (fun h663 => absurd h663 (fun q => q rfl)) (fun h663 => ?_)
    refine L_aload_n (pc := 666) (i := 1) hX dL_law_666 rfl rfl ?_
    refine L_iload (pc := 667) (i := 10) hX dL_law_667 rfl ?_
    refine L_iconst (pc := 669) (v := (nI 3)) hX dL_law_669 (by decide +kernel) ?_
    refine L_callVi (pc := 670) hX hp (hR.mono (by omega)) mL_48 (k_told3 h hk) dL_law_670 rfl rfl rfl rfl (Nat.le_of_ble_eq_true rfl) (rfl) ?_
    refine L_iload (pc := 673) (i := 12) hX dL_law_673 rfl ?_
    refine L_if_eqB (pc := 675) (tgt := 682) hX dL_law_675 (by decide) (fun h675 => ?_) (fun h675 => ?_)
    · refine L_iconst (pc := 682) (v := (nI 0)) hX dL_law_682 (by decide +kernel) ?_
      refine L_icmp_ne (pc := 683) (tgt := 711) hX dL_law_683 (by decide) (fun h683 => absurd h683 (fun q => q (by rw [h675]; rfl))) (fun h683 => ?_)
      refine L_aload_n (pc := 686) (i := 1) hX dL_law_686 rfl rfl ?_
      refine L_iload (pc := 687) (i := 10) hX dL_law_687 rfl ?_
      refine L_callVi (pc := 689) hX hp (hR.mono (by omega)) mL_51 (k_kind h hk) dL_law_689 rfl rfl rfl rfl (Nat.le_of_ble_eq_true rfl) (rfl) ?_
      refine L_iload (pc := 692) (i := 13) hX dL_law_692 rfl ?_
      refine L_icmp_ne (pc := 694) (tgt := 711) hX dL_law_694 (by decide) (fun h694 => absurd h694 (fun q => q rfl)) (fun h694 => ?_)
      refine L_aload_n (pc := 697) (i := 1) hX dL_law_697 rfl rfl ?_
      refine L_aload_n (pc := 698) (i := 0) hX dL_law_698 rfl rfl ?_
      refine L_iload (pc := 699) (i := 10) hX dL_law_699 rfl ?_
      refine L_iload (pc := 701) (i := 13) hX dL_law_701 rfl ?_
      refine L_iload (pc := 703) (i := 11) hX dL_law_703 rfl ?_
      refine L_callSs (pc := 705) hX hp (hR.mono (by omega)) mL_54 hs (c_asked hL σ (h.hs hk)) dL_law_705 rfl rfl rfl (Nat.le_of_ble_eq_true rfl) (fun r τ q => q.2.1 53 (by decide) (by decide) (by decide)) (fun r τ q => l_708 hX hp hR hs hL q ih)
    · refine L_iconst (pc := 678) (v := (nI 1)) hX dL_law_678 (by decide +kernel) ?_
      refine L_goto (pc := 679) (tgt := 683) hX dL_law_679 (by decide) ?_
      refine L_icmp_ne (pc := 683) (tgt := 711) hX dL_law_683 (by decide) (fun h683 => absurd h683 (fun q => q (by rw [h675]; rfl))) (fun h683 => ?_)
      refine L_aload_n (pc := 686) (i := 1) hX dL_law_686 rfl rfl ?_
      refine L_iload (pc := 687) (i := 10) hX dL_law_687 rfl ?_
      refine L_callVi (pc := 689) hX hp (hR.mono (by omega)) mL_51 (k_kind h hk) dL_law_689 rfl rfl rfl rfl (Nat.le_of_ble_eq_true rfl) (rfl) ?_
      refine L_iload (pc := 692) (i := 13) hX dL_law_692 rfl ?_
      refine L_icmp_ne (pc := 694) (tgt := 711) hX dL_law_694 (by decide) (fun h694 => absurd h694 (fun q => q rfl)) (fun h694 => ?_)
      refine L_aload_n (pc := 697) (i := 1) hX dL_law_697 rfl rfl ?_
      refine L_aload_n (pc := 698) (i := 0) hX dL_law_698 rfl rfl ?_
      refine L_iload (pc := 699) (i := 10) hX dL_law_699 rfl ?_
      refine L_iload (pc := 701) (i := 13) hX dL_law_701 rfl ?_
      refine L_iload (pc := 703) (i := 11) hX dL_law_703 rfl ?_
      refine L_callSs (pc := 705) hX hp (hR.mono (by omega)) mL_54 hs (c_asked hL σ (h.hs hk)) dL_law_705 rfl rfl rfl (Nat.le_of_ble_eq_true rfl) (fun r τ q => q.2.1 53 (by decide) (by decide) (by decide)) (fun r τ q => l_708 hX hp hR hs hL q ih)
set_option maxRecDepth 100000 in
set_option maxHeartbeats 4000000 in
theorem l_611 {L : Nat} {xs : Nat → Int32} {X : XC} (hX : Cok X RL cL_law 15) (hp : Pok X) (hR : Rok X 20) (hs : Scr X L xs) (hL : L < 2 ^ 31) {σ : Mem} {N P k : Nat} {dem bo pd all sh : Int32} (h : LI L xs σ N dem bo P) (hk : k < N) (ih : ∀ τ, okA σ τ → Lw X 517 [some (.ref 52), some (.ref 0), some (.int (nI N)), some (.int (dem)), some (.int (bo)), some (.int (pd)), some (.ref 53), some (.int (all)), some (.int (sh)), some (.int (nI (nearf bo (cF L xs) (thF L xs) (σ 53) (k + 1)))), some (.int (nI (k + 1))), none, none, none, none] [] τ) : Lw X 611 [some (.ref 52), some (.ref 0), some (.int (nI N)), some (.int (dem)), some (.int (bo)), some (.int (pd)), some (.ref 53), some (.int (all)), some (.int (sh)), some (.int (nI (nearf bo (cF L xs) (thF L xs) (σ 53) k))), some (.int (nI k)), some (.int (pf (thF L xs k) (σ 53) 12)), some (.int (bI (bt bo k))), some (.int (kdF L xs bo (σ 53) k)), none] [] σ := by
  refine L_iload (pc := 611) (i := 9) hX dL_law_611 rfl ?_
  refine L_iload (pc := 613) (i := 13) hX dL_law_613 rfl ?_
  refine L_iconst (pc := 615) (v := (nI 2)) hX dL_law_615 (by decide +kernel) ?_
  refine L_icmp_ne (pc := 616) (tgt := 623) hX dL_law_616 (by decide) (fun h616 => ?_) (fun h616 => ?_)
  · refine L_iconst (pc := 623) (v := (nI 0)) hX dL_law_623 (by decide +kernel) ?_
    refine L_iadd (pc := 624) hX dL_law_624 ?_
    refine L_istore9 (pc := 625) hX dL_law_625 rfl ?_
    rw [add0]
    rw [nearf, if_neg (show ¬ kindf bo k (pf (thF L xs k) (σ 53) 12) (cF L xs k) = nI 2 from h616)] at ih
    exact l_627 hX hp hR hs hL h hk ih
  · refine L_iconst (pc := 619) (v := (nI 1)) hX dL_law_619 (by decide +kernel) ?_
    refine L_goto (pc := 620) (tgt := 624) hX dL_law_620 (by decide) ?_
    refine L_iadd (pc := 624) hX dL_law_624 ?_
    refine L_istore9 (pc := 625) hX dL_law_625 rfl ?_
    rw [nI_add]
    rw [nearf, if_pos (show kindf bo k (pf (thF L xs k) (σ 53) 12) (cF L xs k) = nI 2 from h616)] at ih
    exact l_627 hX hp hR hs hL h hk ih
set_option maxRecDepth 100000 in
set_option maxHeartbeats 4000000 in
theorem l_582 {L : Nat} {xs : Nat → Int32} {X : XC} (hX : Cok X RL cL_law 15) (hp : Pok X) (hR : Rok X 20) (hs : Scr X L xs) (hL : L < 2 ^ 31) {σ : Mem} {N P k : Nat} {dem bo pd all sh : Int32} (h : LI L xs σ N dem bo P) (hk : k < N) (ih : ∀ τ, okA σ τ → Lw X 517 [some (.ref 52), some (.ref 0), some (.int (nI N)), some (.int (dem)), some (.int (bo)), some (.int (pd)), some (.ref 53), some (.int (all)), some (.int (sh)), some (.int (nI (nearf bo (cF L xs) (thF L xs) (σ 53) (k + 1)))), some (.int (nI (k + 1))), none, none, none, none] [] τ) : Lw X 582 [some (.ref 52), some (.ref 0), some (.int (nI N)), some (.int (dem)), some (.int (bo)), some (.int (pd)), some (.ref 53), some (.int (all)), some (.int (sh)), some (.int (nI (nearf bo (cF L xs) (thF L xs) (σ 53) k))), some (.int (nI k)), some (.int (pf (thF L xs k) (σ 53) 12)), some (.int (bI (bt bo k))), none, none] [] σ := by
  have hN := h.mem.1
  have r := l_611 hX hp hR hs hL h hk ih
  refine L_iload (pc := 582) (i := 12) hX dL_law_582 rfl ?_
  refine L_if_eqB (pc := 584) (tgt := 591) hX dL_law_584 (by decide) (fun h584 => ?_) (fun h584 => ?_)
  · refine L_iconst (pc := 591) (v := (nI 2)) hX dL_law_591 (by decide +kernel) ?_
    refine L_iload (pc := 592) (i := 11) hX dL_law_592 rfl ?_
    refine L_imul (pc := 594) hX dL_law_594 ?_
    refine L_aload_n (pc := 595) (i := 0) hX dL_law_595 rfl rfl ?_
    refine L_iload (pc := 596) (i := 10) hX dL_law_596 rfl ?_
    refine L_callSsi (pc := 598) hX hp (hR.mono (by omega)) mL_33 hs (c_cost hL _ (by omega) _) dL_law_598 rfl rfl rfl (Nat.le_of_ble_eq_true rfl) (rfl) ?_
    refine L_icmp_lt (pc := 601) (tgt := 608) hX dL_law_601 (by decide) (fun h601 => ?_) (fun h601 => ?_)
    · refine L_iconst (pc := 608) (v := (nI 1)) hX dL_law_608 (by decide +kernel) ?_
      refine L_istore13 (pc := 609) hX dL_law_609 rfl ?_
      rw [kdF, kindf, h584, if_neg Bool.false_ne_true, if_pos h601] at r
      rw [h584]
      exact r
    · refine L_iconst (pc := 604) (v := (nI 2)) hX dL_law_604 (by decide +kernel) ?_
      refine L_goto (pc := 605) (tgt := 609) hX dL_law_605 (by decide) ?_
      refine L_istore13 (pc := 609) hX dL_law_609 rfl ?_
      rw [kdF, kindf, h584, if_neg Bool.false_ne_true, if_neg h601] at r
      rw [h584]
      exact r
  · refine L_iconst (pc := 587) (v := (nI 3)) hX dL_law_587 (by decide +kernel) ?_
    refine L_goto (pc := 588) (tgt := 609) hX dL_law_588 (by decide) ?_
    refine L_istore13 (pc := 609) hX dL_law_609 rfl ?_
    rw [kdF, kindf, h584, if_pos rfl] at r
    rw [h584]
    exact r
set_option maxRecDepth 100000 in
set_option maxHeartbeats 4000000 in
theorem l_564 {L : Nat} {xs : Nat → Int32} {X : XC} (hX : Cok X RL cL_law 15) (hp : Pok X) (hR : Rok X 20) (hs : Scr X L xs) (hL : L < 2 ^ 31) {σ : Mem} {N P k : Nat} {dem bo pd all sh v : Int32} (h : LI L xs σ N dem bo P) (hk : k < N) (ih : ∀ τ, okA σ τ → Lw X 517 [some (.ref 52), some (.ref 0), some (.int (nI N)), some (.int (dem)), some (.int (bo)), some (.int (pd)), some (.ref 53), some (.int (all)), some (.int (sh)), some (.int (nI (nearf bo (cF L xs) (thF L xs) (σ 53) (k + 1)))), some (.int (nI (k + 1))), none, none, none, none] [] τ) : Lw X 564 [some (.ref 52), some (.ref 0), some (.int (nI N)), some (.int (dem)), some (.int (bo)), some (.int (pd)), some (.ref 53), some (.int (all)), some (.int (sh)), some (.int (nI (nearf bo (cF L xs) (thF L xs) (σ 53) k))), some (.int (nI k)), some (.int (pf (thF L xs k) (σ 53) 12)), some (.int (v)), none, none] [] σ := by
  have hN := h.mem.1
  have r := l_582 hX hp hR hs hL h hk ih
  refine L_iload (pc := 564) (i := 4) hX dL_law_564 rfl ?_
  refine L_iload (pc := 566) (i := 10) hX dL_law_566 rfl ?_
  refine L_ishr (pc := 568) hX dL_law_568 ?_
  refine L_iconst (pc := 569) (v := (nI 1)) hX dL_law_569 (by decide +kernel) ?_
  refine L_iand (pc := 570) hX dL_law_570 ?_
  refine L_iconst (pc := 571) (v := (nI 1)) hX dL_law_571 (by decide +kernel) ?_
  refine L_icmp_neS (pc := 572) (tgt := 579) hX dL_law_572 (by decide) (by omega) (fun h572 => ?_) (fun h572 => ?_)
  · refine L_iconst (pc := 579) (v := (nI 0)) hX dL_law_579 (by decide +kernel) ?_
    refine L_istore12 (pc := 580) hX dL_law_580 rfl ?_
    rw [h572] at r
    exact r
  · refine L_iconst (pc := 575) (v := (nI 1)) hX dL_law_575 (by decide +kernel) ?_
    refine L_goto (pc := 576) (tgt := 580) hX dL_law_576 (by decide) ?_
    refine L_istore12 (pc := 580) hX dL_law_580 rfl ?_
    rw [h572] at r
    exact r
set_option maxRecDepth 100000 in
set_option maxHeartbeats 4000000 in
theorem l_sets {L : Nat} {xs : Nat → Int32} {X : XC} (hX : Cok X RL cL_law 15) (hp : Pok X) (hR : Rok X 20) (hs : Scr X L xs) (hL : L < 2 ^ 31) {N P : Nat} {dem bo pd all sh : Int32} {pr : Nat → Int32} (kk : ∀ σ, LI L xs σ N dem bo P → σ 53 = pr → Lw X 719 [some (.ref 52), some (.ref 0), some (.int (nI N)), some (.int (dem)), some (.int (bo)), some (.int (pd)), some (.ref 53), some (.int (all)), some (.int (sh)), some (.int (nI (nearf bo (cF L xs) (thF L xs) pr N))), some (.int (nI N)), none, none, none, none] [] σ) (k : Nat) (hk : k ≤ N) {σ : Mem} (h : LI L xs σ N dem bo P) (hpr : σ 53 = pr) : Lw X 517 [some (.ref 52), some (.ref 0), some (.int (nI N)), some (.int (dem)), some (.int (bo)), some (.int (pd)), some (.ref 53), some (.int (all)), some (.int (sh)), some (.int (nI (nearf bo (cF L xs) (thF L xs) pr k))), some (.int (nI k)), none, none, none, none] [] σ := by
  have hN := h.mem.1
  refine L_iload (pc := 517) (i := 10) hX dL_law_517 rfl ?_
  refine L_iload_n (pc := 519) (i := 2) hX dL_law_519 rfl rfl ?_
  refine L_icmp_geN (pc := 520) (tgt := 719) hX dL_law_520 (by decide) (by omega) (by omega) (fun h520 => ?_) (fun h520 => ?_)
  · obtain rfl : k = N := by omega
    exact kk _ h hpr
  · refine L_iconst (pc := 523) (v := (nI 0)) hX dL_law_523 (by decide +kernel) ?_
    refine L_istore11 (pc := 524) hX dL_law_524 rfl ?_
    refine L_iconst (pc := 526) (v := (nI 0)) hX dL_law_526 (by decide +kernel) ?_
    refine L_istore12 (pc := 527) hX dL_law_527 rfl ?_
    have ih : ∀ τ, okA σ τ → Lw X 517 [some (.ref 52), some (.ref 0), some (.int (nI N)), some (.int (dem)), some (.int (bo)), some (.int (pd)), some (.ref 53), some (.int (all)), some (.int (sh)), some (.int (nI (nearf bo (cF L xs) (thF L xs) (σ 53) (k + 1)))), some (.int (nI (k + 1))), none, none, none, none] [] τ := fun τ g => by
      rw [hpr]
      exact l_sets hX hp hR hs hL kk (k + 1) (by omega) (h.ok g) (by rw [g.1 53 (by decide) (by decide) (by decide)]; exact hpr)
    have r := l_564 hX hp hR hs hL (v := nI 12) h (by omega) ih
    rw [← hpr]
    exact l_fill hX hp hR hs hL (by omega) r 0 (Nat.zero_le _)
termination_by N - k
end
section
/-! ===== the law's body: the least of all sets of sets ===== -/
def bstF (c th : Nat → Int32) (dem : Int32) (n : Nat) : Nat → Int32
  | 0 => nI 1000000
  | s + 1 => if dem &&& (allf th s n ^^^ (-1)) = 0 ∧ sumf c s n < bstF c th dem n s then sumf c s n else bstF c th dem n s
theorem sum_s {c : Nat → Int32} {s k : Nat} (h : k < 32) : sumf c s k + ((nI s >>> (nI k &&& 31)) &&& nI 1) * c k = sumf c s (k + 1) := by
  rw [sbit h, sumf]
  cases bt (nI s) k with
  | false => rw [if_neg Bool.false_ne_true, show bI false = nI 0 from rfl, mul0, add0]
  | true => rw [if_pos rfl, show bI true = nI 1 from rfl, mul1]
theorem or0 (x : Int32) : x ||| nI 0 = x := by
  apply b_ext
  intro i hi
  rw [b_or, nI_0, b_0, Bool.or_false]
theorem shl_N : ∀ N, N < 10 → nI 1 <<< (nI N &&& 31) = nI (2 ^ N) := by decide +kernel
set_option maxRecDepth 100000 in
set_option maxHeartbeats 4000000 in
theorem l_sums {L : Nat} {xs : Nat → Int32} {X : XC} (hX : Cok X RL cL_law 15) (hp : Pok X) (hR : Rok X 20) (hs : Scr X L xs) (hL : L < 2 ^ 31) {σ : Mem} {N s : Nat} {dem bo pd all sh near best : Int32} (hN : N ≤ 9) (kk : Lw X 800 [some (.ref 52), some (.ref 0), some (.int (nI N)), some (.int (dem)), some (.int (bo)), some (.int (pd)), some (.ref 53), some (.int (all)), some (.int (sh)), some (.int (near)), some (.int (best)), some (.int (nI s)), some (.int (sumf (cF L xs) s N)), some (.int (allf (thF L xs) s N)), some (.int (nI N))] [] σ) (k : Nat) (hk : k ≤ N) : Lw X 743 [some (.ref 52), some (.ref 0), some (.int (nI N)), some (.int (dem)), some (.int (bo)), some (.int (pd)), some (.ref 53), some (.int (all)), some (.int (sh)), some (.int (near)), some (.int (best)), some (.int (nI s)), some (.int (sumf (cF L xs) s k)), some (.int (allf (thF L xs) s k)), some (.int (nI k))] [] σ := by
  refine L_iload (pc := 743) (i := 14) hX dL_law_743 rfl ?_
  refine L_iload_n (pc := 745) (i := 2) hX dL_law_745 rfl rfl ?_
  refine L_icmp_geN (pc := 746) (tgt := 800) hX dL_law_746 (by decide) (by omega) (by omega) (fun h746 => ?_) (fun h746 => ?_)
  · obtain rfl : k = N := by omega
    exact kk
  · refine L_iload (pc := 749) (i := 12) hX dL_law_749 rfl ?_
    refine L_iload (pc := 751) (i := 11) hX dL_law_751 rfl ?_
    refine L_iload (pc := 753) (i := 14) hX dL_law_753 rfl ?_
    refine L_ishr (pc := 755) hX dL_law_755 ?_
    refine L_iconst (pc := 756) (v := (nI 1)) hX dL_law_756 (by decide +kernel) ?_
    refine L_iand (pc := 757) hX dL_law_757 ?_
    refine L_aload_n (pc := 758) (i := 0) hX dL_law_758 rfl rfl ?_
    refine L_iload (pc := 759) (i := 14) hX dL_law_759 rfl ?_
    refine L_callSsi (pc := 761) hX hp (hR.mono (by omega)) mL_33 hs (c_cost hL _ (by omega) _) dL_law_761 rfl rfl rfl (Nat.le_of_ble_eq_true rfl) (rfl) ?_
    refine L_imul (pc := 764) hX dL_law_764 ?_
    refine L_iadd (pc := 765) hX dL_law_765 ?_
    refine L_istore12 (pc := 766) hX dL_law_766 rfl ?_
    refine L_iload (pc := 768) (i := 13) hX dL_law_768 rfl ?_
    refine L_iload (pc := 770) (i := 11) hX dL_law_770 rfl ?_
    refine L_iload (pc := 772) (i := 14) hX dL_law_772 rfl ?_
    refine L_ishr (pc := 774) hX dL_law_774 ?_
    refine L_iconst (pc := 775) (v := (nI 1)) hX dL_law_775 (by decide +kernel) ?_
    refine L_iand (pc := 776) hX dL_law_776 ?_
    refine L_iconst (pc := 777) (v := (nI 1)) hX dL_law_777 (by decide +kernel) ?_
    refine L_icmp_neS (pc := 778) (tgt := 790) hX dL_law_778 (by decide) (by omega) (fun h778 => ?_) (fun h778 => ?_)
    · refine L_iconst (pc := 790) (v := (nI 0)) hX dL_law_790 (by decide +kernel) ?_
      refine L_ior (pc := 791) hX dL_law_791 ?_
      refine L_istore13 (pc := 792) hX dL_law_792 rfl ?_
      refine L_iinc14 (pc := 794) hX dL_law_794 rfl (iinc1 _) ?_
      refine L_goto (pc := 797) (tgt := 743) hX dL_law_797 (by decide) ?_
      have ih := l_sums hX hp hR hs hL hN kk (k + 1) (by omega)
      rw [allf, h778, if_neg Bool.false_ne_true, ← sum_s (by omega)] at ih
      rw [or0]
      exact ih
    · refine L_aload_n (pc := 781) (i := 0) hX dL_law_781 rfl rfl ?_
      refine L_iload (pc := 782) (i := 14) hX dL_law_782 rfl ?_
      refine L_callSsi (pc := 784) hX hp (hR.mono (by omega)) mL_19 hs (c_things hL _ (by omega) _) dL_law_784 rfl rfl rfl (Nat.le_of_ble_eq_true rfl) (rfl) ?_
      refine L_goto (pc := 787) (tgt := 791) hX dL_law_787 (by decide) ?_
      refine L_ior (pc := 791) hX dL_law_791 ?_
      refine L_istore13 (pc := 792) hX dL_law_792 rfl ?_
      refine L_iinc14 (pc := 794) hX dL_law_794 rfl (iinc1 _) ?_
      refine L_goto (pc := 797) (tgt := 743) hX dL_law_797 (by decide) ?_
      have ih := l_sums hX hp hR hs hL hN kk (k + 1) (by omega)
      rw [allf, h778, if_pos rfl, ← sum_s (by omega)] at ih
      exact ih
termination_by N - k
set_option maxRecDepth 100000 in
set_option maxHeartbeats 4000000 in
theorem l_800 {L : Nat} {xs : Nat → Int32} {X : XC} (hX : Cok X RL cL_law 15) (hp : Pok X) (hR : Rok X 20) (hs : Scr X L xs) (hL : L < 2 ^ 31) {σ : Mem} {N s : Nat} {dem bo pd all sh near v : Int32} (ih : Lw X 726 [some (.ref 52), some (.ref 0), some (.int (nI N)), some (.int (dem)), some (.int (bo)), some (.int (pd)), some (.ref 53), some (.int (all)), some (.int (sh)), some (.int (near)), some (.int (bstF (cF L xs) (thF L xs) dem N (s + 1))), some (.int (nI (s + 1))), none, none, none] [] σ) : Lw X 800 [some (.ref 52), some (.ref 0), some (.int (nI N)), some (.int (dem)), some (.int (bo)), some (.int (pd)), some (.ref 53), some (.int (all)), some (.int (sh)), some (.int (near)), some (.int (bstF (cF L xs) (thF L xs) dem N s)), some (.int (nI s)), some (.int (sumf (cF L xs) s N)), some (.int (allf (thF L xs) s N)), some (.int (v))] [] σ := by
  refine L_iload_n (pc := 800) (i := 3) hX dL_law_800 rfl rfl ?_
  refine L_iload (pc := 801) (i := 13) hX dL_law_801 rfl ?_
  refine L_iconst (pc := 803) (v := (-1)) hX dL_law_803 (by decide +kernel) ?_
  refine L_ixor (pc := 804) hX dL_law_804 ?_
  refine L_iand (pc := 805) hX dL_law_805 ?_
  refine L_if_ne (pc := 806) (tgt := 821) hX dL_law_806 (by decide) (fun h806 => ?_) (fun h806 => ?_)
  · refine L_iload (pc := 821) (i := 10) hX dL_law_821 rfl ?_
    refine L_istore10 (pc := 823) hX dL_law_823 rfl ?_
    refine L_iinc11 (pc := 825) hX dL_law_825 rfl (iinc1 _) ?_
    refine L_goto (pc := 828) (tgt := 726) hX dL_law_828 (by decide) ?_
    rw [bstF, if_neg (fun q => h806 q.1)] at ih
    exact Lw.fg (by repeat (first | exact fgt_n | refine fgt_c (Or.inr rfl) ?_ | refine fgt_c (Or.inl rfl) ?_)) ih
  · refine L_iload (pc := 809) (i := 12) hX dL_law_809 rfl ?_
    refine L_iload (pc := 811) (i := 10) hX dL_law_811 rfl ?_
    refine L_icmp_ge (pc := 813) (tgt := 821) hX dL_law_813 (by decide) (fun h813 => ?_) (fun h813 => ?_)
    · refine L_iload (pc := 821) (i := 10) hX dL_law_821 rfl ?_
      refine L_istore10 (pc := 823) hX dL_law_823 rfl ?_
      refine L_iinc11 (pc := 825) hX dL_law_825 rfl (iinc1 _) ?_
      refine L_goto (pc := 828) (tgt := 726) hX dL_law_828 (by decide) ?_
      rw [bstF, if_neg (fun q => absurd q.2 (Int32.not_lt.mpr h813))] at ih
      exact Lw.fg (by repeat (first | exact fgt_n | refine fgt_c (Or.inr rfl) ?_ | refine fgt_c (Or.inl rfl) ?_)) ih
    · refine L_iload (pc := 816) (i := 12) hX dL_law_816 rfl ?_
      refine L_goto (pc := 818) (tgt := 823) hX dL_law_818 (by decide) ?_
      refine L_istore10 (pc := 823) hX dL_law_823 rfl ?_
      refine L_iinc11 (pc := 825) hX dL_law_825 rfl (iinc1 _) ?_
      refine L_goto (pc := 828) (tgt := 726) hX dL_law_828 (by decide) ?_
      rw [bstF, if_pos ⟨h806, Int32.not_le.mp h813⟩] at ih
      exact Lw.fg (by repeat (first | exact fgt_n | refine fgt_c (Or.inr rfl) ?_ | refine fgt_c (Or.inl rfl) ?_)) ih
set_option maxRecDepth 100000 in
set_option maxHeartbeats 4000000 in
theorem l_best {L : Nat} {xs : Nat → Int32} {X : XC} (hX : Cok X RL cL_law 15) (hp : Pok X) (hR : Rok X 20) (hs : Scr X L xs) (hL : L < 2 ^ 31) {σ : Mem} {N M : Nat} {dem bo pd all sh near : Int32} (hN : N ≤ 9) (hM : nI 1 <<< (nI N &&& 31) = nI M) (hM2 : M ≤ 512) (kk : Lw X 831 [some (.ref 52), some (.ref 0), some (.int (nI N)), some (.int (dem)), some (.int (bo)), some (.int (pd)), some (.ref 53), some (.int (all)), some (.int (sh)), some (.int (near)), some (.int (bstF (cF L xs) (thF L xs) dem N M)), some (.int (nI M)), none, none, none] [] σ) (s : Nat) (hk : s ≤ M) : Lw X 726 [some (.ref 52), some (.ref 0), some (.int (nI N)), some (.int (dem)), some (.int (bo)), some (.int (pd)), some (.ref 53), some (.int (all)), some (.int (sh)), some (.int (near)), some (.int (bstF (cF L xs) (thF L xs) dem N s)), some (.int (nI s)), none, none, none] [] σ := by
  refine L_iload (pc := 726) (i := 11) hX dL_law_726 rfl ?_
  refine L_iconst (pc := 728) (v := (nI 1)) hX dL_law_728 (by decide +kernel) ?_
  refine L_iload_n (pc := 729) (i := 2) hX dL_law_729 rfl rfl ?_
  refine L_ishl (pc := 730) hX dL_law_730 ?_
  rw [hM]
  refine L_icmp_geN (pc := 731) (tgt := 831) hX dL_law_731 (by decide) (by omega) (by omega) (fun h731 => ?_) (fun h731 => ?_)
  · obtain rfl : s = M := by omega
    exact kk
  · refine L_iconst (pc := 734) (v := (nI 0)) hX dL_law_734 (by decide +kernel) ?_
    refine L_istore12 (pc := 735) hX dL_law_735 rfl ?_
    refine L_iconst (pc := 737) (v := (nI 0)) hX dL_law_737 (by decide +kernel) ?_
    refine L_istore13 (pc := 738) hX dL_law_738 rfl ?_
    refine L_iconst (pc := 740) (v := (nI 0)) hX dL_law_740 (by decide +kernel) ?_
    refine L_istore14 (pc := 741) hX dL_law_741 rfl ?_
    exact l_sums hX hp hR hs hL hN (l_800 hX hp hR hs hL (l_best hX hp hR hs hL hN hM hM2 kk (s + 1) (by omega))) 0 (Nat.zero_le _)
termination_by M - s
end
section
/-! ===== prices below the best, the best below what is paid, that below the share of the prices ===== -/
theorem bst_spec {c th : Nat → Int32} {dem : Int32} {n : Nat} {X : Nat → Nat} (hc : ∀ k, k < n → c k = nI (X k)) (hX : ∀ S, smN X S n ≤ 10000) : ∀ M, ∃ B : Nat, B ≤ 1000000 ∧ bstF c th dem n M = nI B ∧ (∀ s, s < M → fea th dem n s → B ≤ smN X (fun j => bt (nI s) j) n) ∧ (B = 1000000 ∨ ∃ s, s < M ∧ fea th dem n s ∧ smN X (fun j => bt (nI s) j) n = B)
  | 0 => ⟨1000000, Nat.le_refl _, rfl, fun s h => absurd h (Nat.not_lt_zero s), Or.inl rfl⟩
  | M + 1 => by
    obtain ⟨B, b1, b2, b3, b4⟩ := bst_spec (th := th) (dem := dem) hc hX M
    have hs := sumf_N (s := M) hc n (Nat.le_refl n)
    have hx := hX (fun j => bt (nI M) j)
    rw [bstF, hs, b2]
    by_cases hf : fea th dem n M
    · by_cases hl : smN X (fun j => bt (nI M) j) n < B
      · rw [if_pos ⟨fea_iff.mpr hf, (nI_ltI (by omega) (by omega)).mpr hl⟩]
        refine ⟨_, by omega, rfl, fun s h1 h2 => ?_, Or.inr ⟨M, by omega, hf, rfl⟩⟩
        by_cases q : s = M
        · subst q; exact Nat.le_refl _
        · have := b3 s (by omega) h2
          omega
      · rw [if_neg (fun q => hl ((nI_ltI (by omega) (by omega)).mp q.2))]
        refine ⟨B, b1, rfl, fun s h1 h2 => ?_, ?_⟩
        · by_cases q : s = M
          · subst q; omega
          · exact b3 s (by omega) h2
        · rcases b4 with q | ⟨s, s1, s2, s3⟩
          · exact Or.inl q
          · exact Or.inr ⟨s, by omega, s2, s3⟩
    · rw [if_neg (fun q => hf (fea_iff.mp q.1))]
      refine ⟨B, b1, rfl, fun s h1 h2 => ?_, ?_⟩
      · by_cases q : s = M
        · subst q; exact absurd h2 hf
        · exact b3 s (by omega) h2
      · rcases b4 with q | ⟨s, s1, s2, s3⟩
        · exact Or.inl q
        · exact Or.inr ⟨s, by omega, s2, s3⟩
def sgN (f : Nat → Nat) : Nat → Nat
  | 0 => 0
  | m + 1 => sgN f m + f m
theorem sgN_cg {f g : Nat → Nat} : ∀ m, (∀ i, i < m → f i = g i) → sgN f m = sgN g m
  | 0, _ => rfl
  | m + 1, h => by rw [sgN, sgN, sgN_cg m (fun i hi => h i (by omega)), h m (by omega)]
theorem sgN_le {f g : Nat → Nat} : ∀ m, (∀ i, i < m → f i ≤ g i) → sgN f m ≤ sgN g m
  | 0, _ => Nat.le_refl _
  | m + 1, h => by
    have h1 := sgN_le m (fun i hi => h i (by omega))
    have h2 := h m (by omega)
    rw [sgN, sgN]
    omega
theorem sgN_add {f g : Nat → Nat} : ∀ m, sgN (fun i => f i + g i) m = sgN f m + sgN g m
  | 0 => rfl
  | m + 1 => by rw [sgN, sgN, sgN, sgN_add m]; omega
theorem sgN_mul {f : Nat → Nat} {c : Nat} : ∀ m, sgN (fun i => f i * c) m = c * sgN f m
  | 0 => rfl
  | m + 1 => by rw [sgN, sgN, sgN_mul m, Nat.mul_add, Nat.mul_comm (f m) c]
theorem sgN_0 : ∀ m, sgN (fun _ => 0) m = 0
  | 0 => rfl
  | m + 1 => by rw [sgN, sgN_0 m]
theorem sgN_bd {f : Nat → Nat} {b : Nat} : ∀ m, (∀ i, i < m → f i ≤ b) → sgN f m ≤ b * m
  | 0, _ => Nat.zero_le _
  | m + 1, h => by
    have h1 := sgN_bd m (fun i hi => h i (by omega))
    have h2 := h m (by omega)
    rw [sgN, Nat.mul_succ]
    omega
theorem pf_sm {b : Int32} {pr : Nat → Int32} {p : Nat → Nat} (hp : ∀ i, i < 12 → pr i = nI (p i)) : ∀ m, m ≤ 12 → pf b pr m = nI (sgN (fun i => if bt b i then p i else 0) m)
  | 0, _ => rfl
  | m + 1, h => by
    rw [pf, pf_sm hp m (by omega), sgN, hp m (by omega)]
    by_cases q : bt b m = true
    · rw [if_pos q, if_pos q, nI_add]
    · rw [if_neg q, if_neg q, Nat.add_zero]
/-- of the sets S among the first k, how many have i -/
def ctN (S : Nat → Bool) (th : Nat → Int32) (i : Nat) : Nat → Nat
  | 0 => 0
  | k + 1 => ctN S th i k + (if S k = true ∧ bt (th k) i = true then 1 else 0)
theorem ctN_le {S : Nat → Bool} {th : Nat → Int32} {i : Nat} : ∀ k, ctN S th i k ≤ havf th i k
  | 0 => Nat.le_refl _
  | k + 1 => by
    have := ctN_le (S := S) (th := th) (i := i) k
    rw [ctN, havf]
    by_cases q : bt (th k) i = true
    · rw [if_pos q]
      split <;> omega
    · rw [if_neg q, if_neg (fun z => q z.2)]
      exact this
theorem ctN_pos {S : Nat → Bool} {th : Nat → Int32} {i j : Nat} (h1 : S j = true) (h2 : bt (th j) i = true) : ∀ k, j < k → 1 ≤ ctN S th i k
  | 0, h => absurd h (Nat.not_lt_zero j)
  | k + 1, h => by
    rw [ctN]
    by_cases q : j = k
    · subst q
      rw [if_pos ⟨h1, h2⟩]
      omega
    · have := ctN_pos h1 h2 k (by omega)
      omega
theorem smN_ex {p F : Nat → Nat} {S : Nat → Bool} {th : Nat → Int32} : ∀ n, (∀ k, k < n → F k = sgN (fun i => if bt (th k) i then p i else 0) 12) → smN F S n = sgN (fun i => p i * ctN S th i n) 12
  | 0, _ => by
    rw [smN]
    exact (sgN_0 12).symm.trans (sgN_cg 12 (fun i _ => by rw [ctN, Nat.mul_zero]))
  | n + 1, h => by
    rw [smN, smN_ex n (fun k hk => h k (by omega))]
    have e : sgN (fun i => p i * ctN S th i (n + 1)) 12 = sgN (fun i => p i * ctN S th i n) 12 + sgN (fun i => p i * (if S n = true ∧ bt (th n) i = true then 1 else 0)) 12 := by
      rw [← sgN_add]
      exact sgN_cg 12 (fun i _ => by rw [ctN, Nat.mul_add])
    rw [e]
    congr 1
    cases hs : S n with
    | false =>
      rw [if_neg Bool.false_ne_true]
      exact (sgN_0 12).symm.trans (sgN_cg 12 (fun i _ => by rw [if_neg (fun z => Bool.false_ne_true z.1), Nat.mul_zero]))
    | true =>
      rw [if_pos rfl, h n (by omega)]
      refine sgN_cg 12 (fun i _ => ?_)
      by_cases q : bt (th n) i = true
      · rw [if_pos q, if_pos ⟨rfl, q⟩, Nat.mul_one]
      · rw [if_neg q, if_neg (fun z => q z.2), Nat.mul_zero]
theorem smN_mono {X Y : Nat → Nat} {S : Nat → Bool} : ∀ n, (∀ k, k < n → S k = true → X k ≤ Y k) → smN X S n ≤ smN Y S n
  | 0, _ => Nat.le_refl _
  | n + 1, h => by
    have h1 := smN_mono n (fun k hk => h k (by omega))
    rw [smN, smN]
    by_cases q : S n = true
    · have := h n (by omega) q
      rw [if_pos q, if_pos q]
      omega
    · rw [if_neg q, if_neg q]
      omega
theorem sharf_ok {dem : Int32} {th : Nat → Int32} {n : Nat} (hn : n ≤ 10) : ∀ m, ∃ s : Nat, s ≤ 10 ∧ sharf dem th n m = nI s ∧ ∀ i, i < m → bt dem i = true → havf th i n ≤ s
  | 0 => ⟨0, by omega, rfl, fun i h => absurd h (Nat.not_lt_zero i)⟩
  | m + 1 => by
    obtain ⟨s, h1, h2, h3⟩ := sharf_ok (dem := dem) (th := th) hn m
    have hv := havf_le th m n
    rw [sharf, h2]
    by_cases q : bt dem m = true
    · rw [if_pos q, imax_nI (by omega) (by omega)]
      refine ⟨max s (havf th m n), by omega, rfl, fun i hi hd => ?_⟩
      by_cases e : i = m
      · subst e; omega
      · have := h3 i (by omega) hd
        omega
    · rw [if_neg q]
      refine ⟨s, h1, rfl, fun i hi hd => ?_⟩
      by_cases e : i = m
      · subst e; exact absurd hd q
      · exact h3 i (by omega) hd
theorem nI_inj {a b : Nat} (ha : a < 2 ^ 31) (hb : b < 2 ^ 31) (h : nI a = nI b) : a = b := by
  have e := congrArg tn h
  rwa [tn_nI ha, tn_nI hb] at e
theorem opt_ok {L : Nat} {xs : Nat → Int32} {σ : Mem} {N P : Nat} {dem bo : Int32} (h : LI L xs σ N dem bo P) : ∃ B A Sh : Nat, bstF (cF L xs) (thF L xs) dem N (2 ^ N) = nI B ∧ lff (σ 17) (σ 18) N N dem = nI B ∧ pf (nI 4095) (σ 53) 12 = nI A ∧ sharf dem (thF L xs) N 12 = nI Sh ∧ P ≤ Sh * A ∧ A ≤ B ∧ B ≤ P ∧ A ≤ 12000 ∧ Sh ≤ 10 ∧ P ≤ 400 := by
  have hfill := fun k hk => h.fill (k := k) hk
  obtain ⟨⟨n1, n2, n3⟩, hc, hs, ⟨d1, d2, d3⟩, hpr, htr, ha, hb, hP, hpn⟩ := h
  -- prices
  have hp : ∃ p : Nat → Nat, ∀ i, i < 12 → p i ≤ 1000 ∧ σ 53 i = nI (p i) := by
    refine ⟨fun i => tn (σ 53 i), fun i hi => ?_⟩
    obtain ⟨q, q1, q2⟩ := hpn i hi
    show tn (σ 53 i) ≤ 1000 ∧ σ 53 i = nI (tn (σ 53 i))
    rw [hpr i hi, q2, tn_nI (by omega)]
    exact ⟨q1, rfl⟩
  obtain ⟨p, hp⟩ := hp
  have hp0 : ∀ i, i < 12 → bt dem i = false → p i = 0 := by
    intro i hi hd
    have e := hs.2.2.1 i hi hd
    rw [← hpr i hi, (hp i hi).2] at e
    exact nI_inj (by have := (hp i hi).1; omega) (by decide) e
  -- filled
  have hF : ∀ k, pf (thF L xs k) (σ 53) 12 = nI (sgN (fun i => if bt (thF L xs k) i then p i else 0) 12) := fun k => pf_sm (fun i hi => (hp i hi).2) 12 (Nat.le_refl 12)
  have hFb : ∀ k, sgN (fun i => if bt (thF L xs k) i then p i else 0) 12 ≤ 1000 * 12 := fun k => sgN_bd 12 (fun i hi => by
    have := (hp i hi).1
    split <;> omega)
  have hFc : ∀ k, k < N → sgN (fun i => if bt (thF L xs k) i then p i else 0) 12 ≤ coN L xs k ∧ (bt bo k = true → sgN (fun i => if bt (thF L xs k) i then p i else 0) 12 = coN L xs k) := by
    intro k hk
    obtain ⟨y, y1, y2, y3⟩ := hfill k hk
    have hcl := coN_le (L := L) (xs := xs) (k := k)
    rw [hF] at y1
    have e := nI_inj (by have := hFb k; omega) (by omega) y1
    exact ⟨by omega, fun q => by have := y3 q; omega⟩
  have hA : pf (nI 4095) (σ 53) 12 = nI (sgN p 12) := by
    rw [pf_sm (fun i hi => (hp i hi).2) 12 (Nat.le_refl 12)]
    exact congrArg nI (sgN_cg 12 (fun i hi => by rw [b_4095, decide_eq_true hi, if_pos rfl]))
  have hAb : sgN p 12 ≤ 1000 * 12 := sgN_bd 12 (fun i hi => (hp i hi).1)
  obtain ⟨Sh, s1, s2, s3⟩ := sharf_ok (dem := dem) (th := thF L xs) (n := N) (by omega) 12
  have hC : ∀ S, smN (coN L xs) S N ≤ 40 * N := fun S => smN_le N (fun k _ => coN_le.2)
  have hPb : P ≤ 400 := by rw [hP]; have := hC (fun k => bt bo k); omega
  -- what is paid, by the prices
  have hex := fun S => smN_ex (p := p) (F := fun k => sgN (fun i => if bt (thF L xs k) i then p i else 0) 12) (S := S) (th := thF L xs) N (fun k _ => rfl)
  have I1 : P ≤ Sh * sgN p 12 := by
    have e1 : P ≤ smN (fun k => sgN (fun i => if bt (thF L xs k) i then p i else 0) 12) (fun k => bt bo k) N := by
      rw [hP]
      exact smN_mono N (fun k hk hbk => by
        show coN L xs k ≤ _
        rw [(hFc k hk).2 hbk]
        exact Nat.le_refl _)
    refine Nat.le_trans e1 ?_
    rw [hex, ← sgN_mul]
    refine sgN_le 12 (fun i hi => ?_)
    cases hd : bt dem i with
    | false =>
      rw [hp0 i hi hd, Nat.zero_mul, Nat.zero_mul]
      exact Nat.le_refl _
    | true => exact Nat.mul_le_mul_left _ (Nat.le_trans (ctN_le N) (s3 i hi hd))
  have I2 : ∀ S : Nat → Bool, (∀ i, bt dem i = true → ∃ k, k < N ∧ S k = true ∧ bt (thF L xs k) i = true) → sgN p 12 ≤ smN (coN L xs) S N := by
    intro S hS
    have e1 : smN (fun k => sgN (fun i => if bt (thF L xs k) i then p i else 0) 12) S N ≤ smN (coN L xs) S N := smN_mono N (fun k hk _ => (hFc k hk).1)
    refine Nat.le_trans ?_ e1
    rw [hex]
    refine sgN_le 12 (fun i hi => ?_)
    cases hd : bt dem i with
    | false => rw [hp0 i hi hd]; exact Nat.zero_le _
    | true =>
      obtain ⟨k, k1, k2, k3⟩ := hS i hd
      exact Nat.le_mul_of_pos_right _ (ctN_pos k2 k3 N k1)
  -- the best
  have hcF : ∀ k, k < N → cF L xs k = nI (coN L xs k) := fun k _ => rfl
  obtain ⟨B, b1, b2, b3, b4⟩ := bst_spec (c := cF L xs) (th := thF L xs) (dem := dem) hcF (fun S => by have := hC S; omega) (2 ^ N)
  have hpow : 2 ^ N ≤ 512 := Nat.pow_le_pow_right (n := 2) (by decide) n2
  have msk : ∀ S : Nat → Bool, (∀ i, bt dem i = true → ∃ k, k < N ∧ S k = true ∧ bt (thF L xs k) i = true) → B ≤ smN (coN L xs) S N := by
    intro S hS
    obtain ⟨s, t1, t2⟩ := ofS S N
    have hb9 : ∀ k, k < N → bt (nI s) k = S k := fun k hk => by rw [bt_nI (by omega)]; exact t2 k hk
    have hf : fea (thF L xs) dem N s := fun i hi => by
      obtain ⟨k, k1, k2, k3⟩ := hS i hi
      exact ⟨k, k1, by rw [hb9 k k1]; exact k2, k3⟩
    have := b3 s t1 hf
    rwa [smN_congr (S' := S) N hb9] at this
  have hbF : ∀ i, bt dem i = true → ∃ k, k < N ∧ bt bo k = true ∧ bt (thF L xs k) i = true := fun i hi => by
    obtain ⟨k, k1, k2, k3⟩ := hb i hi
    exact ⟨k, k1, k2, by rw [(hc k k1).2] at k3; exact k3⟩
  have I3 : B ≤ P := by
    rw [hP]
    exact msk (fun k => bt bo k) hbF
  have hat : ∃ s, s < 2 ^ N ∧ fea (thF L xs) dem N s ∧ smN (coN L xs) (fun j => bt (nI s) j) N = B := by
    rcases b4 with q | q
    · exfalso; omega
    · exact q
  obtain ⟨s0, u1, u2, u3⟩ := hat
  have I2B : sgN p 12 ≤ B := by
    rw [← u3]
    exact I2 _ u2
  -- the class's least
  have hc17 : ∀ k, k < N → σ 17 k = nI (coN L xs k) ∧ coN L xs k ≤ 1000 := fun k hk => ⟨(hc k hk).1, by have := coN_le (L := L) (xs := xs) (k := k); omega⟩
  obtain ⟨V, v1, v2, v3, v4⟩ := lff_spec (th := σ 18) hc17 (by omega) N (Nat.le_refl N) dem
  have csm : ∀ S, csN (coN L xs) S N N = smN (coN L xs) S N := fun S => by
    have := cs_sm (coN L xs) S N N (Nat.le_refl N)
    rw [Nat.sub_self, smN, Nat.add_zero] at this
    exact this
  have cv : ∀ S : Nat → Bool, (∀ i, bt dem i = true → ∃ k, k < N ∧ S k = true ∧ bt (thF L xs k) i = true) ↔ cvS (σ 18) S N N dem := by
    intro S
    constructor
    · intro q i hi
      obtain ⟨k, k1, k2, k3⟩ := q i hi
      exact ⟨k, by omega, k1, k2, by rw [(hc k k1).2]; exact k3⟩
    · intro q i hi
      obtain ⟨k, k0, k1, k2, k3⟩ := q i hi
      exact ⟨k, k1, k2, by rw [(hc k k1).2] at k3; exact k3⟩
  have hVB : V ≤ B := by
    have := v3 _ ((cv _).mp u2)
    rwa [csm, u3] at this
  have hBV : B ≤ V := by
    rcases v4 with q | ⟨S, q1, q2⟩
    · omega
    · rw [csm] at q2
      rw [← q2]
      exact msk S ((cv S).mpr q1)
  have eV : V = B := by omega
  exact ⟨B, sgN p 12, Sh, b2, by rw [v2, eV], hA, s2, I1, I2B, I3, by omega, s1, hPb⟩
end
section
/-! ===== the law's body: its end ===== -/
theorem havf_cg {th th' : Nat → Int32} {t : Nat} : ∀ k, (∀ j, j < k → th j = th' j) → havf th t k = havf th' t k
  | 0, _ => rfl
  | k + 1, h => by rw [havf, havf, havf_cg k (fun j hj => h j (by omega)), h k (by omega)]
theorem sharf_cg {dem : Int32} {th th' : Nat → Int32} {n : Nat} (h : ∀ j, j < n → th j = th' j) : ∀ m, sharf dem th n m = sharf dem th' n m
  | 0 => rfl
  | m + 1 => by rw [sharf, sharf, sharf_cg h m, havf_cg n h]
theorem nearf_cg {bo : Int32} {c c' th th' pr pr' : Nat → Int32} (hp : ∀ i, i < 12 → pr i = pr' i) : ∀ k, (∀ j, j < k → c j = c' j ∧ th j = th' j) → nearf bo c th pr k = nearf bo c' th' pr' k
  | 0, _ => rfl
  | k + 1, h => by rw [nearf, nearf, nearf_cg hp k (fun j hj => h j (by omega)), (h k (by omega)).1, (h k (by omega)).2, pf_cg 12 hp]
theorem k_cov1 {L : Nat} {xs : Nat → Int32} {σ : Mem} {N P A : Nat} {dem bo : Int32} (h : LI L xs σ N dem bo P) (e : pf (nI 4095) (σ 53) 12 = nI A) : Cc yX5_covers cX5_covers 2 (some .int) 13 [.ref 0, .int (nI 1)] σ (rI (nI A) σ) := by
  have c := c_covers N (nI 1) σ h.n.1 h.n.2
  rw [coversF, if_neg (by decide +kernel), if_pos rfl, ← pf_cg 12 h.2.2.2.2.1, e] at c
  exact c
theorem k_cov2 {L : Nat} {xs : Nat → Int32} {σ : Mem} {N P B : Nat} {dem bo : Int32} (h : LI L xs σ N dem bo P) (e : lff (σ 17) (σ 18) N N dem = nI B) : Cc yX5_covers cX5_covers 2 (some .int) 13 [.ref 0, .int (nI 2)] σ (rI (nI B) σ) := by
  have c := c_covers N (nI 2) σ h.n.1 h.n.2
  rw [coversF, if_neg (by decide +kernel), if_neg (by decide +kernel), if_pos rfl, h.2.2.2.1.1, e] at c
  exact c
theorem k_cov3 {L : Nat} {xs : Nat → Int32} {σ : Mem} {N P S : Nat} {dem bo : Int32} (h : LI L xs σ N dem bo P) (e : sharf dem (thF L xs) N 12 = nI S) : Cc yX5_covers cX5_covers 2 (some .int) 13 [.ref 0, .int (nI 3)] σ (rI (nI S) σ) := by
  have c := c_covers N (nI 3) σ h.n.1 h.n.2
  rw [coversF, if_neg (by decide +kernel), if_neg (by decide +kernel), if_neg (by decide +kernel), if_pos rfl, h.2.2.2.1.1, sharf_cg (fun j hj => (h.2.1 j hj).2), e] at c
  exact c
theorem k_count3 {L : Nat} {xs : Nat → Int32} {σ : Mem} {N P : Nat} {dem bo : Int32} (h : LI L xs σ N dem bo P) : Cc yX5_count cX5_count 2 (some .int) 5 [.ref 0, .int (nI 3)] σ (rI (nI (nearf bo (cF L xs) (thF L xs) (σ 53) N)) σ) := by
  have c := c_count3 N σ h.n.1 h.n.2
  rw [h.2.2.2.1.2.1, nearf_cg (pr' := σ 53) (fun i hi => (h.2.2.2.2.1 i hi).symm) N h.2.1] at c
  exact c
theorem k_off1 {L : Nat} {xs : Nat → Int32} {σ : Mem} {N P : Nat} {dem bo : Int32} (h : LI L xs σ N dem bo P) (hd : ¬ dem = 0) : Cc yX5_offer cX5_offer 3 (some .int) 1 [.ref 0, .int (nI 1), .int (nI 1)] σ (rI (-1000002) σ) := by
  have c := c_offer N (nI 1) (nI 1) σ h.n.1 h.n.2
  have e1 : (inr2 (nI 1) 1 1000 && inr2 (nI 1) 1 4095) = true := by decide +kernel
  rw [offerF, offerM, e1, if_pos rfl, if_pos rfl, h.2.2.2.1.1, if_neg hd, if_neg hd] at c
  exact c
set_option maxRecDepth 100000 in
set_option maxHeartbeats 4000000 in
theorem l_831 {L : Nat} {xs : Nat → Int32} {X : XC} (hX : Cok X RL cL_law 15) (hp : Pok X) (hR : Rok X 20) (hs : Scr X L xs) (hL : L < 2 ^ 31) {σ : Mem} {N P A B Sh : Nat} {dem bo v : Int32} (h : LI L xs σ N dem bo P) (e2 : lff (σ 17) (σ 18) N N dem = nI B) (e3 : pf (nI 4095) (σ 53) 12 = nI A) (e4 : sharf dem (thF L xs) N 12 = nI Sh) (i1 : P ≤ Sh * A) (i2 : A ≤ B) (i3 : B ≤ P) (i4 : A ≤ 12000) (i5 : Sh ≤ 10) (i6 : P ≤ 400) (kk : ∀ τ, Lw X 915 [some (.ref 52), some (.ref 0), some (.int (nI N)), some (.int (dem)), some (.int (bo)), some (.int (nI P)), some (.ref 53), some (.int (nI A)), some (.int (nI Sh)), some (.int (nI (nearf bo (cF L xs) (thF L xs) (σ 53) N))), some (.int (nI B)), some (.int (v)), none, none, none] [.int (nI 1)] τ) : Lw X 831 [some (.ref 52), some (.ref 0), some (.int (nI N)), some (.int (dem)), some (.int (bo)), some (.int (nI P)), some (.ref 53), some (.int (nI A)), some (.int (nI Sh)), some (.int (nI (nearf bo (cF L xs) (thF L xs) (σ 53) N))), some (.int (nI B)), some (.int (v)), none, none, none] [] σ := by
  have hSA : Sh * A ≤ 10 * 12000 := Nat.mul_le_mul i5 i4
  obtain ⟨Q, hQ⟩ : ∃ Q, Q = Sh * A := ⟨_, rfl⟩
  rw [← hQ] at i1 hSA
  refine L_aload_n (pc := 831) (i := 1) hX dL_law_831 rfl rfl ?_
  refine L_iconst (pc := 832) (v := (nI 1)) hX dL_law_832 (by decide +kernel) ?_
  refine L_callVi (pc := 833) hX hp (hR.mono (by omega)) mL_42 (k_cov1 h e3) dL_law_833 rfl rfl rfl rfl (Nat.le_of_ble_eq_true rfl) (rfl) ?_
  refine L_iload (pc := 836) (i := 7) hX dL_law_836 rfl ?_
  refine L_icmp_ne (pc := 838) (tgt := 914) hX dL_law_838 (by decide) (fun h838 => absurd h838 (fun q => q rfl)) (fun h838 => ?_)
  refine L_aload_n (pc := 841) (i := 1) hX dL_law_841 rfl rfl ?_
  refine L_iconst (pc := 842) (v := (nI 2)) hX dL_law_842 (by decide +kernel) ?_
  refine L_callVi (pc := 843) hX hp (hR.mono (by omega)) mL_42 (k_cov2 h e2) dL_law_843 rfl rfl rfl rfl (Nat.le_of_ble_eq_true rfl) (rfl) ?_
  refine L_iload (pc := 846) (i := 10) hX dL_law_846 rfl ?_
  refine L_icmp_ne (pc := 848) (tgt := 914) hX dL_law_848 (by decide) (fun h848 => absurd h848 (fun q => q rfl)) (fun h848 => ?_)
  refine L_aload_n (pc := 851) (i := 1) hX dL_law_851 rfl rfl ?_
  refine L_iconst (pc := 852) (v := (nI 3)) hX dL_law_852 (by decide +kernel) ?_
  refine L_callVi (pc := 853) hX hp (hR.mono (by omega)) mL_42 (k_cov3 h e4) dL_law_853 rfl rfl rfl rfl (Nat.le_of_ble_eq_true rfl) (rfl) ?_
  refine L_iload (pc := 856) (i := 8) hX dL_law_856 rfl ?_
  refine L_icmp_ne (pc := 858) (tgt := 914) hX dL_law_858 (by decide) (fun h858 => absurd h858 (fun q => q rfl)) (fun h858 => ?_)
  refine L_iload (pc := 861) (i := 5) hX dL_law_861 rfl ?_
  refine L_iload (pc := 863) (i := 8) hX dL_law_863 rfl ?_
  refine L_iload (pc := 865) (i := 7) hX dL_law_865 rfl ?_
  refine L_imul (pc := 867) hX dL_law_867 ?_
  rw [pk_mul, ← hQ]
  refine L_icmp_gtN (pc := 868) (tgt := 914) hX dL_law_868 (by decide) (by omega) (by omega) (fun h868 => absurd h868 ((by omega))) (fun h868 => ?_)
  refine L_iload (pc := 871) (i := 7) hX dL_law_871 rfl ?_
  refine L_iload (pc := 873) (i := 10) hX dL_law_873 rfl ?_
  refine L_icmp_gtN (pc := 875) (tgt := 914) hX dL_law_875 (by decide) (by omega) (by omega) (fun h875 => absurd h875 ((by omega))) (fun h875 => ?_)
  refine L_iload (pc := 878) (i := 10) hX dL_law_878 rfl ?_
  refine L_iload (pc := 880) (i := 5) hX dL_law_880 rfl ?_
  refine L_icmp_gtN (pc := 882) (tgt := 914) hX dL_law_882 (by decide) (by omega) (by omega) (fun h882 => absurd h882 ((by omega))) (fun h882 => ?_)
  refine L_aload_n (pc := 885) (i := 1) hX dL_law_885 rfl rfl ?_
  refine L_iconst (pc := 886) (v := (nI 3)) hX dL_law_886 (by decide +kernel) ?_
  refine L_callVi (pc := 887) hX hp (hR.mono (by omega)) mL_58 (k_count3 h) dL_law_887 rfl rfl rfl rfl (Nat.le_of_ble_eq_true rfl) (rfl) ?_
  refine L_iload (pc := 890) (i := 9) hX dL_law_890 rfl ?_
  refine L_icmp_ne (pc := 892) (tgt := 914) hX dL_law_892 (by decide) (fun h892 => absurd h892 (fun q => q rfl)) (fun h892 => ?_)
  refine L_iload_n (pc := 895) (i := 3) hX dL_law_895 rfl rfl ?_
  refine L_if_eq (pc := 896) (tgt := 910) hX dL_law_896 (by decide) (fun h896 => ?_) (fun h896 => ?_)
  · refine L_iconst (pc := 910) (v := (nI 1)) hX dL_law_910 (by decide +kernel) ?_
    refine L_goto (pc := 911) (tgt := 915) hX dL_law_911 (by decide) ?_
    exact kk _
  · refine L_aload_n (pc := 899) (i := 1) hX dL_law_899 rfl rfl ?_
    refine L_iconst (pc := 900) (v := (nI 1)) hX dL_law_900 (by decide +kernel) ?_
    refine L_iconst (pc := 901) (v := (nI 1)) hX dL_law_901 (by decide +kernel) ?_
    refine L_callVi (pc := 902) hX hp (hR.mono (by omega)) mL_22 (k_off1 h h896) dL_law_902 rfl rfl rfl rfl (Nat.le_of_ble_eq_true rfl) (rfl) ?_
    refine L_ldc (pc := 905) hX kL_41 dL_law_905 ?_
    refine L_icmp_ne (pc := 907) (tgt := 914) hX dL_law_907 (by decide) (fun h907 => absurd h907 (fun q => q rfl)) (fun h907 => ?_)
    refine L_iconst (pc := 910) (v := (nI 1)) hX dL_law_910 (by decide +kernel) ?_
    refine L_goto (pc := 911) (tgt := 915) hX dL_law_911 (by decide) ?_
    exact kk _
set_option maxRecDepth 100000 in
set_option maxHeartbeats 4000000 in
theorem l_719 {L : Nat} {xs : Nat → Int32} {X : XC} (hX : Cok X RL cL_law 15) (hp : Pok X) (hR : Rok X 20) (hs : Scr X L xs) (hL : L < 2 ^ 31) {σ : Mem} {N P : Nat} {dem bo v : Int32} {pr : Nat → Int32} (h : LI L xs σ N dem bo P) (hpr : σ 53 = pr) (kk : ∀ A Sh B nr M τ, Lw X 915 [some (.ref 52), some (.ref 0), some (.int (nI N)), some (.int (dem)), some (.int (bo)), some (.int (nI P)), some (.ref 53), some (.int (nI A)), some (.int (nI Sh)), some (.int (nr)), some (.int (nI B)), some (.int (nI M)), none, none, none] [.int (nI 1)] τ) : Lw X 719 [some (.ref 52), some (.ref 0), some (.int (nI N)), some (.int (dem)), some (.int (bo)), some (.int (nI P)), some (.ref 53), some (.int (pf (nI 4095) pr 12)), some (.int (sharf dem (thF L xs) N 12)), some (.int (nI (nearf bo (cF L xs) (thF L xs) pr N))), some (.int (v)), none, none, none, none] [] σ := by
  have hN := h.mem.1
  obtain ⟨B, A, Sh, o1, o2, o3, o4, i1, i2, i3, i4, i5, i6⟩ := opt_ok h
  rw [← hpr, o3, o4]
  refine L_ldc (pc := 719) hX kL_32 dL_law_719 ?_
  refine L_istore10 (pc := 721) hX dL_law_721 rfl ?_
  refine L_iconst (pc := 723) (v := (nI 0)) hX dL_law_723 (by decide +kernel) ?_
  refine L_istore11 (pc := 724) hX dL_law_724 rfl ?_
  have r := l_831 hX hp hR hs hL (v := nI (2 ^ N)) h o2 o3 o4 i1 i2 i3 i4 i5 i6 (fun τ => kk A Sh B _ (2 ^ N) τ)
  rw [← o1] at r
  exact l_best hX hp hR hs hL hN (shl_N N (by omega)) (Nat.pow_le_pow_right (n := 2) (by decide) hN) r 0 (Nat.zero_le _)
set_option maxRecDepth 100000 in
set_option maxHeartbeats 4000000 in
theorem l_511 {L : Nat} {xs : Nat → Int32} {X : XC} (hX : Cok X RL cL_law 15) (hp : Pok X) (hR : Rok X 20) (hs : Scr X L xs) (hL : L < 2 ^ 31) {σ : Mem} {N P : Nat} {dem bo v : Int32} (h : LI L xs σ N dem bo P) (kk : ∀ A Sh B nr M τ, Lw X 915 [some (.ref 52), some (.ref 0), some (.int (nI N)), some (.int (dem)), some (.int (bo)), some (.int (nI P)), some (.ref 53), some (.int (nI A)), some (.int (nI Sh)), some (.int (nr)), some (.int (nI B)), some (.int (nI M)), none, none, none] [.int (nI 1)] τ) : Lw X 511 [some (.ref 52), some (.ref 0), some (.int (nI N)), some (.int (dem)), some (.int (bo)), some (.int (nI P)), some (.ref 53), some (.int (pf (nI 4095) (σ 53) 12)), some (.int (sharf dem (thF L xs) N 12)), some (.int (v)), none, none, none, none, none] [] σ := by
  refine L_iconst (pc := 511) (v := (nI 0)) hX dL_law_511 (by decide +kernel) ?_
  refine L_istore9 (pc := 512) hX dL_law_512 rfl ?_
  refine L_iconst (pc := 514) (v := (nI 0)) hX dL_law_514 (by decide +kernel) ?_
  refine L_istore10 (pc := 515) hX dL_law_515 rfl ?_
  exact l_sets hX hp hR hs hL (pr := σ 53) (fun τ h2 e => l_719 hX hp hR hs hL h2 e kk) 0 (Nat.zero_le _) h rfl
set_option maxRecDepth 100000 in
set_option maxHeartbeats 4000000 in
theorem l_424 {L : Nat} {xs : Nat → Int32} {X : XC} (hX : Cok X RL cL_law 15) (hp : Pok X) (hR : Rok X 20) (hs : Scr X L xs) (hL : L < 2 ^ 31) {σ : Mem} {N P : Nat} {dem bo v : Int32} (h : LI L xs σ N dem bo P) (kk : ∀ A Sh B nr M τ, Lw X 915 [some (.ref 52), some (.ref 0), some (.int (nI N)), some (.int (dem)), some (.int (bo)), some (.int (nI P)), some (.ref 53), some (.int (nI A)), some (.int (nI Sh)), some (.int (nr)), some (.int (nI B)), some (.int (nI M)), none, none, none] [.int (nI 1)] τ) : Lw X 424 [some (.ref 52), some (.ref 0), some (.int (nI N)), some (.int (dem)), some (.int (bo)), some (.int (nI P)), some (.ref 53), some (.int (v)), none, none, none, none, none, none, none] [] σ := by
  have hN := h.mem.1
  refine L_iconst (pc := 424) (v := (nI 0)) hX dL_law_424 (by decide +kernel) ?_
  refine L_istore7 (pc := 425) hX dL_law_425 rfl ?_
  refine L_iconst (pc := 427) (v := (nI 0)) hX dL_law_427 (by decide +kernel) ?_
  refine L_istore8 (pc := 428) hX dL_law_428 rfl ?_
  refine L_iconst (pc := 430) (v := (nI 0)) hX dL_law_430 (by decide +kernel) ?_
  refine L_istore9 (pc := 431) hX dL_law_431 rfl ?_
  exact l_all hX hp hR hs hL hN (l_511 hX hp hR hs hL h kk) 0 (Nat.zero_le _)
theorem smN_0 {X : Nat → Nat} {S : Nat → Bool} : ∀ n, (∀ k, k < n → S k = false) → smN X S n = 0
  | 0, _ => rfl
  | n + 1, h => by rw [smN, smN_0 n (fun k hk => h k (by omega)), h n (by omega), if_neg Bool.false_ne_true]
theorem LI_0 {L : Nat} {xs : Nat → Int32} {σ : Mem} (h : SI L xs σ (nsN L xs)) : LI L xs (mf σ 53 (fun _ => 0)) (nsN L xs) (nI 0) (nI 0) 0 := by
  obtain ⟨h1, h2, h3, h4, h5, h6, h7⟩ := h
  have hn := nsN_le (L := L) (xs := xs)
  have hp : ∀ i, i < 12 → σ 19 i = nI 0 := fun i hi => h3.2.2.1 i hi (b_0 i)
  unfold LI
  rw [mf_q (q := 2) (by decide), mf_q (q := 17) (by decide), mf_q (q := 18) (by decide), mf_q (q := 19) (by decide), mf_q (q := 5) (by decide), mf_s]
  refine ⟨⟨hn.1, hn.2, h1⟩, h2, by rw [nI_0]; exact h3, ⟨by rw [h4, nI_0], by rw [h5, nI_0], by rw [h6, nI_0]⟩, fun i hi => by rw [hp i hi, nI_0], ⟨0, by omega, by rw [h7, nI_0]⟩, fun k hk hb => ?_, fun i hi => ?_, ?_, fun i hi => ⟨0, by omega, hp i hi⟩⟩
  · rw [nI_0, b_0] at hb; exact absurd hb (by decide)
  · rw [nI_0, b_0] at hi; exact absurd hi (by decide)
  · exact (smN_0 _ (fun k _ => by rw [nI_0, b_0])).symm
/-- from the demands to the end -/
theorem l_38 {L : Nat} {xs : Nat → Int32} {X : XC} (hX : Cok X RL cL_law 15) (hp : Pok X) (hR : Rok X 20) (hs : Scr X L xs) (hL : L < 2 ^ 31) {σ : Mem} (h : SI L xs σ (nsN L xs)) (kk : ∀ ls τ, ls.length = 15 → Lw X 915 ls [.int (nI 1)] τ) : Lw X 38 [some (.ref 52), some (.ref 0), some (.int (nI (nsN L xs))), some (.int (nI 0)), some (.int (nI 0)), some (.int (nI 0)), some (.ref 53), some (.int (nI 0)), none, none, none, none, none, none, none] [] (mf σ 53 (fun _ => 0)) :=
  l_iter hX hp hR hs hL (fun dem bo P τ h2 => l_424 hX hp hR hs hL h2 (fun A Sh B nr M ρ => kk _ _ rfl)) 0 (Nat.zero_le _) (LI_0 h)
end
section
/-! ===== the law's own array is made: the world goes on beside it ===== -/
def adP (ad : Nat → Nat) (h : Nat) : Nat → Nat := fun i => if i = 53 then h else ad i
theorem adP_lt {ad : Nat → Nat} {h i : Nat} (hi : i < 53) : adP ad h i = ad i := if_neg (by omega)
/-- every place that a shape names is below 52 -/
def shOk : Sh → Bool
  | .inl o => o.2.all (fun q => match q with | none => true | some k => decide (k < 52))
  | .inr (.inl _) => true
  | .inr (.inr r) => decide (r.1 + r.2 ≤ 52)
theorem shp_ok : shp.all shOk = true := by decide +kernel
theorem arrV_ext {c : ClassId} {n : Nat} {f g : Nat → Value} (h : ∀ j, j < n → f j = g j) : arrV c n f = arrV c n g := by
  unfold arrV
  congr 1
  exact congrArg _ (funext fun j => h j.1 j.2)
theorem fl_ad {ad ad' : Nat → Nat} {σ : Mem} {p : Nat} (h : ∀ i, i < 52 → ad i = ad' i) : ∀ (fs : List (Option Nat)) (i : Nat), fs.all (fun q => match q with | none => true | some k => decide (k < 52)) = true → fl ad σ p i fs = fl ad' σ p i fs
  | [], _, _ => rfl
  | o :: r, i, ha => by
    rw [List.all_cons, Bool.and_eq_true] at ha
    show fv ad σ p i o :: _ = fv ad' σ p i o :: _
    rw [fl_ad h r (i + 1) ha.2]
    cases o with
    | none => rfl
    | some k => simp only [fv]; rw [h k (of_decide_eq_true ha.1)]
theorem wl_ad {D : va_G} {ad ad' : Nat → Nat} {cs : Nat → ClassId} {σ : Mem} {H : Heap} (h : ∀ i, i < 52 → ad i = ad' i) (hP : va_P D vwCl (wl ad cs σ 0 shp) H) : va_P D vwCl (wl ad' cs σ 0 shp) H := by
  intro k q hk
  rw [wl_get, Nat.zero_add] at hk
  cases hs : shp[k]? with
  | none => rw [hs] at hk; cases hk
  | some sh =>
    rw [hs] at hk
    cases hk
    have hk52 : k < 52 := by rw [← shp_len]; exact (List.getElem?_eq_some_iff.mp hs).1
    have hok : shOk sh = true := List.all_eq_true.mp shp_ok sh (List.mem_of_getElem? hs)
    have h0 := hP k _ (wl_at hs)
    show va_at D vwCl (ad' k, ent ad' cs σ k sh) H
    rw [← h k hk52]
    match sh, hok, h0 with
    | .inl o, hok, h0 =>
      show va_at D vwCl (ad k, .inr (o.1, fl ad' σ k 0 o.2)) H
      rw [← fl_ad h o.2 0 hok]
      exact h0
    | .inr (.inl a), _, h0 => exact h0
    | .inr (.inr r), hok, h0 =>
      have hr : r.1 + r.2 ≤ 52 := of_decide_eq_true hok
      refine (show H[ad k]? = some (vp_cell (cs 2) (r.2, .inr (.inr (.inr (.inr (fun j => some (ad (r.1 + j)))))))) from h0).trans (congrArg some ?_)
      rw [vp_cell_q, vp_cell_q]
      exact arrV_ext (fun j hj => by rw [h (r.1 + j) (by omega)])
theorem V_newp {p : Program} {l : Launch} {e : Env} {R : Room} {s : State} {m : MethodId} {args : Array Value} {below : List Frame} {meth : Method} {c : Code} {cells slots : Nat} {Q : State → Prop} {A : Nat → Prop} {D : va_G} {ad : Nat → Nat} {cs : Nat → ClassId} {H0 : Heap} {own : String} {cc : ByteArray} {nL pc : Nat} {ls : List (Option Value)} {σ : Mem}
    (hX : Cok (p, l, e, R, s, m, args, below, meth, c, cells, slots, Q, A, D, ad, cs, H0) own cc nL) (hA : ∀ q, H0.size ≤ q → A q) (harr : Cond.arrayClass .int ∈ lw_w) (hd : decode cc pc = .ok (.newarray .int, 2)) (h1 : cells + 1 ≤ R.cells) (h2 : slots + 12 ≤ R.slots) (hls : ∀ h, lvl (adP ad h) 0 ls = lvl ad 0 ls)
    (kk : ∀ h, A h → ¬ inW ad h → Lw (p, l, e, R, s, m, args, below, meth, c, cells + 1, slots + 12, Q, A, D, adP ad h, cs, H0) (pc + 2) ls [.ref 53] (mf σ 53 (fun _ => 0))) :
    Vw (p, l, e, R, s, m, args, below, meth, c, cells, slots, Q, A, D, ad, cs, H0) pc ls [.int (nI 12)] σ := by
  intro H locs lsA hP hS hl
  obtain ⟨hx, hb, hml, hown, hts, hK, hinj, hAd, hcl, hsl⟩ := hX
  refine va_newaK (atype := .int) (g := F0 m pc lsA [.int (nI 12)]) (n := nI 12) (N := 12) (rest := []) (h := H.size) hx hb (hts _ harr) rfl hd rfl (by decide +kernel) (by decide +kernel) (by decide +kernel) h1 h2 rfl (fun H' cA e1 e2 e3 e4 e5 => ?_)
  have e0 : cA = cs 0 := Option.some.inj (e5.symm.trans (hK.2 0 _ rfl).2)
  subst e0
  have hD := wl_D (A := fun q => q < H.size) (cs := cs) (σ := σ) hinj (fun i hi => by
    obtain ⟨sh, hsh⟩ : ∃ sh, shp[i]? = some sh := ⟨_, List.getElem?_eq_getElem (by rw [shp_len]; exact hi)⟩
    exact (hP i _ (wl_at hsh)).lt)
  have hnw : ¬ inW ad H.size := by
    rintro ⟨i, hi, e⟩
    obtain ⟨sh, hsh⟩ : ∃ sh, shp[i]? = some sh := ⟨_, List.getElem?_eq_getElem (by rw [shp_len]; exact hi)⟩
    have := (hP i _ (wl_at hsh)).lt
    have h9 : ad i < H.size := this
    omega
  have hP1 : va_P D vwCl (wl ad cs σ 0 shp) H' := fun k q hq => (hP k q hq).kept (e3 q.1 (hD.2 k q hq))
  refine kk H.size (hA _ hS.1) hnw H' locs lsA ⟨?_, ?_⟩ ⟨by rw [e2]; exact Nat.le_succ_of_le hS.1, fun q q1 q2 => by rw [e3 q (Nat.lt_of_lt_of_le q1 hS.1)]; exact hS.2.1 q q1 q2, hS.2.2⟩ (by rw [hls]; exact hl)
  · rw [wl_cg (σ := mf σ 53 (fun _ => 0)) (σ' := σ) (fun q hq => mf_q (by omega))]
    exact wl_ad (fun i hi => (adP_lt (by omega)).symm) hP1
  · rw [mf_s]
    show H'[adP ad H.size 53]? = _
    rw [show adP ad H.size 53 = H.size from if_pos rfl, e1, vp_cell_i]
    rfl
end
section
/-! ===== from the entry to the end ===== -/
def R_law : String := "BuyAsAskedLaw"
def lw_P (b : Addr) (xs : List Int32) (args : Array Value) (s : State) : Prop := args = #[.ref b] ∧ s.IntsAt b xs ∧ xs.length ≤ 260 ∧ (Jvm.Cond.and given_1 narrow_1).before args s = true
def lw_Q (_ : Array Value) (s : State) (o : Outcome) (t : State) : Prop := o = .returned (some (.int 1)) ∧ Framed s o t [] 600000 7302250
def lw_Z (below : List Frame) (a : Array Value) (s : State) : State → Prop := fun t => ∃ o, t.status = .running ∧ Ended t below o ∧ lw_Q a s o t
/-- the law's own end, with 1 on the stack, nothing written that was there before, its room as the claim has it -/
theorem lw_ret {p : Program} {l : Launch} {e : Env} {s : State} {m : MethodId} {below : List Frame} {meth : Method} {c : Code} {b : Nat} (hx : p.tables.exec = Jvm.exec) (hb : c.code = code) (hr : meth.sig.returnType = ret) (hlocks : meth.locks = false) {pc : Nat} {H : Heap} {ls : Array Slot} (hdg : decode code pc = .ok (.ireturn, 1)) : W p l e room_1 s m #[Value.ref b] below meth c H [] 600000 7302250 (lw_Z below #[Value.ref b] s) (F0 m pc ls [.int 1]) := by
  intro T hT X
  obtain ⟨fs, hret, hrun, hended, hW, hframe⟩ := X.leave (v := some (.int 1)) (hlocks := hlocks) (fun h => by rw [hr] at h; cases h)
  have hmeth' : T.vm.method? m = some meth := X.method'
  refine ⟨T.setFrames fs, ?_, .returned (some (.int 1)), hrun, hended, rfl, ⟨_, rfl⟩, hW, hframe⟩
  jvm_step X.here [X.here.top, hx, hb, hdg, hmeth', hr, ret, narrow_b1]
  (try refine ⟨rfl, ?_⟩); (try refine ⟨rfl, ?_⟩)
  first | (intro acts; rw [hret _ acts rfl rfl rfl]) | rw [hret _ _ rfl rfl rfl]
  exact Steps.refl _
/-- what holds at the law's entry: the machine, the code, the tables' words (any of lw_tbl by 'hts w (by decide +kernel)'), the script of L ints xs at the cell b, what the Statement gives of the start (any of its parts by flat_of_before) -/
def lw_At (p : Program) (s : State) (m : MethodId) (meth : Method) (c : Code) (b L : Nat) (xs : Nat → Int32) : Prop :=
  p.tables.exec = Jvm.exec ∧ c.code = code ∧ meth.sig.returnType = ret ∧ c.maxLocals = 15 ∧ s.vm.findClass R_law = some m.cls ∧ (∀ w ∈ lw_tbl, w.before #[Value.ref b] s = true) ∧ va_X b L xs s s.heap ∧ b < s.heap.size ∧ meth.locks = false ∧ (Jvm.Cond.and given_1 narrow_1).before #[Value.ref b] s = true
theorem N_astore {X : NC} {own : String} {cc : ByteArray} {nL cells slots pc : Nat} {ls : List (Nat × Value)} {st : List Value} {ws : va_W} {k : Fin 4} {i : Nat} {x : Nat} {ls' : List (Nat × Value)} (hX : Nok X own cc nL) (hd : decode cc pc = .ok (.astore_n k, 1)) (hi : (k : Nat) = i) (hn : i < nL) (he : (i, Value.ref x) :: ls.filter (fun q => !(q.1 == i) && !(q.1 + 1 == i && q.2.category == 2)) = ls') (kk : Nw X nL cells slots (pc + 1) ls' st ws) : Nw X nL cells slots pc ls (.ref x :: st) ws := by
  obtain ⟨p, l, e, R, s, m, args, below, meth, c, Q, A, D, cs, H0⟩ := X
  intro H locs lsA hP hD hS hl
  exact lv_astore_n hX.1 hX.2.1 hd hi hl hn he (fun ls9 h9 => kk H locs ls9 hP hD hS h9)
/-- the memory at the start -/
def σ0 : Mem := fun p => if p = 16 then lnf 8 else if p = 3 then (fun j => if j = 7 then (-1) else 0) else fun _ => 0
theorem SI_0 (L : Nat) (xs : Nat → Int32) : SI L xs σ0 0 := by
  have z : ∀ q, q ≠ 16 → q ≠ 3 → σ0 q = fun _ => 0 := fun q a b => by unfold σ0; rw [if_neg a, if_neg b]
  unfold SI
  rw [z 2 (by decide) (by decide), z 5 (by decide) (by decide), z 17 (by decide) (by decide), z 18 (by decide) (by decide), z 19 (by decide) (by decide)]
  refine ⟨nI_0.symm, fun j hj => absurd hj (Nat.not_lt_zero j), ⟨fun k hk => absurd hk (Nat.not_lt_zero k), fun k => ⟨0, by omega, nI_0.symm⟩, fun t _ _ => nI_0.symm, fun t _ => ⟨fun q => ?_, fun ⟨k, hk, _⟩ => absurd hk (Nat.not_lt_zero k)⟩, fun t q => ?_, fun k q => ?_, fun t _ => ⟨fun q => ?_, fun ⟨k, hk, _⟩ => absurd hk (Nat.not_lt_zero k)⟩⟩, rfl, rfl, rfl, rfl⟩
  all_goals (rw [b_0] at q; exact absurd q (by decide))
/-- the world behind the constructor, in the order of the places -/
def wsL (qb : Nat) (q5_a : Nat) (q9_9_a : Nat) (r9_9_a : Nat → Nat) (q19_9_a : Nat) (q27_9_a : Nat) (q16_a : Nat) (q7_20_a : Nat) (q15_20_a : Nat) (q23_20_a : Nat) (q27_a : Nat) (q6_31_a : Nat) (q13_31_a : Nat) (q22_31_a : Nat) (q31_31_a : Nat) (q40_31_a : Nat) (q47_31_a : Nat) (q38_a : Nat) (q9_42_a : Nat) (r9_42_a : Nat → Nat) (q19_42_a : Nat) (q27_42_a : Nat) (q37_42_a : Nat) (r37_42_a : Nat → Nat) (q47_42_a : Nat) (q49_a : Nat) (q7_53_a : Nat) (cs : Nat → ClassId) : va_W := [(qb, .inr (5, [.ref q5_a, .ref q16_a, .ref q27_a, .ref q38_a, .ref q49_a, .int (nI 0)])), (q5_a, .inr (3, [.ref q9_9_a, .ref q19_9_a, .ref q27_9_a])), (q16_a, .inr (2, [.ref q7_20_a, .ref q15_20_a, .ref q23_20_a, .int 0, .int 0, .int 0, .int 0, .int 0, .int 0])), (q27_a, .inr (1, [.ref q6_31_a, .ref q13_31_a, .ref q22_31_a, .ref q31_31_a, .ref q40_31_a, .ref q47_31_a, .int 0, .int (-1), .int 0, .int 0, .int 0])), (q38_a, .inr (4, [.ref q9_42_a, .ref q19_42_a, .ref q27_42_a, .ref q37_42_a, .ref q47_42_a, .int 0, .int 0, .int 0, .int 0, .int 0, .int 0, .int 0])), (q49_a, .inr (0, [.ref q7_53_a, .int 0])), (q9_9_a, outr cs r9_9_a 8), (r9_9_a 0, .inl (cs 0, 60, .inl (fun _ => 0))), (r9_9_a 1, .inl (cs 0, 60, .inl (fun _ => 0))), (r9_9_a 2, .inl (cs 0, 60, .inl (fun _ => 0))), (r9_9_a 3, .inl (cs 0, 60, .inl (fun _ => 0))), (r9_9_a 4, .inl (cs 0, 60, .inl (fun _ => 0))), (r9_9_a 5, .inl (cs 0, 60, .inl (fun _ => 0))), (r9_9_a 6, .inl (cs 0, 60, .inl (fun _ => 0))), (r9_9_a 7, .inl (cs 0, 60, .inl (fun _ => 0))), (q19_9_a, .inl (cs 0, 8, .inl (fun _ => 0))), (q27_9_a, .inl (cs 0, 8, .inl (lnf 8))), (q7_20_a, .inl (cs 0, 10, .inl (fun _ => 0))), (q15_20_a, .inl (cs 0, 10, .inl (fun _ => 0))), (q23_20_a, .inl (cs 0, 12, .inl (fun _ => 0))), (q6_31_a, .inl (cs 0, 4, .inl (fun _ => 0))), (q13_31_a, .inl (cs 0, 4, .inl (fun _ => 0))), (q22_31_a, .inl (cs 0, 128, .inl (fun _ => 0))), (q31_31_a, .inl (cs 1, 128, .inl (fun _ => 0))), (q40_31_a, .inl (cs 0, 128, .inl (fun _ => 0))), (q47_31_a, .inl (cs 0, 5, .inl (fun _ => 0))), (q9_42_a, outr cs r9_42_a 10), (r9_42_a 0, .inl (cs 0, 10, .inl (fun _ => 0))), (r9_42_a 1, .inl (cs 0, 10, .inl (fun _ => 0))), (r9_42_a 2, .inl (cs 0, 10, .inl (fun _ => 0))), (r9_42_a 3, .inl (cs 0, 10, .inl (fun _ => 0))), (r9_42_a 4, .inl (cs 0, 10, .inl (fun _ => 0))), (r9_42_a 5, .inl (cs 0, 10, .inl (fun _ => 0))), (r9_42_a 6, .inl (cs 0, 10, .inl (fun _ => 0))), (r9_42_a 7, .inl (cs 0, 10, .inl (fun _ => 0))), (r9_42_a 8, .inl (cs 0, 10, .inl (fun _ => 0))), (r9_42_a 9, .inl (cs 0, 10, .inl (fun _ => 0))), (q19_42_a, .inl (cs 0, 10, .inl (fun _ => 0))), (q27_42_a, .inl (cs 0, 10, .inl (fun _ => 0))), (q37_42_a, outr cs r37_42_a 10), (r37_42_a 0, .inl (cs 0, 10, .inl (fun _ => 0))), (r37_42_a 1, .inl (cs 0, 10, .inl (fun _ => 0))), (r37_42_a 2, .inl (cs 0, 10, .inl (fun _ => 0))), (r37_42_a 3, .inl (cs 0, 10, .inl (fun _ => 0))), (r37_42_a 4, .inl (cs 0, 10, .inl (fun _ => 0))), (r37_42_a 5, .inl (cs 0, 10, .inl (fun _ => 0))), (r37_42_a 6, .inl (cs 0, 10, .inl (fun _ => 0))), (r37_42_a 7, .inl (cs 0, 10, .inl (fun _ => 0))), (r37_42_a 8, .inl (cs 0, 10, .inl (fun _ => 0))), (r37_42_a 9, .inl (cs 0, 10, .inl (fun _ => 0))), (q47_42_a, .inl (cs 0, 10, .inl (fun _ => 0))), (q7_53_a, .inl (cs 0, 16, .inl (fun _ => 0)))]
def adL (qb : Nat) (q5_a : Nat) (q9_9_a : Nat) (r9_9_a : Nat → Nat) (q19_9_a : Nat) (q27_9_a : Nat) (q16_a : Nat) (q7_20_a : Nat) (q15_20_a : Nat) (q23_20_a : Nat) (q27_a : Nat) (q6_31_a : Nat) (q13_31_a : Nat) (q22_31_a : Nat) (q31_31_a : Nat) (q40_31_a : Nat) (q47_31_a : Nat) (q38_a : Nat) (q9_42_a : Nat) (r9_42_a : Nat → Nat) (q19_42_a : Nat) (q27_42_a : Nat) (q37_42_a : Nat) (r37_42_a : Nat → Nat) (q47_42_a : Nat) (q49_a : Nat) (q7_53_a : Nat) (b : Nat) : List Nat := [qb, q5_a, q16_a, q27_a, q38_a, q49_a, q9_9_a, r9_9_a 0, r9_9_a 1, r9_9_a 2, r9_9_a 3, r9_9_a 4, r9_9_a 5, r9_9_a 6, r9_9_a 7, q19_9_a, q27_9_a, q7_20_a, q15_20_a, q23_20_a, q6_31_a, q13_31_a, q22_31_a, q31_31_a, q40_31_a, q47_31_a, q9_42_a, r9_42_a 0, r9_42_a 1, r9_42_a 2, r9_42_a 3, r9_42_a 4, r9_42_a 5, r9_42_a 6, r9_42_a 7, r9_42_a 8, r9_42_a 9, q19_42_a, q27_42_a, q37_42_a, r37_42_a 0, r37_42_a 1, r37_42_a 2, r37_42_a 3, r37_42_a 4, r37_42_a 5, r37_42_a 6, r37_42_a 7, r37_42_a 8, r37_42_a 9, q47_42_a, q7_53_a, b]
theorem outr_ext {D : va_G} {cs : Nat → ClassId} {H : Heap} {q N : Nat} {r g : Nat → Nat} (hg : ∀ i, i < N → g i = r i) (h : va_at D vwCl (q, outr cs r N) H) : va_at D vwCl (q, .inl (cs 2, (N, .inr (.inr (.inr (.inr (fun j => some (g j)))))))) H := by
  refine (show H[q]? = some (vp_cell (cs 2) (N, .inr (.inr (.inr (.inr (fun i => if i < N then some (r i) else none)))))) from h).trans (congrArg some ?_)
  rw [vp_cell_q, vp_cell_q]
  exact arrV_ext (fun j hj => by show va_rf (if j < N then some (r j) else none) = va_rf (some (g j)); rw [if_pos hj, hg j hj])
set_option maxRecDepth 100000 in
set_option maxHeartbeats 8000000 in
theorem wsL_wl {D : va_G} {A : Nat → Prop} {H : Heap} (qb : Nat) (q5_a : Nat) (q9_9_a : Nat) (r9_9_a : Nat → Nat) (q19_9_a : Nat) (q27_9_a : Nat) (q16_a : Nat) (q7_20_a : Nat) (q15_20_a : Nat) (q23_20_a : Nat) (q27_a : Nat) (q6_31_a : Nat) (q13_31_a : Nat) (q22_31_a : Nat) (q31_31_a : Nat) (q40_31_a : Nat) (q47_31_a : Nat) (q38_a : Nat) (q9_42_a : Nat) (r9_42_a : Nat → Nat) (q19_42_a : Nat) (q27_42_a : Nat) (q37_42_a : Nat) (r37_42_a : Nat → Nat) (q47_42_a : Nat) (q49_a : Nat) (q7_53_a : Nat) (cs : Nat → ClassId) (b : Nat) (hP : va_P D vwCl (wsL qb q5_a q9_9_a r9_9_a q19_9_a q27_9_a q16_a q7_20_a q15_20_a q23_20_a q27_a q6_31_a q13_31_a q22_31_a q31_31_a q40_31_a q47_31_a q38_a q9_42_a r9_42_a q19_42_a q27_42_a q37_42_a r37_42_a q47_42_a q49_a q7_53_a cs) H) (hD : va_D A (wsL qb q5_a q9_9_a r9_9_a q19_9_a q27_9_a q16_a q7_20_a q15_20_a q23_20_a q27_a q6_31_a q13_31_a q22_31_a q31_31_a q40_31_a q47_31_a q38_a q9_42_a r9_42_a q19_42_a q27_42_a q37_42_a r37_42_a q47_42_a q49_a q7_53_a cs)) : va_P D vwCl (wl (fun i => (adL qb q5_a q9_9_a r9_9_a q19_9_a q27_9_a q16_a q7_20_a q15_20_a q23_20_a q27_a q6_31_a q13_31_a q22_31_a q31_31_a q40_31_a q47_31_a q38_a q9_42_a r9_42_a q19_42_a q27_42_a q37_42_a r37_42_a q47_42_a q49_a q7_53_a b).getD i 0) cs σ0 0 shp) H ∧ (∀ i j : Nat, i < 52 → j < 52 → (adL qb q5_a q9_9_a r9_9_a q19_9_a q27_9_a q16_a q7_20_a q15_20_a q23_20_a q27_a q6_31_a q13_31_a q22_31_a q31_31_a q40_31_a q47_31_a q38_a q9_42_a r9_42_a q19_42_a q27_42_a q37_42_a r37_42_a q47_42_a q49_a q7_53_a b).getD i 0 = (adL qb q5_a q9_9_a r9_9_a q19_9_a q27_9_a q16_a q7_20_a q15_20_a q23_20_a q27_a q6_31_a q13_31_a q22_31_a q31_31_a q40_31_a q47_31_a q38_a q9_42_a r9_42_a q19_42_a q27_42_a q37_42_a r37_42_a q47_42_a q49_a q7_53_a b).getD j 0 → i = j) ∧ (∀ i : Nat, i < 52 → A ((adL qb q5_a q9_9_a r9_9_a q19_9_a q27_9_a q16_a q7_20_a q15_20_a q23_20_a q27_a q6_31_a q13_31_a q22_31_a q31_31_a q40_31_a q47_31_a q38_a q9_42_a r9_42_a q19_42_a q27_42_a q37_42_a r37_42_a q47_42_a q49_a q7_53_a b).getD i 0)) := by
  have o6 := outr_ext (g := fun j => (adL qb q5_a q9_9_a r9_9_a q19_9_a q27_9_a q16_a q7_20_a q15_20_a q23_20_a q27_a q6_31_a q13_31_a q22_31_a q31_31_a q40_31_a q47_31_a q38_a q9_42_a r9_42_a q19_42_a q27_42_a q37_42_a r37_42_a q47_42_a q49_a q7_53_a b).getD (7 + j) 0) (fun i hi => by rcases (show i = 0 ∨ i = 1 ∨ i = 2 ∨ i = 3 ∨ i = 4 ∨ i = 5 ∨ i = 6 ∨ i = 7 by omega) with rfl | rfl | rfl | rfl | rfl | rfl | rfl | rfl <;> rfl) (hP 6 _ rfl)
  have o26 := outr_ext (g := fun j => (adL qb q5_a q9_9_a r9_9_a q19_9_a q27_9_a q16_a q7_20_a q15_20_a q23_20_a q27_a q6_31_a q13_31_a q22_31_a q31_31_a q40_31_a q47_31_a q38_a q9_42_a r9_42_a q19_42_a q27_42_a q37_42_a r37_42_a q47_42_a q49_a q7_53_a b).getD (27 + j) 0) (fun i hi => by rcases (show i = 0 ∨ i = 1 ∨ i = 2 ∨ i = 3 ∨ i = 4 ∨ i = 5 ∨ i = 6 ∨ i = 7 ∨ i = 8 ∨ i = 9 by omega) with rfl | rfl | rfl | rfl | rfl | rfl | rfl | rfl | rfl | rfl <;> rfl) (hP 26 _ rfl)
  have o39 := outr_ext (g := fun j => (adL qb q5_a q9_9_a r9_9_a q19_9_a q27_9_a q16_a q7_20_a q15_20_a q23_20_a q27_a q6_31_a q13_31_a q22_31_a q31_31_a q40_31_a q47_31_a q38_a q9_42_a r9_42_a q19_42_a q27_42_a q37_42_a r37_42_a q47_42_a q49_a q7_53_a b).getD (40 + j) 0) (fun i hi => by rcases (show i = 0 ∨ i = 1 ∨ i = 2 ∨ i = 3 ∨ i = 4 ∨ i = 5 ∨ i = 6 ∨ i = 7 ∨ i = 8 ∨ i = 9 by omega) with rfl | rfl | rfl | rfl | rfl | rfl | rfl | rfl | rfl | rfl <;> rfl) (hP 39 _ rfl)
  have s6 := va_P.set hP hD (p := 6) rfl o6 (fun _ _ => rfl)
  have d6 := va_D.set hD (p := 6) (e := .inl (cs 2, (8, .inr (.inr (.inr (.inr (fun j => some ((adL qb q5_a q9_9_a r9_9_a q19_9_a q27_9_a q16_a q7_20_a q15_20_a q23_20_a q27_a q6_31_a q13_31_a q22_31_a q31_31_a q40_31_a q47_31_a q38_a q9_42_a r9_42_a q19_42_a q27_42_a q37_42_a r37_42_a q47_42_a q49_a q7_53_a b).getD (7 + j) 0)))))))) rfl
  have s26 := va_P.set s6 d6 (p := 26) rfl o26 (fun _ _ => rfl)
  have d26 := va_D.set d6 (p := 26) (e := .inl (cs 2, (10, .inr (.inr (.inr (.inr (fun j => some ((adL qb q5_a q9_9_a r9_9_a q19_9_a q27_9_a q16_a q7_20_a q15_20_a q23_20_a q27_a q6_31_a q13_31_a q22_31_a q31_31_a q40_31_a q47_31_a q38_a q9_42_a r9_42_a q19_42_a q27_42_a q37_42_a r37_42_a q47_42_a q49_a q7_53_a b).getD (27 + j) 0)))))))) rfl
  have s39 := va_P.set s26 d26 (p := 39) rfl o39 (fun _ _ => rfl)
  have d39 := va_D.set d26 (p := 39) (e := .inl (cs 2, (10, .inr (.inr (.inr (.inr (fun j => some ((adL qb q5_a q9_9_a r9_9_a q19_9_a q27_9_a q16_a q7_20_a q15_20_a q23_20_a q27_a q6_31_a q13_31_a q22_31_a q31_31_a q40_31_a q47_31_a q38_a q9_42_a r9_42_a q19_42_a q27_42_a q37_42_a r37_42_a q47_42_a q49_a q7_53_a b).getD (40 + j) 0)))))))) rfl
  refine ⟨s39, fun i j hi hj e => ?_, fun i hi => ?_⟩
  · have key : ∀ i : Nat, i < 52 → ∃ x : va_E, (wsL qb q5_a q9_9_a r9_9_a q19_9_a q27_9_a q16_a q7_20_a q15_20_a q23_20_a q27_a q6_31_a q13_31_a q22_31_a q31_31_a q40_31_a q47_31_a q38_a q9_42_a r9_42_a q19_42_a q27_42_a q37_42_a r37_42_a q47_42_a q49_a q7_53_a cs)[i]? = some ((adL qb q5_a q9_9_a r9_9_a q19_9_a q27_9_a q16_a q7_20_a q15_20_a q23_20_a q27_a q6_31_a q13_31_a q22_31_a q31_31_a q40_31_a q47_31_a q38_a q9_42_a r9_42_a q19_42_a q27_42_a q37_42_a r37_42_a q47_42_a q49_a q7_53_a b).getD i 0, x) := fun i hi => by
      rcases (show i = 0 ∨ i = 1 ∨ i = 2 ∨ i = 3 ∨ i = 4 ∨ i = 5 ∨ i = 6 ∨ i = 7 ∨ i = 8 ∨ i = 9 ∨ i = 10 ∨ i = 11 ∨ i = 12 ∨ i = 13 ∨ i = 14 ∨ i = 15 ∨ i = 16 ∨ i = 17 ∨ i = 18 ∨ i = 19 ∨ i = 20 ∨ i = 21 ∨ i = 22 ∨ i = 23 ∨ i = 24 ∨ i = 25 ∨ i = 26 ∨ i = 27 ∨ i = 28 ∨ i = 29 ∨ i = 30 ∨ i = 31 ∨ i = 32 ∨ i = 33 ∨ i = 34 ∨ i = 35 ∨ i = 36 ∨ i = 37 ∨ i = 38 ∨ i = 39 ∨ i = 40 ∨ i = 41 ∨ i = 42 ∨ i = 43 ∨ i = 44 ∨ i = 45 ∨ i = 46 ∨ i = 47 ∨ i = 48 ∨ i = 49 ∨ i = 50 ∨ i = 51 by omega) with rfl | rfl | rfl | rfl | rfl | rfl | rfl | rfl | rfl | rfl | rfl | rfl | rfl | rfl | rfl | rfl | rfl | rfl | rfl | rfl | rfl | rfl | rfl | rfl | rfl | rfl | rfl | rfl | rfl | rfl | rfl | rfl | rfl | rfl | rfl | rfl | rfl | rfl | rfl | rfl | rfl | rfl | rfl | rfl | rfl | rfl | rfl | rfl | rfl | rfl | rfl | rfl <;> exact ⟨_, rfl⟩
    obtain ⟨x, hx⟩ := key i hi
    obtain ⟨y, hy⟩ := key j hj
    exact hD.1 i j _ _ hx hy e
  · have key : ∃ x : va_E, (wsL qb q5_a q9_9_a r9_9_a q19_9_a q27_9_a q16_a q7_20_a q15_20_a q23_20_a q27_a q6_31_a q13_31_a q22_31_a q31_31_a q40_31_a q47_31_a q38_a q9_42_a r9_42_a q19_42_a q27_42_a q37_42_a r37_42_a q47_42_a q49_a q7_53_a cs)[i]? = some ((adL qb q5_a q9_9_a r9_9_a q19_9_a q27_9_a q16_a q7_20_a q15_20_a q23_20_a q27_a q6_31_a q13_31_a q22_31_a q31_31_a q40_31_a q47_31_a q38_a q9_42_a r9_42_a q19_42_a q27_42_a q37_42_a r37_42_a q47_42_a q49_a q7_53_a b).getD i 0, x) := by
      rcases (show i = 0 ∨ i = 1 ∨ i = 2 ∨ i = 3 ∨ i = 4 ∨ i = 5 ∨ i = 6 ∨ i = 7 ∨ i = 8 ∨ i = 9 ∨ i = 10 ∨ i = 11 ∨ i = 12 ∨ i = 13 ∨ i = 14 ∨ i = 15 ∨ i = 16 ∨ i = 17 ∨ i = 18 ∨ i = 19 ∨ i = 20 ∨ i = 21 ∨ i = 22 ∨ i = 23 ∨ i = 24 ∨ i = 25 ∨ i = 26 ∨ i = 27 ∨ i = 28 ∨ i = 29 ∨ i = 30 ∨ i = 31 ∨ i = 32 ∨ i = 33 ∨ i = 34 ∨ i = 35 ∨ i = 36 ∨ i = 37 ∨ i = 38 ∨ i = 39 ∨ i = 40 ∨ i = 41 ∨ i = 42 ∨ i = 43 ∨ i = 44 ∨ i = 45 ∨ i = 46 ∨ i = 47 ∨ i = 48 ∨ i = 49 ∨ i = 50 ∨ i = 51 by omega) with rfl | rfl | rfl | rfl | rfl | rfl | rfl | rfl | rfl | rfl | rfl | rfl | rfl | rfl | rfl | rfl | rfl | rfl | rfl | rfl | rfl | rfl | rfl | rfl | rfl | rfl | rfl | rfl | rfl | rfl | rfl | rfl | rfl | rfl | rfl | rfl | rfl | rfl | rfl | rfl | rfl | rfl | rfl | rfl | rfl | rfl | rfl | rfl | rfl | rfl | rfl | rfl <;> exact ⟨_, rfl⟩
    obtain ⟨x, hx⟩ := key
    exact hD.2 i _ hx
theorem miL_5 : MthI RL 27 yX5_init cX5_init 1 := ⟨⟨⟨by decide +kernel, by decide +kernel, by decide +kernel⟩, Nat.le_of_ble_eq_true rfl, (lw_mem 25 (by decide +kernel) (by decide +kernel)), (lw_mem 13 (by decide +kernel) (by decide +kernel)), Or.inl (lw_mem 23 (by decide +kernel) (by decide +kernel))⟩, by decide +kernel, (lw_mem 24 (by decide +kernel) (by decide +kernel)), (lw_mem 23 (by decide +kernel) (by decide +kernel))⟩
/-- the law's end -/
theorem law_end {p : Program} {l : Launch} {e : Env} {s : State} {m : MethodId} {below : List Frame} {meth : Method} {c : Code} {b C S : Nat} {D : va_G} {ad : Nat → Nat} {cs : Nat → ClassId} (hx : p.tables.exec = Jvm.exec) (hb : c.code = code) (hr : meth.sig.returnType = ret) (hlocks : meth.locks = false) (h1 : C ≤ 600000) (h2 : S ≤ 7302250) (ls : List (Option Value)) (σ : Mem) : Lw (p, l, e, room_1, s, m, #[Value.ref b], below, meth, c, C, S, lw_Z below #[Value.ref b] s, (fun q => s.heap.size ≤ q), D, ad, cs, s.heap) 915 ls [.int (nI 1)] σ := by
  intro H locs lsA hP hS hl
  refine va_forget (fun q hq => hS.2.2 q hq) ?_
  refine W.widen (k := 600000) (n := 7302250) h1 h2 ?_
  have e1 : nI 1 = 1 := by decide +kernel
  show W p l e room_1 s m #[Value.ref b] below meth c H [] 600000 7302250 _ (F0 m 915 lsA [.int (nI 1)])
  rw [e1]
  exact lw_ret hx hb hr hlocks dL_law_915
set_option maxRecDepth 100000 in
set_option maxHeartbeats 8000000 in
theorem law_mid {p : Program} {l : Launch} {e : Env} {s : State} {m : MethodId} {below : List Frame} {meth : Method} {c : Code} {b C S : Nat} {D : va_G} {ad : Nat → Nat} {cs : Nat → ClassId} {L : Nat} {xs : Nat → Int32} {σ : Mem} (hx : p.tables.exec = Jvm.exec) (hb : c.code = code) (hr : meth.sig.returnType = ret) (hlocks : meth.locks = false) (h1 : C + 1 ≤ 600000) (h2 : S + 12 ≤ 7302250)
    (hX : Cok (p, l, e, room_1, s, m, #[Value.ref b], below, meth, c, C, S, lw_Z below #[Value.ref b] s, (fun q => s.heap.size ≤ q), D, ad, cs, s.heap) RL cL_law 15) (hs : Scr (p, l, e, room_1, s, m, #[Value.ref b], below, meth, c, C, S, lw_Z below #[Value.ref b] s, (fun q => s.heap.size ≤ q), D, ad, cs, s.heap) L xs) (hL : L < 2 ^ 31) (hσ : SI L xs σ 0) :
    Vw (p, l, e, room_1, s, m, #[Value.ref b], below, meth, c, C, S, lw_Z below #[Value.ref b] s, (fun q => s.heap.size ≤ q), D, ad, cs, s.heap) 8 [some (.ref 52), some (.ref 0), none, none, none, none, none, none, none, none, none, none, none, none, none] [] σ := by
  have hR : Rok (p, l, e, room_1, s, m, #[Value.ref b], below, meth, c, C, S, lw_Z below #[Value.ref b] s, (fun q => s.heap.size ≤ q), D, ad, cs, s.heap) 20 := ⟨Nat.le_of_ble_eq_true rfl, Nat.le_of_ble_eq_true rfl⟩
  have hn := nsN_le (L := L) (xs := xs)
  refine V_aload_n (pc := 8) (i := 1) hX dL_law_8 rfl rfl ?_
  refine V_aload_n (pc := 9) (i := 0) hX dL_law_9 rfl rfl ?_
  refine V_callSs (pc := 10) hX (hR.mono (by omega)) mL_28 hs (c_shop hL σ hσ) dL_law_10 rfl rfl rfl (Nat.le_of_ble_eq_true rfl) (fun r τ q => ?_)
  obtain ⟨rfl, hτ⟩ := q
  show Vw _ 13 _ [.int (nI (nsN L xs))] τ
  refine V_istore2 (pc := 13) hX dL_law_13 rfl ?_
  refine V_iload_n (pc := 14) (i := 2) hX dL_law_14 rfl rfl ?_
  refine V_iconst (pc := 15) (v := (nI 1)) hX dL_law_15 (by decide +kernel) ?_
  refine V_icmp_geN (pc := 16) (tgt := 21) hX dL_law_16 (by decide) (by omega) (by omega) (fun _ => ?_) (fun h16 => absurd h16 (by omega))
  refine V_iconst (pc := 21) (v := (nI 0)) hX dL_law_21 (by decide +kernel) ?_
  refine V_istore3 (pc := 22) hX dL_law_22 rfl ?_
  refine V_iconst (pc := 23) (v := (nI 0)) hX dL_law_23 (by decide +kernel) ?_
  refine V_istore4 (pc := 24) hX dL_law_24 rfl ?_
  refine V_iconst (pc := 26) (v := (nI 0)) hX dL_law_26 (by decide +kernel) ?_
  refine V_istore5 (pc := 27) hX dL_law_27 rfl ?_
  refine V_bipush (pc := 29) (v := (nI 12)) hX dL_law_29 (by decide +kernel) ?_
  refine V_newp (pc := 31) hX (fun _ h => h) (lw_mem 47 (by decide +kernel) (by decide +kernel)) dL_law_31 h1 h2 (fun _ => rfl) (fun h hA hnw => ?_)
  have hX2 : Cok (p, l, e, room_1, s, m, #[Value.ref b], below, meth, c, (C + 1), (S + 12), lw_Z below #[Value.ref b] s, (fun q => s.heap.size ≤ q), D, (adP ad h), cs, s.heap) RL cL_law 15 := by
    obtain ⟨x1, x2, x3, x4, x5, x6, x7, x8, x9, x10⟩ := hX
    exact ⟨x1, x2, x3, x4, x5, x6, fun i j hi hj q => x7 i j hi hj (by rw [adP_lt (by omega), adP_lt (by omega)] at q; exact q), fun i hi => by rw [adP_lt (by omega)]; exact x8 i hi, h1, h2⟩
  have hp2 : Pok (p, l, e, room_1, s, m, #[Value.ref b], below, meth, c, (C + 1), (S + 12), lw_Z below #[Value.ref b] s, (fun q => s.heap.size ≤ q), D, (adP ad h), cs, s.heap) := by
    refine ⟨?_, ?_⟩
    · show s.heap.size ≤ adP ad h 53
      rw [show adP ad h 53 = h from if_pos rfl]
      exact hA
    · rintro ⟨i, hi, q⟩
      rw [adP_lt (by omega), show adP ad h 53 = h from if_pos rfl] at q
      exact hnw ⟨i, hi, q⟩
  have hs2 : Scr (p, l, e, room_1, s, m, #[Value.ref b], below, meth, c, (C + 1), (S + 12), lw_Z below #[Value.ref b] s, (fun q => s.heap.size ≤ q), D, (adP ad h), cs, s.heap) L xs := by
    show va_X (adP ad h 52) L xs s s.heap ∧ adP ad h 52 < s.heap.size ∧ ¬ s.heap.size ≤ adP ad h 52
    rw [adP_lt (by omega)]
    exact hs
  have hR2 : Rok (p, l, e, room_1, s, m, #[Value.ref b], below, meth, c, (C + 1), (S + 12), lw_Z below #[Value.ref b] s, (fun q => s.heap.size ≤ q), D, (adP ad h), cs, s.heap) 20 := ⟨Nat.le_of_ble_eq_true rfl, Nat.le_of_ble_eq_true rfl⟩
  refine L_astore (pc := 33) (i := 6) hX2 dL_law_33 rfl (Nat.le_of_ble_eq_true rfl) rfl ?_
  refine L_iconst (pc := 35) (v := (nI 0)) hX2 dL_law_35 (by decide +kernel) ?_
  refine L_istore7 (pc := 36) hX2 dL_law_36 rfl ?_
  exact l_38 hX2 hp2 hR2 hs2 hL hτ (fun ls ρ _ => law_end hx hb hr hlocks h1 h2 ls ρ)
set_option maxRecDepth 100000 in
set_option maxHeartbeats 8000000 in
theorem start_walk {p : Program} {e : Env} {s : State} {m : MethodId} {below : List Frame} {meth : Method} {c : Code} (l : Launch) {b L : Nat} {xs : Nat → Int32} (hL : L ≤ 260) (C0 : lw_At p s m meth c b L xs) : W p l e room_1 s m #[Value.ref b] below meth c s.heap [] 0 0 (lw_Z below #[Value.ref b] s) (entryFrame m ([Value.ref b] : List Value).toArray 15) := by
  obtain ⟨hx, hb, hr, hml, hown, hts, hX, hbl, hlocks, hgv⟩ := id C0
  have htw : ∀ w ∈ lw_w, w.before #[Value.ref b] s = true := fun w hw => hts w (List.mem_filter.mp hw).1
  obtain ⟨c0, i0, hk0⟩ := u_known (C := RX0) (T := TX0) (N := 2) (n := 2) htw iuX0 (htw _ (lw_mem 169 (by decide +kernel) (by decide +kernel)))
  obtain ⟨c1, i1, hk1⟩ := u_known (C := RX1) (T := TX1) (N := 11) (n := 11) htw iuX1 (htw _ (lw_mem 92 (by decide +kernel) (by decide +kernel)))
  obtain ⟨c2, i2, hk2⟩ := u_known (C := RX2) (T := TX2) (N := 9) (n := 9) htw iuX2 (htw _ (lw_mem 49 (by decide +kernel) (by decide +kernel)))
  obtain ⟨c3, i3, hk3⟩ := u_known (C := RX3) (T := TX3) (N := 3) (n := 3) htw iuX3 (htw _ (lw_mem 30 (by decide +kernel) (by decide +kernel)))
  obtain ⟨c4, i4, hk4⟩ := u_known (C := RX4) (T := TX4) (N := 12) (n := 12) htw iuX4 (htw _ (lw_mem 130 (by decide +kernel) (by decide +kernel)))
  obtain ⟨c5, i5, hk5⟩ := u_known (C := RX5) (T := TX5) (N := 6) (n := 6) htw iuX5 (htw _ (lw_mem 22 (by decide +kernel) (by decide +kernel)))
  obtain ⟨dC, dI, hKc⟩ : ∃ (dC : Nat → ClassId) (dI : Nat → Nat → Nat), ∀ (k : Nat) (q : vw_C), vwCl[k]? = some q → u_Kn s q.1 q.2.1 q.2.2 (dC k) (dI k) := by
    refine ⟨fun k => [c0, c1, c2, c3, c4, c5].getD k c0, fun k => [i0, i1, i2, i3, i4, i5].getD k i0, ?_⟩
    intro k q hq
    match k, hq with
    | 0, hq => cases hq; exact hk0
    | 1, hq => cases hq; exact hk1
    | 2, hq => cases hq; exact hk2
    | 3, hq => cases hq; exact hk3
    | 4, hq => cases hq; exact hk4
    | 5, hq => cases hq; exact hk5
    | k + 6, hq => simp [vwCl] at hq
  obtain ⟨cI, kI, pI, hI1, hI2, hI3⟩ := Cond.arrayClass_spec (type := .int) (htw (Cond.arrayClass .int) (lw_mem 47 (by decide +kernel) (by decide +kernel)))
  obtain ⟨cZ, kZ, pZ, hZ1, hZ2, hZ3⟩ := Cond.arrayClass_spec (type := .boolean) (htw (Cond.arrayClass .boolean) (lw_mem 128 (by decide +kernel) (by decide +kernel)))
  have hao0 := hts (Cond.arrayOver (.array .int)) (List.mem_of_getElem? (i := 36) (by decide +kernel))
  have hao : AOI s := AOI.of hao0
  obtain ⟨pR, cR, kR, -, -, hR2, hR3, hR1⟩ := Stand.arrayOver_specB hao0
  have hK : va_K (dC, dI) vwCl (tys3 (fun i => if i = 0 then cI else if i = 1 then cZ else cR)) s := by
    refine ⟨hKc, fun k q hk => ?_⟩
    match k, hk with
    | 0, hk => cases hk; exact ⟨fun n z => ⟨fun k h => (by cases h), kI, hI2, pI, hI3⟩, hI1⟩
    | 1, hk => cases hk; exact ⟨fun n z => ⟨fun k h => (by cases h), kZ, hZ2, pZ, hZ3⟩, hZ1⟩
    | 2, hk => cases hk; exact ⟨fun n z => ⟨fun k h => (by cases h), kR, hR2, pR, hR3⟩, hR1⟩
    | k + 3, hk => simp [tys3] at hk
  generalize (fun i => if i = 0 then cI else if i = 1 then cZ else cR) = cs at hK
  have hl := lv_entry ([.ref b]) (n := 15) (Nat.le_of_ble_eq_true rfl)
  rw [lg_entry_eq]
  generalize (lg_sl ([.ref b]) ++ List.replicate (15 - (lg_sl ([.ref b])).length) Slot.unset).toArray = ls at hl ⊢
  have hl : lv_has ls 15 [(0, .ref b)] := hl
  have main : ∀ X : NC, X = (p, l, e, room_1, s, m, #[Value.ref b], below, meth, c, lw_Z below #[Value.ref b] s, (fun q => s.heap.size ≤ q), (dC, dI), cs, s.heap) → Nw X 15 0 0 0 [(0, .ref b)] [] [] := by
    intro X eX
    have hN : Nok X RL cL_law 15 := by subst eX; exact ⟨hx, hb, hml, hown, htw, hK, hao, fun _ h => h⟩
    have hRm : Nrm X 20 600000 7302250 := by subst eX; exact ⟨Nat.le_of_ble_eq_true rfl, Nat.le_of_ble_eq_true rfl, Nat.le_of_ble_eq_true rfl, Nat.le_of_ble_eq_true rfl⟩
    refine N_new (pc := 0) (ci := 5) (fs := [.null, .null, .null, .null, .null, .int 0]) (N := 6) (T := TX5) (C := RX5) hN hRm iuX5 tyX5_ok (lw_mem 21 (by decide +kernel) (by decide +kernel)) (lw_mem 22 (by decide +kernel) (by decide +kernel)) (lw_mem 13 (by decide +kernel) (by decide +kernel)) rfl (by decide +kernel) dL_law_0 (Nat.le_of_ble_eq_true rfl) (Nat.le_of_ble_eq_true rfl) (fun qb => ?_)
    refine N_dup (pc := 3) hN dL_law_3 rfl ?_
    refine N_init (pc := 4) (wr := []) hN hRm miL_5 k_X5 dL_law_4 (by decide) (Nat.le_of_ble_eq_true rfl) (Nat.le_of_ble_eq_true rfl) (Nat.le_of_ble_eq_true rfl) rfl (fun w1 hw1 => ?_)
    obtain ⟨q5_a, q9_9_a, r9_9_a, q19_9_a, q27_9_a, q16_a, q7_20_a, q15_20_a, q23_20_a, q27_a, q6_31_a, q13_31_a, q22_31_a, q31_31_a, q40_31_a, q47_31_a, q38_a, q9_42_a, r9_42_a, q19_42_a, q27_42_a, q37_42_a, r37_42_a, q47_42_a, q49_a, q7_53_a, rfl⟩ := hw1
    refine N_astore (pc := 7) (i := 1) (ls' := [(1, .ref qb), (0, .ref b)]) hN dL_law_7 rfl (by decide) rfl ?_
    subst eX
    intro H locs lsA hP hD hS hl
    have hP2 : va_P (dC, dI) vwCl (wsL qb q5_a q9_9_a r9_9_a q19_9_a q27_9_a q16_a q7_20_a q15_20_a q23_20_a q27_a q6_31_a q13_31_a q22_31_a q31_31_a q40_31_a q47_31_a q38_a q9_42_a r9_42_a q19_42_a q27_42_a q37_42_a r37_42_a q47_42_a q49_a q7_53_a cs) H := hP.sub [0, 1, 13, 17, 24, 50, 2, 3, 4, 5, 6, 7, 8, 9, 10, 11, 12, 14, 15, 16, 18, 19, 20, 21, 22, 23, 25, 26, 27, 28, 29, 30, 31, 32, 33, 34, 35, 36, 37, 38, 39, 40, 41, 42, 43, 44, 45, 46, 47, 48, 49, 51] rfl
    have hD2 : va_D (fun q => s.heap.size ≤ q) (wsL qb q5_a q9_9_a r9_9_a q19_9_a q27_9_a q16_a q7_20_a q15_20_a q23_20_a q27_a q6_31_a q13_31_a q22_31_a q31_31_a q40_31_a q47_31_a q38_a q9_42_a r9_42_a q19_42_a q27_42_a q37_42_a r37_42_a q47_42_a q49_a q7_53_a cs) := hD.sub [0, 1, 13, 17, 24, 50, 2, 3, 4, 5, 6, 7, 8, 9, 10, 11, 12, 14, 15, 16, 18, 19, 20, 21, 22, 23, 25, 26, 27, 28, 29, 30, 31, 32, 33, 34, 35, 36, 37, 38, 39, 40, 41, 42, 43, 44, 45, 46, 47, 48, 49, 51] (by decide +kernel) rfl
    obtain ⟨hP3, hinj, hA3⟩ := wsL_wl qb q5_a q9_9_a r9_9_a q19_9_a q27_9_a q16_a q7_20_a q15_20_a q23_20_a q27_a q6_31_a q13_31_a q22_31_a q31_31_a q40_31_a q47_31_a q38_a q9_42_a r9_42_a q19_42_a q27_42_a q37_42_a r37_42_a q47_42_a q49_a q7_53_a cs b hP2 hD2
    refine law_mid (D := (dC, dI)) (ad := fun i => (adL qb q5_a q9_9_a r9_9_a q19_9_a q27_9_a q16_a q7_20_a q15_20_a q23_20_a q27_a q6_31_a q13_31_a q22_31_a q31_31_a q40_31_a q47_31_a q38_a q9_42_a r9_42_a q19_42_a q27_42_a q37_42_a r37_42_a q47_42_a q49_a q7_53_a b).getD i 0) (L := L) (xs := xs) hx hb hr hlocks ?_ ?_ ⟨hx, hb, hml, hown, htw, hK, hinj, hA3, ?_, ?_⟩ ⟨hX, hbl, Nat.not_le.mpr hbl⟩ (by omega) (SI_0 L xs) H locs lsA hP3 hS ?_
    · exact Nat.le_of_ble_eq_true rfl
    · exact Nat.le_of_ble_eq_true rfl
    · exact Nat.le_of_ble_eq_true rfl
    · exact Nat.le_of_ble_eq_true rfl
    · exact lv_keep hl (fun q hq => by
        rcases (show q = (0, Value.ref b) ∨ q = (1, Value.ref qb) by simpa [lvl, cvv, adL] using hq) with rfl | rfl <;> simp)
  exact main _ rfl s.heap [] ls (fun k q h => by simp at h) ⟨fun i j p q h => by simp at h, fun k q h => by simp at h⟩ va_S.rf hl
end
section
/-! ===== the claim ===== -/
theorem whole_start {p : Program} {e : Env} {s : State} {m : MethodId} {below : List Frame} {meth : Method} {c : Code} (l : Launch) (hflags : l.flags = flags0) {b L : Nat} {xs : Nat → Int32} (hL : L ≤ 260) (C0 : lw_At p s m meth c b L xs) : W p l e room_1 s m #[Value.ref b] below meth c s.heap [] 0 0 (lw_Z below #[Value.ref b] s) (entryFrame m ([Value.ref b] : List Value).toArray 15) := start_walk l hL C0
set_option maxHeartbeats 4000000 in
theorem lw_walk (l : Launch) (hflags : l.flags = flags0) (b : Addr) (xs : List Int32) : MetFree l x (headSpec (Jvm.Cond.code x code maxLocals ret :: tables_1) room_1) (lw_P b xs) (fun _ _ _ _ _ => True) lw_Q := by
  refine MetFree.of_bodyS (code := code) (maxLocals := maxLocals) (ret := ret) (by decide) ?_ ?_
  · intro args s m h hn
    obtain ⟨meth, c, h1, h2, h3, h4, h5, h6, -, -⟩ := Cond.code_spec hn (atoms_spec (ws := Jvm.Cond.code x code maxLocals ret :: tables_1) h _ List.mem_cons_self)
    exact ⟨meth, c, h1, h2, h3, h4, h5, h6⟩
  · intro p e s m args below meth c s₁ B hml0 hP _
    obtain ⟨rfl, hx, hbd, hgv⟩ := hP
    obtain ⟨scr, harrAt, hlist, hof, hsmall⟩ := hx
    obtain ⟨hcb, hkn, -, -⟩ := State.arrayAt?_spec harrAt
    have hown : s.vm.findClass R_law = some m.cls := findClass_of_methodNamed B.named
    have hts0 : ∀ c ∈ (Jvm.Cond.code x code maxLocals ret :: tables_1), c.before #[Value.ref b] s = true := atoms_spec (ws := Jvm.Cond.code x code maxLocals ret :: tables_1) B.pre
    have hts : ∀ w ∈ lw_tbl, w.before #[Value.ref b] s = true := k2_hts_sels lw_privs (fun w hw => hts0 w (List.mem_cons_of_mem _ hw)) lw_privs_ok
    have hml : c.maxLocals = 15 := B.maxLocals_eq (hts0 _ List.mem_cons_self)
    have X₀ : Stand p l e room_1 s m #[Value.ref b] below meth c s₁ [] 0 0 := Stand.of_body B
    have hh0 : s₁.heap = s.heap := by rw [B.state]; rfl
    have hsz : scr.slots.size = xs.length := by rw [← Array.length_toList, hlist, List.length_map]
    have hval : ∀ j : Nat, j < xs.length → scr.slots[j]? = some (.int (xs.getD j 0)) := fun j hj => by
      rw [← Array.getElem?_toList, hlist]
      simp [hj]
    have hbl : b < s.heap.size := (Array.getElem?_eq_some_iff.mp hcb).1
    have hX : va_X b xs.length (fun j => xs.getD j 0) s s.heap := ⟨scr, hcb, hof, hkn, hsz, hval⟩
    have K : W p l e room_1 s m #[Value.ref b] below meth c s₁.heap [] 0 0 (lw_Z below #[Value.ref b] s) (entryFrame m ([Value.ref b] : List Value).toArray 15) := by
      rw [hh0]
      exact whole_start l hflags hbd ⟨B.exec, B.bytes, B.returns, hml, hown, hts, hX, hbl, B.notSynchronized, hgv⟩
    obtain ⟨t, a1, o, b1, b2, b3⟩ := K s₁ rfl X₀
    exact ⟨t, o, a1, b1, b2, b3⟩
theorem lw_pre_spec {args : Array Value} {s : State} (h : (Jvm.Cond.and given_1 narrow_1).before args s = true) (hr : rest_1_c.before args s = true) : ∃ (b : Addr) (xs : List Int32), lw_P b xs args s := by
  have hs := flat_of_before _ h
  have hq := flat_of_before _ hr
  have hc : (Cond.count 1).before args s = true := hs _ (by decide +kernel)
  have harr : (Cond.arrayOf (.arg 0) .int).before args s = true := hs _ (by decide +kernel)
  have hle : (Cond.le (.length (.arg 0)) (.int 260)).before args s = true := hs _ (by decide +kernel)
  have hlen : (Cond.isInt (.length (.arg 0))).before args s = true := hq _ (by decide +kernel)
  have hall : (Cond.all (.arg 0) (.isInt (.elem (.arg 0) (.index 0)))).before args s = true := hq _ (by decide +kernel)
  obtain ⟨b, xs, hb, hx⟩ := State.ints_of_pre rfl harr hlen hall
  have hsm : xs.length < 2 ^ 31 := hx.choose_spec.2.2.2
  have hev : (Term.length (.arg 0)).eval args s none [] s = some (.int xs.length.toInt32) := hx.length_eval hb
  have hv := Cond.le_ints hev (show (Term.int 260).eval args s none [] s = some (.int 260) from rfl)
  have hd : xs.length.toInt32 ≤ 260 := by
    simpa [Cond.before, Cond.holds, hv] using hle
  have hN : xs.length ≤ 260 := (Int32.ofNat_le_ofNat hsm (by decide)).mp (show Int32.ofNat xs.length ≤ Int32.ofNat 260 from hd)
  exact ⟨b, xs, Cond.one_arg hc (show args[0]? = some (.ref b) from hb), hx, hN, h⟩
theorem lw_comes (l : Launch) (hflags : l.flags = flags0) : Comes l x (Jvm.Cond.code x code maxLocals ret :: tables_1) room_1 (fun tb e args s => Calls_1 tb e args s ∧ rest_1 tb e args s ∧ Pre_1 tb e args s)
    (fun _ _ args s o t => lw_Q args s o t) := by
  intro p e ha hc hk s m args below hf hfit hheap happ hpre
  obtain ⟨b, xs, hP⟩ := lw_pre_spec hpre.2.2 hpre.2.1
  obtain ⟨k, o, h1, h2, h3, hQ⟩ := lw_walk l hflags b xs p e ha hc hk s m args below hf ((Spec.applies_iff_loose hf).mp happ).1 hP trivial
  exact ⟨k, o, h1, h2, h3, hQ⟩
theorem lw_frame {s t : State} {o : Outcome} {args : Array Value} (h : Framed s o t [] 600000 7302250) :
    Framed s o t (fieldLocs frame_1_writes args s ++ arrayLocs frame_1_arrays args s ++ staticLocs frame_1_statics s) 600000 7302250 := h
theorem lw_limb (L : Cond) (hL : ∀ (args : Array Value) (s t : State), L.after args s (.returned (some (.int 1))) t = true) :
    ArmFor flags0 classFile x code maxLocals ret World_1 tables_1 room_1 Calls_1 rest_1 Pre_1
      (fun tb e a s o t => postC L tb e a s o t ∧ Framed s o t (fieldLocs frame_1_writes a s ++ arrayLocs frame_1_arrays a s ++ staticLocs frame_1_statics s) 600000 7302250) := by
  intro l hflags _ _ p e ha hc hk s m args below hf hfit hheap happ hpre
  obtain ⟨k, o, h1, h2, h3, rfl, hF⟩ := lw_comes l hflags p e ha hc hk s m args below hf hfit hheap happ hpre
  exact ⟨k, _, h1, h2, h3, hL args s _, lw_frame hF⟩
theorem i_vc : Claimed_1_1 ∧ Claimed_1_2 := ⟨lw_limb limb_1_1 (fun args s t => by simp [limb_1_1, Cond.after, Cond.holds, Cond.value]), lw_limb limb_1_2 (fun args s t => Cond.after_iff.mpr (by
  first | (rw [show limb_1_2 = Cond.eq .result (.int 1) from rfl, Cond.eq_ints (x := 1) (y := 1) rfl rfl]; simp; done) | (simp [limb_1_2, Cond.value, Term.eval]; done)))⟩
end
