/-! A calculus over the kit's rows: one fixed world (shp: the shape of every cell), a memory of ints, places for addresses. -/
abbrev Mem : Type := Nat → Nat → Int32
def mu (σ : Mem) (p i : Nat) (v : Int32) : Mem := fun q j => if q = p ∧ j = i then v else σ q j
def mf (σ : Mem) (p : Nat) (g : Nat → Int32) : Mem := fun q => if q = p then g else σ q
/-- an object: its class, its fields (none: an int; some q: the place that it holds); an array: its kind (0 int, 1 boolean), its length; a row of rows: the first's place, how many -/
abbrev Sh : Type := (Nat × List (Option Nat)) ⊕ ((Nat × Nat) ⊕ (Nat × Nat))
def fv (ad : Nat → Nat) (σ : Mem) (p i : Nat) : Option Nat → Value
  | none => .int (σ p i)
  | some q => .ref (ad q)
def fl (ad : Nat → Nat) (σ : Mem) (p : Nat) : Nat → List (Option Nat) → List Value
  | _, [] => []
  | i, o :: r => fv ad σ p i o :: fl ad σ p (i + 1) r
theorem fl_get (ad : Nat → Nat) (σ : Mem) (p : Nat) : ∀ (fs : List (Option Nat)) (i k : Nat), (fl ad σ p i fs)[k]? = (fs[k]?).map (fv ad σ p (i + k))
  | [], i, k => by simp [fl]
  | o :: r, i, 0 => by simp [fl]
  | o :: r, i, k + 1 => by
    show (fl ad σ p (i + 1) r)[k]? = _
    rw [fl_get ad σ p r (i + 1) k, List.getElem?_cons_succ, show i + 1 + k = i + (k + 1) by omega]
theorem fl_len (ad : Nat → Nat) (σ : Mem) (p : Nat) : ∀ (fs : List (Option Nat)) (i : Nat), (fl ad σ p i fs).length = fs.length
  | [], _ => rfl
  | _ :: r, i => by simp [fl, fl_len ad σ p r (i + 1)]
def ent (ad : Nat → Nat) (cs : Nat → ClassId) (σ : Mem) (p : Nat) : Sh → va_E
  | .inl o => .inr (o.1, fl ad σ p 0 o.2)
  | .inr (.inl a) => .inl (cs a.1, (a.2, .inl (σ p)))
  | .inr (.inr r) => .inl (cs 2, (r.2, .inr (.inr (.inr (.inr (fun j => some (ad (r.1 + j))))))))
def wl (ad : Nat → Nat) (cs : Nat → ClassId) (σ : Mem) : Nat → List Sh → va_W
  | _, [] => []
  | p, sh :: r => (ad p, ent ad cs σ p sh) :: wl ad cs σ (p + 1) r
theorem wl_get (ad : Nat → Nat) (cs : Nat → ClassId) (σ : Mem) : ∀ (l : List Sh) (p k : Nat), (wl ad cs σ p l)[k]? = (l[k]?).map (fun sh => (ad (p + k), ent ad cs σ (p + k) sh))
  | [], p, k => by simp [wl]
  | sh :: r, p, 0 => by simp [wl]
  | sh :: r, p, k + 1 => by
    show (wl ad cs σ (p + 1) r)[k]? = _
    rw [wl_get ad cs σ r (p + 1) k, List.getElem?_cons_succ, show p + 1 + k = p + (k + 1) by omega]
theorem wl_at {ad : Nat → Nat} {cs : Nat → ClassId} {σ : Mem} {l : List Sh} {k : Nat} {sh : Sh} (h : l[k]? = some sh) : (wl ad cs σ 0 l)[k]? = some (ad k, ent ad cs σ k sh) := by
  rw [wl_get, h, Nat.zero_add]; rfl
theorem fl_congr {ad : Nat → Nat} {σ σ' : Mem} {p : Nat} (h : σ p = σ' p) : ∀ (fs : List (Option Nat)) (i : Nat), fl ad σ p i fs = fl ad σ' p i fs
  | [], _ => rfl
  | o :: r, i => by
    show fv ad σ p i o :: _ = fv ad σ' p i o :: _
    rw [fl_congr h r (i + 1)]
    cases o <;> simp [fv, h]
theorem ent_congr {ad : Nat → Nat} {cs : Nat → ClassId} {σ σ' : Mem} {p : Nat} (h : σ p = σ' p) : ∀ sh : Sh, ent ad cs σ p sh = ent ad cs σ' p sh
  | .inl o => by show Sum.inr (o.1, fl ad σ p 0 o.2) = Sum.inr (o.1, fl ad σ' p 0 o.2); rw [fl_congr h]
  | .inr (.inl a) => by simp only [ent, h]
  | .inr (.inr r) => rfl
theorem wl_set {ad : Nat → Nat} {cs : Nat → ClassId} {σ σ' : Mem} {l : List Sh} {p : Nat} {sh : Sh} (h : l[p]? = some sh) (hq : ∀ q, q ≠ p → σ q = σ' q) {e : va_E} (he : e = ent ad cs σ' p sh) : (wl ad cs σ 0 l).set p (ad p, e) = wl ad cs σ' 0 l := by
  subst he
  apply List.ext_getElem?
  intro i
  have hlen : ∀ (l : List Sh) (n : Nat), (wl ad cs σ n l).length = l.length := by
    intro l
    induction l with
    | nil => intro n; rfl
    | cons a r ih => intro n; simp [wl, ih]
  by_cases hi : i = p
  · subst hi
    rw [List.getElem?_set_self (by rw [hlen]; exact (List.getElem?_eq_some_iff.mp h).1), wl_at h]
  · rw [List.getElem?_set_ne (Ne.symm hi), wl_get, wl_get, Nat.zero_add]
    cases l[i]? with
    | none => rfl
    | some s2 => simp only [Option.map_some, ent_congr (hq i hi) s2]
theorem fl_set {ad : Nat → Nat} {σ : Mem} {p k : Nat} {v : Int32} {fs : List (Option Nat)} (hk : fs[k]? = some none) : (fl ad σ p 0 fs).set k (.int v) = fl ad (mu σ p k v) p 0 fs := by
  apply List.ext_getElem?
  intro i
  by_cases hi : i = k
  · subst hi
    rw [List.getElem?_set_self (by rw [fl_len]; exact (List.getElem?_eq_some_iff.mp hk).1), fl_get, hk]
    simp [fv, mu]
  · rw [List.getElem?_set_ne (Ne.symm hi), fl_get, fl_get, Nat.zero_add]
    cases fs[i]? with
    | none => rfl
    | some o => cases o <;> simp [fv, mu, hi]
theorem mu_row (σ : Mem) (p i : Nat) (v : Int32) : mu σ p i v p = upd (σ p) i v := by
  funext j
  simp [mu, upd]
theorem mu_ne {σ : Mem} {p i q : Nat} {v : Int32} (h : q ≠ p) : σ q = mu σ p i v q := by
  funext j
  simp [mu, h]
theorem mf_row (σ : Mem) (p : Nat) (g : Nat → Int32) : mf σ p g p = g := by simp [mf]
theorem mf_ne {σ : Mem} {p q : Nat} {g : Nat → Int32} (h : q ≠ p) : σ q = mf σ p g q := by simp [mf, h]
/-! the world of this claim -/
def shp : List Sh := [
  .inl (5, [some 1, some 2, some 3, some 4, some 5, none]),
  .inl (3, [some 6, some 15, some 16]),
  .inl (2, [some 17, some 18, some 19, none, none, none, none, none, none]),
  .inl (1, [some 20, some 21, some 22, some 23, some 24, some 25, none, none, none, none, none]),
  .inl (4, [some 26, some 37, some 38, some 39, some 50, none, none, none, none, none, none, none]),
  .inl (0, [some 51, none]),
  .inr (.inr (7, 8)), .inr (.inl (0, 60)), .inr (.inl (0, 60)), .inr (.inl (0, 60)), .inr (.inl (0, 60)), .inr (.inl (0, 60)), .inr (.inl (0, 60)), .inr (.inl (0, 60)), .inr (.inl (0, 60)),
  .inr (.inl (0, 8)), .inr (.inl (0, 8)),
  .inr (.inl (0, 10)), .inr (.inl (0, 10)), .inr (.inl (0, 12)),
  .inr (.inl (0, 4)), .inr (.inl (0, 4)), .inr (.inl (0, 128)), .inr (.inl (1, 128)), .inr (.inl (0, 128)), .inr (.inl (0, 5)),
  .inr (.inr (27, 10)), .inr (.inl (0, 10)), .inr (.inl (0, 10)), .inr (.inl (0, 10)), .inr (.inl (0, 10)), .inr (.inl (0, 10)), .inr (.inl (0, 10)), .inr (.inl (0, 10)), .inr (.inl (0, 10)), .inr (.inl (0, 10)), .inr (.inl (0, 10)),
  .inr (.inl (0, 10)), .inr (.inl (0, 10)),
  .inr (.inr (40, 10)), .inr (.inl (0, 10)), .inr (.inl (0, 10)), .inr (.inl (0, 10)), .inr (.inl (0, 10)), .inr (.inl (0, 10)), .inr (.inl (0, 10)), .inr (.inl (0, 10)), .inr (.inl (0, 10)), .inr (.inl (0, 10)), .inr (.inl (0, 10)),
  .inr (.inl (0, 10)),
  .inr (.inl (0, 16))]
theorem shp_len : shp.length = 52 := by decide +kernel
theorem shp_items {j : Nat} (h : j < 8) : shp[7 + j]? = some (.inr (.inl (0, 60))) := by
  rcases (show j = 0 ∨ j = 1 ∨ j = 2 ∨ j = 3 ∨ j = 4 ∨ j = 5 ∨ j = 6 ∨ j = 7 by omega) with rfl | rfl | rfl | rfl | rfl | rfl | rfl | rfl <;> rfl
theorem shp_ways {j : Nat} (h : j < 10) : shp[27 + j]? = some (.inr (.inl (0, 10))) := by
  rcases (show j = 0 ∨ j = 1 ∨ j = 2 ∨ j = 3 ∨ j = 4 ∨ j = 5 ∨ j = 6 ∨ j = 7 ∨ j = 8 ∨ j = 9 by omega) with rfl | rfl | rfl | rfl | rfl | rfl | rfl | rfl | rfl | rfl <;> rfl
theorem shp_near {j : Nat} (h : j < 10) : shp[40 + j]? = some (.inr (.inl (0, 10))) := by
  rcases (show j = 0 ∨ j = 1 ∨ j = 2 ∨ j = 3 ∨ j = 4 ∨ j = 5 ∨ j = 6 ∨ j = 7 ∨ j = 8 ∨ j = 9 by omega) with rfl | rfl | rfl | rfl | rfl | rfl | rfl | rfl | rfl | rfl <;> rfl
def cvv (ad : Nat → Nat) : Value → Value
  | .ref a => .ref (ad a)
  | v => v
theorem cvv_cat (ad : Nat → Nat) (v : Value) : (cvv ad v).category = v.category := by cases v <;> rfl
/-! locals -/
def nth : List (Option Value) → Nat → Option Value
  | [], _ => none
  | a :: _, 0 => a
  | _ :: l, n + 1 => nth l n
def sett : List (Option Value) → Nat → Value → List (Option Value)
  | [], _, _ => []
  | _ :: l, 0, v => some v :: l
  | a :: l, n + 1, v => a :: sett l n v
def nol : List (Option Value) → Bool
  | [] => true
  | some (.long _) :: _ => false
  | some (.double _) :: _ => false
  | _ :: l => nol l
def lvl (ad : Nat → Nat) : Nat → List (Option Value) → List (Nat × Value)
  | _, [] => []
  | i, none :: r => lvl ad (i + 1) r
  | i, some v :: r => (i, cvv ad v) :: lvl ad (i + 1) r
theorem lvl_mem {ad : Nat → Nat} : ∀ {ls : List (Option Value)} {k : Nat} {q : Nat × Value}, q ∈ lvl ad k ls ↔ ∃ (j : Nat) (v : Value), nth ls j = some v ∧ q = (k + j, cvv ad v)
  | [], k, q => by simp [lvl, nth]
  | none :: r, k, q => by
    show q ∈ lvl ad (k + 1) r ↔ _
    rw [lvl_mem (ls := r)]
    constructor
    · rintro ⟨j, v, h1, h2⟩
      exact ⟨j + 1, v, h1, by rw [h2, show k + 1 + j = k + (j + 1) by omega]⟩
    · rintro ⟨j, v, h1, h2⟩
      cases j with
      | zero => cases h1
      | succ j => exact ⟨j, v, h1, by rw [h2, show k + 1 + j = k + (j + 1) by omega]⟩
  | some w :: r, k, q => by
    show q ∈ (k, cvv ad w) :: lvl ad (k + 1) r ↔ _
    rw [List.mem_cons, lvl_mem (ls := r)]
    constructor
    · rintro (h | ⟨j, v, h1, h2⟩)
      · exact ⟨0, w, rfl, h⟩
      · exact ⟨j + 1, v, h1, by rw [h2, show k + 1 + j = k + (j + 1) by omega]⟩
    · rintro ⟨j, v, h1, h2⟩
      cases j with
      | zero => cases h1; exact Or.inl h2
      | succ j => exact Or.inr ⟨j, v, h1, by rw [h2, show k + 1 + j = k + (j + 1) by omega]⟩
theorem nth_sett : ∀ (ls : List (Option Value)) (i j : Nat) (v : Value), nth (sett ls i v) j = if j = i ∧ i < ls.length then some v else nth ls j
  | [], i, j, v => by simp [sett, nth]
  | a :: l, 0, 0, v => by simp [sett, nth]
  | a :: l, 0, j + 1, v => by simp [sett, nth]
  | a :: l, i + 1, 0, v => by simp [sett, nth]
  | a :: l, i + 1, j + 1, v => by
    show nth (sett l i v) j = _
    rw [nth_sett l i j v]
    simp [nth]
theorem sett_len : ∀ (ls : List (Option Value)) (i : Nat) (v : Value), (sett ls i v).length = ls.length
  | [], _, _ => rfl
  | _ :: _, 0, _ => rfl
  | _ :: l, i + 1, v => by simp [sett, sett_len l i v]
theorem nol_at : ∀ {ls : List (Option Value)} {j : Nat} {v : Value}, nol ls = true → nth ls j = some v → v.category = 1
  | [], j, v, _, h => by cases h
  | o :: l, 0, v, hn, h => by
    cases h
    cases v <;> first | rfl | (simp [nol] at hn)
  | o :: l, j + 1, v, hn, h => by
    have hl : nol l = true := by
      cases o with
      | none => exact hn
      | some w => cases w <;> first | exact hn | (simp [nol] at hn)
    exact nol_at hl h
theorem lv_keep {ls : Array Slot} {nL : Nat} {l l' : List (Nat × Value)} (h : lv_has ls nL l) (hs : ∀ q ∈ l', q ∈ l) : lv_has ls nL l' := ⟨h.1, h.2.1, fun q hq => h.2.2 q (hs q hq)⟩
theorem lvl_sett {ad : Nat → Nat} {ls : List (Option Value)} {i : Nat} {v : Value} (hn : nol ls = true) : ∀ q ∈ lvl ad 0 (sett ls i v), q ∈ (i, cvv ad v) :: (lvl ad 0 ls).filter (fun q => !(q.1 == i) && !(q.1 + 1 == i && q.2.category == 2)) := by
  intro q hq
  obtain ⟨j, w, h1, h2⟩ := lvl_mem.mp hq
  rw [nth_sett] at h1
  rw [Nat.zero_add] at h2
  by_cases hj : j = i ∧ i < ls.length
  · rw [if_pos hj] at h1
    cases h1
    rw [h2, hj.1]
    exact List.mem_cons_self
  · rw [if_neg hj] at h1
    by_cases hji : j = i
    · have : ls.length ≤ j := by
        rcases Nat.lt_or_ge j ls.length with h | h
        · exact absurd ⟨hji, by omega⟩ hj
        · exact h
      have hz : ∀ (l : List (Option Value)) (n : Nat), l.length ≤ n → nth l n = none := by
        intro l
        induction l with
        | nil => intro n _; rfl
        | cons a r ih =>
          intro n hn
          cases n with
          | zero => simp at hn
          | succ n => exact ih n (by simp at hn; omega)
      rw [hz ls j this] at h1
      cases h1
    · refine List.mem_cons_of_mem _ (List.mem_filter.mpr ⟨lvl_mem.mpr ⟨j, w, h1, by rw [h2, Nat.zero_add]⟩, ?_⟩)
      have hc : (cvv ad w).category = 1 := by rw [cvv_cat]; exact nol_at hn h1
      rw [h2]
      simp [hji, hc]
theorem lvl_nth {ad : Nat → Nat} {ls : List (Option Value)} {lsA : Array Slot} {nL i : Nat} {v : Value} (h : lv_has lsA nL (lvl ad 0 ls)) (hi : nth ls i = some v) : lsA[i]? = some (.val (cvv ad v)) :=
  h.2.2 (i, cvv ad v) (lvl_mem.mpr ⟨i, v, hi, by rw [Nat.zero_add]⟩)
def nestWord : Cond → Bool
  | .fieldLinkNest _ _ _ _ _ _ => true
  | .methodLinkNest _ _ _ _ => true
  | _ => false
/-- the words that a callee may take over: such as stay true behind a step -/
def lw_w : List Cond := lw_tbl.filter (fun w => goodWord w || nestWord w)
theorem lw_mem {w : Cond} (i : Nat) (h : lw_tbl[i]? = some w) (hg : (goodWord w || nestWord w) = true) : w ∈ lw_w := List.mem_filter.mpr ⟨List.mem_of_getElem? h, hg⟩
/-! the judgement: from this pc, these locals, this stack, this memory the method comes to its end -/
abbrev XC : Type := Program × Launch × Env × Room × State × MethodId × Array Value × List Frame × Method × Code × Nat × Nat × (State → Prop) × (Nat → Prop) × va_G × (Nat → Nat) × (Nat → ClassId) × Heap
def tys3 (cs : Nat → ClassId) : List (ClassId × FieldType) := [(cs 0, .int), (cs 1, .boolean), (cs 2, .array .int)]
def Vw (X : XC) (pc : Nat) (ls : List (Option Value)) (st : List Value) (σ : Mem) : Prop := match X with
  | (p, l, e, R, s, m, args, below, meth, c, cells, slots, Q, A, D, ad, cs, H0) =>
    ∀ (H : Heap) (locs : List Loc) (lsA : Array Slot), va_P D vwCl (wl ad cs σ 0 shp) H → va_S A H0 H locs → lv_has lsA ls.length (lvl ad 0 ls) → W p l e R s m args below meth c H locs cells slots Q (F0 m pc lsA (st.map (cvv ad)))
def Cok (X : XC) (own : String) (cc : ByteArray) (nL : Nat) : Prop := match X with
  | (p, _, _, R, s, m, args, _, _, c, cells, slots, _, A, D, ad, cs, _) =>
    p.tables.exec = Jvm.exec ∧ c.code = cc ∧ c.maxLocals = nL ∧ s.vm.findClass own = some m.cls ∧ (∀ w ∈ lw_w, w.before args s = true) ∧ va_K D vwCl (tys3 cs) s ∧ (∀ i j : Nat, i < 52 → j < 52 → ad i = ad j → i = j) ∧ (∀ i : Nat, i < 52 → A (ad i)) ∧ cells ≤ R.cells ∧ slots ≤ R.slots
def Rok (X : XC) (d : Nat) : Prop := match X with
  | (_, _, _, R, _, _, _, _, _, _, _, _, _, _, _, _, _, _) => d ≤ R.frames ∧ 40 * d ≤ R.locals
def inW (ad : Nat → Nat) : Nat → Prop := fun q => ∃ i : Nat, i < 52 ∧ ad i = q
def Qg (D : va_G) (ad : Nat → Nat) (cs : Nat → ClassId) (A : Nat → Prop) (P : Option Value → Mem → Prop) : Array Value → State → Outcome → State → Prop := fun _ st oc t =>
  (∃ (r : Option Value) (σ : Mem), oc = .returned (r.map (cvv ad)) ∧ P r σ ∧ va_P D vwCl (wl ad cs σ 0 shp) t.heap ∧ va_K D vwCl (tys3 cs) t) ∧ va_F A st t
def Ret (X : XC) (ret : Option FieldType) (P : Option Value → Mem → Prop) : Prop := match X with
  | (_, _, _, _, s, _, args, below, meth, _, cells, slots, Q, A, D, ad, cs, H0) => meth.sig.returnType = ret ∧ meth.locks = false ∧ H0 = s.heap ∧ cells = 0 ∧ slots = 0 ∧ Q = MQ below (Qg D ad cs A P) args s 0 0 A
def rmd (d : Nat) : Room := { frames := d, cells := 0, slots := 0, locals := 40 * d }
/-- a method's contract: from these arguments and this memory it answers r and leaves the memory σ', with P r σ' -/
def Cc (y : MethodName) (cc : ByteArray) (mx : Nat) (ret : Option FieldType) (d : Nat) (args : List Value) (σ : Mem) (P : Option Value → Mem → Prop) : Prop :=
  ∀ (l : Launch) (D : va_G) (ad : Nat → Nat) (cs : Nat → ClassId), (∀ i j : Nat, i < 52 → j < 52 → ad i = ad j → i = j) →
    Met l y (Cond.code y cc mx ret :: lw_w) (rmd d) (va_Pc (args.map (cvv ad)) (fun U => va_P D vwCl (wl ad cs σ 0 shp) U.heap ∧ va_K D vwCl (tys3 cs) U)) (Qg D ad cs (inW ad) P) 0 0 (inW ad)
theorem wl_D {A : Nat → Prop} {ad : Nat → Nat} {cs : Nat → ClassId} {σ : Mem} (h1 : ∀ i j : Nat, i < 52 → j < 52 → ad i = ad j → i = j) (h2 : ∀ i : Nat, i < 52 → A (ad i)) : va_D A (wl ad cs σ 0 shp) := by
  have key : ∀ (k : Nat) (q : Nat × va_E), (wl ad cs σ 0 shp)[k]? = some q → k < 52 ∧ q.1 = ad k := by
    intro k q hk
    rw [wl_get, Nat.zero_add] at hk
    cases hs : shp[k]? with
    | none => rw [hs] at hk; cases hk
    | some sh =>
      rw [hs] at hk
      cases hk
      exact ⟨by rw [← shp_len]; exact (List.getElem?_eq_some_iff.mp hs).1, rfl⟩
  refine ⟨fun i j p q hi hj hpq => ?_, fun k q hk => ?_⟩
  · obtain ⟨a1, a2⟩ := key i p hi
    obtain ⟨b1, b2⟩ := key j q hj
    exact h1 i j a1 b1 (by rw [← a2, ← b2]; exact hpq)
  · obtain ⟨a1, a2⟩ := key k q hk
    rw [a2]
    exact h2 k a1
theorem inW_A {ad : Nat → Nat} {A : Nat → Prop} (h2 : ∀ i : Nat, i < 52 → A (ad i)) : ∀ q, inW ad q → A q := by
  rintro q ⟨i, h, rfl⟩
  exact h2 i h
/-- a field of a class of the world, as the table has it -/
def Fld (own : String) (index ci k : Nat) : Prop := ∃ (C : String) (T : u_T) (N : Nat), vwCl[ci]? = some (C, T, N) ∧ k < N ∧ (∀ w ∈ u_ws C T N, w ∈ lw_w) ∧ (∃ ty : Nat → FieldType, ∀ k, k < N → parseFieldDescriptor (T k).2.2.1 = some (ty k)) ∧ (∀ a, a < N → ∀ b, b < N → a ≠ b → (T a).2.1 ≠ (T b).2.1) ∧
  (Cond.fieldLink own index (T k).1 (T k).2.1 (T k).2.2.1 ∈ lw_w ∨ ∃ host, Cond.fieldLinkNest own index (T k).1 (T k).2.1 (T k).2.2.1 host ∈ lw_w)
/-- an int field that is written -/
def Fint (ci k : Nat) : Prop := ∀ (C : String) (T : u_T) (N : Nat), vwCl[ci]? = some (C, T, N) → (T k).2.2.2 = false ∧ parseFieldDescriptor (T k).2.2.1 = some .int
def Mth (own : String) (index : Nat) (y : MethodName) (cc : ByteArray) (mx : Nat) (ret : Option FieldType) (n : Nat) : Prop :=
  (y.cls ≠ "java/lang/invoke/MethodHandle" ∧ y.cls ≠ "java/lang/invoke/VarHandle" ∧ (parseMethodDescriptor y.desc).map (fun d => d.parameters.length) = some n) ∧ mx ≤ 21 ∧ Cond.code y cc mx ret ∈ lw_w ∧ Cond.initialized y.cls ∈ lw_w ∧
  (Cond.methodLink own index y ∈ lw_w ∨ ∃ host, Cond.methodLinkNest own index y host ∈ lw_w)
def MthV (own : String) (index : Nat) (y : MethodName) (ci : Nat) (cc : ByteArray) (mx : Nat) (ret : Option FieldType) (n : Nat) : Prop :=
  Mth own index y cc mx ret n ∧ (∃ (T : u_T) (N : Nat), vwCl[ci]? = some (y.cls, T, N)) ∧ Cond.instanceMethod y ∈ lw_w ∧ Cond.selects y.cls y y ∈ lw_w
def MthS (own : String) (index : Nat) (y : MethodName) (cc : ByteArray) (mx : Nat) (ret : Option FieldType) (n : Nat) : Prop := Mth own index y cc mx ret n ∧ Cond.static y ∈ lw_w
theorem lw_good : lw_w.all (fun w => goodWord w || nestWord w) = true := by
  unfold lw_w
  rw [List.all_eq_true]
  intro w hw
  exact (List.mem_filter.mp hw).2
theorem nest_warm {w : Cond} (hn : nestWord w = true) {args : Array Value} {s : State} (h : w.before args s = true) (a' : Array Value) (U : State) (hW : s.WarmedH U.vm) : w.before a' U = true := by
  cases w <;> first
    | exact va_Nw.use rfl (va_Nw.warmF hW (va_Nw.of rfl h))
    | exact va_Nw.use rfl (va_Nw.warmM hW (va_Nw.of rfl h))
    | (cases hn)
theorem lw_warm {args : Array Value} {s : State} (hts : ∀ w ∈ lw_w, w.before args s = true) (w : Cond) (hw : w ∈ lw_w) (a' : Array Value) (U : State) (hW : s.WarmedH U.vm) : w.before a' U = true := by
  have h1 := List.all_eq_true.mp lw_good w hw
  rcases Bool.or_eq_true _ _ ▸ h1 with h2 | h2
  · exact word_at hW (good_of_word h2) (hts w hw)
  · exact nest_warm h2 (hts w hw) a' U hW
theorem lw_max_st : Cond.static Lib.Math.max.name ∈ lw_w := lw_mem 278 (by decide +kernel) (by decide +kernel)
theorem lw_max_in : Cond.initialized "java/lang/Math" ∈ lw_w := lw_mem 19 (by decide +kernel) (by decide +kernel)
theorem lw_max_co : Cond.code Lib.Math.max.name Lib.Math.max.code 2 (some .int) ∈ lw_w := lw_mem 279 (by decide +kernel) (by decide +kernel)
theorem lw_min_st : Cond.static Lib.Math.min.name ∈ lw_w := lw_mem 247 (by decide +kernel) (by decide +kernel)
theorem lw_min_in : Cond.initialized "java/lang/Math" ∈ lw_w := lw_mem 19 (by decide +kernel) (by decide +kernel)
theorem lw_min_co : Cond.code Lib.Math.min.name Lib.Math.min.code 2 (some .int) ∈ lw_w := lw_mem 248 (by decide +kernel) (by decide +kernel)

theorem V_iconst {X : XC} {own : String} {cc : ByteArray} {nL pc : Nat} {ls : List (Option Value)} {st : List Value} {σ : Mem} {n : Int} {v : Int32} (hX : Cok X own cc nL) (hd : decode cc pc = .ok (.iconst n, 1)) (hv : Int32.ofInt n = v) (kk : Vw X (pc + 1) ls (.int v :: st) σ) : Vw X pc ls (st) σ := by
  obtain ⟨p, l, e, R, s, m, args, below, meth, c, cells, slots, Q, A, D, ad, cs, H0⟩ := X
  intro H locs lsA hP hS hl
  exact lv_iconst hX.1 hX.2.1 hd hv (kk H locs lsA hP hS hl)
theorem V_bipush {X : XC} {own : String} {cc : ByteArray} {nL pc : Nat} {ls : List (Option Value)} {st : List Value} {σ : Mem} {n : Int} {v : Int32} (hX : Cok X own cc nL) (hd : decode cc pc = .ok (.bipush n, 2)) (hv : (Int8.ofInt n).toInt32 = v) (kk : Vw X (pc + 2) ls (.int v :: st) σ) : Vw X pc ls (st) σ := by
  obtain ⟨p, l, e, R, s, m, args, below, meth, c, cells, slots, Q, A, D, ad, cs, H0⟩ := X
  intro H locs lsA hP hS hl
  exact lv_bipush hX.1 hX.2.1 hd hv (kk H locs lsA hP hS hl)
theorem V_sipush {X : XC} {own : String} {cc : ByteArray} {nL pc : Nat} {ls : List (Option Value)} {st : List Value} {σ : Mem} {n : Int} {v : Int32} (hX : Cok X own cc nL) (hd : decode cc pc = .ok (.sipush n, 3)) (hv : (Int16.ofInt n).toInt32 = v) (kk : Vw X (pc + 3) ls (.int v :: st) σ) : Vw X pc ls (st) σ := by
  obtain ⟨p, l, e, R, s, m, args, below, meth, c, cells, slots, Q, A, D, ad, cs, H0⟩ := X
  intro H locs lsA hP hS hl
  exact lv_sipush hX.1 hX.2.1 hd hv (kk H locs lsA hP hS hl)
theorem V_lconst {X : XC} {own : String} {cc : ByteArray} {nL pc : Nat} {ls : List (Option Value)} {st : List Value} {σ : Mem} {n : Fin 2} {v : Int64} (hX : Cok X own cc nL) (hd : decode cc pc = .ok (.lconst n, 1)) (hv : Int64.ofNat (n : Nat) = v) (kk : Vw X (pc + 1) ls (.long v :: st) σ) : Vw X pc ls (st) σ := by
  obtain ⟨p, l, e, R, s, m, args, below, meth, c, cells, slots, Q, A, D, ad, cs, H0⟩ := X
  intro H locs lsA hP hS hl
  exact lv_lconst hX.1 hX.2.1 hd hv (kk H locs lsA hP hS hl)
theorem V_iadd {X : XC} {own : String} {cc : ByteArray} {nL pc : Nat} {ls : List (Option Value)} {st : List Value} {σ : Mem} {x y : Int32} (hX : Cok X own cc nL) (hd : decode cc pc = .ok (.iadd, 1)) (kk : Vw X (pc + 1) ls (.int (x + y) :: st) σ) : Vw X pc ls (.int y :: .int x :: st) σ := by
  obtain ⟨p, l, e, R, s, m, args, below, meth, c, cells, slots, Q, A, D, ad, cs, H0⟩ := X
  intro H locs lsA hP hS hl
  exact lv_iadd hX.1 hX.2.1 hd (kk H locs lsA hP hS hl)
theorem V_isub {X : XC} {own : String} {cc : ByteArray} {nL pc : Nat} {ls : List (Option Value)} {st : List Value} {σ : Mem} {x y : Int32} (hX : Cok X own cc nL) (hd : decode cc pc = .ok (.isub, 1)) (kk : Vw X (pc + 1) ls (.int (x - y) :: st) σ) : Vw X pc ls (.int y :: .int x :: st) σ := by
  obtain ⟨p, l, e, R, s, m, args, below, meth, c, cells, slots, Q, A, D, ad, cs, H0⟩ := X
  intro H locs lsA hP hS hl
  exact lv_isub hX.1 hX.2.1 hd (kk H locs lsA hP hS hl)
theorem V_imul {X : XC} {own : String} {cc : ByteArray} {nL pc : Nat} {ls : List (Option Value)} {st : List Value} {σ : Mem} {x y : Int32} (hX : Cok X own cc nL) (hd : decode cc pc = .ok (.imul, 1)) (kk : Vw X (pc + 1) ls (.int (x * y) :: st) σ) : Vw X pc ls (.int y :: .int x :: st) σ := by
  obtain ⟨p, l, e, R, s, m, args, below, meth, c, cells, slots, Q, A, D, ad, cs, H0⟩ := X
  intro H locs lsA hP hS hl
  exact lv_imul hX.1 hX.2.1 hd (kk H locs lsA hP hS hl)
theorem V_iand {X : XC} {own : String} {cc : ByteArray} {nL pc : Nat} {ls : List (Option Value)} {st : List Value} {σ : Mem} {x y : Int32} (hX : Cok X own cc nL) (hd : decode cc pc = .ok (.iand, 1)) (kk : Vw X (pc + 1) ls (.int (x &&& y) :: st) σ) : Vw X pc ls (.int y :: .int x :: st) σ := by
  obtain ⟨p, l, e, R, s, m, args, below, meth, c, cells, slots, Q, A, D, ad, cs, H0⟩ := X
  intro H locs lsA hP hS hl
  exact lv_iand hX.1 hX.2.1 hd (kk H locs lsA hP hS hl)
theorem V_ior {X : XC} {own : String} {cc : ByteArray} {nL pc : Nat} {ls : List (Option Value)} {st : List Value} {σ : Mem} {x y : Int32} (hX : Cok X own cc nL) (hd : decode cc pc = .ok (.ior, 1)) (kk : Vw X (pc + 1) ls (.int (x ||| y) :: st) σ) : Vw X pc ls (.int y :: .int x :: st) σ := by
  obtain ⟨p, l, e, R, s, m, args, below, meth, c, cells, slots, Q, A, D, ad, cs, H0⟩ := X
  intro H locs lsA hP hS hl
  exact lv_ior hX.1 hX.2.1 hd (kk H locs lsA hP hS hl)
theorem V_ixor {X : XC} {own : String} {cc : ByteArray} {nL pc : Nat} {ls : List (Option Value)} {st : List Value} {σ : Mem} {x y : Int32} (hX : Cok X own cc nL) (hd : decode cc pc = .ok (.ixor, 1)) (kk : Vw X (pc + 1) ls (.int (x ^^^ y) :: st) σ) : Vw X pc ls (.int y :: .int x :: st) σ := by
  obtain ⟨p, l, e, R, s, m, args, below, meth, c, cells, slots, Q, A, D, ad, cs, H0⟩ := X
  intro H locs lsA hP hS hl
  exact lv_ixor hX.1 hX.2.1 hd (kk H locs lsA hP hS hl)
theorem V_ishl {X : XC} {own : String} {cc : ByteArray} {nL pc : Nat} {ls : List (Option Value)} {st : List Value} {σ : Mem} {x y : Int32} (hX : Cok X own cc nL) (hd : decode cc pc = .ok (.ishl, 1)) (kk : Vw X (pc + 1) ls (.int (x <<< (y &&& 31)) :: st) σ) : Vw X pc ls (.int y :: .int x :: st) σ := by
  obtain ⟨p, l, e, R, s, m, args, below, meth, c, cells, slots, Q, A, D, ad, cs, H0⟩ := X
  intro H locs lsA hP hS hl
  exact lv_ishl hX.1 hX.2.1 hd (kk H locs lsA hP hS hl)
theorem V_ishr {X : XC} {own : String} {cc : ByteArray} {nL pc : Nat} {ls : List (Option Value)} {st : List Value} {σ : Mem} {x y : Int32} (hX : Cok X own cc nL) (hd : decode cc pc = .ok (.ishr, 1)) (kk : Vw X (pc + 1) ls (.int (x >>> (y &&& 31)) :: st) σ) : Vw X pc ls (.int y :: .int x :: st) σ := by
  obtain ⟨p, l, e, R, s, m, args, below, meth, c, cells, slots, Q, A, D, ad, cs, H0⟩ := X
  intro H locs lsA hP hS hl
  exact lv_ishr hX.1 hX.2.1 hd (kk H locs lsA hP hS hl)
theorem V_idiv {X : XC} {own : String} {cc : ByteArray} {nL pc : Nat} {ls : List (Option Value)} {st : List Value} {σ : Mem} {x y : Int32} (hX : Cok X own cc nL) (hd : decode cc pc = .ok (.idiv, 1)) (hne : ¬ y = 0) (kk : Vw X (pc + 1) ls (.int (x / y) :: st) σ) : Vw X pc ls (.int y :: .int x :: st) σ := by
  obtain ⟨p, l, e, R, s, m, args, below, meth, c, cells, slots, Q, A, D, ad, cs, H0⟩ := X
  intro H locs lsA hP hS hl
  exact lv_idiv hX.1 hX.2.1 hd hne (kk H locs lsA hP hS hl)
theorem V_irem {X : XC} {own : String} {cc : ByteArray} {nL pc : Nat} {ls : List (Option Value)} {st : List Value} {σ : Mem} {x y : Int32} (hX : Cok X own cc nL) (hd : decode cc pc = .ok (.irem, 1)) (hne : ¬ y = 0) (kk : Vw X (pc + 1) ls (.int (x - x / y * y) :: st) σ) : Vw X pc ls (.int y :: .int x :: st) σ := by
  obtain ⟨p, l, e, R, s, m, args, below, meth, c, cells, slots, Q, A, D, ad, cs, H0⟩ := X
  intro H locs lsA hP hS hl
  exact lv_irem hX.1 hX.2.1 hd hne (kk H locs lsA hP hS hl)
theorem V_iushr {X : XC} {own : String} {cc : ByteArray} {nL pc : Nat} {ls : List (Option Value)} {st : List Value} {σ : Mem} {x y : Int32} (hX : Cok X own cc nL) (hd : decode cc pc = .ok (.iushr, 1)) (kk : Vw X (pc + 1) ls (.int ((x.toUInt32 >>> (y.toUInt32 &&& Int32.toUInt32 31)).toInt32) :: st) σ) : Vw X pc ls (.int y :: .int x :: st) σ := by
  obtain ⟨p, l, e, R, s, m, args, below, meth, c, cells, slots, Q, A, D, ad, cs, H0⟩ := X
  intro H locs lsA hP hS hl
  exact lv_iushr hX.1 hX.2.1 hd rfl (kk H locs lsA hP hS hl)
theorem V_i2l {X : XC} {own : String} {cc : ByteArray} {nL pc : Nat} {ls : List (Option Value)} {st : List Value} {σ : Mem} {x : Int32} (hX : Cok X own cc nL) (hd : decode cc pc = .ok (.i2l, 1)) (kk : Vw X (pc + 1) ls (.long x.toInt64 :: st) σ) : Vw X pc ls (.int x :: st) σ := by
  obtain ⟨p, l, e, R, s, m, args, below, meth, c, cells, slots, Q, A, D, ad, cs, H0⟩ := X
  intro H locs lsA hP hS hl
  exact lv_i2l hX.1 hX.2.1 hd rfl (kk H locs lsA hP hS hl)
theorem V_i2b {X : XC} {own : String} {cc : ByteArray} {nL pc : Nat} {ls : List (Option Value)} {st : List Value} {σ : Mem} {x : Int32} (hX : Cok X own cc nL) (hd : decode cc pc = .ok (.i2b, 1)) (kk : Vw X (pc + 1) ls (.int x.toInt8.toInt32 :: st) σ) : Vw X pc ls (.int x :: st) σ := by
  obtain ⟨p, l, e, R, s, m, args, below, meth, c, cells, slots, Q, A, D, ad, cs, H0⟩ := X
  intro H locs lsA hP hS hl
  exact lv_i2b hX.1 hX.2.1 hd rfl (kk H locs lsA hP hS hl)
theorem V_i2s {X : XC} {own : String} {cc : ByteArray} {nL pc : Nat} {ls : List (Option Value)} {st : List Value} {σ : Mem} {x : Int32} (hX : Cok X own cc nL) (hd : decode cc pc = .ok (.i2s, 1)) (kk : Vw X (pc + 1) ls (.int x.toInt16.toInt32 :: st) σ) : Vw X pc ls (.int x :: st) σ := by
  obtain ⟨p, l, e, R, s, m, args, below, meth, c, cells, slots, Q, A, D, ad, cs, H0⟩ := X
  intro H locs lsA hP hS hl
  exact lv_i2s hX.1 hX.2.1 hd rfl (kk H locs lsA hP hS hl)
theorem V_ladd {X : XC} {own : String} {cc : ByteArray} {nL pc : Nat} {ls : List (Option Value)} {st : List Value} {σ : Mem} {x y : Int64} (hX : Cok X own cc nL) (hd : decode cc pc = .ok (.ladd, 1)) (kk : Vw X (pc + 1) ls (.long (x + y) :: st) σ) : Vw X pc ls (.long y :: .long x :: st) σ := by
  obtain ⟨p, l, e, R, s, m, args, below, meth, c, cells, slots, Q, A, D, ad, cs, H0⟩ := X
  intro H locs lsA hP hS hl
  exact lv_ladd hX.1 hX.2.1 hd (kk H locs lsA hP hS hl)
theorem V_lcmp {X : XC} {own : String} {cc : ByteArray} {nL pc : Nat} {ls : List (Option Value)} {st : List Value} {σ : Mem} {x y : Int64} (hX : Cok X own cc nL) (hd : decode cc pc = .ok (.lcmp, 1)) (kk : Vw X (pc + 1) ls (.int (lg_cmp x y) :: st) σ) : Vw X pc ls (.long y :: .long x :: st) σ := by
  obtain ⟨p, l, e, R, s, m, args, below, meth, c, cells, slots, Q, A, D, ad, cs, H0⟩ := X
  intro H locs lsA hP hS hl
  exact W.lcmp hX.1 hX.2.1 hd (kk H locs lsA hP hS hl)
theorem V_dup {X : XC} {own : String} {cc : ByteArray} {nL pc : Nat} {ls : List (Option Value)} {st : List Value} {σ : Mem} {v : Value} (hX : Cok X own cc nL) (hd : decode cc pc = .ok (.dup, 1)) (hc : v.category = 1) (kk : Vw X (pc + 1) ls (v :: v :: st) σ) : Vw X pc ls (v :: st) σ := by
  obtain ⟨p, l, e, R, s, m, args, below, meth, c, cells, slots, Q, A, D, ad, cs, H0⟩ := X
  intro H locs lsA hP hS hl
  exact lv_dup hX.1 hX.2.1 hd (by rw [cvv_cat]; exact hc) (kk H locs lsA hP hS hl)
theorem V_dup2 {X : XC} {own : String} {cc : ByteArray} {nL pc : Nat} {ls : List (Option Value)} {st : List Value} {σ : Mem} {v u : Value} (hX : Cok X own cc nL) (hd : decode cc pc = .ok (.dup2, 1)) (hc : v.category = 1) (hc2 : u.category = 1) (kk : Vw X (pc + 1) ls (v :: u :: v :: u :: st) σ) : Vw X pc ls (v :: u :: st) σ := by
  obtain ⟨p, l, e, R, s, m, args, below, meth, c, cells, slots, Q, A, D, ad, cs, H0⟩ := X
  intro H locs lsA hP hS hl
  exact lv_dup2_11 hX.1 hX.2.1 hd (by rw [cvv_cat]; exact hc) (by rw [cvv_cat]; exact hc2) (kk H locs lsA hP hS hl)
theorem V_iload_n {X : XC} {own : String} {cc : ByteArray} {nL pc : Nat} {ls : List (Option Value)} {st : List Value} {σ : Mem} {k : Fin 4} {i : Nat} {x : Int32} (hX : Cok X own cc nL) (hd : decode cc pc = .ok (.iload_n k, 1)) (hi : (k : Nat) = i) (h : nth ls i = some (.int x)) (kk : Vw X (pc + 1) ls (.int x :: st) σ) : Vw X pc ls st σ := by
  obtain ⟨p, l, e, R, s, m, args, below, meth, c, cells, slots, Q, A, D, ad, cs, H0⟩ := X
  intro H locs lsA hP hS hl
  exact lv_iload_n hX.1 hX.2.1 hd hi (lvl_nth hl h) (kk H locs lsA hP hS hl)
theorem V_iload {X : XC} {own : String} {cc : ByteArray} {nL pc : Nat} {ls : List (Option Value)} {st : List Value} {σ : Mem} {i : Nat} {x : Int32} (hX : Cok X own cc nL) (hd : decode cc pc = .ok (.iload i, 2)) (h : nth ls i = some (.int x)) (kk : Vw X (pc + 2) ls (.int x :: st) σ) : Vw X pc ls st σ := by
  obtain ⟨p, l, e, R, s, m, args, below, meth, c, cells, slots, Q, A, D, ad, cs, H0⟩ := X
  intro H locs lsA hP hS hl
  exact lv_iload hX.1 hX.2.1 hd (lvl_nth hl h) (kk H locs lsA hP hS hl)
theorem V_aload_n {X : XC} {own : String} {cc : ByteArray} {nL pc : Nat} {ls : List (Option Value)} {st : List Value} {σ : Mem} {k : Fin 4} {i : Nat} {x : Nat} (hX : Cok X own cc nL) (hd : decode cc pc = .ok (.aload_n k, 1)) (hi : (k : Nat) = i) (h : nth ls i = some (.ref x)) (kk : Vw X (pc + 1) ls (.ref x :: st) σ) : Vw X pc ls st σ := by
  obtain ⟨p, l, e, R, s, m, args, below, meth, c, cells, slots, Q, A, D, ad, cs, H0⟩ := X
  intro H locs lsA hP hS hl
  exact lv_aload_n hX.1 hX.2.1 hd hi (lvl_nth hl h) (kk H locs lsA hP hS hl)
theorem V_aload {X : XC} {own : String} {cc : ByteArray} {nL pc : Nat} {ls : List (Option Value)} {st : List Value} {σ : Mem} {i : Nat} {x : Nat} (hX : Cok X own cc nL) (hd : decode cc pc = .ok (.aload i, 2)) (h : nth ls i = some (.ref x)) (kk : Vw X (pc + 2) ls (.ref x :: st) σ) : Vw X pc ls st σ := by
  obtain ⟨p, l, e, R, s, m, args, below, meth, c, cells, slots, Q, A, D, ad, cs, H0⟩ := X
  intro H locs lsA hP hS hl
  exact lv_aload hX.1 hX.2.1 hd (lvl_nth hl h) (kk H locs lsA hP hS hl)
theorem V_lload_n {X : XC} {own : String} {cc : ByteArray} {nL pc : Nat} {ls : List (Option Value)} {st : List Value} {σ : Mem} {k : Fin 4} {i : Nat} {x : Int64} (hX : Cok X own cc nL) (hd : decode cc pc = .ok (.lload_n k, 1)) (hi : (k : Nat) = i) (h : nth ls i = some (.long x)) (kk : Vw X (pc + 1) ls (.long x :: st) σ) : Vw X pc ls st σ := by
  obtain ⟨p, l, e, R, s, m, args, below, meth, c, cells, slots, Q, A, D, ad, cs, H0⟩ := X
  intro H locs lsA hP hS hl
  exact lv_lload_n hX.1 hX.2.1 hd hi (lvl_nth hl h) (kk H locs lsA hP hS hl)
theorem V_lload {X : XC} {own : String} {cc : ByteArray} {nL pc : Nat} {ls : List (Option Value)} {st : List Value} {σ : Mem} {i : Nat} {x : Int64} (hX : Cok X own cc nL) (hd : decode cc pc = .ok (.lload i, 2)) (h : nth ls i = some (.long x)) (kk : Vw X (pc + 2) ls (.long x :: st) σ) : Vw X pc ls st σ := by
  obtain ⟨p, l, e, R, s, m, args, below, meth, c, cells, slots, Q, A, D, ad, cs, H0⟩ := X
  intro H locs lsA hP hS hl
  exact lv_lload hX.1 hX.2.1 hd (lvl_nth hl h) (kk H locs lsA hP hS hl)
theorem V_istore_n {X : XC} {own : String} {cc : ByteArray} {nL pc : Nat} {ls : List (Option Value)} {st : List Value} {σ : Mem} {k : Fin 4} {i : Nat} {x : Int32} {ls2 : List (Option Value)} (hX : Cok X own cc nL) (hd : decode cc pc = .ok (.istore_n k, 1)) (hi : (k : Nat) = i) (hn : nol ls = true) (hlt : i < ls.length) (he : sett ls i (.int x) = ls2) (kk : Vw X (pc + 1) ls2 st σ) : Vw X pc ls (.int x :: st) σ := by
  obtain ⟨p, l, e, R, s, m, args, below, meth, c, cells, slots, Q, A, D, ad, cs, H0⟩ := X
  subst he
  intro H locs lsA hP hS hl
  exact lv_istore_n hX.1 hX.2.1 hd hi hl hlt rfl (fun ls9 h9 => kk H locs ls9 hP hS (by rw [sett_len]; exact lv_keep h9 (lvl_sett hn)))
theorem V_istore {X : XC} {own : String} {cc : ByteArray} {nL pc : Nat} {ls : List (Option Value)} {st : List Value} {σ : Mem} {i : Nat} {x : Int32} {ls2 : List (Option Value)} (hX : Cok X own cc nL) (hd : decode cc pc = .ok (.istore i, 2)) (hn : nol ls = true) (hlt : i < ls.length) (he : sett ls i (.int x) = ls2) (kk : Vw X (pc + 2) ls2 st σ) : Vw X pc ls (.int x :: st) σ := by
  obtain ⟨p, l, e, R, s, m, args, below, meth, c, cells, slots, Q, A, D, ad, cs, H0⟩ := X
  subst he
  intro H locs lsA hP hS hl
  exact lv_istore hX.1 hX.2.1 hd hl hlt rfl (fun ls9 h9 => kk H locs ls9 hP hS (by rw [sett_len]; exact lv_keep h9 (lvl_sett hn)))
theorem V_astore_n {X : XC} {own : String} {cc : ByteArray} {nL pc : Nat} {ls : List (Option Value)} {st : List Value} {σ : Mem} {k : Fin 4} {i : Nat} {x : Nat} {ls2 : List (Option Value)} (hX : Cok X own cc nL) (hd : decode cc pc = .ok (.astore_n k, 1)) (hi : (k : Nat) = i) (hn : nol ls = true) (hlt : i < ls.length) (he : sett ls i (.ref x) = ls2) (kk : Vw X (pc + 1) ls2 st σ) : Vw X pc ls (.ref x :: st) σ := by
  obtain ⟨p, l, e, R, s, m, args, below, meth, c, cells, slots, Q, A, D, ad, cs, H0⟩ := X
  subst he
  intro H locs lsA hP hS hl
  exact lv_astore_n hX.1 hX.2.1 hd hi hl hlt rfl (fun ls9 h9 => kk H locs ls9 hP hS (by rw [sett_len]; exact lv_keep h9 (lvl_sett hn)))
theorem V_astore {X : XC} {own : String} {cc : ByteArray} {nL pc : Nat} {ls : List (Option Value)} {st : List Value} {σ : Mem} {i : Nat} {x : Nat} {ls2 : List (Option Value)} (hX : Cok X own cc nL) (hd : decode cc pc = .ok (.astore i, 2)) (hn : nol ls = true) (hlt : i < ls.length) (he : sett ls i (.ref x) = ls2) (kk : Vw X (pc + 2) ls2 st σ) : Vw X pc ls (.ref x :: st) σ := by
  obtain ⟨p, l, e, R, s, m, args, below, meth, c, cells, slots, Q, A, D, ad, cs, H0⟩ := X
  subst he
  intro H locs lsA hP hS hl
  exact lv_astore hX.1 hX.2.1 hd hl hlt rfl (fun ls9 h9 => kk H locs ls9 hP hS (by rw [sett_len]; exact lv_keep h9 (lvl_sett hn)))
theorem V_iinc {X : XC} {own : String} {cc : ByteArray} {nL pc : Nat} {ls : List (Option Value)} {st : List Value} {σ : Mem} {i : Nat} {n : Int} {x v : Int32} {ls2 : List (Option Value)} (hX : Cok X own cc nL) (hd : decode cc pc = .ok (.iinc i n, 3)) (hn : nol ls = true) (h : nth ls i = some (.int x)) (hv : x + Int32.ofInt n = v) (hlt : i < ls.length) (he : sett ls i (.int v) = ls2) (kk : Vw X (pc + 3) ls2 st σ) : Vw X pc ls st σ := by
  obtain ⟨p, l, e, R, s, m, args, below, meth, c, cells, slots, Q, A, D, ad, cs, H0⟩ := X
  subst he
  intro H locs lsA hP hS hl
  obtain ⟨k, hk⟩ := List.getElem?_of_mem (lvl_mem.mpr ⟨i, .int x, h, rfl⟩ : _ ∈ lvl ad 0 ls)
  rw [Nat.zero_add] at hk
  exact lv_iinc hX.1 hX.2.1 hd hl hk hv hlt rfl (fun ls9 h9 => kk H locs ls9 hP hS (by rw [sett_len]; exact lv_keep h9 (lvl_sett hn)))
theorem V_istore0 {X : XC} {own : String} {cc : ByteArray} {nL pc : Nat} {b : Option Value} {r : List (Option Value)} {st : List Value} {σ : Mem} {x : Int32} (hX : Cok X own cc nL) (hd : decode cc pc = .ok (.istore_n 0, 1)) (hn : nol (b :: r) = true) (kk : Vw X (pc + 1) (some (.int x) :: r) st σ) : Vw X pc (b :: r) (.int x :: st) σ := V_istore_n (i := 0) hX hd rfl hn (by simp only [List.length_cons]; omega) rfl kk
theorem V_iinc0 {X : XC} {own : String} {cc : ByteArray} {nL pc : Nat} {r : List (Option Value)} {st : List Value} {σ : Mem} {n : Int} {x v : Int32} (hX : Cok X own cc nL) (hd : decode cc pc = .ok (.iinc 0 n, 3)) (hn : nol (some (.int x) :: r) = true) (hv : x + Int32.ofInt n = v) (kk : Vw X (pc + 3) (some (.int v) :: r) st σ) : Vw X pc (some (.int x) :: r) st σ := V_iinc (i := 0) hX hd hn rfl hv (by simp only [List.length_cons]; omega) rfl kk
theorem V_istore1 {X : XC} {own : String} {cc : ByteArray} {nL pc : Nat} {a0 : Option Value} {b : Option Value} {r : List (Option Value)} {st : List Value} {σ : Mem} {x : Int32} (hX : Cok X own cc nL) (hd : decode cc pc = .ok (.istore_n 1, 1)) (hn : nol (a0 :: b :: r) = true) (kk : Vw X (pc + 1) (a0 :: some (.int x) :: r) st σ) : Vw X pc (a0 :: b :: r) (.int x :: st) σ := V_istore_n (i := 1) hX hd rfl hn (by simp only [List.length_cons]; omega) rfl kk
theorem V_iinc1 {X : XC} {own : String} {cc : ByteArray} {nL pc : Nat} {a0 : Option Value} {r : List (Option Value)} {st : List Value} {σ : Mem} {n : Int} {x v : Int32} (hX : Cok X own cc nL) (hd : decode cc pc = .ok (.iinc 1 n, 3)) (hn : nol (a0 :: some (.int x) :: r) = true) (hv : x + Int32.ofInt n = v) (kk : Vw X (pc + 3) (a0 :: some (.int v) :: r) st σ) : Vw X pc (a0 :: some (.int x) :: r) st σ := V_iinc (i := 1) hX hd hn rfl hv (by simp only [List.length_cons]; omega) rfl kk
theorem V_istore2 {X : XC} {own : String} {cc : ByteArray} {nL pc : Nat} {a0 a1 : Option Value} {b : Option Value} {r : List (Option Value)} {st : List Value} {σ : Mem} {x : Int32} (hX : Cok X own cc nL) (hd : decode cc pc = .ok (.istore_n 2, 1)) (hn : nol (a0 :: a1 :: b :: r) = true) (kk : Vw X (pc + 1) (a0 :: a1 :: some (.int x) :: r) st σ) : Vw X pc (a0 :: a1 :: b :: r) (.int x :: st) σ := V_istore_n (i := 2) hX hd rfl hn (by simp only [List.length_cons]; omega) rfl kk
theorem V_iinc2 {X : XC} {own : String} {cc : ByteArray} {nL pc : Nat} {a0 a1 : Option Value} {r : List (Option Value)} {st : List Value} {σ : Mem} {n : Int} {x v : Int32} (hX : Cok X own cc nL) (hd : decode cc pc = .ok (.iinc 2 n, 3)) (hn : nol (a0 :: a1 :: some (.int x) :: r) = true) (hv : x + Int32.ofInt n = v) (kk : Vw X (pc + 3) (a0 :: a1 :: some (.int v) :: r) st σ) : Vw X pc (a0 :: a1 :: some (.int x) :: r) st σ := V_iinc (i := 2) hX hd hn rfl hv (by simp only [List.length_cons]; omega) rfl kk
theorem V_istore3 {X : XC} {own : String} {cc : ByteArray} {nL pc : Nat} {a0 a1 a2 : Option Value} {b : Option Value} {r : List (Option Value)} {st : List Value} {σ : Mem} {x : Int32} (hX : Cok X own cc nL) (hd : decode cc pc = .ok (.istore_n 3, 1)) (hn : nol (a0 :: a1 :: a2 :: b :: r) = true) (kk : Vw X (pc + 1) (a0 :: a1 :: a2 :: some (.int x) :: r) st σ) : Vw X pc (a0 :: a1 :: a2 :: b :: r) (.int x :: st) σ := V_istore_n (i := 3) hX hd rfl hn (by simp only [List.length_cons]; omega) rfl kk
theorem V_iinc3 {X : XC} {own : String} {cc : ByteArray} {nL pc : Nat} {a0 a1 a2 : Option Value} {r : List (Option Value)} {st : List Value} {σ : Mem} {n : Int} {x v : Int32} (hX : Cok X own cc nL) (hd : decode cc pc = .ok (.iinc 3 n, 3)) (hn : nol (a0 :: a1 :: a2 :: some (.int x) :: r) = true) (hv : x + Int32.ofInt n = v) (kk : Vw X (pc + 3) (a0 :: a1 :: a2 :: some (.int v) :: r) st σ) : Vw X pc (a0 :: a1 :: a2 :: some (.int x) :: r) st σ := V_iinc (i := 3) hX hd hn rfl hv (by simp only [List.length_cons]; omega) rfl kk
theorem V_istore4 {X : XC} {own : String} {cc : ByteArray} {nL pc : Nat} {a0 a1 a2 a3 : Option Value} {b : Option Value} {r : List (Option Value)} {st : List Value} {σ : Mem} {x : Int32} (hX : Cok X own cc nL) (hd : decode cc pc = .ok (.istore 4, 2)) (hn : nol (a0 :: a1 :: a2 :: a3 :: b :: r) = true) (kk : Vw X (pc + 2) (a0 :: a1 :: a2 :: a3 :: some (.int x) :: r) st σ) : Vw X pc (a0 :: a1 :: a2 :: a3 :: b :: r) (.int x :: st) σ := V_istore (i := 4) hX hd hn (by simp only [List.length_cons]; omega) rfl kk
theorem V_iinc4 {X : XC} {own : String} {cc : ByteArray} {nL pc : Nat} {a0 a1 a2 a3 : Option Value} {r : List (Option Value)} {st : List Value} {σ : Mem} {n : Int} {x v : Int32} (hX : Cok X own cc nL) (hd : decode cc pc = .ok (.iinc 4 n, 3)) (hn : nol (a0 :: a1 :: a2 :: a3 :: some (.int x) :: r) = true) (hv : x + Int32.ofInt n = v) (kk : Vw X (pc + 3) (a0 :: a1 :: a2 :: a3 :: some (.int v) :: r) st σ) : Vw X pc (a0 :: a1 :: a2 :: a3 :: some (.int x) :: r) st σ := V_iinc (i := 4) hX hd hn rfl hv (by simp only [List.length_cons]; omega) rfl kk
theorem V_istore5 {X : XC} {own : String} {cc : ByteArray} {nL pc : Nat} {a0 a1 a2 a3 a4 : Option Value} {b : Option Value} {r : List (Option Value)} {st : List Value} {σ : Mem} {x : Int32} (hX : Cok X own cc nL) (hd : decode cc pc = .ok (.istore 5, 2)) (hn : nol (a0 :: a1 :: a2 :: a3 :: a4 :: b :: r) = true) (kk : Vw X (pc + 2) (a0 :: a1 :: a2 :: a3 :: a4 :: some (.int x) :: r) st σ) : Vw X pc (a0 :: a1 :: a2 :: a3 :: a4 :: b :: r) (.int x :: st) σ := V_istore (i := 5) hX hd hn (by simp only [List.length_cons]; omega) rfl kk
theorem V_iinc5 {X : XC} {own : String} {cc : ByteArray} {nL pc : Nat} {a0 a1 a2 a3 a4 : Option Value} {r : List (Option Value)} {st : List Value} {σ : Mem} {n : Int} {x v : Int32} (hX : Cok X own cc nL) (hd : decode cc pc = .ok (.iinc 5 n, 3)) (hn : nol (a0 :: a1 :: a2 :: a3 :: a4 :: some (.int x) :: r) = true) (hv : x + Int32.ofInt n = v) (kk : Vw X (pc + 3) (a0 :: a1 :: a2 :: a3 :: a4 :: some (.int v) :: r) st σ) : Vw X pc (a0 :: a1 :: a2 :: a3 :: a4 :: some (.int x) :: r) st σ := V_iinc (i := 5) hX hd hn rfl hv (by simp only [List.length_cons]; omega) rfl kk
theorem V_istore6 {X : XC} {own : String} {cc : ByteArray} {nL pc : Nat} {a0 a1 a2 a3 a4 a5 : Option Value} {b : Option Value} {r : List (Option Value)} {st : List Value} {σ : Mem} {x : Int32} (hX : Cok X own cc nL) (hd : decode cc pc = .ok (.istore 6, 2)) (hn : nol (a0 :: a1 :: a2 :: a3 :: a4 :: a5 :: b :: r) = true) (kk : Vw X (pc + 2) (a0 :: a1 :: a2 :: a3 :: a4 :: a5 :: some (.int x) :: r) st σ) : Vw X pc (a0 :: a1 :: a2 :: a3 :: a4 :: a5 :: b :: r) (.int x :: st) σ := V_istore (i := 6) hX hd hn (by simp only [List.length_cons]; omega) rfl kk
theorem V_iinc6 {X : XC} {own : String} {cc : ByteArray} {nL pc : Nat} {a0 a1 a2 a3 a4 a5 : Option Value} {r : List (Option Value)} {st : List Value} {σ : Mem} {n : Int} {x v : Int32} (hX : Cok X own cc nL) (hd : decode cc pc = .ok (.iinc 6 n, 3)) (hn : nol (a0 :: a1 :: a2 :: a3 :: a4 :: a5 :: some (.int x) :: r) = true) (hv : x + Int32.ofInt n = v) (kk : Vw X (pc + 3) (a0 :: a1 :: a2 :: a3 :: a4 :: a5 :: some (.int v) :: r) st σ) : Vw X pc (a0 :: a1 :: a2 :: a3 :: a4 :: a5 :: some (.int x) :: r) st σ := V_iinc (i := 6) hX hd hn rfl hv (by simp only [List.length_cons]; omega) rfl kk
theorem V_istore7 {X : XC} {own : String} {cc : ByteArray} {nL pc : Nat} {a0 a1 a2 a3 a4 a5 a6 : Option Value} {b : Option Value} {r : List (Option Value)} {st : List Value} {σ : Mem} {x : Int32} (hX : Cok X own cc nL) (hd : decode cc pc = .ok (.istore 7, 2)) (hn : nol (a0 :: a1 :: a2 :: a3 :: a4 :: a5 :: a6 :: b :: r) = true) (kk : Vw X (pc + 2) (a0 :: a1 :: a2 :: a3 :: a4 :: a5 :: a6 :: some (.int x) :: r) st σ) : Vw X pc (a0 :: a1 :: a2 :: a3 :: a4 :: a5 :: a6 :: b :: r) (.int x :: st) σ := V_istore (i := 7) hX hd hn (by simp only [List.length_cons]; omega) rfl kk
theorem V_iinc7 {X : XC} {own : String} {cc : ByteArray} {nL pc : Nat} {a0 a1 a2 a3 a4 a5 a6 : Option Value} {r : List (Option Value)} {st : List Value} {σ : Mem} {n : Int} {x v : Int32} (hX : Cok X own cc nL) (hd : decode cc pc = .ok (.iinc 7 n, 3)) (hn : nol (a0 :: a1 :: a2 :: a3 :: a4 :: a5 :: a6 :: some (.int x) :: r) = true) (hv : x + Int32.ofInt n = v) (kk : Vw X (pc + 3) (a0 :: a1 :: a2 :: a3 :: a4 :: a5 :: a6 :: some (.int v) :: r) st σ) : Vw X pc (a0 :: a1 :: a2 :: a3 :: a4 :: a5 :: a6 :: some (.int x) :: r) st σ := V_iinc (i := 7) hX hd hn rfl hv (by simp only [List.length_cons]; omega) rfl kk
theorem V_istore8 {X : XC} {own : String} {cc : ByteArray} {nL pc : Nat} {a0 a1 a2 a3 a4 a5 a6 a7 : Option Value} {b : Option Value} {r : List (Option Value)} {st : List Value} {σ : Mem} {x : Int32} (hX : Cok X own cc nL) (hd : decode cc pc = .ok (.istore 8, 2)) (hn : nol (a0 :: a1 :: a2 :: a3 :: a4 :: a5 :: a6 :: a7 :: b :: r) = true) (kk : Vw X (pc + 2) (a0 :: a1 :: a2 :: a3 :: a4 :: a5 :: a6 :: a7 :: some (.int x) :: r) st σ) : Vw X pc (a0 :: a1 :: a2 :: a3 :: a4 :: a5 :: a6 :: a7 :: b :: r) (.int x :: st) σ := V_istore (i := 8) hX hd hn (by simp only [List.length_cons]; omega) rfl kk
theorem V_iinc8 {X : XC} {own : String} {cc : ByteArray} {nL pc : Nat} {a0 a1 a2 a3 a4 a5 a6 a7 : Option Value} {r : List (Option Value)} {st : List Value} {σ : Mem} {n : Int} {x v : Int32} (hX : Cok X own cc nL) (hd : decode cc pc = .ok (.iinc 8 n, 3)) (hn : nol (a0 :: a1 :: a2 :: a3 :: a4 :: a5 :: a6 :: a7 :: some (.int x) :: r) = true) (hv : x + Int32.ofInt n = v) (kk : Vw X (pc + 3) (a0 :: a1 :: a2 :: a3 :: a4 :: a5 :: a6 :: a7 :: some (.int v) :: r) st σ) : Vw X pc (a0 :: a1 :: a2 :: a3 :: a4 :: a5 :: a6 :: a7 :: some (.int x) :: r) st σ := V_iinc (i := 8) hX hd hn rfl hv (by simp only [List.length_cons]; omega) rfl kk
theorem V_istore9 {X : XC} {own : String} {cc : ByteArray} {nL pc : Nat} {a0 a1 a2 a3 a4 a5 a6 a7 a8 : Option Value} {b : Option Value} {r : List (Option Value)} {st : List Value} {σ : Mem} {x : Int32} (hX : Cok X own cc nL) (hd : decode cc pc = .ok (.istore 9, 2)) (hn : nol (a0 :: a1 :: a2 :: a3 :: a4 :: a5 :: a6 :: a7 :: a8 :: b :: r) = true) (kk : Vw X (pc + 2) (a0 :: a1 :: a2 :: a3 :: a4 :: a5 :: a6 :: a7 :: a8 :: some (.int x) :: r) st σ) : Vw X pc (a0 :: a1 :: a2 :: a3 :: a4 :: a5 :: a6 :: a7 :: a8 :: b :: r) (.int x :: st) σ := V_istore (i := 9) hX hd hn (by simp only [List.length_cons]; omega) rfl kk
theorem V_iinc9 {X : XC} {own : String} {cc : ByteArray} {nL pc : Nat} {a0 a1 a2 a3 a4 a5 a6 a7 a8 : Option Value} {r : List (Option Value)} {st : List Value} {σ : Mem} {n : Int} {x v : Int32} (hX : Cok X own cc nL) (hd : decode cc pc = .ok (.iinc 9 n, 3)) (hn : nol (a0 :: a1 :: a2 :: a3 :: a4 :: a5 :: a6 :: a7 :: a8 :: some (.int x) :: r) = true) (hv : x + Int32.ofInt n = v) (kk : Vw X (pc + 3) (a0 :: a1 :: a2 :: a3 :: a4 :: a5 :: a6 :: a7 :: a8 :: some (.int v) :: r) st σ) : Vw X pc (a0 :: a1 :: a2 :: a3 :: a4 :: a5 :: a6 :: a7 :: a8 :: some (.int x) :: r) st σ := V_iinc (i := 9) hX hd hn rfl hv (by simp only [List.length_cons]; omega) rfl kk
theorem V_istore10 {X : XC} {own : String} {cc : ByteArray} {nL pc : Nat} {a0 a1 a2 a3 a4 a5 a6 a7 a8 a9 : Option Value} {b : Option Value} {r : List (Option Value)} {st : List Value} {σ : Mem} {x : Int32} (hX : Cok X own cc nL) (hd : decode cc pc = .ok (.istore 10, 2)) (hn : nol (a0 :: a1 :: a2 :: a3 :: a4 :: a5 :: a6 :: a7 :: a8 :: a9 :: b :: r) = true) (kk : Vw X (pc + 2) (a0 :: a1 :: a2 :: a3 :: a4 :: a5 :: a6 :: a7 :: a8 :: a9 :: some (.int x) :: r) st σ) : Vw X pc (a0 :: a1 :: a2 :: a3 :: a4 :: a5 :: a6 :: a7 :: a8 :: a9 :: b :: r) (.int x :: st) σ := V_istore (i := 10) hX hd hn (by simp only [List.length_cons]; omega) rfl kk
theorem V_iinc10 {X : XC} {own : String} {cc : ByteArray} {nL pc : Nat} {a0 a1 a2 a3 a4 a5 a6 a7 a8 a9 : Option Value} {r : List (Option Value)} {st : List Value} {σ : Mem} {n : Int} {x v : Int32} (hX : Cok X own cc nL) (hd : decode cc pc = .ok (.iinc 10 n, 3)) (hn : nol (a0 :: a1 :: a2 :: a3 :: a4 :: a5 :: a6 :: a7 :: a8 :: a9 :: some (.int x) :: r) = true) (hv : x + Int32.ofInt n = v) (kk : Vw X (pc + 3) (a0 :: a1 :: a2 :: a3 :: a4 :: a5 :: a6 :: a7 :: a8 :: a9 :: some (.int v) :: r) st σ) : Vw X pc (a0 :: a1 :: a2 :: a3 :: a4 :: a5 :: a6 :: a7 :: a8 :: a9 :: some (.int x) :: r) st σ := V_iinc (i := 10) hX hd hn rfl hv (by simp only [List.length_cons]; omega) rfl kk
theorem V_istore11 {X : XC} {own : String} {cc : ByteArray} {nL pc : Nat} {a0 a1 a2 a3 a4 a5 a6 a7 a8 a9 a10 : Option Value} {b : Option Value} {r : List (Option Value)} {st : List Value} {σ : Mem} {x : Int32} (hX : Cok X own cc nL) (hd : decode cc pc = .ok (.istore 11, 2)) (hn : nol (a0 :: a1 :: a2 :: a3 :: a4 :: a5 :: a6 :: a7 :: a8 :: a9 :: a10 :: b :: r) = true) (kk : Vw X (pc + 2) (a0 :: a1 :: a2 :: a3 :: a4 :: a5 :: a6 :: a7 :: a8 :: a9 :: a10 :: some (.int x) :: r) st σ) : Vw X pc (a0 :: a1 :: a2 :: a3 :: a4 :: a5 :: a6 :: a7 :: a8 :: a9 :: a10 :: b :: r) (.int x :: st) σ := V_istore (i := 11) hX hd hn (by simp only [List.length_cons]; omega) rfl kk
theorem V_iinc11 {X : XC} {own : String} {cc : ByteArray} {nL pc : Nat} {a0 a1 a2 a3 a4 a5 a6 a7 a8 a9 a10 : Option Value} {r : List (Option Value)} {st : List Value} {σ : Mem} {n : Int} {x v : Int32} (hX : Cok X own cc nL) (hd : decode cc pc = .ok (.iinc 11 n, 3)) (hn : nol (a0 :: a1 :: a2 :: a3 :: a4 :: a5 :: a6 :: a7 :: a8 :: a9 :: a10 :: some (.int x) :: r) = true) (hv : x + Int32.ofInt n = v) (kk : Vw X (pc + 3) (a0 :: a1 :: a2 :: a3 :: a4 :: a5 :: a6 :: a7 :: a8 :: a9 :: a10 :: some (.int v) :: r) st σ) : Vw X pc (a0 :: a1 :: a2 :: a3 :: a4 :: a5 :: a6 :: a7 :: a8 :: a9 :: a10 :: some (.int x) :: r) st σ := V_iinc (i := 11) hX hd hn rfl hv (by simp only [List.length_cons]; omega) rfl kk
theorem V_istore12 {X : XC} {own : String} {cc : ByteArray} {nL pc : Nat} {a0 a1 a2 a3 a4 a5 a6 a7 a8 a9 a10 a11 : Option Value} {b : Option Value} {r : List (Option Value)} {st : List Value} {σ : Mem} {x : Int32} (hX : Cok X own cc nL) (hd : decode cc pc = .ok (.istore 12, 2)) (hn : nol (a0 :: a1 :: a2 :: a3 :: a4 :: a5 :: a6 :: a7 :: a8 :: a9 :: a10 :: a11 :: b :: r) = true) (kk : Vw X (pc + 2) (a0 :: a1 :: a2 :: a3 :: a4 :: a5 :: a6 :: a7 :: a8 :: a9 :: a10 :: a11 :: some (.int x) :: r) st σ) : Vw X pc (a0 :: a1 :: a2 :: a3 :: a4 :: a5 :: a6 :: a7 :: a8 :: a9 :: a10 :: a11 :: b :: r) (.int x :: st) σ := V_istore (i := 12) hX hd hn (by simp only [List.length_cons]; omega) rfl kk
theorem V_iinc12 {X : XC} {own : String} {cc : ByteArray} {nL pc : Nat} {a0 a1 a2 a3 a4 a5 a6 a7 a8 a9 a10 a11 : Option Value} {r : List (Option Value)} {st : List Value} {σ : Mem} {n : Int} {x v : Int32} (hX : Cok X own cc nL) (hd : decode cc pc = .ok (.iinc 12 n, 3)) (hn : nol (a0 :: a1 :: a2 :: a3 :: a4 :: a5 :: a6 :: a7 :: a8 :: a9 :: a10 :: a11 :: some (.int x) :: r) = true) (hv : x + Int32.ofInt n = v) (kk : Vw X (pc + 3) (a0 :: a1 :: a2 :: a3 :: a4 :: a5 :: a6 :: a7 :: a8 :: a9 :: a10 :: a11 :: some (.int v) :: r) st σ) : Vw X pc (a0 :: a1 :: a2 :: a3 :: a4 :: a5 :: a6 :: a7 :: a8 :: a9 :: a10 :: a11 :: some (.int x) :: r) st σ := V_iinc (i := 12) hX hd hn rfl hv (by simp only [List.length_cons]; omega) rfl kk
theorem V_goto {X : XC} {own : String} {cc : ByteArray} {nL pc : Nat} {ls : List (Option Value)} {st : List Value} {σ : Mem} {off : Int} {tgt : Nat} (hX : Cok X own cc nL) (hd : decode cc pc = .ok (.goto off, 3)) (ht : (pc : Int) + off = (tgt : Int)) (kk : Vw X tgt ls st σ) : Vw X pc ls st σ := by
  obtain ⟨p, l, e, R, s, m, args, below, meth, c, cells, slots, Q, A, D, ad, cs, H0⟩ := X
  intro H locs lsA hP hS hl
  exact lv_goto hX.1 hX.2.1 hd ht (kk H locs lsA hP hS hl)
theorem V_icmp_eq {X : XC} {own : String} {cc : ByteArray} {nL pc : Nat} {ls : List (Option Value)} {st : List Value} {σ : Mem} {x y : Int32} {off : Int} {tgt : Nat} (hX : Cok X own cc nL) (hd : decode cc pc = .ok (.if_icmp .eq off, 3)) (ht : (pc : Int) + off = (tgt : Int)) (kt : x = y → Vw X tgt ls st σ) (kf : ¬ x = y → Vw X (pc + 3) ls st σ) : Vw X pc ls (.int y :: .int x :: st) σ := by
  obtain ⟨p, l, e, R, s, m, args, below, meth, c, cells, slots, Q, A, D, ad, cs, H0⟩ := X
  intro H locs lsA hP hS hl
  exact lv_icmp_eq hX.1 hX.2.1 hd ht (fun h => kt h H locs lsA hP hS hl) (fun h => kf h H locs lsA hP hS hl)
theorem V_if_eq {X : XC} {own : String} {cc : ByteArray} {nL pc : Nat} {ls : List (Option Value)} {st : List Value} {σ : Mem} {x : Int32} {off : Int} {tgt : Nat} (hX : Cok X own cc nL) (hd : decode cc pc = .ok (.ifCond .eq off, 3)) (ht : (pc : Int) + off = (tgt : Int)) (kt : x = 0 → Vw X tgt ls st σ) (kf : ¬ x = 0 → Vw X (pc + 3) ls st σ) : Vw X pc ls (.int x :: st) σ := by
  obtain ⟨p, l, e, R, s, m, args, below, meth, c, cells, slots, Q, A, D, ad, cs, H0⟩ := X
  intro H locs lsA hP hS hl
  exact lv_if_eq hX.1 hX.2.1 hd ht (fun h => kt h H locs lsA hP hS hl) (fun h => kf h H locs lsA hP hS hl)
theorem V_icmp_ne {X : XC} {own : String} {cc : ByteArray} {nL pc : Nat} {ls : List (Option Value)} {st : List Value} {σ : Mem} {x y : Int32} {off : Int} {tgt : Nat} (hX : Cok X own cc nL) (hd : decode cc pc = .ok (.if_icmp .ne off, 3)) (ht : (pc : Int) + off = (tgt : Int)) (kt : ¬ x = y → Vw X tgt ls st σ) (kf : x = y → Vw X (pc + 3) ls st σ) : Vw X pc ls (.int y :: .int x :: st) σ := by
  obtain ⟨p, l, e, R, s, m, args, below, meth, c, cells, slots, Q, A, D, ad, cs, H0⟩ := X
  intro H locs lsA hP hS hl
  exact lv_icmp_ne hX.1 hX.2.1 hd ht (fun h => kt h H locs lsA hP hS hl) (fun h => kf h H locs lsA hP hS hl)
theorem V_if_ne {X : XC} {own : String} {cc : ByteArray} {nL pc : Nat} {ls : List (Option Value)} {st : List Value} {σ : Mem} {x : Int32} {off : Int} {tgt : Nat} (hX : Cok X own cc nL) (hd : decode cc pc = .ok (.ifCond .ne off, 3)) (ht : (pc : Int) + off = (tgt : Int)) (kt : ¬ x = 0 → Vw X tgt ls st σ) (kf : x = 0 → Vw X (pc + 3) ls st σ) : Vw X pc ls (.int x :: st) σ := by
  obtain ⟨p, l, e, R, s, m, args, below, meth, c, cells, slots, Q, A, D, ad, cs, H0⟩ := X
  intro H locs lsA hP hS hl
  exact lv_if_ne hX.1 hX.2.1 hd ht (fun h => kt h H locs lsA hP hS hl) (fun h => kf h H locs lsA hP hS hl)
theorem V_icmp_lt {X : XC} {own : String} {cc : ByteArray} {nL pc : Nat} {ls : List (Option Value)} {st : List Value} {σ : Mem} {x y : Int32} {off : Int} {tgt : Nat} (hX : Cok X own cc nL) (hd : decode cc pc = .ok (.if_icmp .lt off, 3)) (ht : (pc : Int) + off = (tgt : Int)) (kt : x < y → Vw X tgt ls st σ) (kf : ¬ x < y → Vw X (pc + 3) ls st σ) : Vw X pc ls (.int y :: .int x :: st) σ := by
  obtain ⟨p, l, e, R, s, m, args, below, meth, c, cells, slots, Q, A, D, ad, cs, H0⟩ := X
  intro H locs lsA hP hS hl
  exact lv_icmp_lt hX.1 hX.2.1 hd ht (fun h => kt h H locs lsA hP hS hl) (fun h => kf h H locs lsA hP hS hl)
theorem V_if_lt {X : XC} {own : String} {cc : ByteArray} {nL pc : Nat} {ls : List (Option Value)} {st : List Value} {σ : Mem} {x : Int32} {off : Int} {tgt : Nat} (hX : Cok X own cc nL) (hd : decode cc pc = .ok (.ifCond .lt off, 3)) (ht : (pc : Int) + off = (tgt : Int)) (kt : x < 0 → Vw X tgt ls st σ) (kf : ¬ x < 0 → Vw X (pc + 3) ls st σ) : Vw X pc ls (.int x :: st) σ := by
  obtain ⟨p, l, e, R, s, m, args, below, meth, c, cells, slots, Q, A, D, ad, cs, H0⟩ := X
  intro H locs lsA hP hS hl
  exact lv_if_lt hX.1 hX.2.1 hd ht (fun h => kt h H locs lsA hP hS hl) (fun h => kf h H locs lsA hP hS hl)
theorem V_icmp_ge {X : XC} {own : String} {cc : ByteArray} {nL pc : Nat} {ls : List (Option Value)} {st : List Value} {σ : Mem} {x y : Int32} {off : Int} {tgt : Nat} (hX : Cok X own cc nL) (hd : decode cc pc = .ok (.if_icmp .ge off, 3)) (ht : (pc : Int) + off = (tgt : Int)) (kt : y ≤ x → Vw X tgt ls st σ) (kf : ¬ y ≤ x → Vw X (pc + 3) ls st σ) : Vw X pc ls (.int y :: .int x :: st) σ := by
  obtain ⟨p, l, e, R, s, m, args, below, meth, c, cells, slots, Q, A, D, ad, cs, H0⟩ := X
  intro H locs lsA hP hS hl
  exact lv_icmp_ge hX.1 hX.2.1 hd ht (fun h => kt h H locs lsA hP hS hl) (fun h => kf h H locs lsA hP hS hl)
theorem V_if_ge {X : XC} {own : String} {cc : ByteArray} {nL pc : Nat} {ls : List (Option Value)} {st : List Value} {σ : Mem} {x : Int32} {off : Int} {tgt : Nat} (hX : Cok X own cc nL) (hd : decode cc pc = .ok (.ifCond .ge off, 3)) (ht : (pc : Int) + off = (tgt : Int)) (kt : 0 ≤ x → Vw X tgt ls st σ) (kf : ¬ 0 ≤ x → Vw X (pc + 3) ls st σ) : Vw X pc ls (.int x :: st) σ := by
  obtain ⟨p, l, e, R, s, m, args, below, meth, c, cells, slots, Q, A, D, ad, cs, H0⟩ := X
  intro H locs lsA hP hS hl
  exact lv_if_ge hX.1 hX.2.1 hd ht (fun h => kt h H locs lsA hP hS hl) (fun h => kf h H locs lsA hP hS hl)
theorem V_icmp_gt {X : XC} {own : String} {cc : ByteArray} {nL pc : Nat} {ls : List (Option Value)} {st : List Value} {σ : Mem} {x y : Int32} {off : Int} {tgt : Nat} (hX : Cok X own cc nL) (hd : decode cc pc = .ok (.if_icmp .gt off, 3)) (ht : (pc : Int) + off = (tgt : Int)) (kt : y < x → Vw X tgt ls st σ) (kf : ¬ y < x → Vw X (pc + 3) ls st σ) : Vw X pc ls (.int y :: .int x :: st) σ := by
  obtain ⟨p, l, e, R, s, m, args, below, meth, c, cells, slots, Q, A, D, ad, cs, H0⟩ := X
  intro H locs lsA hP hS hl
  exact lv_icmp_gt hX.1 hX.2.1 hd ht (fun h => kt h H locs lsA hP hS hl) (fun h => kf h H locs lsA hP hS hl)
theorem V_if_gt {X : XC} {own : String} {cc : ByteArray} {nL pc : Nat} {ls : List (Option Value)} {st : List Value} {σ : Mem} {x : Int32} {off : Int} {tgt : Nat} (hX : Cok X own cc nL) (hd : decode cc pc = .ok (.ifCond .gt off, 3)) (ht : (pc : Int) + off = (tgt : Int)) (kt : 0 < x → Vw X tgt ls st σ) (kf : ¬ 0 < x → Vw X (pc + 3) ls st σ) : Vw X pc ls (.int x :: st) σ := by
  obtain ⟨p, l, e, R, s, m, args, below, meth, c, cells, slots, Q, A, D, ad, cs, H0⟩ := X
  intro H locs lsA hP hS hl
  exact lv_if_gt hX.1 hX.2.1 hd ht (fun h => kt h H locs lsA hP hS hl) (fun h => kf h H locs lsA hP hS hl)
theorem V_icmp_le {X : XC} {own : String} {cc : ByteArray} {nL pc : Nat} {ls : List (Option Value)} {st : List Value} {σ : Mem} {x y : Int32} {off : Int} {tgt : Nat} (hX : Cok X own cc nL) (hd : decode cc pc = .ok (.if_icmp .le off, 3)) (ht : (pc : Int) + off = (tgt : Int)) (kt : x ≤ y → Vw X tgt ls st σ) (kf : ¬ x ≤ y → Vw X (pc + 3) ls st σ) : Vw X pc ls (.int y :: .int x :: st) σ := by
  obtain ⟨p, l, e, R, s, m, args, below, meth, c, cells, slots, Q, A, D, ad, cs, H0⟩ := X
  intro H locs lsA hP hS hl
  exact lv_icmp_le hX.1 hX.2.1 hd ht (fun h => kt h H locs lsA hP hS hl) (fun h => kf h H locs lsA hP hS hl)
theorem V_if_le {X : XC} {own : String} {cc : ByteArray} {nL pc : Nat} {ls : List (Option Value)} {st : List Value} {σ : Mem} {x : Int32} {off : Int} {tgt : Nat} (hX : Cok X own cc nL) (hd : decode cc pc = .ok (.ifCond .le off, 3)) (ht : (pc : Int) + off = (tgt : Int)) (kt : x ≤ 0 → Vw X tgt ls st σ) (kf : ¬ x ≤ 0 → Vw X (pc + 3) ls st σ) : Vw X pc ls (.int x :: st) σ := by
  obtain ⟨p, l, e, R, s, m, args, below, meth, c, cells, slots, Q, A, D, ad, cs, H0⟩ := X
  intro H locs lsA hP hS hl
  exact lv_if_le hX.1 hX.2.1 hd ht (fun h => kt h H locs lsA hP hS hl) (fun h => kf h H locs lsA hP hS hl)
theorem V_tableOut {X : XC} {own : String} {cc : ByteArray} {nL pc : Nat} {ls : List (Option Value)} {st : List Value} {σ : Mem} {dflt lo hi : Int} {offs : Array Int} {len : Nat} {x : Int32} {tgt : Nat} (hX : Cok X own cc nL) (hd : decode cc pc = .ok (.tableswitch dflt lo hi offs, len)) (h : x.toInt < lo ∨ hi < x.toInt) (ht : (pc : Int) + dflt = (tgt : Int)) (kk : Vw X tgt ls st σ) : Vw X pc ls (.int x :: st) σ := by
  obtain ⟨p, l, e, R, s, m, args, below, meth, c, cells, slots, Q, A, D, ad, cs, H0⟩ := X
  intro H locs lsA hP hS hl
  exact lv_tableOut hX.1 hX.2.1 hd h ht (kk H locs lsA hP hS hl)
theorem V_tableIn {X : XC} {own : String} {cc : ByteArray} {nL pc : Nat} {ls : List (Option Value)} {st : List Value} {σ : Mem} {dflt lo hi : Int} {offs : Array Int} {len : Nat} {x : Int32} {off : Int} {tgt : Nat} (hX : Cok X own cc nL) (hd : decode cc pc = .ok (.tableswitch dflt lo hi offs, len)) (h1 : ¬ x.toInt < lo) (h2 : ¬ hi < x.toInt) (ho : offs[(x.toInt - lo).toNat]? = some off) (ht : (pc : Int) + off = (tgt : Int)) (kk : Vw X tgt ls st σ) : Vw X pc ls (.int x :: st) σ := by
  obtain ⟨p, l, e, R, s, m, args, below, meth, c, cells, slots, Q, A, D, ad, cs, H0⟩ := X
  intro H locs lsA hP hS hl
  exact lv_tableIn hX.1 hX.2.1 hd h1 h2 ho ht (kk H locs lsA hP hS hl)
theorem V_lookup {X : XC} {own : String} {cc : ByteArray} {nL pc : Nat} {ls : List (Option Value)} {st : List Value} {σ : Mem} {dflt : Int} {ps : Array (Int × Int)} {len : Nat} {x : Int32} {off : Int} {tgt : Nat} (hX : Cok X own cc nL) (hd : decode cc pc = .ok (.lookupswitch dflt ps, len)) (hp : (ps.toList.zip (ps.toList.drop 1)).all (fun (a, next) => a.1 < next.1) = true) (ho : Op.lookupswitch.offset ps.toList dflt x.toInt = off) (ht : (pc : Int) + off = (tgt : Int)) (kk : Vw X tgt ls st σ) : Vw X pc ls (.int x :: st) σ := by
  obtain ⟨p, l, e, R, s, m, args, below, meth, c, cells, slots, Q, A, D, ad, cs, H0⟩ := X
  intro H locs lsA hP hS hl
  exact lv_lookup hX.1 hX.2.1 hd hp ho ht (kk H locs lsA hP hS hl)
theorem V_ldc {X : XC} {own : String} {cc : ByteArray} {nL pc : Nat} {ls : List (Option Value)} {st : List Value} {σ : Mem} {index : Nat} {v : Int32} (hX : Cok X own cc nL) (hw : Cond.constant own index v ∈ lw_w) (hd : decode cc pc = .ok (.ldc index, 2)) (kk : Vw X (pc + 2) ls (.int v :: st) σ) : Vw X pc ls st σ := by
  obtain ⟨p, l, e, R, s, m, args, below, meth, c, cells, slots, Q, A, D, ad, cs, H0⟩ := X
  intro H locs lsA hP hS hl
  exact lv_ldc hX.1 hX.2.1 hX.2.2.2.1 (hX.2.2.2.2.1 _ hw) hd (kk H locs lsA hP hS hl)
theorem V_ldc2 {X : XC} {own : String} {cc : ByteArray} {nL pc : Nat} {ls : List (Option Value)} {st : List Value} {σ : Mem} {index : Nat} {v : Int64} (hX : Cok X own cc nL) (hw : Cond.constantLong own index v ∈ lw_w) (hd : decode cc pc = .ok (.ldc2_w index, 3)) (kk : Vw X (pc + 3) ls (.long v :: st) σ) : Vw X pc ls st σ := by
  obtain ⟨p, l, e, R, s, m, args, below, meth, c, cells, slots, Q, A, D, ad, cs, H0⟩ := X
  intro H locs lsA hP hS hl
  exact lv_ldc2 hX.1 hX.2.1 hX.2.2.2.1 (hX.2.2.2.2.1 _ hw) hd (kk H locs lsA hP hS hl)
theorem V_getf {X : XC} {own : String} {cc : ByteArray} {nL pc : Nat} {ls : List (Option Value)} {st : List Value} {σ : Mem} {index ci k a : Nat} {fs : List (Option Nat)} (hX : Cok X own cc nL) (hf : Fld own index ci k) (hd : decode cc pc = .ok (.getfield index, 3)) (hs : shp[a]? = some (.inl (ci, fs))) (hv : fs[k]? = some none) (kk : Vw X (pc + 3) ls (.int (σ a k) :: st) σ) : Vw X pc ls (.ref a :: st) σ := by
  obtain ⟨p, l, e, R, s, m, args, below, meth, c, cells, slots, Q, A, D, ad, cs, H0⟩ := X
  intro H locs lsA hP hS hl
  obtain ⟨C, T, N, hc, hk, hin, -, -, hlink⟩ := hf
  obtain ⟨hx, hb, hml, hown, hts, hK, hinj, hA, hcl, hsl⟩ := hX
  have he := wl_at (ad := ad) (cs := cs) (σ := σ) hs
  have hv2 : (fl ad σ a 0 fs)[k]? = some (cvv ad (.int (σ a k))) := by rw [fl_get, hv, Nat.zero_add]; rfl
  rcases hlink with hlink | ⟨host, hlink⟩
  · exact va_get hx hb hts hin hown hK hP a he hc k hk (hts _ hlink) (fun _ h => h) hv2 hd (kk H locs lsA hP hS hl)
  · exact va_getN hx hb hts hin hown hK hP a he hc k hk (hts _ hlink) (fun _ h => h) hv2 hd (kk H locs lsA hP hS hl)
theorem V_getr {X : XC} {own : String} {cc : ByteArray} {nL pc : Nat} {ls : List (Option Value)} {st : List Value} {σ : Mem} {index ci k a : Nat} {fs : List (Option Nat)} {q : Nat} (hX : Cok X own cc nL) (hf : Fld own index ci k) (hd : decode cc pc = .ok (.getfield index, 3)) (hs : shp[a]? = some (.inl (ci, fs))) (hv : fs[k]? = some (some q)) (kk : Vw X (pc + 3) ls (.ref q :: st) σ) : Vw X pc ls (.ref a :: st) σ := by
  obtain ⟨p, l, e, R, s, m, args, below, meth, c, cells, slots, Q, A, D, ad, cs, H0⟩ := X
  intro H locs lsA hP hS hl
  obtain ⟨C, T, N, hc, hk, hin, -, -, hlink⟩ := hf
  obtain ⟨hx, hb, hml, hown, hts, hK, hinj, hA, hcl, hsl⟩ := hX
  have he := wl_at (ad := ad) (cs := cs) (σ := σ) hs
  have hv2 : (fl ad σ a 0 fs)[k]? = some (cvv ad (.ref q)) := by rw [fl_get, hv, Nat.zero_add]; rfl
  rcases hlink with hlink | ⟨host, hlink⟩
  · exact va_get hx hb hts hin hown hK hP a he hc k hk (hts _ hlink) (fun _ h => h) hv2 hd (kk H locs lsA hP hS hl)
  · exact va_getN hx hb hts hin hown hK hP a he hc k hk (hts _ hlink) (fun _ h => h) hv2 hd (kk H locs lsA hP hS hl)
theorem V_putf {X : XC} {own : String} {cc : ByteArray} {nL pc : Nat} {ls : List (Option Value)} {st : List Value} {σ : Mem} {index ci k a : Nat} {fs : List (Option Nat)} {x : Int32} (hX : Cok X own cc nL) (hf : Fld own index ci k) (hi : Fint ci k) (hd : decode cc pc = .ok (.putfield index, 3)) (hs : shp[a]? = some (.inl (ci, fs))) (hv : fs[k]? = some none) (kk : Vw X (pc + 3) ls st (mu σ a k x)) : Vw X pc ls (.int x :: .ref a :: st) σ := by
  obtain ⟨p, l, e, R, s, m, args, below, meth, c, cells, slots, Q, A, D, ad, cs, H0⟩ := X
  intro H locs lsA hP hS hl
  obtain ⟨C, T, N, hc, hk, hin, ⟨ty, hty⟩, hnm, hlink⟩ := hf
  obtain ⟨hx, hb, hml, hown, hts, hK, hinj, hA, hcl, hsl⟩ := hX
  have he := wl_at (ad := ad) (cs := cs) (σ := σ) hs
  have hD : va_D A (wl ad cs σ 0 shp) := wl_D hinj hA
  have hset : (wl ad cs σ 0 shp).set a (ad a, .inr (ci, (fl ad σ a 0 fs).set k (.int x))) = wl ad cs (mu σ a k x) 0 shp := wl_set hs (fun q hq => mu_ne hq) (by rw [fl_set hv]; rfl)
  have hlen : k < (fl ad σ a 0 fs).length := by rw [fl_len]; exact (List.getElem?_eq_some_iff.mp hv).1
  rcases hlink with hlink | ⟨host, hlink⟩
  · exact va_put hx hb hts hin ty hty hnm hown hK hP hD hS a he hc k hk (hts _ hlink) (fun _ h => h) (hi C T N hc).1 (hi C T N hc).2 (show narrow .int (.int x) = .int x from rfl) (show fits .int (.int x) = true from rfl) hlen hd (fun H1 locs1 hP1 _ hS1 => kk H1 locs1 lsA (by rw [← hset]; exact hP1) hS1 hl)
  · exact va_putN hx hb hts hin ty hty hnm hown hK hP hD hS a he hc k hk (hts _ hlink) (fun _ h => h) (hi C T N hc).1 (hi C T N hc).2 (show narrow .int (.int x) = .int x from rfl) (show fits .int (.int x) = true from rfl) hlen hd (fun H1 locs1 hP1 _ hS1 => kk H1 locs1 lsA (by rw [← hset]; exact hP1) hS1 hl)
theorem V_iald {X : XC} {own : String} {cc : ByteArray} {nL pc : Nat} {ls : List (Option Value)} {st : List Value} {σ : Mem} {a n j : Nat} {i : Int32} (hX : Cok X own cc nL) (hd : decode cc pc = .ok (.iaload, 1)) (hs : shp[a]? = some (.inr (.inl (0, n)))) (hi : i = nI j) (hj : j < n) (hn : n < 2 ^ 31) (kk : Vw X (pc + 1) ls (.int (σ a j) :: st) σ) : Vw X pc ls (.int i :: .ref a :: st) σ := by
  obtain ⟨p, l, e, R, s, m, args, below, meth, c, cells, slots, Q, A, D, ad, cs, H0⟩ := X
  intro H locs lsA hP hS hl
  subst hi
  have he := wl_at (ad := ad) (cs := cs) (σ := σ) hs
  refine va_iald hX.1 hX.2.1 hX.2.2.2.2.2.1 hP a 0 he rfl (vp_in_nI hj hn) hd ?_
  rw [nI_clamp (by omega)]
  exact kk H locs lsA hP hS hl
theorem V_zald {X : XC} {own : String} {cc : ByteArray} {nL pc : Nat} {ls : List (Option Value)} {st : List Value} {σ : Mem} {a n j : Nat} {i : Int32} (hX : Cok X own cc nL) (hd : decode cc pc = .ok (.baload, 1)) (hs : shp[a]? = some (.inr (.inl (1, n)))) (hi : i = nI j) (hj : j < n) (hn : n < 2 ^ 31) (kk : Vw X (pc + 1) ls (.int (σ a j) :: st) σ) : Vw X pc ls (.int i :: .ref a :: st) σ := by
  obtain ⟨p, l, e, R, s, m, args, below, meth, c, cells, slots, Q, A, D, ad, cs, H0⟩ := X
  intro H locs lsA hP hS hl
  subst hi
  have he := wl_at (ad := ad) (cs := cs) (σ := σ) hs
  refine va_zald hX.1 hX.2.1 hX.2.2.2.2.2.1 hP a 1 he rfl (vp_in_nI hj hn) hd ?_
  rw [nI_clamp (by omega)]
  exact kk H locs lsA hP hS hl
theorem V_aald {X : XC} {own : String} {cc : ByteArray} {nL pc : Nat} {ls : List (Option Value)} {st : List Value} {σ : Mem} {a r n j : Nat} {i : Int32} (hX : Cok X own cc nL) (hd : decode cc pc = .ok (.aaload, 1)) (hs : shp[a]? = some (.inr (.inr (r, n)))) (hi : i = nI j) (hj : j < n) (hn : n < 2 ^ 31) (kk : Vw X (pc + 1) ls (.ref (r + j) :: st) σ) : Vw X pc ls (.int i :: .ref a :: st) σ := by
  obtain ⟨p, l, e, R, s, m, args, below, meth, c, cells, slots, Q, A, D, ad, cs, H0⟩ := X
  intro H locs lsA hP hS hl
  subst hi
  have he := wl_at (ad := ad) (cs := cs) (σ := σ) hs
  have hc : (nI j).toNatClampNeg = j := nI_clamp (by omega)
  exact W.aald (v := .ref (ad (r + j))) (ty := .array .int) hX.1 hX.2.1 (hP a _ he) ((hX.2.2.2.2.2.1.2 2 _ rfl).1 n (fun j => va_rf (some (ad (r + j))))) rfl (fun q => by cases q) (by show ¬ (nI j < 0 ∨ (arrV _ _ _).slots.size ≤ _); rw [arrV_size]; exact nI_in hj hn) (by show (arrV _ _ _).slots[_]? = _; rw [hc, arrV_read _ _ hj]; rfl) rfl rfl hd (kk H locs lsA hP hS hl)
theorem V_iast {X : XC} {own : String} {cc : ByteArray} {nL pc : Nat} {ls : List (Option Value)} {st : List Value} {σ : Mem} {a n j : Nat} {i x : Int32} (hX : Cok X own cc nL) (hd : decode cc pc = .ok (.iastore, 1)) (hs : shp[a]? = some (.inr (.inl (0, n)))) (hi : i = nI j) (hj : j < n) (hn : n < 2 ^ 31) (kk : Vw X (pc + 1) ls st (mu σ a j x)) : Vw X pc ls (.int x :: .int i :: .ref a :: st) σ := by
  obtain ⟨p, l, e, R, s, m, args, below, meth, c, cells, slots, Q, A, D, ad, cs, H0⟩ := X
  intro H locs lsA hP hS hl
  subst hi
  have he := wl_at (ad := ad) (cs := cs) (σ := σ) hs
  have hset : (wl ad cs σ 0 shp).set a (ad a, .inl (cs 0, n, .inl (upd (σ a) (nI j).toNatClampNeg x))) = wl ad cs (mu σ a j x) 0 shp := wl_set hs (fun q hq => mu_ne hq) (by rw [nI_clamp (by omega)]; simp only [ent, mu_row])
  exact va_iast hX.1 hX.2.1 hX.2.2.2.2.2.1 hP (wl_D hX.2.2.2.2.2.2.1 hX.2.2.2.2.2.2.2.1) hS a 0 he rfl (vp_in_nI hj hn) hd (fun H1 locs1 hP1 _ hS1 => kk H1 locs1 lsA (by rw [← hset]; exact hP1) hS1 hl)
theorem V_zast {X : XC} {own : String} {cc : ByteArray} {nL pc : Nat} {ls : List (Option Value)} {st : List Value} {σ : Mem} {a n j : Nat} {i x : Int32} (hX : Cok X own cc nL) (hd : decode cc pc = .ok (.bastore, 1)) (hs : shp[a]? = some (.inr (.inl (1, n)))) (hi : i = nI j) (hj : j < n) (hn : n < 2 ^ 31) (hx : vp_nar .boolean x = x) (kk : Vw X (pc + 1) ls st (mu σ a j x)) : Vw X pc ls (.int x :: .int i :: .ref a :: st) σ := by
  obtain ⟨p, l, e, R, s, m, args, below, meth, c, cells, slots, Q, A, D, ad, cs, H0⟩ := X
  intro H locs lsA hP hS hl
  subst hi
  have he := wl_at (ad := ad) (cs := cs) (σ := σ) hs
  have hset : (wl ad cs σ 0 shp).set a (ad a, .inl (cs 1, n, .inl (upd (σ a) (nI j).toNatClampNeg (vp_nar .boolean x)))) = wl ad cs (mu σ a j x) 0 shp := wl_set hs (fun q hq => mu_ne hq) (by rw [nI_clamp (by omega), hx]; simp only [ent, mu_row])
  exact va_zast hX.1 hX.2.1 hX.2.2.2.2.2.1 hP (wl_D hX.2.2.2.2.2.2.1 hX.2.2.2.2.2.2.2.1) hS a 1 he rfl (vp_in_nI hj hn) hd (fun H1 locs1 hP1 _ hS1 => kk H1 locs1 lsA (by rw [← hset]; exact hP1) hS1 hl)
def csum (l : List Value) : Nat := (l.map fun v => v.category).sum
theorem csum_map (ad : Nat → Nat) (l : List Value) : ((l.map (cvv ad)).map fun v => v.category).sum = csum l := by
  unfold csum
  rw [List.map_map]
  congr 1
  exact List.map_congr_left (fun v _ => cvv_cat ad v)
theorem V_mmax {X : XC} {own : String} {cc : ByteArray} {nL pc : Nat} {ls : List (Option Value)} {st : List Value} {σ : Mem} {index : Nat} {x y : Int32} (hX : Cok X own cc nL) (hR : Rok X 1) (hw : Cond.methodLink own index Lib.Math.max.name ∈ lw_w) (hd : decode cc pc = .ok (.invokestatic index, 3)) (hnl : ls.length = nL) (hcat : csum st ≤ 8) (kk : Vw X (pc + 3) ls (.int (if x < y then y else x) :: st) σ) : Vw X pc ls (.int y :: .int x :: st) σ := by
  obtain ⟨p, l, e, R, s, m, args, below, meth, c, cells, slots, Q, A, D, ad, cs, H0⟩ := X
  intro H locs lsA hP hS hl
  obtain ⟨hx, hb, hml, hown, hts, hK, hinj, hA, hcl, hsl⟩ := hX
  exact va_mmax hx hb (by rw [hml, ← hnl]; exact hl.1.symm) hown (hts _ hw) (hts _ lw_max_st) (hts _ lw_max_in) (hts _ lw_max_co) hR.1 (by rw [csum_map]; have := hR.2; omega) hcl hsl hd (kk H locs lsA hP hS hl)
theorem V_mmin {X : XC} {own : String} {cc : ByteArray} {nL pc : Nat} {ls : List (Option Value)} {st : List Value} {σ : Mem} {index : Nat} {x y : Int32} (hX : Cok X own cc nL) (hR : Rok X 1) (hw : Cond.methodLink own index Lib.Math.min.name ∈ lw_w) (hd : decode cc pc = .ok (.invokestatic index, 3)) (hnl : ls.length = nL) (hcat : csum st ≤ 8) (kk : Vw X (pc + 3) ls (.int (if y < x then y else x) :: st) σ) : Vw X pc ls (.int y :: .int x :: st) σ := by
  obtain ⟨p, l, e, R, s, m, args, below, meth, c, cells, slots, Q, A, D, ad, cs, H0⟩ := X
  intro H locs lsA hP hS hl
  obtain ⟨hx, hb, hml, hown, hts, hK, hinj, hA, hcl, hsl⟩ := hX
  exact va_mmin hx hb (by rw [hml, ← hnl]; exact hl.1.symm) hown (hts _ hw) (hts _ lw_min_st) (hts _ lw_min_in) (hts _ lw_min_co) hR.1 (by rw [csum_map]; have := hR.2; omega) hcl hsl hd (kk H locs lsA hP hS hl)
theorem V_iret {X : XC} {own : String} {cc : ByteArray} {nL pc : Nat} {ls : List (Option Value)} {st : List Value} {σ : Mem} {v : Int32} {ty : FieldType} {P : Option Value → Mem → Prop} (hX : Cok X own cc nL) (hr : Ret X (some ty) P) (hn : narrow ty (.int v) = .int v) (hd : decode cc pc = .ok (.ireturn, 1)) (hp : P (some (.int v)) σ) : Vw X pc ls [.int v] σ := by
  obtain ⟨p, l, e, R, s, m, args, below, meth, c, cells, slots, Q, A, D, ad, cs, H0⟩ := X
  intro H locs lsA hP hS hl
  obtain ⟨h1, h2, h3, h4, h5, h6⟩ := hr
  subst h3; subst h4; subst h5; subst h6
  exact W.zret hX.1 hX.2.1 h1 hn (fun t ht hW => ⟨⟨(some (.int v)), σ, rfl, hp, by rw [ht]; exact hP, va_K.moved hW.alike hX.2.2.2.2.2.1⟩, hS.F ht⟩) hS.2.2 hd (hlocks := h2)
theorem V_vret {X : XC} {own : String} {cc : ByteArray} {nL pc : Nat} {ls : List (Option Value)} {st : List Value} {σ : Mem} {P : Option Value → Mem → Prop} (hX : Cok X own cc nL) (hr : Ret X none P) (hd : decode cc pc = .ok (.return_, 1)) (hp : P none σ) : Vw X pc ls [] σ := by
  obtain ⟨p, l, e, R, s, m, args, below, meth, c, cells, slots, Q, A, D, ad, cs, H0⟩ := X
  intro H locs lsA hP hS hl
  obtain ⟨h1, h2, h3, h4, h5, h6⟩ := hr
  subst h3; subst h4; subst h5; subst h6
  exact W.vret hX.1 hX.2.1 h1 (fun t ht hW => ⟨⟨none, σ, rfl, hp, by rw [ht]; exact hP, va_K.moved hW.alike hX.2.2.2.2.2.1⟩, hS.F ht⟩) hS.2.2 hd (hlocks := h2)
theorem Cc.intro {y : MethodName} {cc : ByteArray} {mx : Nat} {ret : Option FieldType} {d : Nat} {args : List Value} {σ : Mem} {P : Option Value → Mem → Prop} (hy : plainName y.cls = true) (ls0 : List (Option Value)) (he : ∀ ad : Nat → Nat, lvl ad 0 ls0 = lv_args 0 (args.map (cvv ad))) (hlen : ls0.length = mx) (hle : ∀ ad : Nat → Nat, (lg_sl (args.map (cvv ad))).length ≤ mx)
    (h : ∀ X : XC, Cok X y.cls cc mx → Rok X d → Ret X ret P → Vw X 0 ls0 [] σ) : Cc y cc mx ret d args σ P := by
  intro l D ad cs hinj
  refine Met.ofW (cc := cc) (maxL := mx) (ret := ret) hy rfl ?_
  intro p e s m args' below meth c s₁ B hml hv
  obtain ⟨rfl, hP, hK⟩ := hv
  have hts := atoms_spec (ws := Cond.code y cc mx ret :: lw_w) B.pre
  have hown : s.vm.findClass y.cls = some m.cls := findClass_of_methodNamed B.named
  have hl := lv_entry (args.map (cvv ad)) (n := mx) (hle ad)
  rw [lg_entry_eq]
  generalize (lg_sl (args.map (cvv ad)) ++ List.replicate (mx - (lg_sl (args.map (cvv ad))).length) Slot.unset).toArray = ls at hl ⊢
  rw [← he ad] at hl
  exact h (p, l, e, (headSpec (Cond.code y cc mx ret :: lw_w) (rmd d)).room, s, m, (args.map (cvv ad)).toArray, below, meth, c, 0, 0, MQ below (Qg D ad cs (inW ad) P) (args.map (cvv ad)).toArray s 0 0 (inW ad), inW ad, D, ad, cs, s.heap)
    ⟨B.exec, B.bytes, hml, hown, fun w hw => hts w (List.mem_cons_of_mem _ hw), hK, hinj, fun i hi => ⟨i, hi, rfl⟩, Nat.zero_le _, Nat.zero_le _⟩ ⟨Nat.le_refl _, Nat.le_refl _⟩ ⟨B.returns, B.notSynchronized, rfl, rfl, rfl, rfl⟩ s.heap [] ls hP va_S.rf (by rw [hlen]; exact hl)
theorem Cc.mono {y : MethodName} {cc : ByteArray} {mx : Nat} {ret : Option FieldType} {d : Nat} {args : List Value} {σ : Mem} {P P' : Option Value → Mem → Prop} (h : Cc y cc mx ret d args σ P) (hPP : ∀ r σ', P r σ' → P' r σ') : Cc y cc mx ret d args σ P' := by
  intro l D ad cs hinj
  intro p e ha hc hk s m args' below hf hfit happ hq
  obtain ⟨k, o, h1, h2, h3, h4⟩ := h l D ad cs hinj p e ha hc hk s m args' below hf hfit happ hq
  obtain ⟨⟨⟨r, σ', a1, a2, a3⟩, a4⟩, a5⟩ := h4
  exact ⟨k, o, h1, h2, h3, ⟨⟨r, σ', a1, hPP r σ' a2, a3⟩, a4⟩, a5⟩
theorem Pc_blind {D : va_G} {ad : Nat → Nat} {cs : Nat → ClassId} {σ : Mem} {av : List Value} : FrameBlind (va_Pc av (fun U => va_P D vwCl (wl ad cs σ 0 shp) U.heap ∧ va_K D vwCl (tys3 cs) U)) := fun a U g mk q => by
  obtain ⟨q0, qP, qK⟩ := q
  exact ⟨q0, qP, va_K.moved (u := U) (U := U.calling g mk a) (Vm.Alike.refl U.vm) qK⟩
theorem V_callV {X : XC} {own : String} {cc : ByteArray} {nL pc : Nat} {ls : List (Option Value)} {st : List Value} {σ : Mem} {index n d mx : Nat} {y : MethodName} {bytes : ByteArray} {ret : Option FieldType} {As rest : List Value} {P : Option Value → Mem → Prop} {ci b : Nat} {fs : List (Option Nat)} (hX : Cok X own cc nL) (hR : Rok X (d + 1)) (hm : MthV own index y ci bytes mx ret n) (hC : Cc y bytes mx ret d (.ref b :: As) σ P) (hd : decode cc pc = .ok (.invokevirtual index, 3)) (hs : shp[b]? = some (.inl (ci, fs))) (hn : As.length = n) (hnl : ls.length = nL) (hst : st = As.reverse ++ .ref b :: rest) (hcat : csum rest ≤ 8) (kk : ∀ (r : Option Value) (σ2 : Mem), P r σ2 → Vw X (pc + 3) ls (r.toList ++ rest) σ2) : Vw X pc ls st σ := by
  obtain ⟨p, l, e, R, s, m, args, below, meth, c, cells, slots, Q, A, D, ad, cs, H0⟩ := X
  intro H locs lsA hP hS hl
  obtain ⟨hx, hb, hml, hown, hts, hK, hinj, hA, hcl, hsl⟩ := hX
  have hM := hC l D ad cs hinj
  have hroom : (rmd d).frames + 1 ≤ R.frames ∧ 8 + (mx + 11) + (rmd d).locals ≤ R.locals := ⟨hR.1, by have h9 := hR.2; have h8 := hm.1.2.1; show 8 + (mx + 11) + 40 * d ≤ R.locals; omega⟩
  have hGw : ∀ w ∈ Cond.code y bytes mx ret :: lw_w, w ∈ lw_w := fun w hw => (List.mem_cons.mp hw).elim (fun e => by rw [e]; exact hm.1.2.2.1) id
  have hstk : st.map (cvv ad) = (As.map (cvv ad)).reverse ++ .ref (ad b) :: rest.map (cvv ad) := by rw [hst]; simp [List.map_append, List.map_reverse, cvv]
  have hcat2 : 2 * (F0 m pc lsA (rest.map (cvv ad))).monitorRoom + ((rest.map (cvv ad)).map fun v => v.category).sum ≤ 8 := by
    show 2 * 0 + _ ≤ 8
    rw [csum_map]
    omega
  have hws : ∀ w ∈ Cond.code y bytes mx ret :: lw_w, ∀ (a' : Array Value) (U : State), s.WarmedH U.vm → w.before a' U = true := fun w hw a' U hW => lw_warm hts w (hGw w hw) a' U hW
  have hlen9 : ∀ sig, parseMethodDescriptor y.desc = some sig → n = sig.parameters.length := fun sig h => by
    have h2 := hm.1.1.2.2
    rw [h] at h2
    exact (Option.some.inj h2).symm
  have hfix : CallFix p m c cc nL s args lw_w own := ⟨hx, hb, hml, hown, hts⟩
  have run : va_Run p l e R s m args below meth c H locs cells slots 0 0 (F0 m pc lsA (st.map (cvv ad))) (rest.map (cvv ad)) (Qg D ad cs (inW ad) P (Value.ref (ad b) :: As.map (cvv ad)).toArray) (inW ad) := by
    obtain ⟨⟨hd1, hmx, hco, hini, hlk⟩, ⟨T9, N9, hcl9⟩, hins, hsel⟩ := hm
    have he := wl_at (ad := ad) (cs := cs) (σ := σ) hs
    have hrecv : ∃ cellB : Cell, H[ad b]? = some cellB ∧ cellB.vm.isStatics = false ∧ s.vm.findClass y.cls = some cellB.cls := va_recv hK hP hcl9 he
    have hpre : PreV s H y.cls (ad b) (va_Pc (.ref (ad b) :: As.map (cvv ad)) (fun U => va_P D vwCl (wl ad cs σ 0 shp) U.heap ∧ va_K D vwCl (tys3 cs) U)) (As.map (cvv ad)) := ⟨Pc_blind, hrecv, fun U hU hW => ⟨rfl, by rw [hU]; exact hP, va_K.moved hW.alike hK⟩⟩
    rcases hlk with hlk | ⟨host, hlk⟩
    · exact va_runV hfix hM (C := y.cls) ⟨⟨rfl, rfl, hroom.1, hroom.2, hws, List.mem_cons_self, hts _ hco, hts _ hini, ⟨hd1.1, hd1.2.1⟩, hlen9, hts _ hlk⟩, hts _ hins, hts _ hsel⟩ hpre rfl (by rw [List.length_map]; exact hn) (by rw [← hnl]; exact hl.1) hstk hcat2 hd ⟨hcl, hsl⟩
    · exact va_runVN hfix hM (C := y.cls) ⟨⟨⟨rfl, rfl, hroom.1, hroom.2, hws, List.mem_cons_self⟩, hts _ hco, hts _ hini, ⟨hd1.1, hd1.2.1⟩, hlen9, hts _ hlk⟩, hts _ hins, hts _ hsel⟩ hpre rfl (by rw [List.length_map]; exact hn) (by rw [← hnl]; exact hl.1) hstk hcat2 hd ⟨hcl, hsl⟩
  intro T hT XS
  obtain ⟨v, st₀, t, T', L, h0, X', hL, e1, e2, ⟨⟨r, σ', hoc, hPr, hP', hK'⟩, hz, hk⟩, stp⟩ := run T hT XS
  have hv : v = r.map (cvv ad) := Outcome.returned.inj hoc
  rw [h0] at hz hk
  obtain ⟨t2, a1, b1⟩ := kk r σ' hPr T'.heap (locs ++ L) lsA (by rw [e1]; exact hP')
    ⟨Nat.le_trans hS.1 (by rw [e1]; exact hz), fun q h1 h2 => by rw [e1, hk q (Nat.lt_of_lt_of_le h1 hS.1) (fun z => h2 (inW_A hA q z))]; exact hS.2.1 q h1 h2, fun q hq => by
      rcases List.mem_append.mp hq with h | h
      · exact hS.2.2 q h
      · exact inW_A hA _ (hL q h)⟩ hl T' rfl X'
  refine ⟨t2, stp t2 ?_, b1⟩
  have hst2 : v.toList ++ rest.map (cvv ad) = (r.toList ++ rest).map (cvv ad) := by
    rw [hv]
    cases r <;> rfl
  rw [hst2]
  exact a1
theorem V_callS {X : XC} {own : String} {cc : ByteArray} {nL pc : Nat} {ls : List (Option Value)} {st : List Value} {σ : Mem} {index n d mx : Nat} {y : MethodName} {bytes : ByteArray} {ret : Option FieldType} {As rest : List Value} {P : Option Value → Mem → Prop} (hX : Cok X own cc nL) (hR : Rok X (d + 1)) (hm : MthS own index y bytes mx ret n) (hC : Cc y bytes mx ret d (As) σ P) (hd : decode cc pc = .ok (.invokestatic index, 3)) (hn : As.length = n) (hnl : ls.length = nL) (hst : st = As.reverse ++ rest) (hcat : csum rest ≤ 8) (kk : ∀ (r : Option Value) (σ2 : Mem), P r σ2 → Vw X (pc + 3) ls (r.toList ++ rest) σ2) : Vw X pc ls st σ := by
  obtain ⟨p, l, e, R, s, m, args, below, meth, c, cells, slots, Q, A, D, ad, cs, H0⟩ := X
  intro H locs lsA hP hS hl
  obtain ⟨hx, hb, hml, hown, hts, hK, hinj, hA, hcl, hsl⟩ := hX
  have hM := hC l D ad cs hinj
  have hroom : (rmd d).frames + 1 ≤ R.frames ∧ 8 + (mx + 11) + (rmd d).locals ≤ R.locals := ⟨hR.1, by have h9 := hR.2; have h8 := hm.1.2.1; show 8 + (mx + 11) + 40 * d ≤ R.locals; omega⟩
  have hGw : ∀ w ∈ Cond.code y bytes mx ret :: lw_w, w ∈ lw_w := fun w hw => (List.mem_cons.mp hw).elim (fun e => by rw [e]; exact hm.1.2.2.1) id
  have hstk : st.map (cvv ad) = (As.map (cvv ad)).reverse ++ rest.map (cvv ad) := by rw [hst]; simp [List.map_append, List.map_reverse, cvv]
  have hcat2 : 2 * (F0 m pc lsA (rest.map (cvv ad))).monitorRoom + ((rest.map (cvv ad)).map fun v => v.category).sum ≤ 8 := by
    show 2 * 0 + _ ≤ 8
    rw [csum_map]
    omega
  have hws : ∀ w ∈ Cond.code y bytes mx ret :: lw_w, ∀ (a' : Array Value) (U : State), s.WarmedH U.vm → w.before a' U = true := fun w hw a' U hW => lw_warm hts w (hGw w hw) a' U hW
  have hlen9 : ∀ sig, parseMethodDescriptor y.desc = some sig → n = sig.parameters.length := fun sig h => by
    have h2 := hm.1.1.2.2
    rw [h] at h2
    exact (Option.some.inj h2).symm
  have hfix : CallFix p m c cc nL s args lw_w own := ⟨hx, hb, hml, hown, hts⟩
  have run : va_Run p l e R s m args below meth c H locs cells slots 0 0 (F0 m pc lsA (st.map (cvv ad))) (rest.map (cvv ad)) (Qg D ad cs (inW ad) P (As.map (cvv ad)).toArray) (inW ad) := by
    obtain ⟨⟨hd1, hmx, hco, hini, hlk⟩, hstat⟩ := hm
    have hpre : PreS s H (va_Pc (As.map (cvv ad)) (fun U => va_P D vwCl (wl ad cs σ 0 shp) U.heap ∧ va_K D vwCl (tys3 cs) U)) (As.map (cvv ad)) := ⟨Pc_blind, fun U hU hW => ⟨rfl, by rw [hU]; exact hP, va_K.moved hW.alike hK⟩⟩
    rcases hlk with hlk | ⟨host, hlk⟩
    · exact va_runS hfix hM ⟨⟨rfl, rfl, hroom.1, hroom.2, hws, List.mem_cons_self, hts _ hco, hts _ hini, ⟨hd1.1, hd1.2.1⟩, hlen9, hts _ hlk⟩, hts _ hstat⟩ hpre rfl (by rw [List.length_map]; exact hn) (by rw [← hnl]; exact hl.1) hstk hcat2 hd ⟨hcl, hsl⟩
    · exact va_runSN hfix hM ⟨⟨⟨rfl, rfl, hroom.1, hroom.2, hws, List.mem_cons_self⟩, hts _ hco, hts _ hini, ⟨hd1.1, hd1.2.1⟩, hlen9, hts _ hlk⟩, hts _ hstat, trivial⟩ hpre rfl (by rw [List.length_map]; exact hn) (by rw [← hnl]; exact hl.1) hstk hcat2 hd ⟨hcl, hsl⟩
  intro T hT XS
  obtain ⟨v, st₀, t, T', L, h0, X', hL, e1, e2, ⟨⟨r, σ', hoc, hPr, hP', hK'⟩, hz, hk⟩, stp⟩ := run T hT XS
  have hv : v = r.map (cvv ad) := Outcome.returned.inj hoc
  rw [h0] at hz hk
  obtain ⟨t2, a1, b1⟩ := kk r σ' hPr T'.heap (locs ++ L) lsA (by rw [e1]; exact hP')
    ⟨Nat.le_trans hS.1 (by rw [e1]; exact hz), fun q h1 h2 => by rw [e1, hk q (Nat.lt_of_lt_of_le h1 hS.1) (fun z => h2 (inW_A hA q z))]; exact hS.2.1 q h1 h2, fun q hq => by
      rcases List.mem_append.mp hq with h | h
      · exact hS.2.2 q h
      · exact inW_A hA _ (hL q h)⟩ hl T' rfl X'
  refine ⟨t2, stp t2 ?_, b1⟩
  have hst2 : v.toList ++ rest.map (cvv ad) = (r.toList ++ rest).map (cvv ad) := by
    rw [hv]
    cases r <;> rfl
  rw [hst2]
  exact a1
