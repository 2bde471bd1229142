/-! ===== the law's own array is made: the world goes on beside it ===== -/
def adP (ad : Nat → Nat) (h : Nat) : Nat → Nat := fun i => if i = 53 then h else ad i
theorem adP_lt {ad : Nat → Nat} {h i : Nat} (hi : i < 53) : adP ad h i = ad i := if_neg (by omega)
/-- every place that a shape names is below 52 -/
def shOk : Sh → Bool
  | .inl o => o.2.all (fun q => match q with | none => true | some k => decide (k < 52))
  | .inr (.inl _) => true
  | .inr (.inr r) => decide (r.1 + r.2 ≤ 52)
theorem shp_ok : shp.all shOk = true := by decide +kernel
theorem arrV_ext {c : ClassId} {n : Nat} {f g : Nat → Value} (h : ∀ j, j < n → f j = g j) : arrV c n f = arrV c n g := by
  unfold arrV
  congr 1
  exact congrArg _ (funext fun j => h j.1 j.2)
theorem fl_ad {ad ad' : Nat → Nat} {σ : Mem} {p : Nat} (h : ∀ i, i < 52 → ad i = ad' i) : ∀ (fs : List (Option Nat)) (i : Nat), fs.all (fun q => match q with | none => true | some k => decide (k < 52)) = true → fl ad σ p i fs = fl ad' σ p i fs
  | [], _, _ => rfl
  | o :: r, i, ha => by
    rw [List.all_cons, Bool.and_eq_true] at ha
    show fv ad σ p i o :: _ = fv ad' σ p i o :: _
    rw [fl_ad h r (i + 1) ha.2]
    cases o with
    | none => rfl
    | some k => simp only [fv]; rw [h k (of_decide_eq_true ha.1)]
theorem wl_ad {D : va_G} {ad ad' : Nat → Nat} {cs : Nat → ClassId} {σ : Mem} {H : Heap} (h : ∀ i, i < 52 → ad i = ad' i) (hP : va_P D vwCl (wl ad cs σ 0 shp) H) : va_P D vwCl (wl ad' cs σ 0 shp) H := by
  intro k q hk
  rw [wl_get, Nat.zero_add] at hk
  cases hs : shp[k]? with
  | none => rw [hs] at hk; cases hk
  | some sh =>
    rw [hs] at hk
    cases hk
    have hk52 : k < 52 := by rw [← shp_len]; exact (List.getElem?_eq_some_iff.mp hs).1
    have hok : shOk sh = true := List.all_eq_true.mp shp_ok sh (List.mem_of_getElem? hs)
    have h0 := hP k _ (wl_at hs)
    show va_at D vwCl (ad' k, ent ad' cs σ k sh) H
    rw [← h k hk52]
    match sh, hok, h0 with
    | .inl o, hok, h0 =>
      show va_at D vwCl (ad k, .inr (o.1, fl ad' σ k 0 o.2)) H
      rw [← fl_ad h o.2 0 hok]
      exact h0
    | .inr (.inl a), _, h0 => exact h0
    | .inr (.inr r), hok, h0 =>
      have hr : r.1 + r.2 ≤ 52 := of_decide_eq_true hok
      refine (show H[ad k]? = some (vp_cell (cs 2) (r.2, .inr (.inr (.inr (.inr (fun j => some (ad (r.1 + j)))))))) from h0).trans (congrArg some ?_)
      rw [vp_cell_q, vp_cell_q]
      exact arrV_ext (fun j hj => by rw [h (r.1 + j) (by omega)])
theorem V_newp {p : Program} {l : Launch} {e : Env} {R : Room} {s : State} {m : MethodId} {args : Array Value} {below : List Frame} {meth : Method} {c : Code} {cells slots : Nat} {Q : State → Prop} {A : Nat → Prop} {D : va_G} {ad : Nat → Nat} {cs : Nat → ClassId} {H0 : Heap} {own : String} {cc : ByteArray} {nL pc : Nat} {ls : List (Option Value)} {σ : Mem}
    (hX : Cok (p, l, e, R, s, m, args, below, meth, c, cells, slots, Q, A, D, ad, cs, H0) own cc nL) (hA : ∀ q, H0.size ≤ q → A q) (harr : Cond.arrayClass .int ∈ lw_w) (hd : decode cc pc = .ok (.newarray .int, 2)) (h1 : cells + 1 ≤ R.cells) (h2 : slots + 12 ≤ R.slots) (hls : ∀ h, lvl (adP ad h) 0 ls = lvl ad 0 ls)
    (kk : ∀ h, A h → ¬ inW ad h → Lw (p, l, e, R, s, m, args, below, meth, c, cells + 1, slots + 12, Q, A, D, adP ad h, cs, H0) (pc + 2) ls [.ref 53] (mf σ 53 (fun _ => 0))) :
    Vw (p, l, e, R, s, m, args, below, meth, c, cells, slots, Q, A, D, ad, cs, H0) pc ls [.int (nI 12)] σ := by
  intro H locs lsA hP hS hl
  obtain ⟨hx, hb, hml, hown, hts, hK, hinj, hAd, hcl, hsl⟩ := hX
  refine va_newaK (atype := .int) (g := F0 m pc lsA [.int (nI 12)]) (n := nI 12) (N := 12) (rest := []) (h := H.size) hx hb (hts _ harr) rfl hd rfl (by decide +kernel) (by decide +kernel) (by decide +kernel) h1 h2 rfl (fun H' cA e1 e2 e3 e4 e5 => ?_)
  have e0 : cA = cs 0 := Option.some.inj (e5.symm.trans (hK.2 0 _ rfl).2)
  subst e0
  have hD := wl_D (A := fun q => q < H.size) (cs := cs) (σ := σ) hinj (fun i hi => by
    obtain ⟨sh, hsh⟩ : ∃ sh, shp[i]? = some sh := ⟨_, List.getElem?_eq_getElem (by rw [shp_len]; exact hi)⟩
    exact (hP i _ (wl_at hsh)).lt)
  have hnw : ¬ inW ad H.size := by
    rintro ⟨i, hi, e⟩
    obtain ⟨sh, hsh⟩ : ∃ sh, shp[i]? = some sh := ⟨_, List.getElem?_eq_getElem (by rw [shp_len]; exact hi)⟩
    have := (hP i _ (wl_at hsh)).lt
    have h9 : ad i < H.size := this
    omega
  have hP1 : va_P D vwCl (wl ad cs σ 0 shp) H' := fun k q hq => (hP k q hq).kept (e3 q.1 (hD.2 k q hq))
  refine kk H.size (hA _ hS.1) hnw H' locs lsA ⟨?_, ?_⟩ ⟨by rw [e2]; exact Nat.le_succ_of_le hS.1, fun q q1 q2 => by rw [e3 q (Nat.lt_of_lt_of_le q1 hS.1)]; exact hS.2.1 q q1 q2, hS.2.2⟩ (by rw [hls]; exact hl)
  · rw [wl_cg (σ := mf σ 53 (fun _ => 0)) (σ' := σ) (fun q hq => mf_q (by omega))]
    exact wl_ad (fun i hi => (adP_lt (by omega)).symm) hP1
  · rw [mf_s]
    show H'[adP ad H.size 53]? = _
    rw [show adP ad H.size 53 = H.size from if_pos rfl, e1, vp_cell_i]
    rfl
