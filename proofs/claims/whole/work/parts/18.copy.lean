theorem lw_ac_na : Cond.native arraycopyName ∈ lw_w := lw_mem 309 (by decide +kernel) (by decide +kernel)
theorem lw_ac_st : Cond.static arraycopyName ∈ lw_w := lw_mem 308 (by decide +kernel) (by decide +kernel)
theorem lw_ac_in : Cond.initialized "java/lang/System" ∈ lw_w := lw_mem 56 (by decide +kernel) (by decide +kernel)
theorem lw_ac_fw : nativeFrameWords "java/lang/System" "arraycopy" 5 ≤ 21 := by decide +kernel
theorem V_copyi {X : XC} {own : String} {cc : ByteArray} {nL pc : Nat} {ls : List (Option Value)} {st : List Value} {σ : Mem} {index a0 a1 n0 n1 sp dp n : Nat} (hX : Cok X own cc nL) (hR : Rok X 1) (hw : Cond.methodLink own index arraycopyName ∈ lw_w) (hd : decode cc pc = .ok (.invokestatic index, 3)) (hs0 : shp[a0]? = some (.inr (.inl (0, n0)))) (hs1 : shp[a1]? = some (.inr (.inl (0, n1)))) (h0 : sp + n ≤ n0) (h1 : dp + n ≤ n1) (hn0 : n0 < 2 ^ 31) (hn1 : n1 < 2 ^ 31) (hnl : ls.length = nL) (hcat : csum st ≤ 8)
    (kk : Vw X (pc + 3) ls st (mf σ a1 (va_cpy (σ a0) (σ a1) sp dp n))) : Vw X pc ls (.int (nI n) :: .int (nI dp) :: .ref a1 :: .int (nI sp) :: .ref a0 :: st) σ := by
  obtain ⟨p, l, e, R, s, m, args, below, meth, c, cells, slots, Q, A, D, ad, cs, H0⟩ := X
  intro H locs lsA hP hS hl
  obtain ⟨hx, hb, hml, hown, hts, hK, hinj, hA, hcl, hsl⟩ := hX
  have he0 := wl_at (ad := ad) (cs := cs) (σ := σ) hs0
  have he1 := wl_at (ad := ad) (cs := cs) (σ := σ) hs1
  have csp : (nI sp).toNatClampNeg = sp := nI_clamp (by omega)
  have cdp : (nI dp).toNatClampNeg = dp := nI_clamp (by omega)
  have cn : (nI n).toNatClampNeg = n := nI_clamp (by omega)
  have hset : (wl ad cs σ 0 shp).set a1 (ad a1, .inl (cs 0, n1, .inl (va_cpy (σ a0) (σ a1) (nI sp).toNatClampNeg (nI dp).toNatClampNeg (nI n).toNatClampNeg))) = wl ad cs (mf σ a1 (va_cpy (σ a0) (σ a1) sp dp n)) 0 shp := wl_set hs1 (fun q hq => mf_ne hq) (by rw [csp, cdp, cn]; simp only [ent, mf_row])
  refine va_copyi hx hb (by rw [hml, ← hnl]; exact hl.1.symm) hown (hts _ hw) (hts _ lw_ac_na) (hts _ lw_ac_st) (hts _ lw_ac_in) hK hP (wl_D hinj hA) hS a0 a1 0 0 he0 he1 rfl rfl rfl (nI_pos (by omega)) (nI_pos (by omega)) (nI_pos (by omega)) (by rw [csp, cn]; exact h0) (by rw [cdp, cn]; exact h1) (fun _ _ => rfl) hR.1 (by rw [csum_map]; have := hR.2; have := lw_ac_fw; omega) hd (fun H1 locs1 hP1 _ hS1 => kk H1 locs1 lsA (by rw [← hset]; exact hP1) hS1 hl)
