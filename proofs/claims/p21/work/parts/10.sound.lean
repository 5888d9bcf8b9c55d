noncomputable section
/-! every run of the pure machine is a walk -/
theorem xC_in {own idx y0 n0 pl nest : Nat} {y : xNt} (h : xtb xC own idx = some (y0, n0, pl, nest)) (hne : Nat.beq y0 9999 = false) (hy : xN[y0]? = some y) :
    (parseMethodDescriptor y.1.desc).map (fun d => d.parameters.length) = some n0 ∧ (nest = 0 → Cond.methodLink (xr own) idx y.1 ∈ xB) ∧ (nest ≠ 0 → ∃ u, Cond.methodLinkNest (xr own) idx y.1 u ∈ xNw) := by
  have h1 := xtb_ok xC_ok h
  unfold xCc at h1
  dsimp only at h1
  rw [hne, cond_false, hy] at h1
  dsimp only at h1
  simp only [Bool.and_eq_true, decide_eq_true_eq] at h1
  refine ⟨h1.1, fun z => ?_, fun z => ?_⟩
  · subst z
    exact xw_in h1.2
  · have h2 := h1.2
    split at h2
    next => exact absurd rfl z
    next =>
      split at h2
      next o i0 z0 u hg =>
        simp only [Bool.and_eq_true, decide_eq_true_eq] at h2
        obtain ⟨⟨rfl, rfl⟩, rfl⟩ := h2
        exact ⟨u, List.mem_filter.mpr ⟨xgt_in hg, rfl⟩⟩
      next => cases h2
theorem xC_obj {own idx y0 : Nat} {a : Nat × Nat × Nat} (h : xtb xC own idx = some (y0, a)) (hne : Nat.beq y0 9999 = true) : Cond.methodLink (xr own) idx objectInit ∈ xB := by
  have h1 := xtb_ok xC_ok h
  unfold xCc at h1
  dsimp only at h1
  rw [hne, cond_true] at h1
  exact xw_in h1
theorem xlt_ne {y0 : Nat} (h : y0 < xOw) : Nat.beq y0 9999 = false := by
  have h1 : xOw < 9999 := by decide
  cases hb : Nat.beq y0 9999 with
  | false => rfl
  | true => have := Nat.eq_of_beq_eq_true hb; omega
section XC
variable {p : Program} {l : Launch} {e : Env} {R : Room} {s : State} {m : MethodId} {args : Array Value} {below : List Frame} {meth : Method} {c : Code} {H : Heap} {locs : List Loc} {cells slots : Nat} {Q : State → Prop}
variable {cc : ByteArray} {pc : Nat} {lsA : Array Slot} {B : Nat} {aR : Nat → Nat} {cI cZ cJ : ClassId} {D : va_G} {ro : List (List Int32)}
set_option maxHeartbeats 4000000 in
theorem xca_W {q q' : xQ} {y : xNt} {i : Instr} {st as rest : List Value} {h h' : xH} {yk n d' : Nat} {r : Option Value} (F : xFx B aR cI cZ cJ D ro q y p s m args meth c) (ih : xSnd ro n) (hd : decode y.2.1 pc = .ok (i, 3)) (hca : xca q.1 i st h = some (yk, as, rest)) (hq' : xM[yk]? = some q')
    (hrest : xcs rest ≤ 8) (has : xcs as ≤ q'.2.1) (hev : ev ro n d' q' 0 (lv_args 0 as) [] h = some (r, h')) (hl : lsA.size = q.2.1) (hR : xRl B aR cI cZ cJ D h H) (hS : va_S (xIn B) s.heap H locs) (hRf : d' + 1 ≤ R.frames) (hRlo : 100 * (d' + 1) ≤ R.locals)
    (hcells : cells + (h'.length - h.length) ≤ R.cells) (hslots : slots + (xsl h' - xsl h) ≤ R.slots)
    (kk : ∀ (H1 : Heap) (locs1 : List Loc), xRl B aR cI cZ cJ D h' H1 → va_S (xIn B) s.heap H1 locs1 → W p l e R s m args below meth c H1 locs1 (cells + (h'.length - h.length)) (slots + (xsl h' - xsl h)) Q (F0 m (pc + 3) lsA ((r.toList ++ rest).map (xv B aR)))) :
    W p l e R s m args below meth c H locs cells slots Q (F0 m pc lsA (st.map (xv B aR))) := by
  obtain ⟨hx, hb, hml, hown, hts, hK, hini, hro, hsB, hNw, hdc⟩ := F
  have kk' : ∀ (H1 : Heap) (locs1 : List Loc), xRl B aR cI cZ cJ D h' H1 → va_S (xIn B) s.heap H1 locs1 → W p l e R s m args below meth c H1 locs1 (cells + (h'.length - h.length)) (slots + (xsl h' - xsl h)) Q (F0 m (pc + 3) lsA ((r.map (xv B aR)).toList ++ rest.map (xv B aR))) := by
    intro H1 locs1 a b
    have := kk H1 locs1 a b
    cases r <;> exact this
  have hW : 2 * (F0 m pc lsA (st.map (xv B aR))).monitorRoom + ((rest.map (xv B aR)).map fun v => v.category).sum ≤ 8 := lv_room (by rw [xcs_map]; exact hrest)
  unfold xca at hca
  split at hca
  next idx =>
    split at hca
    next y0 n0 pl nest hf =>
      split at hca
      next o w1 kind w2 as0 r0 rest0 hm htk =>
        split at hca
        next t fs hh =>
          obtain ⟨hz, hca⟩ := xbif hca
          cases hca
          simp only [Bool.and_eq_true] at hz
          obtain ⟨⟨⟨⟨z1, z2⟩, z3⟩, z4⟩, z5⟩ := hz
          cases hm.symm.trans hq'
          have hlt := Nat.blt_eq.mp z1
          obtain ⟨y', hy', F'⟩ := xM_facts hq' hlt
          have met := xmet ih F' hev has l B aR cI cZ cJ D
          obtain ⟨g1, g2, g3, g4, g5, g6, g7, g8, g9, g10, g11⟩ := id F'
          obtain ⟨c1, c2, -⟩ := xC_in hf (xlt_ne hlt) hy'
          obtain ⟨s1, s2⟩ := g9 (Nat.eq_of_beq_eq_true z2)
          obtain ⟨t1, t2⟩ := xtk_o htk
          obtain rfl := Nat.eq_of_beq_eq_true z4
          have htl : t < 13 := Nat.blt_eq.mp z5
          obtain ⟨⟨C, T, N⟩, hcl⟩ : ∃ qq, vwCl[t]? = some qq := ⟨vwCl[t]'(htl), List.getElem?_eq_getElem htl⟩
          have he := xRl_get hR hh
          rw [xe_o _ _ _ _ _ (xcl_lt hcl)] at he
          have hrc := va_recv hK hR.2 hcl he
          have hCr := (xcl_ok hcl).2.2.2.2.2.1
          dsimp only at hrc
          rw [hCr] at hrc
          subst t2
          rw [g1] at s2
          refine xcall_W (va_runV (As := as0.map (xv B aR)) (rest := rest.map (xv B aR)) (C := xr t) ⟨hx, hb, hml, hown, hts⟩ met ⟨callB_of n0 hts (xgood_in F') rfl rfl rfl (hts _ g4) (hts _ (c2 (Nat.eq_of_beq_eq_true z3))) ⟨g7.1, g7.2, c1⟩ ⟨hRf, by show 8 + (w1 + 11) + 100 * d' ≤ _; have g5 : w1 ≤ 60 := g5; omega⟩, hts _ s1, hts _ s2⟩ ⟨xPc_blind, hrc, xpre (as := .ref r0 :: as0) hK hro hsB hNw hR hS⟩ rfl (by rw [List.length_map]; exact t1) hl (by show List.map (xv B aR) (as0.reverse ++ .ref r0 :: rest) = _; rw [List.map_append, List.map_reverse]; rfl) hW hd ⟨hcells, hslots⟩) (fun _ h => h) hS kk'
        next => cases hca
      next => cases hca
    next => cases hca
  next idx =>
    split at hca
    next y0 n0 pl nest hf =>
      split at hca
      next o w1 kind w2 as0 rest0 hm htk =>
        obtain ⟨hz, hca⟩ := xbif hca
        cases hca
        simp only [Bool.and_eq_true] at hz
        obtain ⟨⟨z1, z2⟩, z3⟩ := hz
        cases hm.symm.trans hq'
        have hlt := Nat.blt_eq.mp z1
        obtain ⟨y', hy', F'⟩ := xM_facts hq' hlt
        have met := xmet ih F' hev has l B aR cI cZ cJ D
        obtain ⟨g1, g2, g3, g4, g5, g6, g7, g8, g9, g10, g11⟩ := id F'
        obtain ⟨c1, c2, -⟩ := xC_in hf (xlt_ne hlt) hy'
        have s1 := g8 (Nat.eq_of_beq_eq_true z2)
        obtain ⟨t1, t2⟩ := xtk_o htk
        subst t2
        exact xcall_W (va_runS (As := as.map (xv B aR)) (rest := rest.map (xv B aR)) ⟨hx, hb, hml, hown, hts⟩ met ⟨callB_of n0 hts (xgood_in F') rfl rfl rfl (hts _ g4) (hts _ (c2 (Nat.eq_of_beq_eq_true z3))) ⟨g7.1, g7.2, c1⟩ ⟨hRf, by show 8 + (w1 + 11) + 100 * d' ≤ _; have g5 : w1 ≤ 60 := g5; omega⟩, hts _ s1⟩ ⟨xPc_blind, xpre (as := as) hK hro hsB hNw hR hS⟩ rfl (by rw [List.length_map]; exact t1) hl (by show List.map (xv B aR) (as.reverse ++ rest) = _; rw [List.map_append, List.map_reverse]) hW hd ⟨hcells, hslots⟩) (fun _ h => h) hS kk'
      next => cases hca
    next => cases hca
  next idx =>
    split at hca
    next y0 n0 pl nest hf =>
      split at hca
      next o w1 kind w2 as0 r0 rest0 hm htk =>
        obtain ⟨hz, hca⟩ := xbif hca
        cases hca
        simp only [Bool.and_eq_true] at hz
        obtain ⟨z1, z2⟩ := hz
        cases hm.symm.trans hq'
        have hlt := Nat.blt_eq.mp z1
        obtain ⟨y', hy', F'⟩ := xM_facts hq' hlt
        have met := xmet ih F' hev has l B aR cI cZ cJ D
        obtain ⟨yn, yb, yr, y4⟩ := y'
        obtain ⟨g1, g2, g3, g4, g5, g6, g7, g8, g9, g10, g11⟩ := id F'
        obtain ⟨c1, c2, c3⟩ := xC_in hf (xlt_ne hlt) hy'
        obtain ⟨s1, s2, s3⟩ := g10 (Nat.eq_of_beq_eq_true z2)
        obtain rfl : yr = none := by
          have g2 : yr = xrc w2.1 := g2
          have s3 : w2.1 = 0 := s3
          rw [g2, s3]; rfl
        obtain ⟨t1, t2⟩ := xtk_o htk
        subst t2
        by_cases hn : nest = 0
        · exact xcall_W (va_runI (As := as0.map (xv B aR)) (rest := rest.map (xv B aR)) ⟨hx, hb, hml, hown, hts⟩ met ⟨callB_of n0 hts (xgood_in F') rfl rfl rfl (hts _ g4) (hts _ (c2 hn)) ⟨g7.1, g7.2, c1⟩ ⟨hRf, by show 8 + (w1 + 11) + 100 * d' ≤ _; have g5 : w1 ≤ 60 := g5; omega⟩, s2, hts _ s1⟩ ⟨xPc_blind, xpre (as := .ref r0 :: as0) hK hro hsB hNw hR hS⟩ rfl (by rw [List.length_map]; exact t1) hl (by show List.map (xv B aR) (as0.reverse ++ .ref r0 :: rest) = _; rw [List.map_append, List.map_reverse]; rfl) hW hd ⟨hcells, hslots⟩) (fun _ h => h) hS kk'
        · obtain ⟨u, hu⟩ := c3 hn
          exact xcall_W (va_runIN (As := as0.map (xv B aR)) (rest := rest.map (xv B aR)) ⟨hx, hb, hml, hown, hts⟩ met ⟨va_cnB n0 hts (xgood_in F') rfl rfl rfl (hNw _ hu) (hts _ g4) ⟨g7.1, g7.2, c1⟩ ⟨hRf, by show 8 + (w1 + 11) + 100 * d' ≤ _; have g5 : w1 ≤ 60 := g5; omega⟩, s2, hts _ s1⟩ ⟨xPc_blind, xpre (as := .ref r0 :: as0) hK hro hsB hNw hR hS⟩ rfl (by rw [List.length_map]; exact t1) hl (by show List.map (xv B aR) (as0.reverse ++ .ref r0 :: rest) = _; rw [List.map_append, List.map_reverse]; rfl) hW hd ⟨hcells, hslots⟩) (fun _ h => h) hS kk'
      next => cases hca
    next => cases hca
  next => cases hca
end XC
end
