noncomputable section
/-! the theorem of the pure machine -/
theorem xrt_1 {ret : Nat} {i : Instr} {st : List Value} {r : Option Value} (h : xrt ret i st = some r) : xil i = 1 ∧ (∀ a b d o, i ≠ .tableswitch a b d o) ∧ ∀ a b, i ≠ .lookupswitch a b := by
  unfold xrt at h
  split at h
  next => exact ⟨rfl, fun _ _ _ _ z => (by cases z), fun _ _ z => (by cases z)⟩
  next => exact ⟨rfl, fun _ _ _ _ z => (by cases z), fun _ _ z => (by cases z)⟩
  next => exact ⟨rfl, fun _ _ _ _ z => (by cases z), fun _ _ z => (by cases z)⟩
  next => cases h
theorem xca_3 {own : Nat} {i : Instr} {st : List Value} {h : xH} {r : Nat × List Value × List Value} (e : xca own i st h = some r) : xil i = 3 ∧ (∀ a b d o, i ≠ .tableswitch a b d o) ∧ ∀ a b, i ≠ .lookupswitch a b := by
  unfold xca at e
  split at e
  next => exact ⟨rfl, fun _ _ _ _ z => (by cases z), fun _ _ z => (by cases z)⟩
  next => exact ⟨rfl, fun _ _ _ _ z => (by cases z), fun _ _ z => (by cases z)⟩
  next => exact ⟨rfl, fun _ _ _ _ z => (by cases z), fun _ _ z => (by cases z)⟩
  next => cases e
theorem xMm_in : Cond.code Lib.Math.max.name Lib.Math.max.code 2 (some .int) ∈ xB ∧ Cond.code Lib.Math.min.name Lib.Math.min.code 2 (some .int) ∈ xB ∧ Cond.static Lib.Math.max.name ∈ xB ∧ Cond.static Lib.Math.min.name ∈ xB ∧ Cond.initialized "java/lang/Math" ∈ xB ∧
    (∃ y, xN[xMx]? = some y ∧ y.1 = Lib.Math.max.name) ∧ ∃ y, xN[xMn]? = some y ∧ y.1 = Lib.Math.min.name := by
  have h := xMm_ok
  have h1 : xMx + 1 < xM.length := by decide +kernel
  have h2 : xMn + 1 < xM.length := by decide +kernel
  have k1 : (xM[xMx]?).map (fun q => (q.2.1, xrc q.2.2.2.1)) = some (2, some .int) := by decide +kernel
  have k2 : (xM[xMn]?).map (fun q => (q.2.1, xrc q.2.2.2.1)) = some (2, some .int) := by decide +kernel
  have k3 : (xN[xMx]?).map (fun y => y.2.2.1) = some (some .int) := by decide +kernel
  have k4 : (xN[xMn]?).map (fun y => y.2.2.1) = some (some .int) := by decide +kernel
  obtain ⟨q1, e1, f1⟩ := xmap k1
  obtain ⟨q2, e2, f2⟩ := xmap k2
  split at h
  next a b ha hb =>
    simp only [Bool.and_eq_true, decide_eq_true_eq] at h
    obtain ⟨⟨⟨⟨⟨⟨a1, b1⟩, a2⟩, b2⟩, i1⟩, s1⟩, s2⟩ := h
    have m1 := xml_get xM xN xm_all _ _ _ e1 ha h1
    have m2 := xml_get xM xN xm_all _ _ _ e2 hb h2
    rw [ha] at k3
    rw [hb] at k4
    have k3 : a.2.2.1 = some .int := Option.some.inj k3
    have k4 : b.2.2.1 = some .int := Option.some.inj k4
    have f1 : q1.2.1 = 2 := congrArg Prod.fst f1
    have f2 : q2.2.1 = 2 := congrArg Prod.fst f2
    rw [a1, a2, f1, k3] at m1
    rw [b1, b2, f2, k4] at m2
    exact ⟨List.mem_filter.mpr ⟨xgt_in m1, rfl⟩, List.mem_filter.mpr ⟨xgt_in m2, rfl⟩, xw_in s1, xw_in s2, xw_in i1, ⟨a, ha, a1⟩, b, hb, b1⟩
  next => cases h
section XC
variable {p : Program} {l : Launch} {e : Env} {R : Room} {s : State} {m : MethodId} {args : Array Value} {below : List Frame} {meth : Method} {c : Code} {H : Heap} {locs : List Loc} {cells slots : Nat} {Q : State → Prop}
variable {cc : ByteArray} {pc : Nat} {lsA : Array Slot} {B : Nat} {aR : Nat → Nat} {cI cZ cJ : ClassId} {D : va_G} {ro : List (List Int32)}
theorem xob_W {own n : Nat} {i : Instr} {st rest : List Value} (hx : p.tables.exec = Jvm.exec) (hb : c.code = cc) (hml : c.maxLocals = lsA.size) (hown : s.vm.findClass (xr own) = some m.cls) (hts : ∀ w ∈ xB, w.before args s = true)
    (hd : decode cc pc = .ok (i, n)) (hnn : n = xil i ∨ (∃ a b d o, i = .tableswitch a b d o) ∨ ∃ a b, i = .lookupswitch a b) (h1 : xob own i st = some rest) (hrest : xcs rest ≤ 8) (hRf : 1 ≤ R.frames) (hRlo : 20 ≤ R.locals)
    (kk : W p l e R s m args below meth c H locs cells slots Q (F0 m (pc + 3) lsA (rest.map (xv B aR)))) : W p l e R s m args below meth c H locs cells slots Q (F0 m pc lsA (st.map (xv B aR))) := by
  have hwA := xA_ok
  simp only [Bool.and_eq_true] at hwA
  unfold xob at h1
  split at h1
  next idx r0 rest0 =>
    split at h1
    next y a hf =>
      obtain ⟨hz, h1⟩ := xbif h1
      cases h1
      have e3 : n = 3 := xnsw hnn (fun _ _ _ _ z => by cases z) (fun _ _ z => by cases z)
      subst e3
      have hW : 2 * (F0 m pc lsA ((Value.ref r0 :: rest).map (xv B aR))).monitorRoom + ((rest.map (xv B aR)).map fun v => v.category).sum ≤ 8 := lv_room (by rw [xcs_map]; exact hrest)
      exact W.objInit hx hb hown (hts _ (xC_obj hf hz)) (hts _ (xw_in hwA.1.2)) (hts _ (xw_in hwA.2)) rfl hml.symm rfl hd hRf (by omega) kk
    next => cases h1
  next => cases h1
theorem xmm_W {own n : Nat} {i : Instr} {st rest : List Value} (hx : p.tables.exec = Jvm.exec) (hb : c.code = cc) (hml : c.maxLocals = lsA.size) (hown : s.vm.findClass (xr own) = some m.cls) (hts : ∀ w ∈ xB, w.before args s = true)
    (hd : decode cc pc = .ok (i, n)) (hnn : n = xil i ∨ (∃ a b d o, i = .tableswitch a b d o) ∨ ∃ a b, i = .lookupswitch a b) (h1 : xmm own i st = some rest) (hrest : xcs rest ≤ 8) (hRf : 1 ≤ R.frames) (hRlo : 30 ≤ R.locals) (hc : cells ≤ R.cells) (hs : slots ≤ R.slots)
    (kk : W p l e R s m args below meth c H locs cells slots Q (F0 m (pc + 3) lsA (rest.map (xv B aR)))) : W p l e R s m args below meth c H locs cells slots Q (F0 m pc lsA (st.map (xv B aR))) := by
  obtain ⟨w1, w2, w3, w4, w5, ⟨y1, hy1, hn1⟩, y2, hy2, hn2⟩ := xMm_in
  have hle : ∀ (v : Value) (t : List Value), xcs (v :: t) ≤ 8 → ((t.map (xv B aR)).map fun v => v.category).sum ≤ 8 := by
    intro v t ht
    rw [xcs_map]
    unfold xcs at ht ⊢
    rw [List.map_cons, List.sum_cons] at ht
    omega
  unfold xmm at h1
  split at h1
  next idx y x rest0 =>
    split at h1
    next mm n9 p9 nest hf =>
      obtain ⟨h0, h1⟩ := xbif h1
      have h0 := Nat.eq_of_beq_eq_true h0
      have e3 : n = 3 := xnsw hnn (fun _ _ _ _ z => by cases z) (fun _ _ z => by cases z)
      subst e3
      cases hz : Nat.beq mm xMx with
      | true =>
        rw [hz] at h1
        cases h1
        obtain rfl := Nat.eq_of_beq_eq_true hz
        obtain ⟨c1, c2, c3⟩ := xC_in hf (by decide) hy1
        rw [hn1] at c2 c3
        exact va_mmax hx hb hml hown (hts _ (c2 h0)) (hts _ w3) (hts _ w5) (hts _ w1) hRf (by have := hle _ _ hrest; omega) hc hs hd kk
      | false =>
        rw [hz] at h1
        obtain ⟨hz2, h1⟩ := xbif h1
        cases h1
        obtain rfl := Nat.eq_of_beq_eq_true hz2
        obtain ⟨c1, c2, c3⟩ := xC_in hf (by decide) hy2
        rw [hn2] at c2 c3
        exact va_mmin hx hb hml hown (hts _ (c2 h0)) (hts _ w4) (hts _ w5) (hts _ w2) hRf (by have := hle _ _ hrest; omega) hc hs hd kk
    next => cases h1
  next => cases h1
theorem xcpy_f (vs ws : List Value) (sp dp n : Nat) (hd : dp + n ≤ ws.length) : va_cpy (fun j => xal (vs.getD j .null)) (fun j => xal (ws.getD j .null)) sp dp n = fun j => xal ((xcpy vs ws sp dp n).getD j .null) := by
  funext j
  unfold va_cpy xcpy
  by_cases hj : j < ws.length
  · have e : ((List.range ws.length).map fun k => if dp ≤ k ∧ k < dp + n then vs.getD (sp + (k - dp)) .null else ws.getD k .null).getD j .null = if dp ≤ j ∧ j < dp + n then vs.getD (sp + (j - dp)) .null else ws.getD j .null := by
      rw [List.getD_eq_getElem?_getD, List.getElem?_map, List.getElem?_range hj]
      rfl
    rw [e]
    split <;> rfl
  · rw [if_neg (by omega)]
    have e1 : ws.getD j .null = .null := by rw [List.getD_eq_getElem?_getD, List.getElem?_eq_none (by omega)]; rfl
    dsimp only
    rw [e1, List.getD_eq_getElem?_getD, List.getElem?_eq_none (by simp; omega)]
    rfl
theorem xay_3 {own : Nat} {i : Instr} {st : List Value} {h : xH} {r : List Value × xH} (e : xay own i st h = some r) : xil i = 3 ∧ (∀ a b d o, i ≠ .tableswitch a b d o) ∧ ∀ a b, i ≠ .lookupswitch a b := by
  unfold xay at e
  split at e
  next => exact ⟨rfl, fun _ _ _ _ z => (by cases z), fun _ _ z => (by cases z)⟩
  next => cases e
set_option maxRecDepth 100000 in
theorem xay_W {own : Nat} {i : Instr} {st st' : List Value} {h h' : xH} (hx : p.tables.exec = Jvm.exec) (hb : c.code = cc) (hml : c.maxLocals = lsA.size) (hown : s.vm.findClass (xr own) = some m.cls) (hts : ∀ w ∈ xB, w.before args s = true) (hK : va_K D vwCl (xtys cI cZ cJ) s)
    (hR : xRl B aR cI cZ cJ D h H) (hS : va_S (fun q : Nat => B ≤ q) s.heap H locs) (hd : decode cc pc = .ok (i, 3)) (h1 : xay own i st h = some (st', h')) (hrest : xcs st' ≤ 8) (hRf : 1 ≤ R.frames) (hRlo : 100 ≤ R.locals)
    (kk : ∀ (H' : Heap) (locs' : List Loc), xRl B aR cI cZ cJ D h' H' → va_S (fun q : Nat => B ≤ q) s.heap H' locs' → W p l e R s m args below meth c H' locs' cells slots Q (F0 m (pc + 3) lsA (st'.map (xv B aR)))) : W p l e R s m args below meth c H locs cells slots Q (F0 m pc lsA (st.map (xv B aR))) := by
  have hy := xY_ok
  simp only [Bool.and_eq_true] at hy
  have hDw : va_D (fun q : Nat => B ≤ q) (xwd (xe B aR cI cZ cJ) B h) := xwd_D _ _ _
  have hnw : nativeFrameWords "java/lang/System" "arraycopy" 5 + 11 ≤ 60 := by decide +kernel
  unfold xay at h1
  split at h1
  next idx n dp rd sp rs rest0 =>
    split at h1
    next pl t0 vs t1 ws hf hs hdd =>
      obtain ⟨hz, h2⟩ := xbif h1
      clear h1
      simp only [Bool.and_eq_true] at hz
      obtain ⟨⟨⟨z1, z2⟩, z3⟩, z4⟩ := hz
      obtain rfl := Nat.eq_of_beq_eq_true z1
      obtain rfl := Nat.eq_of_beq_eq_true z2
      by_cases hneg : sp < 0 ∨ dp < 0 ∨ n < 0
      · rw [if_pos hneg] at h2
        cases h2
      · rw [if_neg hneg] at h2
        cases h2
        have hrs : ((st'.map (xv B aR)).map fun v => v.category).sum ≤ 8 := by rw [xcs_map]; exact hrest
        refine xw_copyl hx hb hml hown (hts _ (xw_in (xtb_ok hy.1.1.1 hf))) (hts _ (xw_in hy.1.1.2)) (hts _ (xw_in hy.1.2)) (hts _ (xw_in hy.2)) hK hR.2 hDw hS rs rd 2 (xRl_get hR hs) (xRl_get hR hdd) rfl (fun q => hneg (Or.inl q)) (fun q => hneg (Or.inr (Or.inl q))) (fun q => hneg (Or.inr (Or.inr q))) (Nat.ble_eq.mp z3) (Nat.ble_eq.mp z4) hRf (by omega) hd (fun H1 locs1 hz1 hP hS1 => ?_)
        exact kk H1 locs1 (xRl_set hR hz1 (by rw [xe_l, xcpy_f _ _ _ _ _ (Nat.ble_eq.mp z4), xcpy_len]) hP) hS1
    next => cases h1
  next => cases h1
end XC
set_option maxHeartbeats 4000000 in
theorem ev_W (ro : List (List Int32)) : ∀ n, xSnd ro n := by
  intro n
  induction n with
  | zero => intro d q pc ls st h r h2 hev; simp [ev] at hev
  | succ n ih =>
    intro d q pc ls st h r h2 hev B aR cI cZ cJ D y p l e R s m args below meth c H locs cells slots Q lsA F hl hR hS hRf hRlo hcl hsl hend
    have F0' := F
    obtain ⟨hx, hb, hml, hown, hts, hK, hini, hro, hsB, hNw, hdc⟩ := F
    have mm := ev_mono _ hev
    rw [ev] at hev
    split at hev
    next => cases hev
    next i hi =>
      obtain ⟨nn, hd, hnn⟩ := xcg_ok hdc hi
      split at hev
      next ls' st' h1 =>
        have e3 : nn = xil i := xnsw hnn (fun a b d o z => by subst z; simp [xs1] at h1) (fun a b z => by subst z; simp [xs1] at h1)
        subst e3
        exact xs1_W hx hb hown hts hd h1 hl (fun lsB hlB => ih d q _ ls' st' h r h2 hev B aR cI cZ cJ D y p l e R s m args below meth c H locs cells slots Q lsB F0' hlB hR hS hRf hRlo hcl hsl hend)
      next =>
        split at hev
        next pc' st' h1 => exact xbr_W hx hb hd hnn h1 (ih d q pc' ls st' h r h2 hev B aR cI cZ cJ D y p l e R s m args below meth c H locs cells slots Q lsA F0' hl hR hS hRf hRlo hcl hsl hend)
        next =>
          split at hev
          next st' h' h1 =>
            have e3 : nn = xil i := xnsw hnn (fun a b d o z => by subst z; simp [xho] at h1) (fun a b z => by subst z; simp [xho] at h1)
            subst e3
            have m1 := xho_mono h1
            have m2 := ev_mono _ hev
            have a1 : cells + (h'.length - h.length) + (h2.length - h'.length) = cells + (h2.length - h.length) := by omega
            have a2 : slots + (xsl h' - xsl h) + (xsl h2 - xsl h') = slots + (xsl h2 - xsl h) := by omega
            exact xho_W hx hb hown hts hK hini hro hsB hR hS hd h1 (by omega) (by omega) (fun H' locs' hR' hS' => ih d q _ ls st' h' r h2 hev B aR cI cZ cJ D y p l e R s m args below meth c H' locs' _ _ Q lsA F0' hl hR' hS' hRf hRlo (by omega) (by omega) (by rw [a1, a2]; exact hend))
          next =>
            split at hev
            next r' h1 =>
              cases hev
              obtain ⟨o1, o2, o3⟩ := xrt_1 h1
              have e3 : nn = 1 := (xnsw hnn o2 o3).trans o1
              subst e3
              have := hend pc lsA H locs st i hd h1 hR hS
              rw [Nat.sub_self, Nat.sub_self, Nat.add_zero, Nat.add_zero] at this
              exact this
            next =>
              split at hev
              next => cases hev
              next d' =>
                split at hev
                next rest h1 =>
                  obtain ⟨hrest, hev⟩ := xbif hev
                  exact xob_W hx hb (hml.trans hl.1.symm) hown hts hd hnn h1 (Nat.ble_eq.mp hrest) (by omega) (by omega) (ih (d' + 1) q _ ls rest h r h2 hev B aR cI cZ cJ D y p l e R s m args below meth c H locs cells slots Q lsA F0' hl hR hS hRf hRlo hcl hsl hend)
                next =>
                  split at hev
                  next rest h1 =>
                    obtain ⟨hrest, hev⟩ := xbif hev
                    exact xmm_W hx hb (hml.trans hl.1.symm) hown hts hd hnn h1 (Nat.ble_eq.mp hrest) (by omega) (by omega) (by omega) (by omega) (ih (d' + 1) q _ ls rest h r h2 hev B aR cI cZ cJ D y p l e R s m args below meth c H locs cells slots Q lsA F0' hl hR hS hRf hRlo hcl hsl hend)
                  next =>
                   split at hev
                   next rest h' h1 =>
                     obtain ⟨hrest, hev⟩ := xbif hev
                     obtain ⟨o1, o2, o3⟩ := xay_3 h1
                     have e3 : nn = 3 := (xnsw hnn o2 o3).trans o1
                     subst e3
                     have g1 := xay_mono h1
                     exact xay_W hx hb (hml.trans hl.1.symm) hown hts hK hR hS hd h1 (Nat.ble_eq.mp hrest) (by omega) (by omega) (fun H' locs' hR' hS' => ih (d' + 1) q _ ls rest h' r h2 hev B aR cI cZ cJ D y p l e R s m args below meth c H' locs' cells slots Q lsA F0' hl hR' hS' hRf hRlo (by rw [g1.1]; exact hcl) (by rw [g1.2]; exact hsl) (by rw [g1.1, g1.2]; exact hend))
                   next =>
                    split at hev
                    next => cases hev
                    next yk as rest hca =>
                      split at hev
                      next => cases hev
                      next q' hq' =>
                        obtain ⟨hz, hev⟩ := xbif hev
                        simp only [Bool.and_eq_true] at hz
                        split at hev
                        next => cases hev
                        next r1 h' he1 =>
                          obtain ⟨o1, o2, o3⟩ := xca_3 hca
                          have e3 : nn = 3 := (xnsw hnn o2 o3).trans o1
                          subst e3
                          have m1 := ev_mono _ he1
                          have m2 := ev_mono _ hev
                          have a1 : cells + (h'.length - h.length) + (h2.length - h'.length) = cells + (h2.length - h.length) := by omega
                          have a2 : slots + (xsl h' - xsl h) + (xsl h2 - xsl h') = slots + (xsl h2 - xsl h) := by omega
                          exact xca_W F0' ih hd hca hq' (Nat.ble_eq.mp hz.1) (Nat.ble_eq.mp hz.2) he1 hl.1 hR hS (by omega) (by omega) (by omega) (by omega) (fun H' locs' hR' hS' => ih (d' + 1) q _ ls _ h' r h2 hev B aR cI cZ cJ D y p l e R s m args below meth c H' locs' _ _ Q lsA F0' hl hR' hS' hRf hRlo (by omega) (by omega) (by rw [a1, a2]; exact hend))
end
