noncomputable section
/-! the machine follows the pure one: cells, ends, calls, a whole run -/
theorem xF_in {own idx ci k pl : Nat} (h : xtb xF own idx = some (ci, k, pl)) : ∃ (C : String) (T : u_T) (N : Nat), vwCl[ci]? = some (C, T, N) ∧ k < N ∧ (T k).1 = C ∧ Cond.fieldLink (xr own) idx C (T k).2.1 (T k).2.2.1 ∈ xB := by
  have h1 := xtb_ok xF_ok h
  unfold xFc at h1
  dsimp only at h1
  split at h1
  next q hq =>
    obtain ⟨C, T, N⟩ := q
    simp only [Bool.and_eq_true, decide_eq_true_eq] at h1
    exact ⟨C, T, N, hq, Nat.blt_eq.mp h1.1.1, h1.1.2, xw_in h1.2⟩
  next => cases h1
theorem xW_in {own idx ci pl : Nat} (h : xtb xW own idx = some (ci, pl)) : ∃ (C : String) (T : u_T) (N : Nat), vwCl[ci]? = some (C, T, N) ∧ Cond.classLink (xr own) idx C ∈ xB := by
  have h1 := xtb_ok xW_ok h
  unfold xNc at h1
  dsimp only at h1
  split at h1
  next q hq =>
    obtain ⟨C, T, N⟩ := q
    exact ⟨C, T, N, hq, xw_in h1⟩
  next => cases h1
theorem xcl_lt {ci : Nat} {q : vw_C} (h : vwCl[ci]? = some q) : ci < 100 := by
  have h1 := (List.getElem?_eq_some_iff.mp h).1
  have h2 : vwCl.length ≤ 100 := by decide
  omega
theorem xfit_ok (B : Nat) (aR : Nat → Nat) {c : Nat} {ty : FieldType} {v : Value} (h1 : xtc c ty = true) (h2 : xfit c v = true) : narrow ty (xv B aR v) = xv B aR v ∧ fits ty (xv B aR v) = true := by
  unfold xtc at h1
  unfold xfit at h2
  revert h1 h2
  generalize c % 10 = j
  intro h1 h2
  split at h2
  next x => split at h1 <;> first | exact ⟨rfl, rfl⟩ | (exfalso; simp_all; done)
  next x =>
    have hx : x = 0 ∨ x = 1 := by simpa using h2
    split at h1 <;> first | (exfalso; simp_all; done) | (rcases hx with rfl | rfl <;> exact ⟨(by decide : narrow .boolean (.int _) = .int _), (by decide : fits .boolean (.int _) = true)⟩)
  next x => split at h1 <;> first | exact ⟨rfl, rfl⟩ | (exfalso; simp_all; done)
  next x => split at h1 <;> first | exact ⟨rfl, rfl⟩ | (exfalso; simp_all; done)
  next x => split at h1 <;> first | exact ⟨rfl, rfl⟩ | (exfalso; simp_all; done)
  next => cases h2
theorem xbif2 {α : Type} {b : Bool} {x y : Option α} {r : α} (h : (bif b then x else y) = some r) (hy : y = none) : b = true ∧ x = some r := by
  subst hy
  exact xbif h
theorem xnar01 {x : Int32} (h : (x == 0 || x == 1) = true) : vp_nar .boolean x = x ∧ narrow .boolean (.int x) = .int x := by
  have hx : x = 0 ∨ x = 1 := by simpa using h
  rcases hx with rfl | rfl <;> exact ⟨by decide, by decide⟩
abbrev xtys (cI cZ cJ : ClassId) : List (ClassId × FieldType) := [(cI, .int), (cZ, .boolean), (cJ, .long)]
theorem xG_in {own idx k pl : Nat} (h : xtb xG own idx = some (k, pl)) : ∃ q ∈ xSt, q.2.2.2.1 = k ∧ Cond.fieldLink (xr own) idx q.1 q.2.1 q.2.2.1 ∈ xB := by
  have h1 := xtb_ok xG_ok h
  unfold xGc at h1
  obtain ⟨q, hq, h2⟩ := List.any_eq_true.mp h1
  simp only [Bool.and_eq_true] at h2
  exact ⟨q, hq, Nat.eq_of_beq_eq_true h2.1, xw_in h2.2⟩
/-- the rows that are read alone: the script (row 0), the statics -/
def xro (B : Nat) (aR : Nat → Nat) (ro : List (List Int32)) (s : State) : Prop :=
  (∀ (k : Nat) (xs : List Int32), ro[k]? = some xs → aR k < B ∧ (k = 0 → va_X (aR k) xs.length (fun j => xs.getD j 0) s s.heap) ∧ (k ≠ 0 → va_T .int (aR k) xs.length (fun j => .int (xs.getD j 0)) (fun q : Nat => B ≤ q) s s.heap)) ∧
  ∀ q ∈ xSt, va_Z q.1 q.2.1 q.2.2.1 (.ref (aR q.2.2.2.1)) (fun q : Nat => B ≤ q) s s.heap
section XS
variable {p : Program} {l : Launch} {e : Env} {R : Room} {s : State} {m : MethodId} {args : Array Value} {below : List Frame} {meth : Method} {c : Code} {H : Heap} {locs : List Loc} {cells slots : Nat} {Q : State → Prop}
variable {cc : ByteArray} {pc : Nat} {lsA : Array Slot} {B : Nat} {aR : Nat → Nat} {cI cZ cJ : ClassId} {D : va_G} {ro : List (List Int32)}
theorem xRl_get {h : xH} {r : Nat} {c0 : xE} (hR : xRl B aR cI cZ cJ D h H) (hh : h[r]? = some c0) : (xwd (xe B aR cI cZ cJ) B h)[r]? = some (B + r, xe B aR cI cZ cJ c0) := by
  rw [xwd_get, hh]
  rfl
theorem xRl_set {h : xH} {r : Nat} {c0 : xE} {x : va_E} {H1 : Heap} (hR : xRl B aR cI cZ cJ D h H) (hz : H1.size = H.size) (hx : x = xe B aR cI cZ cJ c0) (hP : va_P D vwCl ((xwd (xe B aR cI cZ cJ) B h).set r (B + r, x)) H1) : xRl B aR cI cZ cJ D (h.set r c0) H1 := by
  subst hx
  rw [xwd_set] at hP
  exact ⟨by rw [hz, hR.1, List.length_set], hP⟩
theorem xRl_app {h : xH} {c0 : xE} {x : va_E} {H1 : Heap} (hR : xRl B aR cI cZ cJ D h H) (hz : H1.size = H.size + 1) (hx : x = xe B aR cI cZ cJ c0) (hP : va_P D vwCl (xwd (xe B aR cI cZ cJ) B h ++ [(H.size, x)]) H1) : xRl B aR cI cZ cJ D (h ++ [c0]) H1 := by
  subst hx
  rw [hR.1, ← xwd_app] at hP
  exact ⟨by rw [hz, hR.1, List.length_append]; rfl, hP⟩
theorem xset_len {h : xH} {r : Nat} {c0 : xE} : (h.set r c0).length - h.length = 0 := by rw [List.length_set]; omega
theorem xset_sl {h : xH} {r : Nat} {c0 c1 : xE} (hh : h[r]? = some c1) (hl : c0.2.length = c1.2.length) : xsl (h.set r c0) - xsl h = 0 := by rw [xsl_set h r c1 c0 hh hl]; omega
theorem xvV (fs : List Value) (j : Nat) : vp_V (fs.map (xv B aR)) j = xv B aR (vp_V fs j) := by
  unfold vp_V
  rw [List.getD_eq_getElem?_getD, List.getD_eq_getElem?_getD, List.getElem?_map]
  cases fs[j]? <;> rfl
theorem xv_def (ty : FieldType) : xv B aR (defaultValue ty) = defaultValue ty := by cases ty <;> rfl
theorem xrep_i (n : Nat) : (fun j => xai ((List.replicate n (Value.int 0)).getD j .null)) = fun _ => (0 : Int32) := by
  funext j
  rw [List.getD_eq_getElem?_getD, List.getElem?_replicate]
  split <;> rfl
theorem xrep_l (n : Nat) : (fun j => xal ((List.replicate n (Value.long 0)).getD j .null)) = fun _ => (0 : Int64) := by
  funext j
  rw [List.getD_eq_getElem?_getD, List.getElem?_replicate]
  split <;> rfl
theorem xupd_i {vs : List Value} {n : Nat} (x : Int32) (hn : n < vs.length) : upd (fun j => xai (vs.getD j .null)) n x = fun j => xai ((vs.set n (.int x)).getD j .null) := by
  funext j
  simp only [upd, List.getD_eq_getElem?_getD, List.getElem?_set]
  by_cases h : j = n
  · subst h; simp [hn, xai]
  · simp [h, Ne.symm h]
theorem xupd_l {vs : List Value} {n : Nat} (x : Int64) (hn : n < vs.length) : vp_updL (fun j => xal (vs.getD j .null)) n x = fun j => xal ((vs.set n (.long x)).getD j .null) := by
  funext j
  simp only [vp_updL, List.getD_eq_getElem?_getD, List.getElem?_set]
  by_cases h : j = n
  · subst h; simp [hn, xal]
  · simp [h, Ne.symm h]
theorem xget_i {vs : List Value} {n : Nat} {x : Int32} (h : vs[n]? = some (.int x)) : xai (vs.getD n .null) = x := by rw [List.getD_eq_getElem?_getD, h]; rfl
theorem xget_l {vs : List Value} {n : Nat} {x : Int64} (h : vs[n]? = some (.long x)) : xal (vs.getD n .null) = x := by rw [List.getD_eq_getElem?_getD, h]; rfl
theorem xlen_of {α : Type} {vs : List α} {n : Nat} {x : α} (h : vs[n]? = some x) : n < vs.length := (List.getElem?_eq_some_iff.mp h).1
theorem xin_of {j : Int32} {n : Nat} (h1 : ¬ j < 0) (h2 : j.toNatClampNeg < n) : vp_in j n := by
  rintro (h | h)
  · exact h1 h
  · omega
set_option maxHeartbeats 4000000 in
set_option maxRecDepth 100000 in
theorem xho_W {own kind : Nat} {i : Instr} {st st' : List Value} {h h' : xH} (hx : p.tables.exec = Jvm.exec) (hb : c.code = cc) (hown : s.vm.findClass (xr own) = some m.cls) (hts : ∀ w ∈ xB, w.before args s = true)
    (hK : va_K D vwCl (xtys cI cZ cJ) s) (hini : kind = 2 → meth.name = "<init>") (hro : xro B aR ro s) (hsB : B ≤ s.heap.size)
    (hR : xRl B aR cI cZ cJ D h H) (hS : va_S (fun q : Nat => B ≤ q) s.heap H locs) (hd : decode cc pc = .ok (i, xil i)) (h1 : xho ro own kind i st h = some (st', h'))
    (hcells : cells + (h'.length - h.length) ≤ R.cells) (hslots : slots + (xsl h' - xsl h) ≤ R.slots)
    (k : ∀ (H' : Heap) (locs' : List Loc), xRl B aR cI cZ cJ D h' H' → va_S (fun q : Nat => B ≤ q) s.heap H' locs' → W p l e R s m args below meth c H' locs' (cells + (h'.length - h.length)) (slots + (xsl h' - xsl h)) Q (F0 m (pc + xil i) lsA (st'.map (xv B aR)))) :
    W p l e R s m args below meth c H locs cells slots Q (F0 m pc lsA (st.map (xv B aR))) := by
  have hA : ∀ q : Nat, s.heap.size ≤ q → (fun q : Nat => B ≤ q) q := fun q hq => Nat.le_trans hsB hq
  have hDw : va_D (fun q : Nat => B ≤ q) (xwd (xe B aR cI cZ cJ) B h) := xwd_D _ _ _
  have hwA := xA_ok
  simp only [Bool.and_eq_true] at hwA
  unfold xho at h1
  split at h1
  next idx r st0 =>
    split at h1
    next ci k0 pl t fs hf hh =>
      obtain ⟨ht, h1⟩ := xbif h1
      obtain ⟨v, hv, h1⟩ := xmap h1
      cases h1
      obtain rfl := Nat.eq_of_beq_eq_true ht
      obtain ⟨C, T, N, hc, hk, hC, hlink⟩ := xF_in hf
      have he := xRl_get hR hh
      rw [xe_o _ _ _ _ _ (xcl_lt hc)] at he
      have k' := k H locs hR hS
      rw [Nat.sub_self, Nat.sub_self, Nat.add_zero, Nat.add_zero] at k'
      exact va_get hx hb hts (xcl_ok hc).1 hown hK hR.2 r he hc k0 hk (hts _ hlink) (fun x hx => by rw [hC] at hx; exact hx) (by rw [List.getElem?_map, hv]; rfl) hd k'
    next => cases h1
  next idx v r st0 =>
    split at h1
    next ci k0 pl t fs hf hh =>
      obtain ⟨ht, h1⟩ := xbif h1
      simp only [Bool.and_eq_true] at ht
      split at h1
      next cs hcs =>
        split at h1
        next c0 hc0 =>
          obtain ⟨hfit, h1⟩ := xbif h1
          cases h1
          simp only [Bool.and_eq_true, Bool.or_eq_true] at hfit
          obtain rfl := Nat.eq_of_beq_eq_true ht.1
          obtain ⟨C, T, N, hc, hk, hC, hlink⟩ := xF_in hf
          obtain ⟨hin, hty, hnm, -, -, hCr, D', S', hD', hS', -, -, -, hfn⟩ := xcl_ok hc
          cases hcs.symm.trans hS'
          obtain ⟨htc, hfin⟩ := hfn k0 c0 hk hc0
          obtain ⟨hn1, hn2⟩ := xfit_ok B aR htc hfit.1
          have he := xRl_get hR hh
          rw [xe_o _ _ _ _ _ (xcl_lt hc)] at he
          refine xw_put hx hb hts hin (xty t) hty hnm hown hK hR.2 hDw hS r he hc k0 hk (hts _ hlink) (fun x hx => by rw [hC] at hx; exact hx) ?_ hn1 hn2 (by rw [List.length_map]; exact Nat.blt_eq.mp ht.2) hd (fun H1 locs1 hz hP hS1 => ?_)
          · rcases hfit.2 with hlt | ⟨hk2, ho⟩
            · left
              rw [hfin]
              have := Nat.blt_eq.mp hlt
              cases hq : Nat.ble 10 c0 with
              | false => rfl
              | true => have := Nat.ble_eq.mp hq; omega
            · right
              refine ⟨hini (Nat.eq_of_beq_eq_true hk2), ?_⟩
              rw [hC, hCr, Nat.eq_of_beq_eq_true ho]
          · have k' := k H1 locs1 (xRl_set hR hz (by rw [xe_o _ _ _ _ _ (xcl_lt hc), List.map_set]) hP) hS1
            rw [xset_len, xset_sl hh (by simp), Nat.add_zero, Nat.add_zero] at k'
            exact k'
        next => cases h1
      next => cases h1
    next => cases h1
  next j r st0 =>
    split at h1
    next t vs hh =>
      obtain ⟨ht, h1⟩ := xbif h1
      obtain rfl := Nat.eq_of_beq_eq_true ht
      split at h1
      next => cases h1
      next hj =>
        split at h1
        next x hxx =>
          cases h1
          have k' := k H locs hR hS
          rw [Nat.sub_self, Nat.sub_self, Nat.add_zero, Nat.add_zero] at k'
          refine va_iald hx hb hK hR.2 r 0 (xRl_get hR hh) rfl (xin_of hj (xlen_of hxx)) hd ?_
          rw [xget_i hxx]
          exact k'
        next => cases h1
    next => cases h1
  next j q0 st0 =>
    split at h1
    next xs hxs =>
      split at h1
      next => cases h1
      next hj =>
        obtain ⟨x, hxx, h1⟩ := xmap h1
        cases h1
        have k' := k H locs hR hS
        rw [Nat.sub_self, Nat.sub_self, Nat.add_zero, Nat.add_zero] at k'
        obtain ⟨hlt, hX, hT⟩ := hro.1 _ _ hxs
        have hgx : xs.getD j.toNatClampNeg 0 = x := by rw [List.getD_eq_getElem?_getD, hxx]; rfl
        by_cases hq0 : q0 = 0
        · refine va_sld hx hb (hX hq0) (Nat.lt_of_lt_of_le hlt hsB) (Nat.not_le.mpr hlt) hS (xin_of hj (xlen_of hxx)) hd ?_
          rw [hgx]
          exact k'
        · exact va_ti hx hb (hT hq0) hS (xin_of hj (xlen_of hxx)) (v := .int x) (by rw [hgx]) hd k'
    next => cases h1
  next j r st0 =>
    split at h1
    next t vs hh =>
      obtain ⟨ht, h1⟩ := xbif h1
      obtain rfl := Nat.eq_of_beq_eq_true ht
      split at h1
      next => cases h1
      next hj =>
        split at h1
        next x hxx =>
          cases h1
          have k' := k H locs hR hS
          rw [Nat.sub_self, Nat.sub_self, Nat.add_zero, Nat.add_zero] at k'
          refine va_zald hx hb hK hR.2 r 1 (xRl_get hR hh) rfl (xin_of hj (xlen_of hxx)) hd ?_
          rw [xget_i hxx]
          exact k'
        next => cases h1
    next => cases h1
  next j r st0 =>
    split at h1
    next t vs hh =>
      obtain ⟨ht, h1⟩ := xbif h1
      obtain rfl := Nat.eq_of_beq_eq_true ht
      split at h1
      next => cases h1
      next hj =>
        split at h1
        next x hxx =>
          cases h1
          have k' := k H locs hR hS
          rw [Nat.sub_self, Nat.sub_self, Nat.add_zero, Nat.add_zero] at k'
          refine va_lald hx hb hK hR.2 r 2 (xRl_get hR hh) rfl (xin_of hj (xlen_of hxx)) hd ?_
          rw [xget_l hxx]
          exact k'
        next => cases h1
    next => cases h1
  next x j r st0 =>
    split at h1
    next t vs hh =>
      obtain ⟨ht, h1⟩ := xbif h1
      simp only [Bool.and_eq_true] at ht
      obtain rfl := Nat.eq_of_beq_eq_true ht.1
      have hlt := Nat.blt_eq.mp ht.2
      split at h1
      next => cases h1
      next hj =>
        cases h1
        refine xw_iast hx hb hK hR.2 hDw hS r 0 (xRl_get hR hh) rfl (xin_of hj hlt) hd (fun H1 locs1 hz hP hS1 => ?_)
        have k' := k H1 locs1 (xRl_set hR hz (by rw [xe_i, xupd_i x hlt, List.length_set]) hP) hS1
        rw [xset_len, xset_sl hh (by simp), Nat.add_zero, Nat.add_zero] at k'
        exact k'
    next => cases h1
  next x j r st0 =>
    split at h1
    next t vs hh =>
      obtain ⟨ht, h1⟩ := xbif h1
      simp only [Bool.and_eq_true] at ht
      obtain rfl := Nat.eq_of_beq_eq_true ht.1.1
      have hlt := Nat.blt_eq.mp ht.1.2
      split at h1
      next => cases h1
      next hj =>
        cases h1
        refine xw_zast hx hb hK hR.2 hDw hS r 1 (xRl_get hR hh) rfl (xin_of hj hlt) (xnar01 ht.2).1 hd (fun H1 locs1 hz hP hS1 => ?_)
        have k' := k H1 locs1 (xRl_set hR hz (by rw [xe_z, xupd_i x hlt, List.length_set]) hP) hS1
        rw [xset_len, xset_sl hh (by simp), Nat.add_zero, Nat.add_zero] at k'
        exact k'
    next => cases h1
  next x j r st0 =>
    split at h1
    next t vs hh =>
      obtain ⟨ht, h1⟩ := xbif h1
      simp only [Bool.and_eq_true] at ht
      obtain rfl := Nat.eq_of_beq_eq_true ht.1
      have hlt := Nat.blt_eq.mp ht.2
      split at h1
      next => cases h1
      next hj =>
        cases h1
        refine xw_last hx hb hK hR.2 hDw hS r 2 (xRl_get hR hh) rfl (xin_of hj hlt) hd (fun H1 locs1 hz hP hS1 => ?_)
        have k' := k H1 locs1 (xRl_set hR hz (by rw [xe_l, xupd_l x hlt, List.length_set]) hP) hS1
        rw [xset_len, xset_sl hh (by simp), Nat.add_zero, Nat.add_zero] at k'
        exact k'
    next => cases h1
  next q0 st0 =>
    obtain ⟨hq0, h1⟩ := xbif h1
    obtain ⟨xs, hxs, h1⟩ := xmap h1
    cases h1
    have k' := k H locs hR hS
    rw [Nat.sub_self, Nat.sub_self, Nat.add_zero, Nat.add_zero] at k'
    obtain ⟨hlt, hX, hT⟩ := hro.1 _ _ hxs
    exact va_slen hx hb (hX (Nat.eq_of_beq_eq_true hq0)) (Nat.lt_of_lt_of_le hlt hsB) (Nat.not_le.mpr hlt) hS hd k'
  next r st0 =>
    split at h1
    next t vs hh =>
      obtain ⟨ht, h1⟩ := xbif h1
      obtain rfl := Nat.eq_of_beq_eq_true ht
      cases h1
      have k' := k H locs hR hS
      rw [Nat.sub_self, Nat.sub_self, Nat.add_zero, Nat.add_zero] at k'
      exact va_alen hx hb hK hR.2 r 0 (xRl_get hR hh) rfl (v := Int32.ofNat vs.length) rfl hd k'
    next => cases h1
  next idx st0 =>
    obtain ⟨kp, hkp, h1⟩ := xmap h1
    cases h1
    have k' := k H locs hR hS
    rw [Nat.sub_self, Nat.sub_self, Nat.add_zero, Nat.add_zero] at k'
    obtain ⟨q, hq, hk2, hlink⟩ := xG_in (k := kp.1) (pl := kp.2) hkp
    have hz := hro.2 q hq
    rw [hk2] at hz
    exact va_gets hx hb hz hS hown (hts _ hlink) (fun x hx => hx) hd k'
  next idx st0 =>
    split at h1
    next ci pl hf =>
      obtain ⟨fs, hfs, h1⟩ := xmap h1
      cases h1
      obtain ⟨C, T, N, hc, hlink⟩ := xW_in hf
      obtain ⟨hin, hty, hnm, hi1, hi2, hCr, D', S', hD', hS', hDl, -, hdf, -⟩ := xcl_ok hc
      cases hfs.symm.trans hD'
      have e1 : (h ++ [(ci, fs)]).length - h.length = 1 := by simp
      have e2 : xsl (h ++ [(ci, fs)]) - xsl h = N := by rw [xsl_app, hDl]; omega
      rw [e1] at hcells k
      rw [e2] at hslots k
      refine xw_new (fs := fs.map (xv B aR)) hx hb hts hin (xty ci) hty hown (hts _ hlink) (hts _ hi1) (hts _ hi2) hK hR.2 hS hc (fun j hj => by rw [xvV, ← hdf j hj, xv_def]) hcells hslots hd (fun H1 hz hP hS1 => ?_)
      have k' := k H1 locs (xRl_app hR hz (by rw [xe_o _ _ _ _ _ (xcl_lt hc)]) hP) hS1
      rw [hR.1]
      exact k'
    next => cases h1
  next n st0 =>
    split at h1
    next => cases h1
    next hn =>
      cases h1
      have e1 : ∀ v : Value, (h ++ [(100, List.replicate n.toNatClampNeg v)]).length - h.length = 1 := fun v => by simp
      have e2 : ∀ v : Value, xsl (h ++ [(100, List.replicate n.toNatClampNeg v)]) - xsl h = n.toNatClampNeg := fun v => by rw [xsl_app, List.length_replicate]; omega
      rw [e1] at hcells k
      rw [e2] at hslots k
      refine xw_newa (t0 := 0) (a0 := (n.toNatClampNeg, .inl fun _ => 0)) hx hb (ty := .int) rfl (fun _ h => by cases h) (hts _ (xw_in hwA.1.1.1.1)) rfl hK hR.2 hS hA (fun cA => rfl) (fun q => hn (Or.inl q)) rfl (by have : ¬ 100000 < n.toNatClampNeg := fun q => hn (Or.inr q); show _ * 4 ≤ _; omega) hcells hslots hd (fun H1 hz hP hS1 => ?_)
      have k' := k H1 locs (xRl_app hR hz (by rw [xe_i, xrep_i, List.length_replicate]) hP) hS1
      rw [hR.1]
      exact k'
  next n st0 =>
    split at h1
    next => cases h1
    next hn =>
      cases h1
      have e1 : ∀ v : Value, (h ++ [(101, List.replicate n.toNatClampNeg v)]).length - h.length = 1 := fun v => by simp
      have e2 : ∀ v : Value, xsl (h ++ [(101, List.replicate n.toNatClampNeg v)]) - xsl h = n.toNatClampNeg := fun v => by rw [xsl_app, List.length_replicate]; omega
      rw [e1] at hcells k
      rw [e2] at hslots k
      refine xw_newa (t0 := 1) (a0 := (n.toNatClampNeg, .inl fun _ => 0)) hx hb (ty := .boolean) rfl (fun _ h => by cases h) (hts _ (xw_in hwA.1.1.1.2)) rfl hK hR.2 hS hA (fun cA => rfl) (fun q => hn (Or.inl q)) rfl (by have : ¬ 100000 < n.toNatClampNeg := fun q => hn (Or.inr q); show _ * 1 ≤ _; omega) hcells hslots hd (fun H1 hz hP hS1 => ?_)
      have k' := k H1 locs (xRl_app hR hz (by rw [xe_z, xrep_i, List.length_replicate]) hP) hS1
      rw [hR.1]
      exact k'
  next n st0 =>
    split at h1
    next => cases h1
    next hn =>
      cases h1
      have e1 : ∀ v : Value, (h ++ [(102, List.replicate n.toNatClampNeg v)]).length - h.length = 1 := fun v => by simp
      have e2 : ∀ v : Value, xsl (h ++ [(102, List.replicate n.toNatClampNeg v)]) - xsl h = n.toNatClampNeg := fun v => by rw [xsl_app, List.length_replicate]; omega
      rw [e1] at hcells k
      rw [e2] at hslots k
      refine xw_newa (t0 := 2) (a0 := (n.toNatClampNeg, .inr (.inl fun _ => 0))) hx hb (ty := .long) rfl (fun _ h => by cases h) (hts _ (xw_in hwA.1.1.2)) rfl hK hR.2 hS hA (fun cA => rfl) (fun q => hn (Or.inl q)) rfl (by have : ¬ 100000 < n.toNatClampNeg := fun q => hn (Or.inr q); show _ * 8 ≤ _; omega) hcells hslots hd (fun H1 hz hP hS1 => ?_)
      have k' := k H1 locs (xRl_app hR hz (by rw [xe_l, xrep_l, List.length_replicate]) hP) hS1
      rw [hR.1]
      exact k'
  next => cases h1
end XS
end
