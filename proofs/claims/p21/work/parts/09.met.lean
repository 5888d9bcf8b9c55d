noncomputable section
/-! contracts out of runs of the pure machine -/
abbrev xIn (B : Nat) : Nat → Prop := fun q => B ≤ q
/-- what a frame of method q knows -/
def xFx (B : Nat) (aR : Nat → Nat) (cI cZ cJ : ClassId) (D : va_G) (ro : List (List Int32)) (q : xQ) (y : xNt) (p : Program) (s : State) (m : MethodId) (args : Array Value) (meth : Method) (c : Code) : Prop :=
  p.tables.exec = Jvm.exec ∧ c.code = y.2.1 ∧ c.maxLocals = q.2.1 ∧ s.vm.findClass (xr q.1) = some m.cls ∧ (∀ w ∈ xB, w.before args s = true) ∧ va_K D vwCl (xtys cI cZ cJ) s ∧ (q.2.2.1 = 2 → meth.name = "<init>") ∧
  xro B aR ro s ∧ B ≤ s.heap.size ∧ (∀ w ∈ xNw, va_Nw w s) ∧ xdc y.2.1 q.2.2.2.2 = true
def xPc (B : Nat) (aR : Nat → Nat) (cI cZ cJ : ClassId) (D : va_G) (ro : List (List Int32)) (as : List Value) (h : xH) : Array Value → State → Prop := fun a U =>
  a = (as.map (xv B aR)).toArray ∧ xRl B aR cI cZ cJ D h U.heap ∧ va_K D vwCl (xtys cI cZ cJ) U ∧ xro B aR ro U ∧ ∀ w ∈ xNw, va_Nw w U
def xQc (B : Nat) (aR : Nat → Nat) (cI cZ cJ : ClassId) (D : va_G) (r : Option Value) (h : xH) : Array Value → State → Outcome → State → Prop := fun _ st o t =>
  o = .returned (r.map (xv B aR)) ∧ xRl B aR cI cZ cJ D h t.heap ∧ va_F (xIn B) st t
/-- a run with fuel n is a walk -/
def xSnd (ro : List (List Int32)) (n : Nat) : Prop :=
  ∀ (d : Nat) (q : xQ) (pc : Nat) (ls : xL) (st : List Value) (h : xH) (r : Option Value) (h2 : xH), ev ro n d q pc ls st h = some (r, h2) →
  ∀ (B : Nat) (aR : Nat → Nat) (cI cZ cJ : ClassId) (D : va_G) (y : xNt) (p : Program) (l : Launch) (e : Env) (R : Room) (s : State) (m : MethodId) (args : Array Value) (below : List Frame) (meth : Method) (c : Code) (H : Heap) (locs : List Loc) (cells slots : Nat) (Q : State → Prop) (lsA : Array Slot),
  xFx B aR cI cZ cJ D ro q y p s m args meth c → lv_has lsA q.2.1 (xvl B aR ls) → xRl B aR cI cZ cJ D h H → va_S (xIn B) s.heap H locs → d ≤ R.frames → 100 * d ≤ R.locals →
  cells + (h2.length - h.length) ≤ R.cells → slots + (xsl h2 - xsl h) ≤ R.slots →
  (∀ (pc' : Nat) (lsB : Array Slot) (H' : Heap) (locs' : List Loc) (st' : List Value) (i : Instr), decode y.2.1 pc' = .ok (i, 1) → xrt q.2.2.2.1 i st' = some r → xRl B aR cI cZ cJ D h2 H' → va_S (xIn B) s.heap H' locs' →
    W p l e R s m args below meth c H' locs' (cells + (h2.length - h.length)) (slots + (xsl h2 - xsl h)) Q (F0 m pc' lsB (st'.map (xv B aR)))) →
  W p l e R s m args below meth c H locs cells slots Q (F0 m pc lsA (st.map (xv B aR)))
theorem xro_moved {B : Nat} {aR : Nat → Nat} {ro : List (List Int32)} {u U : State} (hvm : u.vm.Alike U.vm) (hsz : B ≤ u.heap.size) (hk : ∀ q : Nat, q < u.heap.size → q < B → U.heap[q]? = u.heap[q]?) (h : xro B aR ro u) : xro B aR ro U := by
  refine ⟨fun k xs hx => ?_, fun q hq => ?_⟩
  · obtain ⟨h1, h2, h3⟩ := h.1 k xs hx
    exact ⟨h1, fun z => ((h2 z).kept (hk _ (Nat.lt_of_lt_of_le h1 hsz) h1)).moved hvm, fun z => va_T.moved hvm (va_T.kept (h3 z) (fun a ha hn => hk a ha (Nat.not_le.mp hn)))⟩
  · exact va_Z.moved hvm (va_Z.kept (h.2 q hq) (fun a ha hn => hk a ha (Nat.not_le.mp hn)))
theorem xPc_blind {B : Nat} {aR : Nat → Nat} {cI cZ cJ : ClassId} {D : va_G} {ro : List (List Int32)} {as : List Value} {h : xH} : FrameBlind (xPc B aR cI cZ cJ D ro as h) := by
  intro a U g mk ⟨h1, h2, h3, h4, h5⟩
  refine ⟨h1, h2, va_K.moved (u := U) (U := U.calling g mk a) (Vm.Alike.refl U.vm) h3, xro_moved (u := U) (U := U.calling g mk a) (Vm.Alike.refl U.vm) (by rw [h2.1]; exact Nat.le_add_right _ _) (fun _ _ _ => rfl) h4, fun w hw => ?_⟩
  have hw2 := (List.mem_filter.mp hw).2
  have hon : w.onTables = true := by
    unfold xNst at hw2
    split at hw2
    · rfl
    · cases hw2
  exact va_Nw.same hon (u := U) (U := U.calling g mk a) rfl (h5 w hw)
theorem xNw_warm {s U : State} (hW : s.WarmedH U.vm) (h : ∀ w ∈ xNw, va_Nw w s) : ∀ w ∈ xNw, va_Nw w U := by
  intro w hw
  have hw2 := (List.mem_filter.mp hw).2
  unfold xNst at hw2
  split at hw2
  · exact va_Nw.warmM hW (h _ hw)
  · cases hw2
theorem xgood_in {q : xQ} {y : xNt} (F : xMf q y) : GoodIn xB (Cond.code y.1 y.2.1 q.2.1 y.2.2.1 :: xB) := by
  intro w hw
  rcases List.mem_cons.mp hw with rfl | hw
  · exact ⟨F.2.2.1, good_of_word (xB_good F.2.2.1)⟩
  · exact ⟨hw, good_of_word (xB_good hw)⟩
set_option maxHeartbeats 4000000 in
/-- a method's contract out of its run -/
theorem xmet {ro : List (List Int32)} {n d : Nat} (ih : xSnd ro n) {q : xQ} {y : xNt} {as : List Value} {h : xH} {r : Option Value} {h2 : xH} (F : xMf q y) (hev : ev ro n d q 0 (lv_args 0 as) [] h = some (r, h2)) (has : xcs as ≤ q.2.1)
    (l : Launch) (B : Nat) (aR : Nat → Nat) (cI cZ cJ : ClassId) (D : va_G) :
    Met l y.1 (Cond.code y.1 y.2.1 q.2.1 y.2.2.1 :: xB) ({ frames := d, cells := h2.length - h.length, slots := xsl h2 - xsl h, locals := 100 * d }) (xPc B aR cI cZ cJ D ro as h) (xQc B aR cI cZ cJ D r h2) (h2.length - h.length) (xsl h2 - xsl h) (xIn B) := by
  obtain ⟨g1, g2, g3, g4, g5, g6, g7, g8, g9, g10, g11⟩ := F
  refine Met.ofW (cc := y.2.1) (maxL := q.2.1) (ret := y.2.2.1) g6 rfl ?_
  intro p e s m args below meth c s₁ Bd hml hv
  obtain ⟨rfl, hRl, hK, hro, hNw⟩ := hv
  have hts := atoms_spec (ws := Cond.code y.1 y.2.1 q.2.1 y.2.2.1 :: xB) Bd.pre
  have hown : s.vm.findClass (xr q.1) = some m.cls := g1 ▸ findClass_of_methodNamed Bd.named
  have hlocks := Bd.notSynchronized
  have hsB : B ≤ s.heap.size := by rw [hRl.1]; exact Nat.le_add_right _ _
  have hl := lv_entry (as.map (xv B aR)) (n := q.2.1) (by rw [xlg_len]; exact has)
  rw [xlv_args] at hl
  rw [lg_entry_eq]
  refine ih d q 0 (lv_args 0 as) [] h r h2 hev B aR cI cZ cJ D y p l e _ s m _ below meth c s.heap [] 0 0 _ _ ⟨Bd.exec, Bd.bytes, hml, hown, fun w hw => hts w (List.mem_cons_of_mem _ hw), hK, fun hk => ?_, hro, hsB, hNw, g11⟩ hl hRl va_S.rf (Nat.le_refl _) (Nat.le_refl _) (by rw [Nat.zero_add]; exact Nat.le_refl _) (by rw [Nat.zero_add]; exact Nat.le_refl _) ?_
  · exact (name_of_methodNamed Bd.named Bd.method).1.trans (g10 hk).2.1
  · intro pc' lsB H' locs' st' i hdec hrt hRl' hS'
    have hr := Bd.returns
    rw [g2] at hr
    rw [Nat.zero_add, Nat.zero_add]
    unfold xrt at hrt
    split at hrt
    next =>
      obtain ⟨h0, hh⟩ := xbif hrt
      cases hh
      rw [Nat.eq_of_beq_eq_true h0] at hr
      exact W.vret Bd.exec Bd.bytes hr (fun t ht hW => ⟨rfl, by rw [ht]; exact hRl', hS'.F ht⟩) hS'.2.2 hdec
    next x =>
      cases h0 : Nat.beq q.2.2.2.1 1 with
      | true =>
        rw [h0] at hrt
        cases hrt
        rw [Nat.eq_of_beq_eq_true h0] at hr
        exact W.iret (v := x) Bd.exec Bd.bytes hr (fun t ht hW => ⟨rfl, by rw [ht]; exact hRl', hS'.F ht⟩) hS'.2.2 hdec
      | false =>
        rw [h0] at hrt
        obtain ⟨h3, hh⟩ := xbif hrt
        cases hh
        simp only [Bool.and_eq_true] at h3
        rw [Nat.eq_of_beq_eq_true h3.1] at hr
        exact W.zret (v := x) Bd.exec Bd.bytes hr (xnar01 h3.2).2 (fun t ht hW => ⟨rfl, by rw [ht]; exact hRl', hS'.F ht⟩) hS'.2.2 hdec
    next x =>
      obtain ⟨h0, hh⟩ := xbif hrt
      cases hh
      rw [Nat.eq_of_beq_eq_true h0] at hr
      exact W.lret (v := x) Bd.exec Bd.bytes hr (fun t ht hW => ⟨rfl, by rw [ht]; exact hRl', hS'.F ht⟩) hS'.2.2 hdec
    next => cases hrt
section XC
variable {p : Program} {l : Launch} {e : Env} {R : Room} {s : State} {m : MethodId} {args : Array Value} {below : List Frame} {meth : Method} {c : Code} {H : Heap} {locs : List Loc} {cells slots : Nat} {Q : State → Prop}
variable {cc : ByteArray} {pc : Nat} {lsA : Array Slot} {B : Nat} {aR : Nat → Nat} {cI cZ cJ : ClassId} {D : va_G} {ro : List (List Int32)}
/-- behind a call -/
theorem xcall_W {mc ms : Nat} {st0 rest : List Value} {a : Array Value} {r : Option Value} {h' : xH} {free : Addr → Prop} (hr : va_Run p l e R s m args below meth c H locs cells slots mc ms (F0 m pc lsA st0) rest (xQc B aR cI cZ cJ D r h' a) free) (hf : ∀ q, free q → B ≤ q) (hS : va_S (xIn B) s.heap H locs)
    (kk : ∀ (H1 : Heap) (locs1 : List Loc), xRl B aR cI cZ cJ D h' H1 → va_S (xIn B) s.heap H1 locs1 → W p l e R s m args below meth c H1 locs1 (cells + mc) (slots + ms) Q (F0 m (pc + 3) lsA ((r.map (xv B aR)).toList ++ rest))) : W p l e R s m args below meth c H locs cells slots Q (F0 m pc lsA st0) := by
  intro T hT X
  obtain ⟨v, st₀, t, T', L, h0, X', hL, e1, e2, ⟨hv, hRl, hz, hk⟩, st⟩ := hr T hT X
  cases hv
  rw [h0] at hz hk
  rw [← e1] at hRl hz hk
  obtain ⟨t2, a1, b1⟩ := kk T'.heap (locs ++ L) hRl ⟨Nat.le_trans hS.1 hz, fun q h1 h2 => by rw [hk q (Nat.lt_of_lt_of_le h1 hS.1) h2]; exact hS.2.1 q h1 h2, fun q hq => by
      rcases List.mem_append.mp hq with h | h
      · exact hS.2.2 q h
      · exact hf _ (hL q h)⟩ T' rfl X'
  exact ⟨t2, st t2 a1, b1⟩
/-- a callee's start -/
theorem xpre {as : List Value} {h : xH} (hK : va_K D vwCl (xtys cI cZ cJ) s) (hro : xro B aR ro s) (hsB : B ≤ s.heap.size) (hNw : ∀ w ∈ xNw, va_Nw w s) (hR : xRl B aR cI cZ cJ D h H) (hS : va_S (xIn B) s.heap H locs) : ∀ U : State, U.heap = H → s.WarmedH U.vm → xPc B aR cI cZ cJ D ro as h ((as.map (xv B aR)).toArray) U := by
  intro U hU hW
  refine ⟨rfl, by rw [hU]; exact hR, va_K.moved hW.alike hK, xro_moved hW.alike hsB (fun q hz hq => ?_) hro, xNw_warm hW hNw⟩
  rw [hU]
  exact hS.2.1 q hz (Nat.not_le.mpr hq)
end XC
end
