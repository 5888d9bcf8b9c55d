/-! runs of the pure machine: what holds at their end, if they end -/
def hKd (g : jG1) (c : xE) : Prop := c.1 = g.1 ∧ match g.2 with
  | .inl fs => c.2.length = fs.length ∧ ∀ (k : Nat) (b : Value ⊕ (Int × Int)), fs[k]? = some b → ∃ v, c.2[k]? = some v ∧ (match b with | .inl w => v = w | .inr _ => jk v = 0)
  | .inr q => c.2.length = q.1 ∧ ∀ v ∈ c.2, jk v = if g.1 = 102 then 1 else 0
/-- the cells are of their kinds -/
def hW (p : xH) : Prop := ∀ r g, jgc jGG r = some g → ∃ c, p[r]? = some c ∧ hKd g c
theorem hW_of {p : xH} (h : GH jGG p) : hW p := by
  intro r g hg
  obtain ⟨c, h1, h2, h3⟩ := h r g hg
  refine ⟨c, h1, h2, ?_⟩
  obtain ⟨t, g2⟩ := g
  cases g2 with
  | inl fs =>
    obtain ⟨h4, h5⟩ := h3
    refine ⟨h4, fun k b hb => ?_⟩
    obtain ⟨v, e1, e2⟩ := h5 k b hb
    refine ⟨v, e1, ?_⟩
    cases b with
    | inl w => exact e2
    | inr b => exact e2.1
  | inr b => exact ⟨h3.1, fun v hv => (h3.2 v hv).1⟩
def hgl (g : jG1) : Nat := match g.2 with
  | .inl fs => fs.length
  | .inr b => b.1
/-- how long a cell is -/
def hL (r : Nat) : Nat := match jgc jGG r with
  | some g => hgl g
  | none => 0
/-- what may be written at a place: its kind -/
def hT (r k : Nat) : Option Nat := match jgc jGG r with
  | some (_, .inl fs) => (match fs[k]? with | some (.inr _) => some 0 | _ => none)
  | some (t, .inr _) => some (if t = 102 then 1 else 0)
  | none => none
def rV (p : xH) (r k : Nat) : Value := match p[r]? with
  | some c => c.2.getD k .null
  | none => .null
def rI (p : xH) (r k : Nat) : Int32 := match rV p r k with
  | .int x => x
  | _ => 0
def rJ (p : xH) (r k : Nat) : Int64 := match rV p r k with
  | .long x => x
  | _ => 0
def wV (p : xH) (r k : Nat) (v : Value) : xH := match p[r]? with
  | some c => p.set r (c.1, c.2.set k v)
  | none => p
theorem hW_cell {p : xH} {r : Nat} {g : jG1} (h : hW p) (hg : jgc jGG r = some g) : ∃ vs, p[r]? = some (g.1, vs) ∧ vs.length = hgl g ∧ hKd g (g.1, vs) := by
  obtain ⟨⟨t, vs⟩, h1, h2, h3⟩ := h r g hg
  have h2 : t = g.1 := h2
  subst h2
  refine ⟨vs, h1, ?_, rfl, h3⟩
  unfold hgl
  obtain ⟨t, g2⟩ := g
  cases g2 with
  | inl fs => exact h3.1
  | inr b => exact h3.1
theorem hL_cell {p : xH} {r k : Nat} (h : hW p) (hk : k < hL r) : ∃ g vs, jgc jGG r = some g ∧ p[r]? = some (g.1, vs) ∧ k < vs.length := by
  unfold hL at hk
  cases hg : jgc jGG r with
  | none => rw [hg] at hk; exact absurd hk (Nat.not_lt_zero _)
  | some g =>
    rw [hg] at hk
    obtain ⟨vs, h1, h2, -⟩ := hW_cell h hg
    exact ⟨g, vs, rfl, h1, by rw [h2]; exact hk⟩
theorem rV_ne {p : xH} {r k r' k' : Nat} {v : Value} (h : r' = r → k' ≠ k) : rV (wV p r k v) r' k' = rV p r' k' := by
  unfold wV
  cases hc : p[r]? with
  | none => rfl
  | some c =>
    dsimp only
    unfold rV
    rw [List.getElem?_set]
    by_cases hr : r = r'
    · subst hr
      rw [if_pos rfl, if_pos (List.getElem?_eq_some_iff.mp hc).1, hc]
      dsimp only
      rw [List.getD_eq_getElem?_getD, List.getD_eq_getElem?_getD, List.getElem?_set, if_neg (fun e => h rfl e.symm)]
    · rw [if_neg hr]
theorem rV_eq {p : xH} {r k : Nat} {v : Value} (h : hW p) (hk : k < hL r) : rV (wV p r k v) r k = v := by
  obtain ⟨g, vs, hg, hc, hl⟩ := hL_cell h hk
  unfold wV
  rw [hc]
  dsimp only
  unfold rV
  rw [List.getElem?_set, if_pos rfl, if_pos (List.getElem?_eq_some_iff.mp hc).1]
  dsimp only
  rw [List.getD_eq_getElem?_getD, List.getElem?_set, if_pos rfl, if_pos hl]
  rfl
theorem rI_ne {p : xH} {r k r' k' : Nat} {v : Value} (h : r' = r → k' ≠ k) : rI (wV p r k v) r' k' = rI p r' k' := by
  unfold rI; rw [rV_ne h]
theorem rJ_ne {p : xH} {r k r' k' : Nat} {v : Value} (h : r' = r → k' ≠ k) : rJ (wV p r k v) r' k' = rJ p r' k' := by
  unfold rJ; rw [rV_ne h]
theorem rI_eq {p : xH} {r k : Nat} {x : Int32} (h : hW p) (hk : k < hL r) : rI (wV p r k (.int x)) r k = x := by
  unfold rI; rw [rV_eq h hk]
theorem rJ_eq {p : xH} {r k : Nat} {x : Int64} (h : hW p) (hk : k < hL r) : rJ (wV p r k (.long x)) r k = x := by
  unfold rJ; rw [rV_eq h hk]
theorem rI_o {p : xH} {r k r' k' : Nat} {v : Value} (h : r' ≠ r) : rI (wV p r k v) r' k' = rI p r' k' := rI_ne (fun e => absurd e h)
theorem rJ_o {p : xH} {r k r' k' : Nat} {v : Value} (h : r' ≠ r) : rJ (wV p r k v) r' k' = rJ p r' k' := rJ_ne (fun e => absurd e h)
theorem hW_wV {p : xH} {r k : Nat} {v : Value} (h : hW p) (hk : hT r k = some (jk v)) : hW (wV p r k v) := by
  intro r' g hg
  by_cases hr : r = r'
  · subst hr
    obtain ⟨vs, hc, hl, hd⟩ := hW_cell h hg
    unfold wV
    rw [hc]
    refine ⟨(g.1, vs.set k v), by rw [List.getElem?_set, if_pos rfl, if_pos (List.getElem?_eq_some_iff.mp hc).1], rfl, ?_⟩
    unfold hT at hk
    rw [hg] at hk
    obtain ⟨t, g2⟩ := g
    cases g2 with
    | inl fs =>
      obtain ⟨-, a2, a3⟩ := hd
      refine ⟨by rw [List.length_set]; exact a2, fun k' b hb => ?_⟩
      obtain ⟨u, u1, u2⟩ := a3 k' b hb
      by_cases hkk : k = k'
      · subst hkk
        dsimp only at hk
        rw [hb] at hk
        cases b with
        | inl w => cases hk
        | inr b =>
          refine ⟨v, by rw [List.getElem?_set, if_pos rfl, if_pos (List.getElem?_eq_some_iff.mp u1).1], ?_⟩
          exact (Option.some.inj hk).symm
      · exact ⟨u, by rw [List.getElem?_set, if_neg hkk]; exact u1, u2⟩
    | inr b =>
      obtain ⟨-, a2, a3⟩ := hd
      refine ⟨by rw [List.length_set]; exact a2, fun u hu => ?_⟩
      rcases List.mem_or_eq_of_mem_set hu with hu | rfl
      · exact a3 u hu
      · exact (Option.some.inj hk).symm
  · obtain ⟨c, hc, hd⟩ := h r' g hg
    refine ⟨c, ?_, hd⟩
    unfold wV
    cases hc2 : p[r]? with
    | none => exact hc
    | some c2 => dsimp only; rw [List.getElem?_set, if_neg hr]; exact hc
theorem hW_fld {p : xH} {r ci k : Nat} {fs : List (Value ⊕ (Int × Int))} {b : Int × Int} (h : hW p) (hG : jgc jGG r = some (ci, .inl fs)) (hf : fs[k]? = some (.inr b)) : ∃ vs, p[r]? = some (ci, vs) ∧ vs[k]? = some (.int (rI p r k)) := by
  obtain ⟨vs, hc, hl, -, a2, a3⟩ := hW_cell h hG
  obtain ⟨u, u1, u2⟩ := a3 k _ hf
  have u1 : vs[k]? = some u := u1
  refine ⟨vs, hc, ?_⟩
  have e : rV p r k = u := by
    unfold rV
    rw [hc]
    dsimp only
    rw [List.getD_eq_getElem?_getD, u1]
    rfl
  have u2 : jk u = 0 := u2
  unfold rI
  rw [e, u1]
  cases u <;> first | rfl | (cases u2; done)
theorem hW_ref {p : xH} {r ci k : Nat} {fs : List (Value ⊕ (Int × Int))} {w : Value} (h : hW p) (hG : jgc jGG r = some (ci, .inl fs)) (hf : fs[k]? = some (.inl w)) : ∃ vs, p[r]? = some (ci, vs) ∧ vs[k]? = some w := by
  obtain ⟨vs, hc, hl, -, a2, a3⟩ := hW_cell h hG
  obtain ⟨u, u1, u2⟩ := a3 k _ hf
  have u1 : vs[k]? = some u := u1
  have u2 : u = w := u2
  exact ⟨vs, hc, by rw [u1, u2]⟩
/-- a run from here, if it ends, ends so -/
def hP (ro : List (List Int32)) (n d : Nat) (q : xQ) (pc : Nat) (ls : xL) (st : List Value) (p : xH) (Q : Option Value → xH → Prop) : Prop := hW p → ∀ r p', ev ro n d q pc ls st p = some (r, p') → hW p' ∧ Q r p'
theorem ev_hx {ro : List (List Int32)} {n d : Nat} {q : xQ} {pc : Nat} {ls : xL} {st : List Value} {h : xH} {i : Instr} {x : Option Value × xH} (hi : xcg q.2.2.2.2 pc = some i) (h0 : xs1 q.1 q.2.1 i ls st = none) (h1 : xbr i pc st = none) (h3 : xrt q.2.2.2.1 i st = none) (h4 : xob q.1 i st = none) (h5 : xmm q.1 i st = none) (h6 : xay q.1 i st h = none) (h7 : xca q.1 i st h = none) (e : ev ro (n + 1) d q pc ls st h = some x) :
    ∃ st' h', xho ro q.1 q.2.2.1 i st h = some (st', h') ∧ ev ro n d q (pc + xil i) ls st' h' = some x := by
  rw [ev, hi] at e
  dsimp only at e
  rw [h0] at e
  dsimp only at e
  rw [h1] at e
  dsimp only at e
  split at e
  next st' h' h2 => exact ⟨st', h', h2, e⟩
  next h2 =>
    rw [h3] at e
    dsimp only at e
    cases d with
    | zero => cases e
    | succ d =>
      dsimp only at e
      rw [h4] at e
      dsimp only at e
      rw [h5] at e
      dsimp only at e
      rw [h6] at e
      dsimp only at e
      rw [h7] at e
      cases e
section HP
variable {ro : List (List Int32)} {n d : Nat} {q : xQ} {pc pc' : Nat} {ls ls' : xL} {st st' : List Value} {p : xH} {Q : Option Value → xH → Prop} {i : Instr}
theorem hp_0 : hP ro 0 d q pc ls st p Q := by
  intro hw r p' e
  simp [ev] at e
theorem hp_more (h : hP ro (n + 1) d q pc ls st p Q) : hP ro n d q pc ls st p Q := fun hw r p' e => h hw r p' (ev_more _ e)
theorem hp_imp {Q' : Option Value → xH → Prop} (h : hP ro n d q pc ls st p Q') (k : ∀ r p', hW p' → Q' r p' → Q r p') : hP ro n d q pc ls st p Q := fun hw r p' e => by
  obtain ⟨h1, h2⟩ := h hw r p' e
  exact ⟨h1, k r p' h1 h2⟩
theorem hp_w {p' : xH} (hs : ∀ n, ev ro (n + 1) d q pc ls st p = ev ro n d q pc' ls' st' p') (hw : hW p → hW p') (K : hP ro n d q pc' ls' st' p' Q) : hP ro n d q pc ls st p Q := by
  intro h r p2 e
  cases n with
  | zero => simp [ev] at e
  | succ n => rw [hs] at e; exact K (hw h) r p2 (ev_more _ e)
theorem hp_w1 {p' : xH} (hs : ev ro (n + 1) d q pc ls st p = ev ro n d q pc' ls' st' p') (hw : hW p → hW p') (K : hP ro n d q pc' ls' st' p' Q) : hP ro (n + 1) d q pc ls st p Q := by
  intro h r p2 e
  rw [hs] at e
  exact K (hw h) r p2 e
/-- locals and stack alone -/
theorem hp_s (hi : xcg q.2.2.2.2 pc = some i) (h1 : xs1 q.1 q.2.1 i ls st = some (ls', st')) (hp : pc + xil i = pc') (K : hP ro n d q pc' ls' st' p Q) : hP ro n d q pc ls st p Q := by
  subst hp
  exact hp_w (fun n => ev_s hi h1) id K
theorem hp_s1 (hi : xcg q.2.2.2.2 pc = some i) (h1 : xs1 q.1 q.2.1 i ls st = some (ls', st')) (hp : pc + xil i = pc') (K : hP ro n d q pc' ls' st' p Q) : hP ro (n + 1) d q pc ls st p Q := by
  subst hp
  exact hp_w1 (ev_s hi h1) id K
/-- what is worked out gets a name -/
theorem hp_z {e : Int32} (hi : xcg q.2.2.2.2 pc = some i) (h1 : xs1 q.1 q.2.1 i ls st = some (ls, .int e :: st')) (hp : pc + xil i = pc') (K : ∀ z, z = e → hP ro n d q pc' ls (.int z :: st') p Q) : hP ro n d q pc ls st p Q :=
  hp_s hi h1 hp (K e rfl)
theorem hp_zl {e : Int64} (hi : xcg q.2.2.2.2 pc = some i) (h1 : xs1 q.1 q.2.1 i ls st = some (ls, .long e :: st')) (hp : pc + xil i = pc') (K : ∀ z, z = e → hP ro n d q pc' ls (.long z :: st') p Q) : hP ro n d q pc ls st p Q :=
  hp_s hi h1 hp (K e rfl)
/-- division, rest: by no 0 -/
theorem hp_div {x y : Int32} (hi : xcg q.2.2.2.2 pc = some .idiv) (hp : pc + 1 = pc') (K : y ≠ 0 → ∀ z, z = x / y → hP ro n d q pc' ls (.int z :: st) p Q) : hP ro n d q pc ls (.int y :: .int x :: st) p Q := by
  subst hp
  by_cases hy : y = 0
  · intro hw r p' e
    subst hy
    cases n with
    | zero => simp [ev] at e
    | succ n =>
      obtain ⟨st', h', e1, -⟩ := ev_hx (i := .idiv) hi (by simp only [xs1]; rfl) rfl rfl rfl rfl rfl rfl e
      cases e1
  · exact hp_s (i := .idiv) hi (by simp only [xs1]; rw [if_neg hy]) rfl (K hy _ rfl)
theorem hp_rem {x y : Int32} (hi : xcg q.2.2.2.2 pc = some .irem) (hp : pc + 1 = pc') (K : y ≠ 0 → ∀ z, z = x - x / y * y → hP ro n d q pc' ls (.int z :: st) p Q) : hP ro n d q pc ls (.int y :: .int x :: st) p Q := by
  subst hp
  by_cases hy : y = 0
  · intro hw r p' e
    subst hy
    cases n with
    | zero => simp [ev] at e
    | succ n =>
      obtain ⟨st', h', e1, -⟩ := ev_hx (i := .irem) hi (by simp only [xs1]; rfl) rfl rfl rfl rfl rfl rfl e
      cases e1
  · exact hp_s (i := .irem) hi (by simp only [xs1]; rw [if_neg hy]) rfl (K hy _ rfl)
/-- a jump that is decided -/
theorem hp_go (hi : xcg q.2.2.2.2 pc = some i) (h0 : xs1 q.1 q.2.1 i ls st = none) (h1 : xbr i pc st = some (pc', st')) (K : hP ro n d q pc' ls st' p Q) : hP ro n d q pc ls st p Q :=
  hp_w (fun n => ev_b hi h0 h1) id K
theorem hp_ic {c : ClassFile.Cond} {o : Int} {t : Nat} {x y : Int32} {a b : Int} (hi : xcg q.2.2.2.2 pc = some (.if_icmp c o)) (ht : xtg pc o = some t) (hp : pc + 3 = pc') (hx : x.toInt = a) (hy : y.toInt = b) (k1 : jcd c a b → hP ro n d q t ls st p Q) (k2 : ¬ jcd c a b → hP ro n d q pc' ls st p Q) : hP ro n d q pc ls (.int y :: .int x :: st) p Q := by
  subst hp hx hy
  cases hc : xcmp c x y with
  | true => exact hp_go hi rfl (by simp only [xbr, ht, Option.map_some, hc, cond_true]) (k1 (xcmp_j.mp hc))
  | false => exact hp_go hi rfl (by simp only [xbr, ht, Option.map_some, hc, cond_false]) (k2 (fun h => by rw [xcmp_j.mpr h] at hc; cases hc))
theorem hp_if {c : ClassFile.Cond} {o : Int} {t : Nat} {x : Int32} {a : Int} (hi : xcg q.2.2.2.2 pc = some (.ifCond c o)) (ht : xtg pc o = some t) (hp : pc + 3 = pc') (hx : x.toInt = a) (k1 : jcd c a 0 → hP ro n d q t ls st p Q) (k2 : ¬ jcd c a 0 → hP ro n d q pc' ls st p Q) : hP ro n d q pc ls (.int x :: st) p Q := by
  subst hp hx
  cases hc : xcmp c x 0 with
  | true => exact hp_go hi rfl (by simp only [xbr, ht, Option.map_some, hc, cond_true]) (k1 (xcmp_j.mp hc))
  | false => exact hp_go hi rfl (by simp only [xbr, ht, Option.map_some, hc, cond_false]) (k2 (fun h => by rw [xcmp_j.mpr h] at hc; cases hc))
theorem lg_cd (c : ClassFile.Cond) (x y : Int64) : jcd c (lg_cmp x y).toInt 0 ↔ jcd c x.toInt y.toInt := by
  have h1 : x > y ↔ y.toInt < x.toInt := Int64.lt_iff_toInt_lt
  have h2 : x = y ↔ x.toInt = y.toInt := Int64.toInt_inj.symm
  unfold lg_cmp
  by_cases a1 : x > y
  · rw [if_pos a1]
    have a2 : y.toInt < x.toInt := h1.mp a1
    have e : (1 : Int32).toInt = 1 := by decide
    rw [e]
    cases c with
    | eq => exact (show (1 : Int) = 0 ↔ x.toInt = y.toInt from by omega)
    | ne => exact (show (1 : Int) ≠ 0 ↔ x.toInt ≠ y.toInt from by omega)
    | lt => exact (show (1 : Int) < 0 ↔ x.toInt < y.toInt from by omega)
    | ge => exact (show (0 : Int) ≤ 1 ↔ y.toInt ≤ x.toInt from by omega)
    | gt => exact (show (0 : Int) < 1 ↔ y.toInt < x.toInt from by omega)
    | le => exact (show (1 : Int) ≤ 0 ↔ x.toInt ≤ y.toInt from by omega)
  · rw [if_neg a1]
    have a3 : ¬ y.toInt < x.toInt := fun z => a1 (h1.mpr z)
    by_cases a2 : x = y
    · rw [if_pos a2]
      have a4 : x.toInt = y.toInt := h2.mp a2
      have e : (0 : Int32).toInt = 0 := by decide
      rw [e]
      cases c with
      | eq => exact (show (0 : Int) = 0 ↔ x.toInt = y.toInt from by omega)
      | ne => exact (show (0 : Int) ≠ 0 ↔ x.toInt ≠ y.toInt from by omega)
      | lt => exact (show (0 : Int) < 0 ↔ x.toInt < y.toInt from by omega)
      | ge => exact (show (0 : Int) ≤ 0 ↔ y.toInt ≤ x.toInt from by omega)
      | gt => exact (show (0 : Int) < 0 ↔ y.toInt < x.toInt from by omega)
      | le => exact (show (0 : Int) ≤ 0 ↔ x.toInt ≤ y.toInt from by omega)
    · rw [if_neg a2]
      have a4 : ¬ x.toInt = y.toInt := fun z => a2 (h2.mpr z)
      have e : (-1 : Int32).toInt = -1 := by decide
      rw [e]
      cases c with
      | eq => exact (show ((-1) : Int) = 0 ↔ x.toInt = y.toInt from by omega)
      | ne => exact (show ((-1) : Int) ≠ 0 ↔ x.toInt ≠ y.toInt from by omega)
      | lt => exact (show ((-1) : Int) < 0 ↔ x.toInt < y.toInt from by omega)
      | ge => exact (show (0 : Int) ≤ (-1) ↔ y.toInt ≤ x.toInt from by omega)
      | gt => exact (show (0 : Int) < (-1) ↔ y.toInt < x.toInt from by omega)
      | le => exact (show ((-1) : Int) ≤ 0 ↔ x.toInt ≤ y.toInt from by omega)
/-- longs compared -/
theorem hp_lc {c : ClassFile.Cond} {o : Int} {t : Nat} {x y : Int64} {a b : Int} (hi : xcg q.2.2.2.2 pc = some .lcmp) (hi2 : xcg q.2.2.2.2 (pc + 1) = some (.ifCond c o)) (ht : xtg (pc + 1) o = some t) (hp : pc + 4 = pc') (hx : x.toInt = a) (hy : y.toInt = b) (k1 : jcd c a b → hP ro n d q t ls st p Q) (k2 : ¬ jcd c a b → hP ro n d q pc' ls st p Q) : hP ro n d q pc ls (.long y :: .long x :: st) p Q := by
  subst hx hy
  refine hp_s (i := .lcmp) (ls' := ls) (st' := .int (lg_cmp x y) :: st) (pc' := pc + 1) hi rfl rfl ?_
  exact hp_if hi2 ht hp rfl (fun h => k1 ((lg_cd c x y).mp h)) (fun h => k2 (fun z => h ((lg_cd c x y).mpr z)))
/-- a switch, at a number -/
theorem hp_sw {x : Int32} {v : Int} {t : Nat} (hi : xcg q.2.2.2.2 pc = some i) (h0 : xs1 q.1 q.2.1 i ls (.int x :: st) = none) (hx : x.toInt = v) (hb : xbr i pc (.int (Int32.ofInt v) :: st) = some (t, st)) (K : hP ro n d q t ls st p Q) : hP ro n d q pc ls (.int x :: st) p Q := by
  refine hp_go hi h0 ?_ K
  rw [← hx, Int32.ofInt_toInt] at hb
  exact hb
theorem hp_td {x : Int32} {dd lo hi0 : Int} {offs : Array Int} {t : Nat} (hi : xcg q.2.2.2.2 pc = some (.tableswitch dd lo hi0 offs)) (ht : xtg pc dd = some t) (hx : x.toInt < lo ∨ hi0 < x.toInt) (K : hP ro n d q t ls st p Q) : hP ro n d q pc ls (.int x :: st) p Q := by
  refine hp_go hi rfl ?_ K
  simp only [xbr]
  rw [if_pos hx, ht]
  rfl
/-- fields -/
theorem hp_get {idx ci k z r : Nat} {fs : List (Value ⊕ (Int × Int))} {b : Int × Int} (hi : xcg q.2.2.2.2 pc = some (.getfield idx)) (hF : xtb xF q.1 idx = some (ci, k, z)) (hG : jgc jGG r = some (ci, .inl fs)) (hf : fs[k]? = some (.inr b)) {v : Int32} (hp : pc + 3 = pc') (hv : rI p r k = v) (K : hP ro n d q pc' ls (.int v :: st) p Q) : hP ro n d q pc ls (.ref r :: st) p Q := by
  subst hp hv
  intro hw
  obtain ⟨vs, hc, hk⟩ := hW_fld hw hG hf
  exact hp_w (p' := p) (fun n => ev_h hi rfl rfl (by simp only [xho, hF, hc, Nat.beq_refl, cond_true, hk]; rfl)) id K hw
theorem hp_getr {idx ci k z r : Nat} {fs : List (Value ⊕ (Int × Int))} {w : Value} (hi : xcg q.2.2.2.2 pc = some (.getfield idx)) (hF : xtb xF q.1 idx = some (ci, k, z)) (hG : jgc jGG r = some (ci, .inl fs)) (hf : fs[k]? = some (.inl w)) (hp : pc + 3 = pc') (K : hP ro n d q pc' ls (w :: st) p Q) : hP ro n d q pc ls (.ref r :: st) p Q := by
  subst hp
  intro hw
  obtain ⟨vs, hc, hk⟩ := hW_ref hw hG hf
  exact hp_w (p' := p) (fun n => ev_h hi rfl rfl (by simp only [xho, hF, hc, Nat.beq_refl, cond_true, hk]; rfl)) id K hw
theorem hp_put {idx ci k z r : Nat} {fs : List (Value ⊕ (Int × Int))} {b : Int × Int} {x : Int32} (hi : xcg q.2.2.2.2 pc = some (.putfield idx)) (hF : xtb xF q.1 idx = some (ci, k, z)) (hG : jgc jGG r = some (ci, .inl fs)) (hf : fs[k]? = some (.inr b)) (hp : pc + 3 = pc') (K : ∀ p', hW p → p' = wV p r k (.int x) → hP ro n d q pc' ls st p' Q) : hP ro n d q pc ls (.int x :: .ref r :: st) p Q := by
  subst hp
  intro hw r2 p2 e
  cases n with
  | zero => simp [ev] at e
  | succ n =>
    obtain ⟨st', h', e1, e2⟩ := ev_hx hi rfl rfl rfl rfl rfl rfl rfl e
    obtain ⟨vs, hc, -⟩ := hW_cell hw hG
    simp only [xho, hF, hc] at e1
    cases hB : (Nat.beq ci ci && Nat.blt k vs.length) with
    | false => rw [hB] at e1; cases e1
    | true =>
      rw [hB, cond_true] at e1
      split at e1
      next cs h2 =>
        split at e1
        next c h3 =>
          cases hC : (xfit c (.int x) && (Nat.blt c 10 || Nat.beq q.2.2.1 2 && Nat.beq ci q.1)) with
          | false => rw [hC] at e1; cases e1
          | true =>
            rw [hC, cond_true] at e1
            cases e1
            have e3 : p.set r (ci, vs.set k (.int x)) = wV p r k (.int x) := by unfold wV; rw [hc]
            rw [e3] at e2
            exact K _ hw rfl (hW_wV hw (by unfold hT; rw [hG]; dsimp only; rw [hf]; rfl)) r2 p2 (ev_more _ e2)
        next => cases e1
      next => cases e1
end HP
