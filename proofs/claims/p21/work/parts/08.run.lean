noncomputable section
/-! a whole run of the pure machine is a run of the machine -/
def xNst (w : Cond) : Bool := match w with
  | .methodLinkNest _ _ _ _ => true
  | _ => false
/-- the links between nest mates -/
def xNw : List Cond := lw_tbl.filter xNst
theorem xml_get : ∀ (a : List xQ) (b : List xNt), xml a b → ∀ (k : Nat) (q : xQ) (y : xNt), a[k]? = some q → b[k]? = some y → k + 1 < a.length → xgt y.2.2.2.1 = some (.code y.1 y.2.1 q.2.1 y.2.2.1)
  | [], _, _, k, q, y, h, _, _ => by simp at h
  | [q0], _, _, k, q, y, h, _, hl => by simp at hl
  | q0 :: q1 :: a, [], _, k, q, y, _, h, _ => by simp at h
  | q0 :: q1 :: a, y0 :: b, hx, k, q, y, ha, hb, hl => by
    have hx : xgt y0.2.2.2.1 = some (.code y0.1 y0.2.1 q0.2.1 y0.2.2.1) ∧ xml (q1 :: a) b := hx
    cases k with
    | zero =>
      simp only [List.getElem?_cons_zero, Option.some.injEq] at ha hb
      subst ha; subst hb
      exact hx.1
    | succ k =>
      simp only [List.getElem?_cons_succ] at ha hb
      exact xml_get (q1 :: a) b hx.2 k q y ha hb (by simp only [List.length_cons] at hl ⊢; omega)
theorem xdl_get : ∀ (a : List xQ) (b : List xNt), xdl a b → ∀ (k : Nat) (q : xQ) (y : xNt), a[k]? = some q → b[k]? = some y → xdc y.2.1 q.2.2.2.2 = true
  | [], _, _, k, q, y, h, _ => by simp at h
  | q0 :: a, [], _, k, q, y, _, h => by simp at h
  | q0 :: a, y0 :: b, hx, k, q, y, ha, hb => by
    have hx : xdc y0.2.1 q0.2.2.2.2 = true ∧ xdl a b := hx
    cases k with
    | zero =>
      simp only [List.getElem?_cons_zero, Option.some.injEq] at ha hb
      subst ha; subst hb
      exact hx.1
    | succ k =>
      simp only [List.getElem?_cons_succ] at ha hb
      exact xdl_get a b hx.2 k q y ha hb
theorem xlen_eq : xN.length = xM.length ∧ xOw < xM.length := by decide +kernel
/-- what is known of a walked method -/
def xMf (q : xQ) (y : xNt) : Prop := y.1.cls = xr q.1 ∧ y.2.2.1 = xrc q.2.2.2.1 ∧ Cond.code y.1 y.2.1 q.2.1 y.2.2.1 ∈ xB ∧ Cond.initialized y.1.cls ∈ xB ∧ q.2.1 ≤ 60 ∧ plainName y.1.cls = true ∧
  (y.1.cls ≠ "java/lang/invoke/MethodHandle" ∧ y.1.cls ≠ "java/lang/invoke/VarHandle") ∧ (q.2.2.1 = 0 → Cond.static y.1 ∈ xB) ∧ (q.2.2.1 = 1 → Cond.instanceMethod y.1 ∈ xB ∧ Cond.selects y.1.cls y.1 y.1 ∈ xB) ∧
  (q.2.2.1 = 2 → Cond.instanceMethod y.1 ∈ xB ∧ y.1.name = "<init>" ∧ q.2.2.2.1 = 0) ∧ xdc y.2.1 q.2.2.2.2 = true
theorem xM_facts {k : Nat} {q : xQ} (h : xM[k]? = some q) (hk : k < xOw) : ∃ y, xN[k]? = some y ∧ xMf q y := by
  have hkl : k < xN.length := by rw [xlen_eq.1]; exact (List.getElem?_eq_some_iff.mp h).1
  obtain ⟨y, hy⟩ : ∃ y, xN[k]? = some y := ⟨xN[k], List.getElem?_eq_getElem hkl⟩
  have hm : (q, y) ∈ (xM.zip xN).take xOw := by
    refine List.mem_of_getElem? (i := k) ?_
    rw [List.getElem?_take_of_lt hk]
    exact List.getElem?_zip_eq_some.mpr ⟨h, hy⟩
  have h1 := List.all_eq_true.mp xM_ok _ hm
  unfold xMc at h1
  simp only [Bool.and_eq_true, decide_eq_true_eq] at h1
  obtain ⟨⟨⟨⟨⟨⟨⟨g1, g2⟩, g3⟩, g4⟩, g5⟩, g6⟩, g7⟩, g8⟩ := h1
  have hcode : Cond.code y.1 y.2.1 q.2.1 y.2.2.1 ∈ xB := List.mem_filter.mpr ⟨xgt_in (xml_get xM xN xm_all k q y h hy (by have := xlen_eq.2; omega)), rfl⟩
  refine ⟨y, hy, g1, g2, hcode, xw_in g3, Nat.ble_eq.mp g4, g5, ⟨g6, g7⟩, fun z => ?_, fun z => ?_, fun z => ?_, xdl_get xM xN xd_all k q y h hy⟩
  · rw [z] at g8
    exact xw_in g8
  · rw [z] at g8
    simp only [Bool.and_eq_true] at g8
    exact ⟨xw_in g8.1, xw_in g8.2⟩
  · rw [z] at g8
    simp only [Bool.and_eq_true, decide_eq_true_eq] at g8
    exact ⟨xw_in g8.1.1, g8.1.2, Nat.eq_of_beq_eq_true g8.2⟩
theorem xcg_ok {b : ByteArray} {c : xK} {pc : Nat} {i : Instr} (hd : xdc b c = true) (h : xcg c pc = some i) : ∃ n, decode b pc = .ok (i, n) ∧ (n = xil i ∨ (∃ a b d o, i = .tableswitch a b d o) ∨ ∃ a b, i = .lookupswitch a b) := by
  unfold xcg at h
  split at h
  next ch hch =>
    have h1 := List.all_eq_true.mp (List.all_eq_true.mp hd ch (List.mem_of_getElem? hch)) _ (xfd_mem h)
    dsimp only at h1
    split at h1
    next i' n hdec =>
      simp only [Bool.and_eq_true, decide_eq_true_eq] at h1
      obtain ⟨rfl, h2⟩ := h1
      refine ⟨n, hdec, ?_⟩
      split at h2
      next => exact Or.inr (Or.inl ⟨_, _, _, _, rfl⟩)
      next => exact Or.inr (Or.inr ⟨_, _, rfl⟩)
      next => exact Or.inl (Nat.eq_of_beq_eq_true h2)
    next => cases h1
  next => cases h
theorem xnsw {i : Instr} {n : Nat} (hn : n = xil i ∨ (∃ a b d o, i = .tableswitch a b d o) ∨ ∃ a b, i = .lookupswitch a b) (h1 : ∀ a b d o, i ≠ .tableswitch a b d o) (h2 : ∀ a b, i ≠ .lookupswitch a b) : n = xil i := by
  rcases hn with h | ⟨a, b, d, o, h⟩ | ⟨a, b, h⟩
  · exact h
  · exact absurd h (h1 a b d o)
  · exact absurd h (h2 a b)
theorem xho_mono {ro : List (List Int32)} {own kind : Nat} {i : Instr} {st st' : List Value} {h h' : xH} (h1 : xho ro own kind i st h = some (st', h')) : h.length ≤ h'.length ∧ xsl h ≤ xsl h' := by
  have same : h.length ≤ h.length ∧ xsl h ≤ xsl h := ⟨Nat.le_refl _, Nat.le_refl _⟩
  have app : ∀ c : xE, h.length ≤ (h ++ [c]).length ∧ xsl h ≤ xsl (h ++ [c]) := fun c => ⟨by simp, by rw [xsl_app]; omega⟩
  have set : ∀ (r : Nat) (c c' : xE), h[r]? = some c → c'.2.length = c.2.length → h.length ≤ (h.set r c').length ∧ xsl h ≤ xsl (h.set r c') := fun r c c' hh hl => ⟨by simp, by rw [xsl_set h r c c' hh hl]; exact Nat.le_refl _⟩
  unfold xho at h1
  split at h1
  next idx r st0 =>
    split at h1
    next ci k0 pl t fs hf hh => obtain ⟨ht, h1⟩ := xbif h1; obtain ⟨v, hv, h1⟩ := xmap h1; cases h1; exact same
    next => cases h1
  next idx v r st0 =>
    split at h1
    next ci k0 pl t fs hf hh =>
      obtain ⟨ht, h1⟩ := xbif h1
      split at h1
      next cs hcs =>
        split at h1
        next c0 hc0 => obtain ⟨hfit, h1⟩ := xbif h1; cases h1; exact set _ _ _ hh (by simp)
        next => cases h1
      next => cases h1
    next => cases h1
  next j r st0 =>
    split at h1
    next t vs hh =>
      obtain ⟨ht, h1⟩ := xbif h1
      split at h1
      next => cases h1
      next => split at h1 <;> first | (cases h1; done) | (cases h1; exact same)
    next => cases h1
  next j q0 st0 =>
    split at h1
    next xs hxs =>
      split at h1
      next => cases h1
      next => obtain ⟨x, hxx, h1⟩ := xmap h1; cases h1; exact same
    next => cases h1
  next j r st0 =>
    split at h1
    next t vs hh =>
      obtain ⟨ht, h1⟩ := xbif h1
      split at h1
      next => cases h1
      next => split at h1 <;> first | (cases h1; done) | (cases h1; exact same)
    next => cases h1
  next j r st0 =>
    split at h1
    next t vs hh =>
      obtain ⟨ht, h1⟩ := xbif h1
      split at h1
      next => cases h1
      next => split at h1 <;> first | (cases h1; done) | (cases h1; exact same)
    next => cases h1
  next x j r st0 =>
    split at h1
    next t vs hh =>
      obtain ⟨ht, h1⟩ := xbif h1
      split at h1
      next => cases h1
      next => cases h1; exact set _ _ _ hh (by simp)
    next => cases h1
  next x j r st0 =>
    split at h1
    next t vs hh =>
      obtain ⟨ht, h1⟩ := xbif h1
      split at h1
      next => cases h1
      next => cases h1; exact set _ _ _ hh (by simp)
    next => cases h1
  next x j r st0 =>
    split at h1
    next t vs hh =>
      obtain ⟨ht, h1⟩ := xbif h1
      split at h1
      next => cases h1
      next => cases h1; exact set _ _ _ hh (by simp)
    next => cases h1
  next q0 st0 => obtain ⟨-, h1⟩ := xbif h1; obtain ⟨xs, hxs, h1⟩ := xmap h1; cases h1; exact same
  next r st0 =>
    split at h1
    next t vs hh => obtain ⟨-, h1⟩ := xbif h1; cases h1; exact same
    next => cases h1
  next idx st0 => obtain ⟨xs, hxs, h1⟩ := xmap h1; cases h1; exact same
  next idx st0 =>
    split at h1
    next ci pl hf => obtain ⟨fs, hfs, h1⟩ := xmap h1; cases h1; exact app _
    next => cases h1
  next n st0 => split at h1 <;> first | (cases h1; done) | (cases h1; exact app _)
  next n st0 => split at h1 <;> first | (cases h1; done) | (cases h1; exact app _)
  next n st0 => split at h1 <;> first | (cases h1; done) | (cases h1; exact app _)
  next => cases h1
theorem xcpy_len (vs ws : List Value) (sp dp n : Nat) : (xcpy vs ws sp dp n).length = ws.length := by simp [xcpy]
theorem xay_mono {own : Nat} {i : Instr} {st st' : List Value} {h h' : xH} (e : xay own i st h = some (st', h')) : h'.length = h.length ∧ xsl h' = xsl h := by
  unfold xay at e
  split at e
  next =>
    split at e
    next hs hd =>
      obtain ⟨-, e⟩ := xbif e
      split at e
      next => cases e
      next => cases e; exact ⟨by simp, xsl_set h _ _ _ hd (xcpy_len _ _ _ _ _)⟩
    next => cases e
  next => cases e
theorem ev_mono {ro : List (List Int32)} : ∀ (n : Nat) {d : Nat} {q : xQ} {pc : Nat} {ls : xL} {st : List Value} {h : xH} {r : Option Value} {h2 : xH}, ev ro n d q pc ls st h = some (r, h2) → h.length ≤ h2.length ∧ xsl h ≤ xsl h2 := by
  intro n
  induction n with
  | zero => intro d q pc ls st h r h2 hev; simp [ev] at hev
  | succ n ih =>
    intro d q pc ls st h r h2 hev
    rw [ev] at hev
    split at hev
    next => cases hev
    next i hi =>
      split at hev
      next => exact ih hev
      next =>
        split at hev
        next => exact ih hev
        next =>
          split at hev
          next st' h' hh =>
            have := ih hev
            have h3 := xho_mono hh
            exact ⟨Nat.le_trans h3.1 this.1, Nat.le_trans h3.2 this.2⟩
          next =>
            split at hev
            next => cases hev; exact ⟨Nat.le_refl _, Nat.le_refl _⟩
            next =>
              split at hev
              next => cases hev
              next d' =>
                split at hev
                next => exact ih (xbif hev).2
                next =>
                  split at hev
                  next => exact ih (xbif hev).2
                  next =>
                   split at hev
                   next hay =>
                     have g1 := xay_mono hay
                     have g2 := ih (xbif hev).2
                     exact ⟨by omega, by omega⟩
                   next =>
                    split at hev
                    next => cases hev
                    next y as rest hca =>
                      split at hev
                      next => cases hev
                      next q' hq' =>
                        obtain ⟨-, hev⟩ := xbif hev
                        split at hev
                        next => cases hev
                        next r1 h' he1 =>
                          have g1 := ih he1
                          have g2 := ih hev
                          exact ⟨Nat.le_trans g1.1 g2.1, Nat.le_trans g1.2 g2.2⟩
theorem xtk_ok : ∀ (n : Nat) (acc st as rest : List Value), xtk n acc st = some (as, rest) → ∃ f : List Value, f.length = n ∧ as = f.reverse ++ acc ∧ st = f ++ rest
  | 0, acc, st, as, rest, h => by
    simp only [xtk, Option.some.injEq, Prod.mk.injEq] at h
    exact ⟨[], rfl, by simp [h.1], by simp [h.2]⟩
  | n + 1, acc, [], as, rest, h => by simp [xtk] at h
  | n + 1, acc, v :: st, as, rest, h => by
    rw [xtk] at h
    obtain ⟨f, h1, h2, h3⟩ := xtk_ok n (v :: acc) st as rest h
    exact ⟨v :: f, by simp [h1], by simp [h2], by simp [h3]⟩
theorem xtk_o {n : Nat} {st as rest : List Value} (h : xtk n [] st = some (as, rest)) : as.length = n ∧ st = as.reverse ++ rest := by
  obtain ⟨f, h1, h2, h3⟩ := xtk_ok n [] st as rest h
  simp only [List.append_nil] at h2
  subst h2
  exact ⟨by simp [h1], by simp [h3]⟩
theorem xlv_args (B : Nat) (aR : Nat → Nat) : ∀ (as : List Value) (k : Nat), lv_args k (as.map (xv B aR)) = xvl B aR (lv_args k as)
  | [], k => rfl
  | v :: as, k => by
    simp only [List.map_cons, lv_args, xvl, xv_cat]
    rw [xlv_args B aR as]
    rfl
theorem xlg_len (B : Nat) (aR : Nat → Nat) (as : List Value) : (lg_sl (as.map (xv B aR))).length = xcs as := by
  have hc : ∀ v : Value, ((fun v : Value => if v.category = 2 then [Slot.val v, .second] else [.val v]) (xv B aR v)).length = v.category := by
    intro v
    cases v <;> rfl
  unfold lg_sl xcs
  rw [List.length_flatMap, List.map_map]
  congr 1
  apply List.map_congr_left
  intro v _
  exact hc v
theorem xcs_map (B : Nat) (aR : Nat → Nat) (as : List Value) : ((as.map (xv B aR)).map fun v => v.category).sum = xcs as := by
  unfold xcs
  rw [List.map_map]
  congr 1
  apply List.map_congr_left
  intro v _
  exact xv_cat B aR v
end
