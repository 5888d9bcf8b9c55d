/-! what stays as it was -/
def hF (F : List (Nat × Nat)) (r k : Nat) : Bool := F.any fun f => Nat.beq f.1 r && (Nat.beq f.2 9999 || Nat.beq f.2 k)
def hSm (F : List (Nat × Nat)) (p p1 : xH) : Prop := ∀ r k, hF F r k = true → rV p1 r k = rV p r k
theorem hSm.refl (F : List (Nat × Nat)) (p : xH) : hSm F p p := fun _ _ _ => rfl
theorem hSm.trans {F : List (Nat × Nat)} {p p1 p2 : xH} (h : hSm F p p1) (k : hSm F p1 p2) : hSm F p p2 := fun r j e => (k r j e).trans (h r j e)
theorem hSm.w {F : List (Nat × Nat)} {p p1 : xH} {r k : Nat} {v : Value} (h : hSm F p p1) (hn : hF F r k = false) : hSm F p (wV p1 r k v) := fun r' k' e => by
  rw [rV_ne (fun e1 e2 => by subst e1; subst e2; rw [hn] at e; cases e)]
  exact h r' k' e
theorem hSm.int {F : List (Nat × Nat)} {p p1 : xH} (h : hSm F p p1) {r k : Nat} (e : hF F r k = true) : rI p1 r k = rI p r k := by
  unfold rI; rw [h r k e]
theorem hSm.long {F : List (Nat × Nat)} {p p1 : xH} (h : hSm F p p1) {r k : Nat} (e : hF F r k = true) : rJ p1 r k = rJ p r k := by
  unfold rJ; rw [h r k e]
theorem hSm.sub {F F' : List (Nat × Nat)} {p p1 : xH} (h : hSm F p p1) (e : ∀ r k, hF F' r k = true → hF F r k = true) : hSm F' p p1 := fun r k z => h r k (e r k z)
theorem hF_app {F F' : List (Nat × Nat)} {r k : Nat} : hF (F ++ F') r k = (hF F r k || hF F' r k) := by unfold hF; rw [List.any_append]
theorem hSm.left {F F' : List (Nat × Nat)} {p p1 : xH} (h : hSm (F ++ F') p p1) : hSm F p p1 := h.sub (fun r k z => by rw [hF_app, z]; rfl)
theorem hSm.right {F F' : List (Nat × Nat)} {p p1 : xH} (h : hSm (F ++ F') p p1) : hSm F' p p1 := h.sub (fun r k z => by rw [hF_app, z, Bool.or_true])
def jWF (W F : List (Nat × Nat)) : Bool := F.all fun f => W.all fun w => !(Nat.beq w.1 f.1 && (Nat.beq w.2 9999 || Nat.beq f.2 9999 || Nat.beq w.2 f.2))
theorem hSm_of {W F : List (Nat × Nat)} {p0 p : xH} (h : jWf W p0 p) (e : jWF W F = true) : hSm F p0 p := by
  intro r k hk
  obtain ⟨f, hf, hf2⟩ := List.any_eq_true.mp hk
  rw [Bool.and_eq_true] at hf2
  have h1 := List.all_eq_true.mp e f hf
  have hw : jw W r k = false := by
    cases hj : jw W r k with
    | false => rfl
    | true =>
      obtain ⟨w, hw, hw2⟩ := List.any_eq_true.mp hj
      rw [Bool.and_eq_true] at hw2
      have h2 := List.all_eq_true.mp h1 w hw
      have e1 := Nat.eq_of_beq_eq_true hf2.1
      have e2 := Nat.eq_of_beq_eq_true hw2.1
      rw [e1, e2, Nat.beq_refl, Bool.true_and, Bool.not_eq_true'] at h2
      rw [Bool.or_eq_false_iff, Bool.or_eq_false_iff] at h2
      rcases Bool.or_eq_true_iff.mp hf2.2 with z | z
      · rw [z] at h2; exact absurd h2.1.2 (by simp)
      · rcases Bool.or_eq_true_iff.mp hw2.2 with y | y
        · rw [y] at h2; exact absurd h2.1.1 (by simp)
        · rw [Nat.eq_of_beq_eq_true z, Nat.eq_of_beq_eq_true y, Nat.beq_refl] at h2; exact absurd h2.2 (by simp)
  have hs : (p.map fun c => (c.1, c.2.length))[r]? = (p0.map fun c => (c.1, c.2.length))[r]? := by rw [h.1]
  rw [List.getElem?_map, List.getElem?_map] at hs
  unfold rV
  cases h3 : p0[r]? with
  | none =>
    rw [h3] at hs
    cases h4 : p[r]? with
    | none => rfl
    | some c => rw [h4] at hs; cases hs
  | some c0 =>
    rw [h3] at hs
    cases h4 : p[r]? with
    | none => rw [h4] at hs; cases hs
    | some c =>
      dsimp only
      rw [List.getD_eq_getElem?_getD, List.getD_eq_getElem?_getD, h.2 r k c0 c h3 h4 hw]
theorem ev_det {ro : List (List Int32)} {n m d : Nat} {q : xQ} {pc : Nat} {ls : xL} {st : List Value} {p : xH} {x y : Option Value × xH} (h : ev ro n d q pc ls st p = some x) (k : ev ro m d q pc ls st p = some y) : x = y := by
  have h1 := ev_mores m h
  have k1 := ev_mores n k
  rw [Nat.add_comm] at k1
  rw [h1] at k1
  exact Option.some.inj k1
/-- a call that is known by its contract: it ends, keeps bounds and relations, and what it doesn't write -/
theorem jok_fr {ro : List (List Int32)} {R : jRl} {c : jC} (h : jCok ro jGG c) {k : Nat} {F : List (Nat × Nat)} (hR : (R.all fun x => !jw c.2.2.2.2.1 x.1.1 x.1.2 && !jw c.2.2.2.2.1 x.2.1.1 x.2.1.2) = true) (hk : (c.2.2.2.2.2.all fun o => match o.1 with | some b => Nat.beq b.1 k | none => false) = true) (hF : jWF c.2.2.2.2.1 F = true) (hpre : c.2.2.2.1 = []) {q : xQ} (hq : xM[c.1]? = some q) {d : Nat} {args : List Value} {p : xH} (hd : c.2.1 ≤ d) (hp : jInv R p) (hb : jBxs c.2.2.1 args) :
    ∃ n v p', ev ro n d q 0 (lv_args 0 args) [] p = some (some v, p') ∧ jInv R p' ∧ jk v = k ∧ (p'.map fun c => (c.1, c.2.length)) = (p.map fun c => (c.1, c.2.length)) ∧ hSm F p p' := by
  obtain ⟨n, v, p', e1, e2, e3, e4⟩ := jok_inv h hR hk hpre hq hd hp hb
  obtain ⟨n2, r2, p2, f1, f2, f3, -⟩ := h q hq d args p hd hp.1 hb (fun f hf => by rw [hpre] at hf; exact absurd hf List.not_mem_nil)
  have := ev_det e1 f1
  cases this
  exact ⟨n, v, p', e1, e2, e3, e4, hSm_of f3 hF⟩
theorem rV_set {p : xH} {a b j : Nat} {v : Value} (hw : hW p) (hT1 : hT a j = some (jk v)) (hab : a ≠ b) (ha : j < hL a) (hb : j < hL b) (h : ∀ k, rV p a k = rV p b k) : ∀ k, rV (wV (wV p a j v) b j v) a k = rV (wV (wV p a j v) b j v) b k := by
  intro k
  rw [rV_ne (fun e => absurd e hab)]
  by_cases hk : k = j
  · subst hk
    rw [rV_eq hw ha, rV_eq (hW_wV hw hT1) hb]
  · rw [rV_ne (fun _ => hk), rV_ne (fun _ => hk), rV_ne (fun e => absurd e (Ne.symm hab))]
    exact h k
/-- one row has become so, nothing else has changed -/
def hOn (r : Nat) (f : Nat → Value) (p p2 : xH) : Prop := (∀ r' j, r' ≠ r → rV p2 r' j = rV p r' j) ∧ ∀ j, rV p2 r j = f j
theorem hOn.refl (r : Nat) (p : xH) : hOn r (rV p r) p p := ⟨fun _ _ _ => rfl, fun _ => rfl⟩
theorem rV_w {p : xH} {r k : Nat} {v : Value} (hw : hW p) (hk : k < hL r) (j : Nat) : rV (wV p r k v) r j = if j = k then v else rV p r j := by
  by_cases h : j = k
  · subst h; rw [if_pos rfl, rV_eq hw hk]
  · rw [if_neg h, rV_ne (fun _ => h)]
theorem hOn.w {r k : Nat} {f : Nat → Value} {p p1 : xH} {v : Value} (h : hOn r f p p1) (hw : hW p1) (hk : k < hL r) : hOn r (fun j => if j = k then v else f j) p (wV p1 r k v) :=
  ⟨fun r' j hr => by rw [rV_ne (fun e => absurd e hr)]; exact h.1 r' j hr, fun j => by rw [rV_w hw hk, h.2 j]⟩
theorem hOn.eq {r : Nat} {f g : Nat → Value} {p p1 : xH} (h : hOn r f p p1) (e : ∀ j, f j = g j) : hOn r g p p1 := ⟨h.1, fun j => (h.2 j).trans (e j)⟩
theorem hOn.int {r : Nat} {f : Nat → Value} {p p1 : xH} (h : hOn r f p p1) {r' j : Nat} (hr : r' ≠ r) : rI p1 r' j = rI p r' j := by unfold rI; rw [h.1 r' j hr]
theorem hOn.long {r : Nat} {f : Nat → Value} {p p1 : xH} (h : hOn r f p p1) {r' j : Nat} (hr : r' ≠ r) : rJ p1 r' j = rJ p r' j := by unfold rJ; rw [h.1 r' j hr]
theorem hSm.on {F : List (Nat × Nat)} {p p1 p2 : xH} {r : Nat} {f : Nat → Value} (h : hSm F p p1) (k : hOn r f p1 p2) (hn : ∀ j, hF F r j = false) : hSm F p p2 := fun r' j e => by
  rw [k.1 r' j (fun z => by rw [z, hn] at e; cases e)]
  exact h r' j e
theorem if_fill {a b b' i j : Nat} {u w : Value} (hi : i = b) (hb : b' = b + 1) (hab : a ≤ b) : (if j = i then u else if a ≤ j ∧ j < b then u else w) = if a ≤ j ∧ j < b' then u else w := by
  by_cases h1 : j = i
  · rw [if_pos h1, if_pos (by omega)]
  · rw [if_neg h1]
    by_cases h2 : a ≤ j ∧ j < b
    · rw [if_pos h2, if_pos (by omega)]
    · rw [if_neg h2, if_neg (by omega)]
/-- nothing but this may have changed -/
def hNt (T : List (Nat × Nat)) (p p1 : xH) : Prop := ∀ r k, hF T r k = false → rV p1 r k = rV p r k
theorem hNt.refl (T : List (Nat × Nat)) (p : xH) : hNt T p p := fun _ _ _ => rfl
theorem hNt.w {T : List (Nat × Nat)} {p p1 : xH} {r k : Nat} {v : Value} (h : hNt T p p1) (hn : hF T r k = true) : hNt T p (wV p1 r k v) := fun r' k' e => by
  rw [rV_ne (fun e1 e2 => by subst e1; subst e2; rw [hn] at e; cases e)]
  exact h r' k' e
theorem hNt.on {T : List (Nat × Nat)} {p p1 p2 : xH} {r : Nat} {f : Nat → Value} (h : hNt T p p1) (k : hOn r f p1 p2) (hn : ∀ j, hF T r j = true) : hNt T p p2 := fun r' j e => by
  rw [k.1 r' j (fun z => by rw [z, hn] at e; cases e)]
  exact h r' j e
theorem hNt.trans {T : List (Nat × Nat)} {p p1 p2 : xH} (h : hNt T p p1) (k : hNt T p1 p2) : hNt T p p2 := fun r j e => (k r j e).trans (h r j e)
theorem hNt.up {T T' : List (Nat × Nat)} {p p1 : xH} (h : hNt T p p1) (e : T.all (fun t => T'.any fun u => Nat.beq u.1 t.1 && (Nat.beq u.2 9999 || Nat.beq u.2 t.2)) = true) : hNt T' p p1 := fun r k z => by
  refine h r k ?_
  cases hT : hF T r k with
  | false => rfl
  | true =>
    obtain ⟨t, t1, t2⟩ := List.any_eq_true.mp hT
    rw [Bool.and_eq_true] at t2
    obtain ⟨u, u1, u2⟩ := List.any_eq_true.mp (List.all_eq_true.mp e t t1)
    rw [Bool.and_eq_true] at u2
    have : hF T' r k = true := by
      refine List.any_eq_true.mpr ⟨u, u1, ?_⟩
      rw [Bool.and_eq_true]
      have e1 := Nat.eq_of_beq_eq_true t2.1
      refine ⟨by rw [← e1]; exact u2.1, ?_⟩
      rcases Bool.or_eq_true_iff.mp u2.2 with y | y
      · rw [y]; rfl
      · rcases Bool.or_eq_true_iff.mp t2.2 with x | x
        · rw [Nat.eq_of_beq_eq_true y, x]; rfl
        · rw [Nat.eq_of_beq_eq_true y, x, Bool.or_true]
    rw [this] at z
    cases z
theorem hNt.sm {T F : List (Nat × Nat)} {p p1 : xH} (h : hNt T p p1) (e : jWF T F = true) : hSm F p p1 := fun r k hk => by
  refine h r k ?_
  obtain ⟨f, hf, hf2⟩ := List.any_eq_true.mp hk
  rw [Bool.and_eq_true] at hf2
  have h1 := List.all_eq_true.mp e f hf
  cases hj : hF T r k with
  | false => rfl
  | true =>
    obtain ⟨w, hw, hw2⟩ := List.any_eq_true.mp hj
    rw [Bool.and_eq_true] at hw2
    have h2 := List.all_eq_true.mp h1 w hw
    have e1 := Nat.eq_of_beq_eq_true hf2.1
    have e2 := Nat.eq_of_beq_eq_true hw2.1
    rw [e1, e2, Nat.beq_refl, Bool.true_and, Bool.not_eq_true'] at h2
    rw [Bool.or_eq_false_iff, Bool.or_eq_false_iff] at h2
    rcases Bool.or_eq_true_iff.mp hf2.2 with z | z
    · rw [z] at h2; exact absurd h2.1.2 (by simp)
    · rcases Bool.or_eq_true_iff.mp hw2.2 with y | y
      · rw [y] at h2; exact absurd h2.1.1 (by simp)
      · rw [Nat.eq_of_beq_eq_true z, Nat.eq_of_beq_eq_true y, Nat.beq_refl] at h2; exact absurd h2.2 (by simp)
theorem hNt.int {T : List (Nat × Nat)} {p p1 : xH} (h : hNt T p p1) {r k : Nat} (e : hF T r k = false) : rI p1 r k = rI p r k := by
  unfold rI; rw [h r k e]
theorem hNt.long {T : List (Nat × Nat)} {p p1 : xH} (h : hNt T p p1) {r k : Nat} (e : hF T r k = false) : rJ p1 r k = rJ p r k := by
  unfold rJ; rw [h r k e]
/-- int elements, all of a row -/
theorem gh_any {p : xH} (h : GH jGG p) {r t : Nat} {b : Nat × Int × Int} (hg : jgc jGG r = some (t, .inr b)) (ht : t ≠ 102) (hb : b.2.1 ≤ 0 ∧ 0 ≤ b.2.2) (k : Nat) : b.2.1 ≤ (rI p r k).toInt ∧ (rI p r k).toInt ≤ b.2.2 := by
  rcases Nat.lt_or_ge k b.1 with hk | hk
  · exact gh_row h hg ht hk
  · obtain ⟨⟨t', vs⟩, h1, h2, h3, h4⟩ := h r _ hg
    have h3 : vs.length = b.1 := h3
    have e : rV p r k = .null := by
      unfold rV
      rw [h1]
      dsimp only
      rw [List.getD_eq_getElem?_getD, List.getElem?_eq_none (by omega)]
      rfl
    have e2 : rI p r k = 0 := by unfold rI; rw [e]
    rw [e2]
    exact hb
theorem rI_w {p : xH} {r k : Nat} {x : Int32} (hw : hW p) (hk : k < hL r) (j : Nat) : rI (wV p r k (.int x)) r j = if j = k then x else rI p r j := by
  by_cases h : j = k
  · subst h; rw [if_pos rfl, rI_eq hw hk]
  · rw [if_neg h, rI_ne (fun _ => h)]
theorem if_fillf {a b b' i j : Nat} {f : Nat → Value} {u w : Value} (hi : i = b) (hb : b' = b + 1) (hab : a ≤ b) (hu : u = f b) : (if j = i then u else if a ≤ j ∧ j < b then f j else w) = if a ≤ j ∧ j < b' then f j else w := by
  by_cases h1 : j = i
  · rw [if_pos h1, if_pos (by omega), hu, h1, hi]
  · rw [if_neg h1]
    by_cases h2 : a ≤ j ∧ j < b
    · rw [if_pos h2, if_pos (by omega)]
    · rw [if_neg h2, if_neg (by omega)]
theorem rV_long {p : xH} {r k : Nat} {b : Nat × Int × Int} (h : hW p) (hg : jgc jGG r = some (102, .inr b)) (hk : k < b.1) : rV p r k = .long (rJ p r k) := by
  obtain ⟨vs, h1, h2, h3⟩ := hW_row h hg
  have e1 : vs[k]? = some vs[k] := List.getElem?_eq_getElem (by omega)
  have e2 := h3 vs[k] (List.getElem_mem (by omega))
  have e2 : jk vs[k] = 1 := e2
  have e3 := rV_at h1 e1
  unfold rJ
  rw [e3]
  revert e2
  cases vs[k] <;> intro e2 <;> first | rfl | (cases e2; done)
theorem rV_int {p : xH} {r k t : Nat} {b : Nat × Int × Int} (h : hW p) (hg : jgc jGG r = some (t, .inr b)) (ht : t ≠ 102) (hk : k < b.1) : rV p r k = .int (rI p r k) := by
  obtain ⟨vs, h1, h2, h3⟩ := hW_row h hg
  have e1 : vs[k]? = some vs[k] := List.getElem?_eq_getElem (by omega)
  have e2 := h3 vs[k] (List.getElem_mem (by omega))
  rw [if_neg ht] at e2
  have e3 := rV_at h1 e1
  unfold rI
  rw [e3]
  revert e2
  cases vs[k] <;> intro e2 <;> first | rfl | (cases e2; done)
/-- System.arraycopy -/
theorem hp_ay {ro : List (List Int32)} {n d : Nat} {q : xQ} {pc pc' : Nat} {ls : xL} {rest : List Value} {p : xH} {Q : Option Value → xH → Prop} {idx rs rd : Nat} {cn dp sp : Int32} {yy : Nat} {b0 b1 : Nat × Int × Int} (hi : xcg q.2.2.2.2 pc = some (.invokestatic idx)) (hY : xtb xY q.1 idx = some yy) (hC : xtb xC q.1 idx = none) (hs : jgc jGG rs = some (102, .inr b0)) (hd : jgc jGG rd = some (102, .inr b1)) (hp : pc + 3 = pc')
    (K : ∀ p', hW p → 0 ≤ sp.toInt → 0 ≤ dp.toInt → 0 ≤ cn.toInt → sp.toInt + cn.toInt ≤ b0.1 → dp.toInt + cn.toInt ≤ b1.1 → hOn rd (fun j => if dp.toInt.toNat ≤ j ∧ j < dp.toInt.toNat + cn.toInt.toNat then rV p rs (sp.toInt.toNat + (j - dp.toInt.toNat)) else rV p rd j) p p' → hP ro n d q pc' ls rest p' Q) :
    hP ro n d q pc ls (.int cn :: .int dp :: .ref rd :: .int sp :: .ref rs :: rest) p Q := by
  subst hp
  intro hw r2 p2 ee
  have h0 : xs1 q.1 q.2.1 (.invokestatic idx) ls (.int cn :: .int dp :: .ref rd :: .int sp :: .ref rs :: rest) = none := rfl
  have h1 : xbr (.invokestatic idx) pc (.int cn :: .int dp :: .ref rd :: .int sp :: .ref rs :: rest) = none := rfl
  have h2 : xho ro q.1 q.2.2.1 (.invokestatic idx) (.int cn :: .int dp :: .ref rd :: .int sp :: .ref rs :: rest) p = none := rfl
  have h3 : xrt q.2.2.2.1 (.invokestatic idx) (.int cn :: .int dp :: .ref rd :: .int sp :: .ref rs :: rest) = none := rfl
  have h4 : xob q.1 (.invokestatic idx) (.int cn :: .int dp :: .ref rd :: .int sp :: .ref rs :: rest) = none := rfl
  have h5 : xmm q.1 (.invokestatic idx) (.int cn :: .int dp :: .ref rd :: .int sp :: .ref rs :: rest) = none := by
    simp only [xmm, hC]
  obtain ⟨vs, c1, c2, c3⟩ := hW_row hw hs
  obtain ⟨ws, k1, k2, k3⟩ := hW_row hw hd
  have hv : ∀ v ∈ vs, jk v = 1 := fun v hv => by have := c3 v hv; exact this
  have hv2 : ∀ v ∈ ws, jk v = 1 := fun v hv => by have := k3 v hv; exact this
  cases n with
  | zero => simp [ev] at ee
  | succ n =>
    rw [ev, hi] at ee
    dsimp only at ee
    rw [h0] at ee
    dsimp only at ee
    rw [h1] at ee
    dsimp only at ee
    rw [h2] at ee
    dsimp only at ee
    rw [h3] at ee
    dsimp only at ee
    cases d with
    | zero => cases ee
    | succ d =>
      dsimp only at ee
      rw [h4] at ee
      dsimp only at ee
      rw [h5] at ee
      dsimp only at ee
      split at ee
      next rest2 h' h6 =>
        simp only [xay, hY, c1, k1] at h6
        cases hB : (Nat.beq 102 102 && Nat.beq 102 102 && Nat.ble (sp.toNatClampNeg + cn.toNatClampNeg) vs.length && Nat.ble (dp.toNatClampNeg + cn.toNatClampNeg) ws.length) with
        | false => rw [hB] at h6; cases h6
        | true =>
          rw [hB, cond_true] at h6
          rw [Bool.and_eq_true, Bool.and_eq_true] at hB
          have b2 := Nat.le_of_ble_eq_true hB.1.2
          have b3 := Nat.le_of_ble_eq_true hB.2
          split at h6
          next => cases h6
          next hneg3 =>
            cases h6
            have s0 : 0 ≤ sp.toInt := hneg (fun z => hneg3 (Or.inl z))
            have d0 : 0 ≤ dp.toInt := hneg (fun z => hneg3 (Or.inr (Or.inl z)))
            have n0 : 0 ≤ cn.toInt := hneg (fun z => hneg3 (Or.inr (Or.inr z)))
            have s1 : sp.toNatClampNeg = sp.toInt.toNat := rfl
            have d1 : dp.toNatClampNeg = dp.toInt.toNat := rfl
            have n1 : cn.toNatClampNeg = cn.toInt.toNat := rfl
            have lx : (xcpy vs ws sp.toNatClampNeg dp.toNatClampNeg cn.toNatClampNeg).length = ws.length := jcpy_len _ _ _ _ _
            have hon : hOn rd (fun j => if dp.toInt.toNat ≤ j ∧ j < dp.toInt.toNat + cn.toInt.toNat then rV p rs (sp.toInt.toNat + (j - dp.toInt.toNat)) else rV p rd j) p (p.set rd (102, xcpy vs ws sp.toNatClampNeg dp.toNatClampNeg cn.toNatClampNeg)) := by
              refine ⟨fun r' j hr => ?_, fun j => ?_⟩
              · unfold rV
                rw [List.getElem?_set, if_neg (Ne.symm hr)]
              · have e1 : rV (p.set rd (102, xcpy vs ws sp.toNatClampNeg dp.toNatClampNeg cn.toNatClampNeg)) rd j = (xcpy vs ws sp.toNatClampNeg dp.toNatClampNeg cn.toNatClampNeg).getD j .null := by
                  unfold rV
                  rw [List.getElem?_set, if_pos rfl, if_pos (List.getElem?_eq_some_iff.mp k1).1]
                have e2 : rV p rd j = ws.getD j .null := by unfold rV; rw [k1]
                have e3 : ∀ j, rV p rs j = vs.getD j .null := fun j => by unfold rV; rw [c1]
                rw [e1]
                dsimp only
                rw [e2, e3]
                unfold xcpy
                rw [List.getD_eq_getElem?_getD, List.getElem?_map]
                by_cases hj : j < ws.length
                · rw [List.getElem?_range hj]
                  show (if _ ∧ _ then _ else _) = _
                  rw [s1, d1, n1]
                · rw [List.getElem?_eq_none (by rw [List.length_range]; omega), if_neg (by omega), List.getD_eq_getElem?_getD, List.getElem?_eq_none (by omega)]
                  rfl
            have hw' : hW (p.set rd (102, xcpy vs ws sp.toNatClampNeg dp.toNatClampNeg cn.toNatClampNeg)) := by
              intro r' g hg
              by_cases hr : rd = r'
              · subst hr
                rw [hd] at hg
                cases hg
                refine ⟨(102, _), by rw [List.getElem?_set, if_pos rfl, if_pos (List.getElem?_eq_some_iff.mp k1).1], rfl, by rw [show (102, xcpy vs ws sp.toNatClampNeg dp.toNatClampNeg cn.toNatClampNeg).2 = xcpy vs ws sp.toNatClampNeg dp.toNatClampNeg cn.toNatClampNeg from rfl, lx]; exact k2, fun v hv3 => ?_⟩
                exact xcpy_in (P := fun v => jk v = 1) hv hv2 (by omega) v hv3
              · obtain ⟨c, hc, hk⟩ := hw r' g hg
                exact ⟨c, by rw [List.getElem?_set, if_neg hr]; exact hc, hk⟩
            cases hB2 : Nat.ble (xcs rest) 8 with
            | false => rw [hB2] at ee; cases ee
            | true =>
              rw [hB2, cond_true] at ee
              exact K _ hw s0 d0 n0 (by omega) (by omega) hon hw' r2 p2 (ev_more _ ee)
      next h6 =>
        have h7 : xca q.1 (.invokestatic idx) (.int cn :: .int dp :: .ref rd :: .int sp :: .ref rs :: rest) p = none := by simp only [xca, hC]
        rw [h7] at ee
        cases ee
