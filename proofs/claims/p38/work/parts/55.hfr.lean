/-! what stays as it was -/
def hF (F : List (Nat × Nat)) (r k : Nat) : Bool := F.any fun f => Nat.beq f.1 r && (Nat.beq f.2 9999 || Nat.beq f.2 k)
def hSm (F : List (Nat × Nat)) (p p1 : xH) : Prop := ∀ r k, hF F r k = true → rV p1 r k = rV p r k
theorem hSm.refl (F : List (Nat × Nat)) (p : xH) : hSm F p p := fun _ _ _ => rfl
theorem hSm.trans {F : List (Nat × Nat)} {p p1 p2 : xH} (h : hSm F p p1) (k : hSm F p1 p2) : hSm F p p2 := fun r j e => (k r j e).trans (h r j e)
theorem hSm.w {F : List (Nat × Nat)} {p p1 : xH} {r k : Nat} {v : Value} (h : hSm F p p1) (hn : hF F r k = false) : hSm F p (wV p1 r k v) := fun r' k' e => by
  rw [rV_ne (fun e1 e2 => by subst e1; subst e2; rw [hn] at e; cases e)]
  exact h r' k' e
theorem hSm.int {F : List (Nat × Nat)} {p p1 : xH} (h : hSm F p p1) {r k : Nat} (e : hF F r k = true) : rI p1 r k = rI p r k := by
  unfold rI; rw [h r k e]
theorem hSm.long {F : List (Nat × Nat)} {p p1 : xH} (h : hSm F p p1) {r k : Nat} (e : hF F r k = true) : rJ p1 r k = rJ p r k := by
  unfold rJ; rw [h r k e]
theorem hSm.sub {F F' : List (Nat × Nat)} {p p1 : xH} (h : hSm F p p1) (e : ∀ r k, hF F' r k = true → hF F r k = true) : hSm F' p p1 := fun r k z => h r k (e r k z)
theorem hF_app {F F' : List (Nat × Nat)} {r k : Nat} : hF (F ++ F') r k = (hF F r k || hF F' r k) := by unfold hF; rw [List.any_append]
theorem hSm.left {F F' : List (Nat × Nat)} {p p1 : xH} (h : hSm (F ++ F') p p1) : hSm F p p1 := h.sub (fun r k z => by rw [hF_app, z]; rfl)
theorem hSm.right {F F' : List (Nat × Nat)} {p p1 : xH} (h : hSm (F ++ F') p p1) : hSm F' p p1 := h.sub (fun r k z => by rw [hF_app, z, Bool.or_true])
def jWF (W F : List (Nat × Nat)) : Bool := F.all fun f => W.all fun w => !(Nat.beq w.1 f.1 && (Nat.beq w.2 9999 || Nat.beq f.2 9999 || Nat.beq w.2 f.2))
theorem hSm_of {W F : List (Nat × Nat)} {p0 p : xH} (h : jWf W p0 p) (e : jWF W F = true) : hSm F p0 p := by
  intro r k hk
  obtain ⟨f, hf, hf2⟩ := List.any_eq_true.mp hk
  rw [Bool.and_eq_true] at hf2
  have h1 := List.all_eq_true.mp e f hf
  have hw : jw W r k = false := by
    cases hj : jw W r k with
    | false => rfl
    | true =>
      obtain ⟨w, hw, hw2⟩ := List.any_eq_true.mp hj
      rw [Bool.and_eq_true] at hw2
      have h2 := List.all_eq_true.mp h1 w hw
      have e1 := Nat.eq_of_beq_eq_true hf2.1
      have e2 := Nat.eq_of_beq_eq_true hw2.1
      rw [e1, e2, Nat.beq_refl, Bool.true_and, Bool.not_eq_true'] at h2
      rw [Bool.or_eq_false_iff, Bool.or_eq_false_iff] at h2
      rcases Bool.or_eq_true_iff.mp hf2.2 with z | z
      · rw [z] at h2; exact absurd h2.1.2 (by simp)
      · rcases Bool.or_eq_true_iff.mp hw2.2 with y | y
        · rw [y] at h2; exact absurd h2.1.1 (by simp)
        · rw [Nat.eq_of_beq_eq_true z, Nat.eq_of_beq_eq_true y, Nat.beq_refl] at h2; exact absurd h2.2 (by simp)
  have hs : (p.map fun c => (c.1, c.2.length))[r]? = (p0.map fun c => (c.1, c.2.length))[r]? := by rw [h.1]
  rw [List.getElem?_map, List.getElem?_map] at hs
  unfold rV
  cases h3 : p0[r]? with
  | none =>
    rw [h3] at hs
    cases h4 : p[r]? with
    | none => rfl
    | some c => rw [h4] at hs; cases hs
  | some c0 =>
    rw [h3] at hs
    cases h4 : p[r]? with
    | none => rw [h4] at hs; cases hs
    | some c =>
      dsimp only
      rw [List.getD_eq_getElem?_getD, List.getD_eq_getElem?_getD, h.2 r k c0 c h3 h4 hw]
theorem ev_det {ro : List (List Int32)} {n m d : Nat} {q : xQ} {pc : Nat} {ls : xL} {st : List Value} {p : xH} {x y : Option Value × xH} (h : ev ro n d q pc ls st p = some x) (k : ev ro m d q pc ls st p = some y) : x = y := by
  have h1 := ev_mores m h
  have k1 := ev_mores n k
  rw [Nat.add_comm] at k1
  rw [h1] at k1
  exact Option.some.inj k1
/-- a call that is known by its contract: it ends, keeps bounds and relations, and what it doesn't write -/
theorem jok_fr {ro : List (List Int32)} {R : jRl} {c : jC} (h : jCok ro jGG c) {k : Nat} {F : List (Nat × Nat)} (hR : (R.all fun x => !jw c.2.2.2.2.1 x.1.1 x.1.2 && !jw c.2.2.2.2.1 x.2.1.1 x.2.1.2) = true) (hk : (c.2.2.2.2.2.all fun o => match o.1 with | some b => Nat.beq b.1 k | none => false) = true) (hF : jWF c.2.2.2.2.1 F = true) (hpre : c.2.2.2.1 = []) {q : xQ} (hq : xM[c.1]? = some q) {d : Nat} {args : List Value} {p : xH} (hd : c.2.1 ≤ d) (hp : jInv R p) (hb : jBxs c.2.2.1 args) :
    ∃ n v p', ev ro n d q 0 (lv_args 0 args) [] p = some (some v, p') ∧ jInv R p' ∧ jk v = k ∧ (p'.map fun c => (c.1, c.2.length)) = (p.map fun c => (c.1, c.2.length)) ∧ hSm F p p' := by
  obtain ⟨n, v, p', e1, e2, e3, e4⟩ := jok_inv h hR hk hpre hq hd hp hb
  obtain ⟨n2, r2, p2, f1, f2, f3, -⟩ := h q hq d args p hd hp.1 hb (fun f hf => by rw [hpre] at hf; exact absurd hf List.not_mem_nil)
  have := ev_det e1 f1
  cases this
  exact ⟨n, v, p', e1, e2, e3, e4, hSm_of f3 hF⟩
theorem rV_set {p : xH} {a b j : Nat} {v : Value} (hw : hW p) (hT1 : hT a j = some (jk v)) (hab : a ≠ b) (ha : j < hL a) (hb : j < hL b) (h : ∀ k, rV p a k = rV p b k) : ∀ k, rV (wV (wV p a j v) b j v) a k = rV (wV (wV p a j v) b j v) b k := by
  intro k
  rw [rV_ne (fun e => absurd e hab)]
  by_cases hk : k = j
  · subst hk
    rw [rV_eq hw ha, rV_eq (hW_wV hw hT1) hb]
  · rw [rV_ne (fun _ => hk), rV_ne (fun _ => hk), rV_ne (fun e => absurd e (Ne.symm hab))]
    exact h k
/-- one row has become so, nothing else has changed -/
def hOn (r : Nat) (f : Nat → Value) (p p2 : xH) : Prop := (∀ r' j, r' ≠ r → rV p2 r' j = rV p r' j) ∧ ∀ j, rV p2 r j = f j
theorem hOn.refl (r : Nat) (p : xH) : hOn r (rV p r) p p := ⟨fun _ _ _ => rfl, fun _ => rfl⟩
theorem rV_w {p : xH} {r k : Nat} {v : Value} (hw : hW p) (hk : k < hL r) (j : Nat) : rV (wV p r k v) r j = if j = k then v else rV p r j := by
  by_cases h : j = k
  · subst h; rw [if_pos rfl, rV_eq hw hk]
  · rw [if_neg h, rV_ne (fun _ => h)]
theorem hOn.w {r k : Nat} {f : Nat → Value} {p p1 : xH} {v : Value} (h : hOn r f p p1) (hw : hW p1) (hk : k < hL r) : hOn r (fun j => if j = k then v else f j) p (wV p1 r k v) :=
  ⟨fun r' j hr => by rw [rV_ne (fun e => absurd e hr)]; exact h.1 r' j hr, fun j => by rw [rV_w hw hk, h.2 j]⟩
theorem hOn.eq {r : Nat} {f g : Nat → Value} {p p1 : xH} (h : hOn r f p p1) (e : ∀ j, f j = g j) : hOn r g p p1 := ⟨h.1, fun j => (h.2 j).trans (e j)⟩
theorem hOn.int {r : Nat} {f : Nat → Value} {p p1 : xH} (h : hOn r f p p1) {r' j : Nat} (hr : r' ≠ r) : rI p1 r' j = rI p r' j := by unfold rI; rw [h.1 r' j hr]
theorem hOn.long {r : Nat} {f : Nat → Value} {p p1 : xH} (h : hOn r f p p1) {r' j : Nat} (hr : r' ≠ r) : rJ p1 r' j = rJ p r' j := by unfold rJ; rw [h.1 r' j hr]
theorem hSm.on {F : List (Nat × Nat)} {p p1 p2 : xH} {r : Nat} {f : Nat → Value} (h : hSm F p p1) (k : hOn r f p1 p2) (hn : ∀ j, hF F r j = false) : hSm F p p2 := fun r' j e => by
  rw [k.1 r' j (fun z => by rw [z, hn] at e; cases e)]
  exact h r' j e
theorem if_fill {a b b' i j : Nat} {u w : Value} (hi : i = b) (hb : b' = b + 1) (hab : a ≤ b) : (if j = i then u else if a ≤ j ∧ j < b then u else w) = if a ≤ j ∧ j < b' then u else w := by
  by_cases h1 : j = i
  · rw [if_pos h1, if_pos (by omega)]
  · rw [if_neg h1]
    by_cases h2 : a ≤ j ∧ j < b
    · rw [if_pos h2, if_pos (by omega)]
    · rw [if_neg h2, if_neg (by omega)]
