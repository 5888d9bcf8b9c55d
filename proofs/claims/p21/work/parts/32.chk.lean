noncomputable section
/-! checks of contracts, of calls, of two calls behind one another; what they give -/
def jia : jS → List jBx → List jV × jS
  | g, [] => ([], g)
  | g, .inl v :: bs => (.inl v :: (jia g bs).1, (jia g bs).2)
  | g, .inr b :: bs => (.inr g.1 :: (jia (jfr g (b.1, b.2.1, b.2.2, none)).2 bs).1, (jia (jfr g (b.1, b.2.1, b.2.2, none)).2 bs).2)
def jfo (G : jGt) : jS → List jOc → Option (List (List jV) × jS)
  | g, [] => some ([], g)
  | g, o :: os => match jfs G g o.2 with
    | some z => (jfo G z.2 os).map fun w => (z.1 :: w.1, w.2)
    | none => none
def jrv (g : jS) (rv : Option jV) (b : Option (Nat × Int × Int)) : Bool := match rv, b with
  | none, none => true
  | some a, some b => jin g a b.1 b.2.1 b.2.2
  | _, _ => false
def jbt : List jOc → List (List jV) → jS → Option jV → Bool
  | o :: os, e :: es, g, rv => (jrv g rv o.1 && jop2 g o.2 e) || jbt os es g rv
  | _, _, _, _ => false
def jck (cs : List jC) (c : jC) (la : List jA) (ls : List ((Nat × Nat) × Nat)) : Bool := match xM[c.1]? with
  | some q => match jfo jGG (jnf (jia (0, [], [], []) c.2.2.1).2 c.2.2.2.1 (c.2.2.2.1.map fun _ => .inl (.int 0))) c.2.2.2.2.2 with
    | some z => (c.2.2.2.1.all (fun f => !f.2.2.2) && jkw z.2 (jia (0, [], [], []) c.2.2.1).1) && jx (jGG, c.2.2.2.2.1, cs, la, ls) (jbt c.2.2.2.2.2 z.1) 100000 false c.2.1 [] [] c.1 q 0 (jlv z.2 0 (jia (0, [], [], []) c.2.2.1).1) [] z.2
    | none => false
  | none => false
theorem jia_ok {G : jGt} {p : xH} : ∀ {bs : List jBx} {vs : List Value} {w : jP} {g : jS}, jSt G w g p → jBxs bs vs → ∃ w', jLe w w' ∧ jSt G w' (jia g bs).2 p ∧ jSl w' (jia g bs).1 vs
  | [], [], w, g, h, _ => ⟨w, jLe.refl w, h, trivial⟩
  | [], _ :: _, _, _, _, k => absurd k (by simp [jBxs])
  | .inl u :: bs, [], _, _, _, k => absurd k (by simp [jBxs])
  | .inr u :: bs, [], _, _, _, k => absurd k (by simp [jBxs])
  | .inl u :: bs, v :: vs, w, g, h, k => by
    obtain ⟨w', h1, h2, h3⟩ := jia_ok h k.2
    exact ⟨w', h1, h2, k.1, h3⟩
  | .inr b :: bs, v :: vs, w, g, h, k => by
    obtain ⟨l1, l2, l3⟩ := jfr_ok h (q := (b.1, b.2.1, b.2.2, none)) k.1 trivial
    obtain ⟨w', h1, h2, h3⟩ := jia_ok l2 k.2
    exact ⟨w', l1.trans h1, h2, l3.mono h1, h3⟩
def jFo (w : jP) (p : xH) : List jOc → List (List jV) → Prop
  | [], [] => True
  | o :: os, e :: es => jFv w p o.2 e ∧ jFo w p os es
  | _, _ => False
theorem jFo.mono {w w' : jP} (h : jLe w w') {p : xH} : ∀ {os : List jOc} {es : List (List jV)}, jFo w p os es → jFo w' p os es
  | [], [], _ => trivial
  | [], _ :: _, k => absurd k (by simp [jFo])
  | _ :: _, [], k => absurd k (by simp [jFo])
  | _ :: _, _ :: _, k => ⟨k.1.mono h, k.2.mono h⟩
theorem jfo_ok {G : jGt} {p : xH} : ∀ {os : List jOc} {w : jP} {g g' : jS} {es : List (List jV)}, jSt G w g p → jfo G g os = some (es, g') → ∃ w', jLe w w' ∧ jSt G w' g' p ∧ jFo w' p os es
  | [], w, g, g', es, h, e => by cases e; exact ⟨w, jLe.refl w, h, trivial⟩
  | o :: os, w, g, g', es, h, e => by
    unfold jfo at e
    split at e
    next z hz =>
      obtain ⟨u, hu, e⟩ := xmap e
      cases e
      obtain ⟨w1, l1, l2, l3⟩ := jfs_ok (es := z.1) (g' := z.2) h hz
      obtain ⟨w2, m1, m2, m3⟩ := jfo_ok (es := u.1) (g' := u.2) l2 hu
      exact ⟨w2, l1.trans m1, m2, l3.mono m1, m3⟩
    next => cases e
theorem jPost_of {w : jP} {p p' : xH} : ∀ {fs : List jFd} {es : List jV} {vs : List Value}, jFv w p fs es → jFn w p' fs es vs → jPost p p' fs
  | [], _, _, _, _ => fun f hf => absurd hf List.not_mem_nil
  | _ :: _, [], _, k, _ => absurd k (by simp [jFv])
  | _ :: _, _ :: _, [], _, k => absurd k (by simp [jFn])
  | f :: fs, e :: es, v :: vs, k, n => by
    intro f' hf
    rcases List.mem_cons.mp hf with rfl | hf
    · obtain ⟨c0, v0, h1, h2, h3⟩ := k.1
      obtain ⟨⟨c1, n1, n2⟩, n3, n4, -⟩ := n
      refine ⟨c0, v0, c1, v, h1, h2, n1, n2, n3, fun hm => ?_⟩
      obtain ⟨u, u1, u2, u3⟩ := n4 hm
      cases u1.one h3
      exact ⟨u2, u3⟩
    · exact jPost_of k.2 n.2.2.2 f' hf
theorem jbt_ok {G : jGt} {r0 r : jP} {g : jS} {p p' : xH} {ra : Option jV} {rv : Option Value} (h : jSt G r g p') (hle : jLe r0 r) (hr : jRo r ra rv) : ∀ {os : List jOc} {es : List (List jV)}, jFo r0 p os es → jbt os es g ra = true → ∃ o ∈ os, jRb o.1 rv ∧ jPost p p' o.2
  | [], _, _, e => by cases ‹List (List jV)› <;> cases e
  | _ :: _, [], _, e => by cases e
  | o :: os, e0 :: es, k, e => by
    unfold jbt at e
    rw [Bool.or_eq_true] at e
    rcases e with e | e
    · rw [Bool.and_eq_true] at e
      obtain ⟨vs, f1, -, -⟩ := jop2_ok h hle (jFv_ex k.1) e.2
      refine ⟨o, List.mem_cons_self, ?_, jPost_of k.1 f1⟩
      have e1 := e.1
      unfold jrv at e1
      split at e1
      next hb =>
        rw [hb]
        cases rv with
        | none => trivial
        | some v => exact absurd hr (by simp [jRo])
      next a b hb =>
        rw [hb]
        cases rv with
        | none => exact absurd hr (by simp [jRo])
        | some v => exact jin_ok h.2.1 e1 hr
      next => cases e1
    · obtain ⟨o', h1, h2⟩ := jbt_ok h hle hr k.2 e
      exact ⟨o', List.mem_cons_of_mem _ h1, h2⟩
theorem jPre_fn {p : xH} : ∀ {fs : List jFd}, jPre p fs → fs.all (fun f => !f.2.2.2) = true → ∃ vs, jFn [] p fs (fs.map fun _ => .inl (.int 0)) vs
  | [], _, _ => ⟨[], trivial⟩
  | f :: fs, h, e => by
    rw [List.all_cons, Bool.and_eq_true] at e
    obtain ⟨vs, hvs⟩ := jPre_fn (fun f' hf => h f' (List.mem_cons_of_mem _ hf)) e.2
    obtain ⟨c, v, h1, h2, h3⟩ := h f List.mem_cons_self
    exact ⟨v :: vs, ⟨c, h1, h2⟩, h3, (fun hm => by have e1 := e.1; rw [hm] at e1; cases e1), hvs⟩
theorem jFn_up {w : jP} {p : xH} {fs : List jFd} {es : List jV} {vs : List Value} (h : jFn [] p fs es vs) : jFn w p fs es vs := h.mono ⟨w, rfl⟩
theorem jck_ok {ro : List (List Int32)} (hro : jro ro) {cs : List jC} {c : jC} {la : List jA} {ls : List ((Nat × Nat) × Nat)} (e : jck cs c la ls = true) (hcs : ∀ k ∈ cs, jCok ro jGG k) : jCok ro jGG c := by
  intro q hq d args p hd hG hb hp
  unfold jck at e
  rw [hq] at e
  dsimp only at e
  split at e
  next z hz =>
    rw [Bool.and_eq_true, Bool.and_eq_true] at e
    obtain ⟨⟨e1, e2⟩, e3⟩ := e
    have h0 : jSt jGG [] (0, [], [], []) p := ⟨rfl, fun q hq => absurd hq List.not_mem_nil, fun q hq => absurd hq List.not_mem_nil, fun q hq => absurd hq List.not_mem_nil, hG⟩
    obtain ⟨w1, l1, l2, l3⟩ := jia_ok h0 hb
    obtain ⟨vs, hvs⟩ := jPre_fn hp e1
    have h2 := jnf_ok l2 (jFn_up (w := w1) hvs)
    obtain ⟨w3, m1, m2, m3⟩ := jfo_ok (es := z.1) (g' := z.2) h2 hz
    have l3 := (l3.mono (⟨_, rfl⟩ : jLe w1 (w1 ++ vs.map Sum.inl))).mono m1
    obtain ⟨n, x, f1, f2⟩ := jx_ok hro (E := (jGG, c.2.2.2.2.1, cs, la, ls)) (Q := fun r p' => GH jGG p' ∧ jWf c.2.2.2.2.1 p p' ∧ ∃ o ∈ c.2.2.2.2.2, jRb o.1 r ∧ jPost p p' o.2) (p0 := p) (ri := w3) hcs
      (fun r g p' ra rv hr hs hw hro2 hbt => ⟨hs.2.2.2.2, hw, jbt_ok hs hr hro2 m3 hbt⟩) 100000 e3 (cfr := []) hd (jLe.refl w3) m2 (jLs_args m2.2.1 l3 e2) (show jSl w3 [] [] from trivial) (jWf.refl _ p) (fun hd1 hm => absurd hm List.not_mem_nil) trivial
    exact ⟨n, x.1, x.2, f1, f2.1, f2.2.1, f2.2.2⟩
  next => cases e
/-! relations of fields: equal, or no greater -/
abbrev jRl : Type := List ((Nat × Nat) × (Nat × Nat) × Bool)
def jRel (p : xH) (R : jRl) : Prop := ∀ x ∈ R, ∃ ca va cb vb, p[x.1.1]? = some ca ∧ ca.2[x.1.2]? = some va ∧ p[x.2.1.1]? = some cb ∧ cb.2[x.2.1.2]? = some vb ∧ (x.2.2 = true → va = vb) ∧ (x.2.2 = false → jk va = jk vb ∧ jz va ≤ jz vb)
/-- the relations as numbers -/
def jre (G : jGt) : jS → jRl → Option jS
  | g, [] => some g
  | g, x :: R => match jfl G g x.1.1 x.1.2 with
    | some a => bif x.2.2 then jre G (a.2.1, a.2.2.1, ((x.2.1.1, x.2.1.2), a.1) :: a.2.2.2.1, a.2.2.2.2) R
      else match jfl G a.2 x.2.1.1 x.2.1.2 with
        | some b => match jbd b.2 b.1 with
          | some q => jre G (b.2.1 + 1, (b.2.1, (q.1, q.2.1, q.2.2, some (0, a.1, .inl (.int 0)))) :: b.2.2.1, ((x.2.1.1, x.2.1.2), .inr b.2.1) :: b.2.2.2.1, b.2.2.2.2) R
          | none => none
        | none => none
    | none => none
def jrc (g : jS) (R : jRl) : Bool := R.all fun x => match jmg g.2.2.1 x.1.1 x.1.2, jmg g.2.2.1 x.2.1.1 x.2.1.2 with
  | some a, some b => bif x.2.2 then jsm g a b else jin g a 0 (-2147483648) 2147483647 && jin g b 0 (-2147483648) 2147483647 && jdl 12 g b a 0
  | _, _ => false
theorem jre_ok {G : jGt} {p : xH} : ∀ {R : jRl} {w : jP} {g g' : jS}, jSt G w g p → jRel p R → jre G g R = some g' → ∃ w', jLe w w' ∧ jSt G w' g' p
  | [], w, g, g', h, _, e => by cases e; exact ⟨w, jLe.refl w, h⟩
  | x :: R, w, g, g', h, hR, e => by
    obtain ⟨ca, va, cb, vb, r1, r2, r3, r4, r5, r6⟩ := hR x List.mem_cons_self
    have hR2 : jRel p R := fun y hy => hR y (List.mem_cons_of_mem _ hy)
    unfold jre at e
    split at e
    next a ha =>
      obtain ⟨c, v, w1, c1, c2, l1, l2, l3⟩ := jfl_ok (a := a.1) (g' := a.2) h ha
      rw [r1] at c1
      cases c1
      rw [r2] at c2
      cases c2
      cases hb : x.2.2 with
      | true =>
        rw [hb, cond_true] at e
        have h2 : jSt G w1 (a.2.1, a.2.2.1, ((x.2.1.1, x.2.1.2), a.1) :: a.2.2.2.1, a.2.2.2.2) p := by
          refine ⟨l2.1, l2.2.1, fun q hq => ?_, l2.2.2.2.1, l2.2.2.2.2⟩
          rcases List.mem_cons.mp hq with rfl | hq
          · exact ⟨cb, vb, r3, r4, by rw [← r5 hb]; exact l3⟩
          · exact l2.2.2.1 q hq
        obtain ⟨w2, m1, m2⟩ := jre_ok h2 hR2 e
        exact ⟨w2, l1.trans m1, m2⟩
      | false =>
        rw [hb, cond_false] at e
        split at e
        next b hb2 =>
          obtain ⟨c', v', w2, c3, c4, m1, m2, m3⟩ := jfl_ok (a := b.1) (g' := b.2) l2 hb2
          rw [r3] at c3
          cases c3
          rw [r4] at c4
          cases c4
          split at e
          next q hq =>
            have hI := jbd_ok m2.2.1 hq m3
            obtain ⟨n1, n2, n3⟩ := m2.put1 (r := x.2.1.1) (k := x.2.1.2) r3 r4 (q := (q.1, q.2.1, q.2.2, some (0, a.1, .inl (.int 0)))) hI ⟨va, .int 0, l3.mono m1, rfl, fun _ => r6 hb, fun z => absurd rfl z⟩
            obtain ⟨w3, o1, o2⟩ := jre_ok n2 hR2 e
            exact ⟨w3, ((l1.trans m1).trans n1).trans o1, o2⟩
          next => cases e
        next => cases e
    next => cases e
theorem jrc_ok {G : jGt} {w : jP} {g : jS} {p : xH} {R : jRl} (h : jSt G w g p) (e : jrc g R = true) : jRel p R := by
  intro x hx
  have e1 := List.all_eq_true.mp e x hx
  split at e1
  next a b ha hb =>
    obtain ⟨ca, va, a1, a2, a3⟩ := h.2.2.1 _ (jmg_ok ha)
    obtain ⟨cb, vb, b1, b2, b3⟩ := h.2.2.1 _ (jmg_ok hb)
    refine ⟨ca, va, cb, vb, a1, a2, b1, b2, fun hq => ?_, fun hq => ?_⟩
    · rw [hq, cond_true] at e1
      exact jsm_ok h.2.1 e1 a3 b3
    · rw [hq, cond_false, Bool.and_eq_true, Bool.and_eq_true] at e1
      obtain ⟨⟨e2, e3⟩, e4⟩ := e1
      refine ⟨(jin_ok h.2.1 e2 a3).1.trans (jin_ok h.2.1 e3 b3).1.symm, ?_⟩
      have := jdl_ok h.2.1 12 b3 a3 e4
      omega
  next => cases e1
/-- what holds ahead of every call: bounds and relations -/
def jInv (R : jRl) (p : xH) : Prop := GH jGG p ∧ jRel p R
/-- one call that keeps the relations; what it answers is of kind k -/
abbrev jW0 : List (Nat × Nat) := (List.range 128).map fun r => (r, 9999)
def jci (R : jRl) (cs : List jC) (m D : Nat) (bs : List jBx) (k : Nat) (la : List jA) (ls : List ((Nat × Nat) × Nat)) : Bool := match xM[m]? with
  | some q => match jre jGG (jia (0, [], [], []) bs).2 R with
    | some g => jkw g (jia (0, [], [], []) bs).1 && jx (jGG, jW0, cs, la, ls) (fun g rv => jrv g rv (some (k, -9223372036854775808, 9223372036854775807)) && jrc g R) 100000 false D [] [] m q 0 (jlv g 0 (jia (0, [], [], []) bs).1) [] g
    | none => false
  | none => false
theorem jci_ok {ro : List (List Int32)} (hro : jro ro) {R : jRl} {cs : List jC} {m D k : Nat} {bs : List jBx} {la : List jA} {ls : List ((Nat × Nat) × Nat)} (e : jci R cs m D bs k la ls = true) (hcs : ∀ k ∈ cs, jCok ro jGG k) {q : xQ} (hq : xM[m]? = some q) {d : Nat} {args : List Value} {p : xH} (hd : D ≤ d) (hp : jInv R p) (hb : jBxs bs args) :
    ∃ n v p', ev ro n d q 0 (lv_args 0 args) [] p = some (some v, p') ∧ jInv R p' ∧ jk v = k ∧ (p'.map fun c => (c.1, c.2.length)) = (p.map fun c => (c.1, c.2.length)) := by
  unfold jci at e
  rw [hq] at e
  dsimp only at e
  split at e
  next g hg =>
    rw [Bool.and_eq_true] at e
    obtain ⟨e2, e3⟩ := e
    have h0 : jSt jGG [] (0, [], [], []) p := ⟨rfl, fun q hq => absurd hq List.not_mem_nil, fun q hq => absurd hq List.not_mem_nil, fun q hq => absurd hq List.not_mem_nil, hp.1⟩
    obtain ⟨w1, l1, l2, l3⟩ := jia_ok h0 hb
    obtain ⟨w2, m1, m2⟩ := jre_ok l2 hp.2 hg
    obtain ⟨n, x, f1, f2⟩ := jx_ok hro (E := (jGG, jW0, cs, la, ls)) (Q := fun r p' => ∃ v, r = some v ∧ jInv R p' ∧ jk v = k ∧ (p'.map fun c => (c.1, c.2.length)) = (p.map fun c => (c.1, c.2.length))) (p0 := p) (ri := w2) hcs
      (fun r g p' ra rv hr hs hw hro2 hbt => by
        rw [Bool.and_eq_true] at hbt
        obtain ⟨b1, b2⟩ := hbt
        unfold jrv at b1
        split at b1
        next h1 => cases h1
        next a b h1 =>
          cases h1
          cases rv with
          | none => exact absurd hro2 (by simp [jRo])
          | some v => exact ⟨v, rfl, ⟨hs.2.2.2.2, jrc_ok hs b2⟩, (jin_ok hs.2.1 b1 hro2).1, hw.1⟩
        next => cases b1) 100000 e3 (cfr := []) hd (jLe.refl w2) m2 (jLs_args m2.2.1 (l3.mono m1) e2) (show jSl w2 [] [] from trivial) (jWf.refl _ p) (fun hd1 hm => absurd hm List.not_mem_nil) trivial
    obtain ⟨v, f3, f4⟩ := f2
    exact ⟨n, v, x.2, by rw [f1]; exact congrArg some (Prod.ext f3 rfl), f4⟩
  next => cases e
theorem jok_inv {ro : List (List Int32)} {R : jRl} {c : jC} (h : jCok ro jGG c) {k : Nat} (hR : (R.all fun x => !jw c.2.2.2.2.1 x.1.1 x.1.2 && !jw c.2.2.2.2.1 x.2.1.1 x.2.1.2) = true) (hk : (c.2.2.2.2.2.all fun o => match o.1 with | some b => Nat.beq b.1 k | none => false) = true) (hpre : c.2.2.2.1 = []) {q : xQ} (hq : xM[c.1]? = some q) {d : Nat} {args : List Value} {p : xH} (hd : c.2.1 ≤ d) (hp : jInv R p) (hb : jBxs c.2.2.1 args) :
    ∃ n v p', ev ro n d q 0 (lv_args 0 args) [] p = some (some v, p') ∧ jInv R p' ∧ jk v = k ∧ (p'.map fun c => (c.1, c.2.length)) = (p.map fun c => (c.1, c.2.length)) := by
  obtain ⟨n, r, p', e1, e2, e3, o, e4, e5, -⟩ := h q hq d args p hd hp.1 hb (fun f hf => by rw [hpre] at hf; exact absurd hf List.not_mem_nil)
  have h1 := List.all_eq_true.mp hk o e4
  split at h1
  next b ho =>
    rw [ho] at e5
    cases r with
    | none => exact absurd e5 (by simp [jRb])
    | some v =>
      have e5 : jI b.1 b.2.1 b.2.2 v := e5
      refine ⟨n, v, p', e1, ⟨e2, fun x hx => ?_⟩, e5.1.trans (Nat.eq_of_beq_eq_true h1), e3.1⟩
      obtain ⟨ca, va, cb, vb, a1, a2, a3, a4, a5, a6⟩ := hp.2 x hx
      have h2 := List.all_eq_true.mp hR x hx
      rw [Bool.and_eq_true, Bool.not_eq_true', Bool.not_eq_true'] at h2
      have cell : ∀ {r : Nat} {c : xE}, p[r]? = some c → ∃ c', p'[r]? = some c' := fun {r c} hc => by
        have h1 : (p'.map fun c => (c.1, c.2.length))[r]? = (p.map fun c => (c.1, c.2.length))[r]? := by rw [e3.1]
        rw [List.getElem?_map, List.getElem?_map, hc] at h1
        cases h2 : p'[r]? with
        | none => rw [h2] at h1; cases h1
        | some c' => exact ⟨c', rfl⟩
      obtain ⟨ca', b1⟩ := cell a1
      obtain ⟨cb', b2⟩ := cell a3
      exact ⟨ca', va, cb', vb, b1, by rw [e3.2 _ _ _ _ a1 b1 h2.1]; exact a2, b2, by rw [e3.2 _ _ _ _ a3 b2 h2.2]; exact a4, a5, a6⟩
  next => cases h1
/-- two calls with the same arguments behind one another; c: their answers are compared -/
def jcj (R : jRl) (cs : List jC) (m1 m2 D : Nat) (u1 u2 : Value) (bs : List jBx) (k : Nat) (c : Bool) (la1 : List jA) (la2 : List jA) (ls : List ((Nat × Nat) × Nat)) : Bool := match xM[m1]?, xM[m2]? with
  | some q1, some q2 => match jre jGG (jia (0, [], [], []) bs).2 R with
    | some g => jkw g (jia (0, [], [], []) bs).1 && jx (jGG, jW0, cs, la1, ls) (fun g rv => match rv with
        | some a => jin g a k (-9223372036854775808) 9223372036854775807 && jkw g (jia (0, [], [], []) bs).1 && jx (jGG, jW0, cs, la2, ls) (fun g rv => match rv with
          | some b => jin g b k (-9223372036854775808) 9223372036854775807 && (!c || jsm g a b) && jrc g R
          | none => false) 100000 false D [] [] m2 q2 0 (jlv g 0 (.inl u2 :: (jia (0, [], [], []) bs).1)) [] g
        | none => false) 100000 false D [] [] m1 q1 0 (jlv g 0 (.inl u1 :: (jia (0, [], [], []) bs).1)) [] g
    | none => false
  | _, _ => false
theorem jcj_ok {ro : List (List Int32)} (hro : jro ro) {R : jRl} {cs : List jC} {m1 m2 D k : Nat} {u1 u2 : Value} {c : Bool} {bs : List jBx} {la1 la2 : List jA} {ls : List ((Nat × Nat) × Nat)} (e : jcj R cs m1 m2 D u1 u2 bs k c la1 la2 ls = true) (hcs : ∀ k ∈ cs, jCok ro jGG k) {q1 q2 : xQ} (hq1 : xM[m1]? = some q1) (hq2 : xM[m2]? = some q2) {d : Nat} {args : List Value} {p : xH} (hd : D ≤ d) (hp : jInv R p) (hb : jBxs bs args) :
    ∃ n1 v1 p1 n2 v2 p2, ev ro n1 d q1 0 (lv_args 0 (u1 :: args)) [] p = some (some v1, p1) ∧ ev ro n2 d q2 0 (lv_args 0 (u2 :: args)) [] p1 = some (some v2, p2) ∧ jInv R p2 ∧ jk v1 = k ∧ jk v2 = k ∧ (c = true → v1 = v2) ∧ (p2.map fun c => (c.1, c.2.length)) = (p.map fun c => (c.1, c.2.length)) := by
  unfold jcj at e
  rw [hq1, hq2] at e
  dsimp only at e
  split at e
  next g hg =>
    rw [Bool.and_eq_true] at e
    obtain ⟨e2, e3⟩ := e
    have h0 : jSt jGG [] (0, [], [], []) p := ⟨rfl, fun q hq => absurd hq List.not_mem_nil, fun q hq => absurd hq List.not_mem_nil, fun q hq => absurd hq List.not_mem_nil, hp.1⟩
    obtain ⟨w1, l1, l2, l3⟩ := jia_ok h0 hb
    obtain ⟨w2, n1, n2⟩ := jre_ok l2 hp.2 hg
    have l3 := l3.mono n1
    have hk : ∀ {g : jS} {l : List jV} {u : Value}, jkw g l = true → jkw g (.inl u :: l) = true := fun {g l u} h => by
      unfold jkw at h ⊢
      rw [List.all_cons, h]; rfl
    obtain ⟨n, x, f1, f2⟩ := jx_ok hro (E := (jGG, jW0, cs, la1, ls)) (Q := fun r p1 => ∃ v1, r = some v1 ∧ jk v1 = k ∧ ∃ n2 v2 p2, ev ro n2 d q2 0 (lv_args 0 (u2 :: args)) [] p1 = some (some v2, p2) ∧ jInv R p2 ∧ jk v2 = k ∧ (c = true → v1 = v2) ∧ (p2.map fun c => (c.1, c.2.length)) = (p.map fun c => (c.1, c.2.length))) (p0 := p) (ri := w2) hcs
      (fun r g p1 ra rv hr hs hw hro2 hbt => by
        split at hbt
        next a =>
          rw [Bool.and_eq_true, Bool.and_eq_true] at hbt
          obtain ⟨⟨b1, b2⟩, b3⟩ := hbt
          cases rv with
          | none => exact absurd hro2 (by simp [jRo])
          | some v1 =>
            refine ⟨v1, rfl, (jin_ok hs.2.1 b1 hro2).1, ?_⟩
            obtain ⟨n2, x2, g1, g2⟩ := jx_ok hro (E := (jGG, jW0, cs, la2, ls)) (Q := fun r2 p2 => ∃ v2, r2 = some v2 ∧ jInv R p2 ∧ jk v2 = k ∧ (c = true → v1 = v2) ∧ (p2.map fun c => (c.1, c.2.length)) = (p.map fun c => (c.1, c.2.length))) (p0 := p1) (ri := r) hcs
              (fun r2 gg p2 ra2 rv2 hr2 hs2 hw2 hro3 hbt2 => by
                split at hbt2
                next b =>
                  rw [Bool.and_eq_true, Bool.and_eq_true] at hbt2
                  obtain ⟨⟨t1, t2⟩, t3⟩ := hbt2
                  cases rv2 with
                  | none => exact absurd hro3 (by simp [jRo])
                  | some v2 =>
                    refine ⟨v2, rfl, ⟨hs2.2.2.2.2, jrc_ok hs2 t3⟩, (jin_ok hs2.2.1 t1 hro3).1, fun hc => ?_, hw2.1.trans hw.1⟩
                    rw [hc] at t2
                    exact jsm_ok hs2.2.1 t2 (show jR r2 a v1 from jR.mono hr2 hro2) hro3
                next => cases hbt2) 100000 b3 (cfr := []) hd (jLe.refl r) hs (jLs_args hs.2.1 (show jSl r (.inl u2 :: _) (u2 :: args) from ⟨rfl, l3.mono hr⟩) (hk b2)) (show jSl r [] [] from trivial) (jWf.refl _ p1) (fun hd1 hm => absurd hm List.not_mem_nil) trivial
            obtain ⟨v2, g3, g4⟩ := g2
            exact ⟨n2, v2, x2.2, by rw [g1]; exact congrArg some (Prod.ext g3 rfl), g4⟩
        next => cases hbt) 100000 e3 (cfr := []) hd (jLe.refl w2) n2 (jLs_args n2.2.1 (show jSl w2 (.inl u1 :: _) (u1 :: args) from ⟨rfl, l3⟩) (hk e2)) (show jSl w2 [] [] from trivial) (jWf.refl _ p) (fun hd1 hm => absurd hm List.not_mem_nil) trivial
    obtain ⟨v1, f3, f4, n2, v2, p2, f5, f6⟩ := f2
    exact ⟨n, v1, x.2, n2, v2, p2, by rw [f1]; exact congrArg some (Prod.ext f3 rfl), f5, f6.1, f4, f6.2.1, f6.2.2.1, f6.2.2.2⟩
  next => cases e
end
