noncomputable section
/-! the bounded machine is sound: open loops, contracts -/
def jLn (ls : xL) : List (Nat × Int × Int) → List Value → Prop
  | [], [] => True
  | q :: l, v :: vs => xfd ls q.1 = some v ∧ jI 0 q.2.1 q.2.2 v ∧ jLn ls l vs
  | _, _ => False
theorem jLn_mk {ls : xL} : ∀ {L : List (Nat × Int × Int)}, (∀ q ∈ L, ∃ v, xfd ls q.1 = some v ∧ jI 0 q.2.1 q.2.2 v) → ∃ vs, jLn ls L vs
  | [], _ => ⟨[], trivial⟩
  | q :: l, h => by
    obtain ⟨v, h1, h2⟩ := h q List.mem_cons_self
    obtain ⟨vs, hs⟩ := jLn_mk (L := l) (fun q' hq => h q' (List.mem_cons_of_mem _ hq))
    exact ⟨v :: vs, h1, h2, hs⟩
theorem jLn_len {ls : xL} : ∀ {L : List (Nat × Int × Int)} {vs : List Value}, jLn ls L vs → vs.length = L.length
  | [], [], _ => rfl
  | [], _ :: _, h => absurd h (by simp [jLn])
  | _ :: _, [], h => absurd h (by simp [jLn])
  | q :: l, v :: vs, h => by simp [jLn_len h.2.2]
theorem jLn_get {ls : xL} : ∀ {L : List (Nat × Int × Int)} {vs : List Value} {k : Nat} {q : Nat × Int × Int}, jLn ls L vs → L[k]? = some q → ∃ v, vs[k]? = some v ∧ xfd ls q.1 = some v
  | [], [], k, q, _, e => by simp at e
  | [], _ :: _, _, _, h, _ => absurd h (by simp [jLn])
  | _ :: _, [], _, _, h, _ => absurd h (by simp [jLn])
  | q0 :: l, v :: vs, 0, q, h, e => by
    simp only [List.getElem?_cons_zero, Option.some.injEq] at e
    subst e
    exact ⟨v, rfl, h.1⟩
  | q0 :: l, v :: vs, k + 1, q, h, e => by
    simp only [List.getElem?_cons_succ] at e
    obtain ⟨u, u1, u2⟩ := jLn_get h.2.2 e
    exact ⟨u, u1, u2⟩
theorem jht_ok {ls : xL} : ∀ {L : List (Nat × Int × Int)} {vs : List Value} {w : jP} {tb : jTb}, jT w tb → jLn ls L vs → jT (w ++ vs.map Sum.inl) (jht w.length L ++ tb) ∧ jLs (w ++ vs.map Sum.inl) (jhl w.length L) ls
  | [], [], w, tb, h, _ => by
    refine ⟨by simpa [jht] using h, fun q hq => absurd hq List.not_mem_nil⟩
  | [], _ :: _, _, _, _, k => absurd k (by simp [jLn])
  | _ :: _, [], _, _, _, k => absurd k (by simp [jLn])
  | q :: l, v :: vs, w, tb, h, k => by
    obtain ⟨k1, k2, k3⟩ := k
    have hl : jLe w (w ++ [Sum.inl v]) := ⟨_, rfl⟩
    have hv : (w ++ [Sum.inl v])[w.length]? = some (Sum.inl v) := by simp
    obtain ⟨i1, i2⟩ := jht_ok (w := w ++ [Sum.inl v]) (h.mono hl) k3
    rw [List.length_append, List.length_singleton] at i1 i2
    have hap : w ++ (v :: vs).map Sum.inl = (w ++ [Sum.inl v]) ++ vs.map Sum.inl := by simp
    rw [hap]
    have hl2 : jLe (w ++ [Sum.inl v]) ((w ++ [Sum.inl v]) ++ vs.map Sum.inl) := ⟨_, rfl⟩
    refine ⟨fun e he => ?_, fun e he => ?_⟩
    · rcases List.mem_cons.mp he with rfl | he
      · exact ⟨v, hl2.get hv, k2, trivial⟩
      · exact i1 e he
    · rcases List.mem_cons.mp he with rfl | he
      · exact ⟨v, k1, hl2.get hv⟩
      · exact i2 e he
def jBase (r0 : jP) (d : jHd) : Prop := d.2.1 = r0.length ∧ jT r0 d.2.2.1 ∧ (∀ q ∈ d.2.2.2.1, ∃ u, jR r0 q.2 u) ∧ (∀ e ∈ d.2.2.2.2.1.1, ∃ u, jR r0 e.2 u) ∧ (∀ e ∈ d.2.2.2.2.1.2, (∃ u, jR r0 e.2 u) ∧ ∃ j : Int32, r0[e.1.2]? = some (.inl (.int j))) ∧ (∀ e ∈ d.2.2.2.2.2.2.2.1, ∃ u, jR r0 e u)
theorem jop2_ok {G : jGt} {r0 r1 : jP} {g : jS} {p : xH} (h : jSt G r1 g p) (hle : jLe r0 r1) : ∀ {fs : List jFd} {es : List jV}, (∀ e ∈ es, ∃ u, jR r0 e u) → jop2 g fs es = true → ∃ vs, jFn r0 p fs es vs ∧ vs.length = fs.length ∧ ∀ (k : Nat) (f : jFd), fs[k]? = some f → ∃ a v, jmg g.2.2.1 f.1.1 f.1.2 = some a ∧ jR r1 a v ∧ vs[k]? = some v
  | [], [], _, _ => ⟨[], trivial, rfl, fun k f e => by simp at e⟩
  | [], _ :: _, _, e => by cases e
  | _ :: _, [], _, e => by cases e
  | f :: fs, a0 :: es, hu, e => by
    unfold jop2 at e
    rw [Bool.and_eq_true] at e
    obtain ⟨vs, k1, k0, k2⟩ := jop2_ok h hle (fun x hx => hu x (List.mem_cons_of_mem _ hx)) e.2
    have e1 := e.1
    split at e1
    next a ha =>
      rw [Bool.and_eq_true] at e1
      obtain ⟨c, v, c1, c2, c3⟩ := h.2.2.1 _ (jmg_ok ha)
      have hI := jin_ok h.2.1 e1.1 c3
      obtain ⟨u, hu1⟩ := hu a0 List.mem_cons_self
      refine ⟨v :: vs, ⟨⟨c, c1, c2⟩, hI, fun hm => ?_, k1⟩, by simp [k0], fun k f' hf => ?_⟩
      · have e2 := e1.2
        rw [hm] at e2
        simp only [Bool.not_true, Bool.false_or, Bool.and_eq_true] at e2
        have hu2 := hu1.mono hle
        refine ⟨u, hu1, (jin_ok h.2.1 e2.1 hu2).1.trans hI.1.symm, ?_⟩
        have := jdl_ok h.2.1 12 c3 hu2 e2.2
        omega
      · cases k with
        | zero =>
          simp only [List.getElem?_cons_zero, Option.some.injEq] at hf
          subst hf
          exact ⟨a, v, ha, c3, rfl⟩
        | succ k =>
          simp only [List.getElem?_cons_succ] at hf ⊢
          exact k2 k f' hf
    next => cases e1
theorem jsm_ok {r1 : jP} {g : jS} (h : jT r1 g.2.1) {a b : jV} {x u : Value} (e : jsm g a b = true) (hx : jR r1 a x) (hu : jR r1 b u) : x = u := by
  have e := jve_ok e
  have h1 := jnm_ok h hx
  rw [e] at h1
  exact h1.one (jnm_ok h hu)
theorem jfit_ok {G : jGt} {r0 r1 : jP} {d : jHd} {g : jS} {als : jL} {ls : xL} {p : xH} (hB : jBase r0 d) (hle : jLe r0 r1) (h : jSt G r1 g p) (hl : jLs r1 als ls) (e : jfit d g als = true) :
    ∃ vs : List Value, jSt G (r0 ++ vs.map Sum.inl) (jhs d) p ∧ jLs (r0 ++ vs.map Sum.inl) (jhv d) ls ∧ (∀ a, jcv d g als = some a → ∃ x, jR r1 a x ∧ (r0 ++ vs.map Sum.inl)[d.2.1 + d.2.2.2.2.2.2.2.2.2]? = some (.inl x)) := by
  obtain ⟨b1, b2, b3, b4, b5, b6⟩ := hB
  unfold jfit at e
  rw [Bool.and_eq_true] at e
  obtain ⟨e1, e2⟩ := e
  unfold jop1 at e1
  simp only [Bool.and_eq_true, List.all_eq_true] at e1
  obtain ⟨⟨⟨e3, e4⟩, e5⟩, e6⟩ := e1
  obtain ⟨lv, hlv⟩ := jLn_mk (ls := ls) (L := d.2.2.2.2.2.1) (fun q hq => by
    have e7 := e3 q hq
    split at e7
    next a ha =>
      obtain ⟨v, v1, v2⟩ := hl _ (xfd_in ha)
      exact ⟨v, v1, jin_ok h.2.1 e7 v2⟩
    next => cases e7)
  obtain ⟨fv, f1, f0, f2⟩ := jop2_ok h hle b6 e2
  have hLe : jLe r0 (r0 ++ lv.map Sum.inl) := ⟨_, rfl⟩
  obtain ⟨t1, t2⟩ := jht_ok (tb := d.2.2.1) b2 hlv
  have hbase : jSt G (r0 ++ lv.map Sum.inl) (d.2.1 + d.2.2.2.2.2.1.length, jht d.2.1 d.2.2.2.2.2.1 ++ d.2.2.1, d.2.2.2.2.1.1, d.2.2.2.2.1.2) p := by
    refine ⟨?_, by rw [b1]; exact t1, fun q hq => ?_, fun q hq => ?_, h.2.2.2.2⟩
    · show d.2.1 + d.2.2.2.2.2.1.length = _
      rw [List.length_append, List.length_map, jLn_len hlv, b1]
    · obtain ⟨u, hu⟩ := b4 q hq
      have e7 := e5 q hq
      split at e7
      next a ha =>
        obtain ⟨c, v, c1, c2, c3⟩ := h.2.2.1 _ (jmg_ok ha)
        have := jsm_ok h.2.1 e7 c3 (hu.mono hle)
        subst this
        exact ⟨c, v, c1, c2, hu.mono hLe⟩
      next => cases e7
    · obtain ⟨⟨u, hu⟩, j0, hj0⟩ := b5 q hq
      have e7 := e6 q hq
      split at e7
      next a ha =>
        obtain ⟨c, j, v, c1, c2, c3, c4, c5⟩ := h.2.2.2.1 _ (jmg_ok ha)
        have := jsm_ok h.2.1 e7 c5 (hu.mono hle)
        subst this
        have c2 : r1[q.1.2]? = some (.inl (.int j)) := c2
        rw [hle.get hj0] at c2
        cases c2
        exact ⟨c, _, v, c1, hLe.get hj0, c3, c4, hu.mono hLe⟩
      next => cases e7
  have hnf := jnf_ok hbase (f1.mono hLe)
  have hap : (r0 ++ lv.map Sum.inl) ++ fv.map Sum.inl = r0 ++ (lv ++ fv).map Sum.inl := by simp
  rw [hap] at hnf
  have hLe2 : jLe (r0 ++ lv.map Sum.inl) (r0 ++ (lv ++ fv).map Sum.inl) := ⟨fv.map Sum.inl, hap.symm⟩
  refine ⟨lv ++ fv, hnf, fun q hq => ?_, fun a ha => ?_⟩
  · rcases List.mem_append.mp hq with hq | hq
    · rw [b1] at hq
      exact (t2.mono hLe2) q hq
    · obtain ⟨u, hu⟩ := b3 q hq
      have e7 := e4 q hq
      split at e7
      next a ha =>
        obtain ⟨v, v1, v2⟩ := hl _ (xfd_in ha)
        have := jsm_ok h.2.1 e7 v2 (hu.mono hle)
        subst this
        exact ⟨v, v1, hu.mono (hLe.trans hLe2)⟩
      next => cases e7
  · have hidx : ∀ k : Nat, (r0 ++ (lv ++ fv).map Sum.inl)[d.2.1 + k]? = ((lv ++ fv)[k]?).map Sum.inl := fun k => by
      rw [List.getElem?_append_right (by rw [b1]; omega), b1, Nat.add_sub_cancel_left, List.getElem?_map]
    rw [hidx]
    unfold jcv at ha
    split at ha
    next q hq =>
      obtain ⟨v, v1, v2⟩ := jLn_get hlv hq
      obtain ⟨v', v3, v4⟩ := hl _ (xfd_in ha)
      rw [v2] at v3
      cases v3
      refine ⟨v, v4, ?_⟩
      rw [List.getElem?_append_left (List.getElem?_eq_some_iff.mp v1).1, v1]
      rfl
    next hq =>
      have hge : lv.length ≤ d.2.2.2.2.2.2.2.2.2 := by
        rw [jLn_len hlv]
        exact List.getElem?_eq_none_iff.mp hq
      split at ha
      next f hf =>
        obtain ⟨a', v, v1, v2, v3⟩ := f2 _ f hf
        rw [ha] at v1
        cases v1
        refine ⟨v, v2, ?_⟩
        rw [List.getElem?_append_right hge, jLn_len hlv, v3]
        rfl
      next => cases ha
theorem jms_ok {r1 : jP} {d : jHd} {g : jS} {als : jL} (h : jT r1 g.2.1) (e : jms d g als = true) {z : Value} (hz : r1[d.2.1 + d.2.2.2.2.2.2.2.2.2]? = some (.inl z)) : ∃ a, jcv d g als = some a ∧ ∀ x, jR r1 a x → (d.2.2.2.2.2.2.2.2.1 = true → jz z < jz x) ∧ (d.2.2.2.2.2.2.2.2.1 = false → jz x < jz z) := by
  unfold jms at e
  split at e
  next a ha =>
    refine ⟨a, ha, fun x hx => ⟨fun hup => ?_, fun hup => ?_⟩⟩
    · rw [hup, cond_true] at e
      have := jdl_ok h 12 hx (show jR r1 (.inr (d.2.1 + d.2.2.2.2.2.2.2.2.2)) z from hz) e
      omega
    · rw [hup, cond_false] at e
      have := jdu_ok h 12 hx (show jR r1 (.inr (d.2.1 + d.2.2.2.2.2.2.2.2.2)) z from hz) e
      omega
  next => cases e
theorem jFv_ex {r : jP} {p : xH} : ∀ {fs : List jFd} {es : List jV}, jFv r p fs es → ∀ e ∈ es, ∃ u, jR r e u
  | [], [], _, e, h => absurd h List.not_mem_nil
  | [], _ :: _, k, _, _ => absurd k (by simp [jFv])
  | _ :: _, [], k, _, _ => absurd k (by simp [jFv])
  | f :: fs, a :: es, k, e, h => by
    rcases List.mem_cons.mp h with rfl | h
    · obtain ⟨c, v, -, -, h3⟩ := k.1
      exact ⟨v, h3⟩
    · exact jFv_ex k.2 e h
theorem jen_ok {G : jGt} {r : jP} {A : jA} {g : jS} {als : jL} {ls : xL} {p : xH} {z : jHd × jS} (h : jSt G r g p) (hl : jLs r als ls) (e : jen G A g als = some z) : z.1.1 = A.1.2 ∧ ∃ r0, jLe r r0 ∧ jSt G r0 z.2 p ∧ jBase r0 z.1 := by
  unfold jen at e
  split at e
  next y hy =>
    cases e
    obtain ⟨r0, l1, l2, l3⟩ := jfs_ok h hy
    refine ⟨rfl, r0, l1, l2, l2.1, l2.2.1, fun q hq => ?_, fun q hq => ?_, fun q hq => ?_, jFv_ex l3⟩
    · obtain ⟨m1, -⟩ := List.mem_filter.mp hq
      obtain ⟨v, -, v2⟩ := hl q m1
      exact ⟨v, v2.mono l1⟩
    · obtain ⟨m1, -⟩ := List.mem_filter.mp hq
      obtain ⟨c, v, -, -, h3⟩ := l2.2.2.1 q m1
      exact ⟨v, h3⟩
    · obtain ⟨m1, -⟩ := List.mem_filter.mp hq
      obtain ⟨c, j, v, -, h2, -, -, h5⟩ := l2.2.2.2.1 q m1
      exact ⟨⟨v, h5⟩, j, h2⟩
  next => cases e
/-! contracts -/
def jBxs : List jBx → List Value → Prop
  | [], [] => True
  | .inl u :: bs, v :: vs => v = u ∧ jBxs bs vs
  | .inr b :: bs, v :: vs => jI b.1 b.2.1 b.2.2 v ∧ jBxs bs vs
  | _, _ => False
def jPre (p : xH) (fs : List jFd) : Prop := ∀ f ∈ fs, ∃ c v, p[f.1.1]? = some c ∧ c.2[f.1.2]? = some v ∧ jI 0 f.2.1 f.2.2.1 v
def jRb : Option (Nat × Int × Int) → Option Value → Prop
  | none, none => True
  | some b, some v => jI b.1 b.2.1 b.2.2 v
  | _, _ => False
def jPost (p p' : xH) (fs : List jFd) : Prop := ∀ f ∈ fs, ∃ c0 v0 c1 v1, p[f.1.1]? = some c0 ∧ c0.2[f.1.2]? = some v0 ∧ p'[f.1.1]? = some c1 ∧ c1.2[f.1.2]? = some v1 ∧ jI 0 f.2.1 f.2.2.1 v1 ∧ (f.2.2.2 = true → jk v0 = jk v1 ∧ jz v0 ≤ jz v1)
def jCok (ro : List (List Int32)) (G : jGt) (c : jC) : Prop := ∀ q, xM[c.1]? = some q → ∀ (d : Nat) (args : List Value) (p : xH), c.2.1 ≤ d → GH G p → jBxs c.2.2.1 args → jPre p c.2.2.2.1 →
  ∃ n r p', ev ro n d q 0 (lv_args 0 args) [] p = some (r, p') ∧ GH G p' ∧ jWf c.2.2.2.2.1 p p' ∧ ∃ o ∈ c.2.2.2.2.2, jRb o.1 r ∧ jPost p p' o.2
theorem jab_ok {r : jP} {g : jS} (h : jT r g.2.1) : ∀ {as : List jV} {bs : List jBx} {vs : List Value}, jab g as bs = true → jSl r as vs → jBxs bs vs
  | [], [], [], _, _ => trivial
  | [], [], _ :: _, _, k => absurd k (by simp [jSl])
  | [], b :: bs, _, e, _ => by cases b <;> cases e
  | _ :: _, [], _, e, _ => by cases e
  | _ :: _, _ :: _, [], _, k => absurd k (by simp [jSl])
  | a :: as, .inl u :: bs, v :: vs, e, k => by
    unfold jab at e
    rw [Bool.and_eq_true] at e
    have := jve_ok e.1
    subst this
    exact ⟨k.1, jab_ok h e.2 k.2⟩
  | a :: as, .inr b :: bs, v :: vs, e, k => by
    unfold jab at e
    rw [Bool.and_eq_true] at e
    exact ⟨jin_ok h e.1 k.1, jab_ok h e.2 k.2⟩
theorem jfb_ok {G : jGt} {r : jP} {g : jS} {p : xH} (h : jSt G r g p) {c k : Nat} {lo hi : Int} (e : jfb G g c k lo hi = true) : ∃ cc v, p[c]? = some cc ∧ cc.2[k]? = some v ∧ jI 0 lo hi v := by
  unfold jfb at e
  split at e
  next a ha =>
    obtain ⟨cc, v, c1, c2, c3⟩ := h.2.2.1 _ (jmg_ok ha)
    exact ⟨cc, v, c1, c2, jin_ok h.2.1 e c3⟩
  next =>
    split at e
    next t fs hg =>
      obtain ⟨cc, hc, hok⟩ := h.2.2.2.2 _ _ hg
      have hc2 : cc.2.length = fs.length ∧ ∀ (k : Nat) (b : Value ⊕ (Int × Int)), fs[k]? = some b → ∃ v, cc.2[k]? = some v ∧ gFd b v := hok.2
      split at e
      next b hf =>
        obtain ⟨v, hv, hi'⟩ := hc2.2 _ _ hf
        have hi' : jI 0 b.1 b.2 v := hi'
        simp only [Bool.and_eq_true, decide_eq_true_eq] at e
        exact ⟨cc, v, hc, hv, hi'.1, by have := hi'.2.1; omega, by have := hi'.2.2; omega⟩
      next => cases e
    next => cases e
theorem jcf_ok {G : jGt} {r : jP} {g : jS} {p : xH} {y : Nat} {as : List jV} {vs : List Value} (h : jSt G r g p) (hs : jSl r as vs) : ∀ {cs : List jC} {c : jC}, jcf G g y as cs = some c → c ∈ cs ∧ c.1 = y ∧ jBxs c.2.2.1 vs ∧ jPre p c.2.2.2.1
  | [], c, e => by cases e
  | c0 :: cs, c, e => by
    unfold jcf at e
    cases hb : (Nat.beq c0.1 y && jab g as c0.2.2.1 && c0.2.2.2.1.all (fun f => jfb G g f.1.1 f.1.2 f.2.1 f.2.2.1)) with
    | true =>
      rw [hb] at e
      cases e
      simp only [Bool.and_eq_true, List.all_eq_true] at hb
      exact ⟨List.mem_cons_self, Nat.eq_of_beq_eq_true hb.1.1, jab_ok h.2.1 hb.1.2 hs, fun f hf => jfb_ok h (hb.2 f hf)⟩
    | false =>
      rw [hb] at e
      obtain ⟨h1, h2⟩ := jcf_ok h hs e
      exact ⟨List.mem_cons_of_mem _ h1, h2⟩
theorem jPost_fn {r : jP} {p p' : xH} : ∀ {fs : List jFd} {es : List jV}, jFv r p fs es → jPost p p' fs → ∃ vs, jFn r p' fs es vs
  | [], [], _, _ => ⟨[], trivial⟩
  | [], _ :: _, k, _ => absurd k (by simp [jFv])
  | _ :: _, [], k, _ => absurd k (by simp [jFv])
  | f :: fs, e :: es, k, hp => by
    obtain ⟨vs, hvs⟩ := jPost_fn k.2 (fun f' hf => hp f' (List.mem_cons_of_mem _ hf))
    obtain ⟨c, v, k1, k2, k3⟩ := k.1
    obtain ⟨c0, v0, c1, v1, h1, h2, h3, h4, h5, h6⟩ := hp f List.mem_cons_self
    rw [k1] at h1
    cases h1
    rw [k2] at h2
    cases h2
    exact ⟨v1 :: vs, ⟨c1, h3, h4⟩, h5, fun hm => ⟨v, k3, (h6 hm).1, (h6 hm).2⟩, hvs⟩
theorem jco_ok {G : jGt} {r : jP} {g : jS} {p p' : xH} {c : jC} {o : jOc} {z : Option jV × jS} {rv : Option Value} (h : jSt G r g p) (e : jco G g c o = some z) (hG : GH G p') (hW : jWf c.2.2.2.2.1 p p') (hR : jRb o.1 rv) (hP : jPost p p' o.2) : ∃ r', jLe r r' ∧ jSt G r' z.2 p' ∧ jRo r' z.1 rv := by
  unfold jco at e
  split at e
  next y hy =>
    obtain ⟨r0, l1, l2, l3⟩ := jfs_ok h hy
    obtain ⟨vs, hvs⟩ := jPost_fn l3 hP
    have h2 := jnf_ok (jdr_ok l2 hG hW) hvs
    have l4 : jLe r (r0 ++ vs.map Sum.inl) := l1.trans ⟨_, rfl⟩
    split at e
    next ho =>
      cases e
      rw [ho] at hR
      refine ⟨_, l4, h2, ?_⟩
      cases rv with
      | none => trivial
      | some v => exact absurd hR (by simp [jRb])
    next b ho =>
      cases e
      rw [ho] at hR
      cases rv with
      | none => exact absurd hR (by simp [jRb])
      | some v =>
        obtain ⟨m1, m2, m3⟩ := jfr_ok h2 (q := (b.1, b.2.1, b.2.2, none)) hR trivial
        exact ⟨_, l4.trans m1, m2, m3⟩
  next => cases e
end
