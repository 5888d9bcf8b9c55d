noncomputable section
/-! one call, with what it writes -/
def jcw (R : jRl) (cs : List jC) (m D : Nat) (bs : List jBx) (k : Nat) (W : List (Nat × Nat)) (la : List jA) (ls : List ((Nat × Nat) × Nat)) : Bool := match xM[m]? with
  | some q => match jre2 jGG (jia (0, [], [], []) bs).2 R with
    | some g => jkw g (jia (0, [], [], []) bs).1 && jx (jGG, W, cs, la, ls) (fun g rv => jrv g rv (some (k, -9223372036854775808, 9223372036854775807)) && jrc g R) 100000 false D [] [] m q 0 (jlv g 0 (jia (0, [], [], []) bs).1) [] g
    | none => false
  | none => false
theorem jcw_ok {ro : List (List Int32)} (hro : jro ro) {R : jRl} {cs : List jC} {m D k : Nat} {bs : List jBx} {W F : List (Nat × Nat)} {la : List jA} {ls : List ((Nat × Nat) × Nat)} (e : jcw R cs m D bs k W la ls = true) (hF : jWF W F = true) (hcs : ∀ k ∈ cs, jCok ro jGG k) {q : xQ} (hq : xM[m]? = some q) {d : Nat} {args : List Value} {p : xH} (hd : D ≤ d) (hp : jInv R p) (hb : jBxs bs args) :
    ∃ n v p', ev ro n d q 0 (lv_args 0 args) [] p = some (some v, p') ∧ jInv R p' ∧ jk v = k ∧ (p'.map fun c => (c.1, c.2.length)) = (p.map fun c => (c.1, c.2.length)) ∧ hSm F p p' := by
  unfold jcw at e
  rw [hq] at e
  dsimp only at e
  split at e
  next g hg =>
    rw [Bool.and_eq_true] at e
    obtain ⟨e2, e3⟩ := e
    have h0 : jSt jGG [] (0, [], [], []) p := ⟨rfl, fun q hq => absurd hq List.not_mem_nil, fun q hq => absurd hq List.not_mem_nil, fun q hq => absurd hq List.not_mem_nil, hp.1⟩
    obtain ⟨w1, l1, l2, l3⟩ := jia_ok h0 hb
    obtain ⟨w2, m1, m2⟩ := jre2_ok l2 hp.2 hg
    obtain ⟨n, x, f1, f2⟩ := jx_ok hro (E := (jGG, W, cs, la, ls)) (Q := fun r p' => ∃ v, r = some v ∧ jInv R p' ∧ jk v = k ∧ (p'.map fun c => (c.1, c.2.length)) = (p.map fun c => (c.1, c.2.length)) ∧ hSm F p p') (p0 := p) (ri := w2) hcs
      (fun r g p' ra rv hr hs hw hro2 hbt => by
        rw [Bool.and_eq_true] at hbt
        obtain ⟨b1, b2⟩ := hbt
        unfold jrv at b1
        split at b1
        next h1 => cases h1
        next a b h1 =>
          cases h1
          cases rv with
          | none => exact absurd hro2 (by simp [jRo])
          | some v => exact ⟨v, rfl, ⟨hs.2.2.2.2, jrc_ok hs b2⟩, (jin_ok hs.2.1 b1 hro2).1, hw.1, hSm_of hw hF⟩
        next => cases b1) 100000 e3 (cfr := []) hd (jLe.refl w2) m2 (jLs_args m2.2.1 (l3.mono m1) e2) (show jSl w2 [] [] from trivial) (jWf.refl _ p) (fun hd1 hm => absurd hm List.not_mem_nil) trivial
    obtain ⟨v, f3, f4⟩ := f2
    exact ⟨n, v, x.2, by rw [f1]; exact congrArg some (Prod.ext f3 rfl), f4⟩
  next => cases e
theorem jxc2 {v : Value} (h : jk v = 1) : Nat.ble (xcs [v]) 8 = true := by
  have := jcat2 h
  simp only [xcs, List.map_cons, List.map_nil, List.sum_cons, List.sum_nil, this]
  rfl
theorem jl_leq {ro : List (List Int32)} {Q : Option Value → xH → Prop} {pc : Nat} {i : Int32} {st : List Value} {p : xH} {o : Int} {t : Nat} {v : Value} (h : xcg xqL.2.2.2.2 pc = some .lcmp) (h2 : xcg xqL.2.2.2.2 (pc + 1) = some (.ifCond .eq o)) (ht : xtg (pc + 1) o = some t) (hv : jk v = 1) (k : LJ ro Q t i st p) : LJ ro Q pc i (v :: v :: st) p := by
  obtain ⟨x, rfl, -⟩ := (show jI 1 (jz v) (jz v) v from ⟨hv, Int.le_refl _, Int.le_refl _⟩).long
  refine jJ_s (i := .lcmp) (ls' := lsI i) (st' := .int (lg_cmp x x) :: st) h rfl ?_
  refine jJ_b (pc' := t) (st' := st) h2 rfl ?_ k
  have ht : xtg (pc + xil .lcmp) o = some t := ht
  simp only [xbr, ht, Option.map_some]
  rw [show lg_cmp x x = 0 from by unfold lg_cmp; rw [if_neg (show ¬ x > x from Int64.lt_irrefl), if_pos rfl]]
  rfl
end
