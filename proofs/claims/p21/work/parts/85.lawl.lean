noncomputable section
/-! the law's own steps -/
def lsI (i : Int32) : xL := [(3, .int i), (2, .ref 66), (1, .ref 0), (0, .retAddr 0)]
abbrev LJ (ro : List (List Int32)) (Q : Option Value → xH → Prop) (pc : Nat) (i : Int32) (st : List Value) (p : xH) : Prop := jJ ro Q [] 60 xqL pc (lsI i) st p
abbrev jSh (p : xH) : List (Nat × Nat) := p.map fun c => (c.1, c.2.length)
def jRd (ro : List (List Int32)) (i : Int32) (A : Nat → Int32) : Prop := ∃ xs, ro[0]? = some xs ∧ ∀ c : Nat, c ≤ 5 → ¬ (i + Int32.ofNat c) < 0 ∧ xs[(i + Int32.ofNat c).toNatClampNeg]? = some (A c)
section LL
variable {ro : List (List Int32)} {Q : Option Value → xH → Prop} {pc : Nat} {i : Int32} {st : List Value} {p : xH}
theorem jl_a1 (h : xcg xqL.2.2.2.2 pc = some (.aload_n 1)) (k : LJ ro Q (pc + 1) i (.ref 0 :: st) p) : LJ ro Q pc i st p := jJ_s h rfl k
theorem jl_a2 (h : xcg xqL.2.2.2.2 pc = some (.aload_n 2)) (k : LJ ro Q (pc + 1) i (.ref 66 :: st) p) : LJ ro Q pc i st p := jJ_s h rfl k
theorem jl_rd {A : Nat → Int32} {c : Nat} {z : Int} (h1 : xcg xqL.2.2.2.2 pc = some (.aload_n 0)) (h2 : xcg xqL.2.2.2.2 (pc + 1) = some (.iload_n 3)) (h3 : xcg xqL.2.2.2.2 (pc + 2) = some (.iconst z)) (h4 : xcg xqL.2.2.2.2 (pc + 3) = some .iadd) (h5 : xcg xqL.2.2.2.2 (pc + 4) = some .iaload)
    (hz : Int32.ofInt z = Int32.ofNat c) (hc : c ≤ 5) (hA : jRd ro i A) (k : LJ ro Q (pc + 5) i (.int (A c) :: st) p) : LJ ro Q pc i st p := by
  obtain ⟨xs, x1, x2⟩ := hA
  obtain ⟨x3, x4⟩ := x2 c hc
  refine jJ_s (ls' := lsI i) (st' := .retAddr 0 :: st) h1 rfl ?_
  refine jJ_s (ls' := lsI i) (st' := .int i :: .retAddr 0 :: st) h2 rfl ?_
  refine jJ_s (ls' := lsI i) (st' := .int (Int32.ofInt z) :: .int i :: .retAddr 0 :: st) h3 rfl ?_
  refine jJ_s (ls' := lsI i) (st' := .int (i + Int32.ofInt z) :: .retAddr 0 :: st) h4 rfl ?_
  refine jJ_h (st' := .int (A c) :: st) (p' := p) h5 rfl rfl ?_ k
  rw [hz]
  simp only [xho, x1]
  rw [if_neg x3, x4]
  rfl
theorem jcat1 {v : Value} (h : jk v = 0) : v.category = 1 := by
  cases v <;> first | rfl | (cases h; done)
theorem jcat2 {v : Value} (h : jk v = 1) : v.category = 2 := by
  cases v <;> first | rfl | (cases h; done)
theorem jxc1 {v : Value} (h : jk v = 0) : Nat.ble (xcs [v]) 8 = true := by
  have := jcat1 h
  simp only [xcs, List.map_cons, List.map_nil, List.sum_cons, List.sum_nil, this]
  rfl
theorem jl_pop {v : Value} (h : xcg xqL.2.2.2.2 pc = some .pop) (hv : jk v = 0) (k : LJ ro Q (pc + 1) i st p) : LJ ro Q pc i (v :: st) p :=
  jJ_s (ls' := lsI i) (st' := st) h (by simp only [xs1]; rw [if_pos (jcat1 hv)]) k
theorem jl_pop2 {v : Value} (h : xcg xqL.2.2.2.2 pc = some .pop2) (hv : jk v = 1) (k : LJ ro Q (pc + 1) i st p) : LJ ro Q pc i (v :: st) p :=
  jJ_s (ls' := lsI i) (st' := st) h (by simp only [xs1]; rw [if_pos (jcat2 hv)]) k
theorem jl_eq {o : Int} {t : Nat} {v : Value} (h : xcg xqL.2.2.2.2 pc = some (.if_icmp .eq o)) (ht : xtg pc o = some t) (hv : jk v = 0) (k : LJ ro Q t i st p) : LJ ro Q pc i (v :: v :: st) p := by
  obtain ⟨x, rfl, -⟩ := (show jI 0 (jz v) (jz v) v from ⟨hv, Int.le_refl _, Int.le_refl _⟩).int
  refine jJ_b (pc' := t) (st' := st) h rfl ?_ k
  simp only [xbr, ht, Option.map_some]
  rw [show xcmp .eq x x = true from decide_eq_true rfl]
  rfl
theorem jl_call {idx y n t r pl : Nat} {q2 : xQ} {args rest : List Value} {v : Value} {p' : xH} {n1 : Nat} (h : xcg xqL.2.2.2.2 pc = some (.invokevirtual idx)) (hC : xtb xC xqL.1 idx = some (y, n, pl, 0)) (hM : xM[y]? = some q2) (ho : q2.1 = t) (hk : q2.2.2.1 = 1) (hT : xtk n [] st = some (args, .ref r :: rest)) (hp : ∃ cv, p[r]? = some (t, cv))
    (hy : (Nat.blt y xOw && Nat.blt t 13) = true) (h8 : Nat.ble (xcs rest) 8 = true) (h9 : Nat.ble (xcs (.ref r :: args)) q2.2.1 = true) (he : ev ro n1 59 q2 0 (lv_args 0 (.ref r :: args)) [] p = some (some v, p')) (k : LJ ro Q (pc + 3) i (v :: rest) p') : LJ ro Q pc i st p := by
  obtain ⟨cv, hcv⟩ := hp
  rw [Bool.and_eq_true] at hy
  obtain ⟨o2, nl, kd, rk, cd⟩ := q2
  have ho : o2 = t := ho
  have hk : kd = 1 := hk
  subst ho hk
  refine jJ_c (d := 59) (y := y) (as := .ref r :: args) (rest := rest) h rfl rfl rfl rfl ?_ ?_ ?_ ?_ hM (by rw [h8, h9]; rfl) he k
  · unfold xob; split <;> first | rfl | (cases ‹Instr.invokevirtual _ = _›)
  · unfold xmm; split <;> first | rfl | (cases ‹Instr.invokevirtual _ = _›)
  · unfold xay; split <;> first | rfl | (cases ‹Instr.invokevirtual _ = _›)
  · simp only [xca, hC, hM, hT, hcv]
    rw [hy.1, hy.2, show Nat.beq 1 1 = true from rfl, show Nat.beq 0 0 = true from rfl, Nat.beq_refl]
    rfl
end LL
theorem jTag0 {R : jRl} {p : xH} (h : jInv R p) : ∃ cv, p[0]? = some (11, cv) := by
  obtain ⟨⟨c1, c2⟩, h1, h2, -⟩ := h.1 0 _ (show jgc jGG 0 = some _ from rfl)
  have h2 : c1 = 11 := h2
  subst h2
  exact ⟨c2, h1⟩
theorem jTag66 {R : jRl} {p : xH} (h : jInv R p) : ∃ cv, p[66]? = some (12, cv) := by
  obtain ⟨⟨c1, c2⟩, h1, h2, -⟩ := h.1 66 _ (show jgc jGG 66 = some _ from rfl)
  have h2 : c1 = 12 := h2
  subst h2
  exact ⟨c2, h1⟩
theorem jTag66s {R : jRl} {p p1 : xH} (h : jInv R p) (s : jSh p1 = jSh p) : ∃ cv, p1[66]? = some (12, cv) := by
  obtain ⟨cv, hc⟩ := jTag66 h
  have h1 : (jSh p1)[66]? = (jSh p)[66]? := by rw [s]
  rw [List.getElem?_map, List.getElem?_map, hc] at h1
  cases h2 : p1[66]? with
  | none => rw [h2] at h1; cases h1
  | some c =>
    rw [h2] at h1
    obtain ⟨c1, c2⟩ := c
    have h1 : (c1, c2.length) = (12, cv.length) := Option.some.inj h1
    have h3 : c1 = 12 := congrArg Prod.fst h1
    subst h3
    exact ⟨c2, rfl⟩
/-! the cells as they begin -/
def jib (k : Nat) (lo hi : Int) (v : Value) : Bool := Nat.beq (jk v) k && decide (lo ≤ jz v) && decide (jz v ≤ hi)
theorem jib_ok {k : Nat} {lo hi : Int} {v : Value} (h : jib k lo hi v = true) : jI k lo hi v := by
  unfold jib at h
  simp only [Bool.and_eq_true, decide_eq_true_eq] at h
  exact ⟨Nat.eq_of_beq_eq_true h.1.1, h.1.2, h.2⟩
def gokb (g : jG1) (c : xE) : Bool := Nat.beq c.1 g.1 && match g.2 with
  | .inl fs => Nat.beq c.2.length fs.length && (List.range fs.length).all fun k => match fs[k]?, c.2[k]? with
    | some (.inl w), some v => decide (v = w)
    | some (.inr b), some v => jib 0 b.1 b.2 v
    | _, _ => false
  | .inr p => Nat.beq c.2.length p.1 && c.2.all fun v => jib (bif Nat.beq g.1 102 then 1 else 0) p.2.1 p.2.2 v
theorem gokb_ok {g : jG1} {c : xE} (h : gokb g c = true) : gOk g c := by
  unfold gokb at h
  rw [Bool.and_eq_true] at h
  refine ⟨Nat.eq_of_beq_eq_true h.1, ?_⟩
  have h2 := h.2
  split at h2
  next fs hfs =>
    rw [Bool.and_eq_true] at h2
    rw [hfs]
    refine ⟨Nat.eq_of_beq_eq_true h2.1, fun k b hk => ?_⟩
    have h3 := List.all_eq_true.mp h2.2 k (List.mem_range.mpr (List.getElem?_eq_some_iff.mp hk).1)
    rw [hk] at h3
    split at h3
    next w v e1 e2 => cases e1; exact ⟨v, e2, (show v = w from of_decide_eq_true h3)⟩
    next b' v e1 e2 => cases e1; exact ⟨v, e2, jib_ok h3⟩
    next => cases h3
  next q hq =>
    rw [Bool.and_eq_true] at h2
    rw [hq]
    refine ⟨Nat.eq_of_beq_eq_true h2.1, fun v hv => ?_⟩
    have h3 := jib_ok (List.all_eq_true.mp h2.2 v hv)
    cases hb : Nat.beq g.1 102 with
    | true => rw [hb] at h3; rw [if_pos (Nat.eq_of_beq_eq_true hb)]; exact h3
    | false => rw [hb] at h3; rw [if_neg (fun z => by rw [z] at hb; cases hb)]; exact h3
def ghb (G : jGt) (h : xH) (N : Nat) : Bool := (List.range N).all fun r => match jgc G r with
  | none => true
  | some g => match h[r]? with
    | some c => gokb g c
    | none => false
theorem ghb_ok {G : jGt} {h : xH} {N : Nat} (hN : G.length * 16 ≤ N) (e : ghb G h N = true) : GH G h := by
  intro r g hg
  have hr : r < N := by
    unfold jgc at hg
    split at hg
    next l hl =>
      have := (List.getElem?_eq_some_iff.mp hl).1
      omega
    next => cases hg
  have h1 := List.all_eq_true.mp e r (List.mem_range.mpr hr)
  rw [hg] at h1
  dsimp only at h1
  split at h1
  next c hc => exact ⟨c, hc, gokb_ok h1⟩
  next => cases h1
def xhA : xH := xhX ++ xhM
theorem xhA_gh : GH jGG xhA := ghb_ok (N := 112) (by decide) (by decide +kernel)
theorem xhA_rel : jRel xhA [((66, 5), (66, 4), false)] := by
  intro x hx
  cases List.mem_singleton.mp hx
  exact ⟨_, .int 0, _, .int 0, rfl, rfl, rfl, rfl, (fun z => by cases z), (fun _ => ⟨rfl, Int.le_refl _⟩)⟩
def jrb (p : xH) (R : jRl) : Bool := R.all fun x => match p[x.1.1]?, p[x.2.1.1]? with
  | some ca, some cb => (match ca.2[x.1.2]?, cb.2[x.2.1.2]? with
    | some va, some vb => bif x.2.2 then decide (va = vb) else Nat.beq (jk va) (jk vb) && decide (jz va ≤ jz vb)
    | _, _ => false)
  | _, _ => false
theorem jrb_ok {p : xH} {R : jRl} (e : jrb p R = true) : jRel p R := by
  intro x hx
  have e1 := List.all_eq_true.mp e x hx
  split at e1
  next ca cb h1 h2 =>
    split at e1
    next va vb h3 h4 =>
      refine ⟨ca, va, cb, vb, h1, h3, h2, h4, (fun hq => ?_), (fun hq => ?_)⟩
      · rw [hq, cond_true] at e1
        exact of_decide_eq_true e1
      · rw [hq, cond_false, Bool.and_eq_true] at e1
        exact ⟨Nat.eq_of_beq_eq_true e1.1, of_decide_eq_true e1.2⟩
    next => cases e1
  next => cases e1
theorem xhA_len : (xhA.map fun c => c.2.length).length ≤ 600000 ∧ (xhA.map fun c => c.2.length).sum ≤ 7302250 := by decide +kernel
set_option maxRecDepth 1000000 in
theorem ctor_X2 : ev [] 4780 59 xq_X 0 [(0, .ref 0)] [] [(11, xd_X)] = some (none, xhX) := by decide +kernel
set_option maxRecDepth 1000000 in
theorem ctor_M2 : ev [] 2507 59 xq_M 0 [(0, .ref 66)] [] (xhX ++ [(12, xd_M)]) = some (none, xhX ++ xhM) := by decide +kernel
theorem law_top {ro : List (List Int32)} {Q : Option Value → xH → Prop} (k : LJ ro Q 18 0 [] xhA) : jJ ro Q [] 60 xqL 0 [(0, .retAddr 0)] [] [] := by
  refine jJ_h (i := .new 7) (st' := [.ref 0]) (p' := [(11, xd_X)]) rfl rfl rfl rfl ?_
  refine jJ_s (i := .dup) (ls' := [(0, .retAddr 0)]) (st' := [.ref 0, .ref 0]) rfl rfl ?_
  refine jJ_c (i := .invokespecial 9) (d := 59) (as := [.ref 0]) (rest := [.ref 0]) (r := none) (p' := xhX) rfl rfl rfl rfl rfl rfl rfl rfl rfl rfl rfl (ev_ro _ ctor_X2) ?_
  refine jJ_s (i := .astore_n 1) (ls' := [(1, .ref 0), (0, .retAddr 0)]) (st' := []) rfl rfl ?_
  refine jJ_h (i := .new 10) (st' := [.ref 66]) (p' := xhX ++ [(12, xd_M)]) rfl rfl rfl rfl ?_
  refine jJ_s (i := .dup) (ls' := [(1, .ref 0), (0, .retAddr 0)]) (st' := [.ref 66, .ref 66]) rfl rfl ?_
  refine jJ_c (i := .invokespecial 12) (d := 59) (as := [.ref 66]) (rest := [.ref 66]) (r := none) (p' := xhA) rfl rfl rfl rfl rfl rfl rfl rfl rfl rfl rfl (ev_ro _ ctor_M2) ?_
  refine jJ_s (i := .astore_n 2) (ls' := [(2, .ref 66), (1, .ref 0), (0, .retAddr 0)]) (st' := []) rfl rfl ?_
  refine jJ_s (i := .iconst 0) (ls' := [(2, .ref 66), (1, .ref 0), (0, .retAddr 0)]) (st' := [.int 0]) rfl rfl ?_
  exact jJ_s (i := .istore_n 3) (ls' := lsI 0) (st' := []) rfl rfl k
/-! calls with relations; two calls, with the cells between them -/
/-- the relations as numbers -/
def jre2 (G : jGt) : jS → jRl → Option jS
  | g, [] => some g
  | g, x :: R => match jfl G g x.1.1 x.1.2 with
    | some a => bif x.2.2 then jre2 G (a.2.1, a.2.2.1, ((x.2.1.1, x.2.1.2), a.1) :: a.2.2.2.1, a.2.2.2.2) R
      else match jfl G a.2 x.2.1.1 x.2.1.2 with
        | some b => match jbd b.2 b.1 with
          | some q => jre2 G (b.2.1 + 1, (b.2.1, (q.1, q.2.1, q.2.2, some (0, a.1, .inl (.int 0)))) :: b.2.2.1, ((x.2.1.1, x.2.1.2), .inr b.2.1) :: b.2.2.2.1.filter (fun q => !(Nat.beq q.1.1 x.2.1.1 && Nat.beq q.1.2 x.2.1.2)), b.2.2.2.2) R
          | none => none
        | none => none
    | none => none
theorem jre2_ok {G : jGt} {p : xH} : ∀ {R : jRl} {w : jP} {g g' : jS}, jSt G w g p → jRel p R → jre2 G g R = some g' → ∃ w', jLe w w' ∧ jSt G w' g' p
  | [], w, g, g', h, _, e => by cases e; exact ⟨w, jLe.refl w, h⟩
  | x :: R, w, g, g', h, hR, e => by
    obtain ⟨ca, va, cb, vb, r1, r2, r3, r4, r5, r6⟩ := hR x List.mem_cons_self
    have hR2 : jRel p R := fun y hy => hR y (List.mem_cons_of_mem _ hy)
    unfold jre2 at e
    split at e
    next a ha =>
      obtain ⟨c, v, w1, c1, c2, l1, l2, l3⟩ := jfl_ok (a := a.1) (g' := a.2) h ha
      rw [r1] at c1
      cases c1
      rw [r2] at c2
      cases c2
      cases hb : x.2.2 with
      | true =>
        rw [hb, cond_true] at e
        have h2 : jSt G w1 (a.2.1, a.2.2.1, ((x.2.1.1, x.2.1.2), a.1) :: a.2.2.2.1, a.2.2.2.2) p := by
          refine ⟨l2.1, l2.2.1, fun q hq => ?_, l2.2.2.2.1, l2.2.2.2.2⟩
          rcases List.mem_cons.mp hq with rfl | hq
          · exact ⟨cb, vb, r3, r4, by rw [← r5 hb]; exact l3⟩
          · exact l2.2.2.1 q hq
        obtain ⟨w2, m1, m2⟩ := jre2_ok h2 hR2 e
        exact ⟨w2, l1.trans m1, m2⟩
      | false =>
        rw [hb, cond_false] at e
        split at e
        next b hb2 =>
          obtain ⟨c', v', w2, c3, c4, m1, m2, m3⟩ := jfl_ok (a := b.1) (g' := b.2) l2 hb2
          rw [r3] at c3
          cases c3
          rw [r4] at c4
          cases c4
          split at e
          next q hq =>
            have hI := jbd_ok m2.2.1 hq m3
            obtain ⟨n1, n2, n3⟩ := m2.put1 (r := x.2.1.1) (k := x.2.1.2) r3 r4 (q := (q.1, q.2.1, q.2.2, some (0, a.1, .inl (.int 0)))) hI ⟨va, .int 0, l3.mono m1, rfl, fun _ => r6 hb, fun z => absurd rfl z⟩
            have n4 : jSt G (w2 ++ [Sum.inl vb]) (b.2.1 + 1, (b.2.1, (q.1, q.2.1, q.2.2, some (0, a.1, .inl (.int 0)))) :: b.2.2.1, ((x.2.1.1, x.2.1.2), .inr b.2.1) :: b.2.2.2.1.filter (fun q => !(Nat.beq q.1.1 x.2.1.1 && Nat.beq q.1.2 x.2.1.2)), b.2.2.2.2) p := by
              refine ⟨n2.1, n2.2.1, fun y hy => ?_, n2.2.2.2.1, n2.2.2.2.2⟩
              rcases List.mem_cons.mp hy with rfl | hy
              · exact n2.2.2.1 _ List.mem_cons_self
              · exact n2.2.2.1 _ (List.mem_cons_of_mem _ (List.mem_filter.mp hy).1)
            obtain ⟨w3, o1, o2⟩ := jre2_ok n4 hR2 e
            exact ⟨w3, ((l1.trans m1).trans n1).trans o1, o2⟩
          next => cases e
        next => cases e
    next => cases e
def jci2 (R : jRl) (cs : List jC) (m D : Nat) (bs : List jBx) (k : Nat) (la : List jA) (ls : List ((Nat × Nat) × Nat)) : Bool := match xM[m]? with
  | some q => match jre2 jGG (jia (0, [], [], []) bs).2 R with
    | some g => jkw g (jia (0, [], [], []) bs).1 && jx (jGG, jW0, cs, la, ls) (fun g rv => jrv g rv (some (k, -9223372036854775808, 9223372036854775807)) && jrc g R) 100000 false D [] [] m q 0 (jlv g 0 (jia (0, [], [], []) bs).1) [] g
    | none => false
  | none => false
theorem jci2_ok {ro : List (List Int32)} (hro : jro ro) {R : jRl} {cs : List jC} {m D k : Nat} {bs : List jBx} {la : List jA} {ls : List ((Nat × Nat) × Nat)} (e : jci2 R cs m D bs k la ls = true) (hcs : ∀ k ∈ cs, jCok ro jGG k) {q : xQ} (hq : xM[m]? = some q) {d : Nat} {args : List Value} {p : xH} (hd : D ≤ d) (hp : jInv R p) (hb : jBxs bs args) :
    ∃ n v p', ev ro n d q 0 (lv_args 0 args) [] p = some (some v, p') ∧ jInv R p' ∧ jk v = k ∧ (p'.map fun c => (c.1, c.2.length)) = (p.map fun c => (c.1, c.2.length)) := by
  unfold jci2 at e
  rw [hq] at e
  dsimp only at e
  split at e
  next g hg =>
    rw [Bool.and_eq_true] at e
    obtain ⟨e2, e3⟩ := e
    have h0 : jSt jGG [] (0, [], [], []) p := ⟨rfl, fun q hq => absurd hq List.not_mem_nil, fun q hq => absurd hq List.not_mem_nil, fun q hq => absurd hq List.not_mem_nil, hp.1⟩
    obtain ⟨w1, l1, l2, l3⟩ := jia_ok h0 hb
    obtain ⟨w2, m1, m2⟩ := jre2_ok l2 hp.2 hg
    obtain ⟨n, x, f1, f2⟩ := jx_ok hro (E := (jGG, jW0, cs, la, ls)) (Q := fun r p' => ∃ v, r = some v ∧ jInv R p' ∧ jk v = k ∧ (p'.map fun c => (c.1, c.2.length)) = (p.map fun c => (c.1, c.2.length))) (p0 := p) (ri := w2) hcs
      (fun r g p' ra rv hr hs hw hro2 hbt => by
        rw [Bool.and_eq_true] at hbt
        obtain ⟨b1, b2⟩ := hbt
        unfold jrv at b1
        split at b1
        next h1 => cases h1
        next a b h1 =>
          cases h1
          cases rv with
          | none => exact absurd hro2 (by simp [jRo])
          | some v => exact ⟨v, rfl, ⟨hs.2.2.2.2, jrc_ok hs b2⟩, (jin_ok hs.2.1 b1 hro2).1, hw.1⟩
        next => cases b1) 100000 e3 (cfr := []) hd (jLe.refl w2) m2 (jLs_args m2.2.1 (l3.mono m1) e2) (show jSl w2 [] [] from trivial) (jWf.refl _ p) (fun hd1 hm => absurd hm List.not_mem_nil) trivial
    obtain ⟨v, f3, f4⟩ := f2
    exact ⟨n, v, x.2, by rw [f1]; exact congrArg some (Prod.ext f3 rfl), f4⟩
  next => cases e
/-- two calls with the same arguments behind one another; c: their answers are compared -/
def jcj2 (R : jRl) (cs : List jC) (m1 m2 D : Nat) (u1 u2 : Value) (bs : List jBx) (k : Nat) (c : Bool) (la1 : List jA) (la2 : List jA) (ls : List ((Nat × Nat) × Nat)) : Bool := match xM[m1]?, xM[m2]? with
  | some q1, some q2 => match jre2 jGG (jia (0, [], [], []) bs).2 R with
    | some g => jkw g (jia (0, [], [], []) bs).1 && jx (jGG, jW0, cs, la1, ls) (fun g rv => match rv with
        | some a => jin g a k (-9223372036854775808) 9223372036854775807 && jkw g (jia (0, [], [], []) bs).1 && jx (jGG, jW0, cs, la2, ls) (fun g rv => match rv with
          | some b => jin g b k (-9223372036854775808) 9223372036854775807 && (!c || jsm g a b) && jrc g R
          | none => false) 100000 false D [] [] m2 q2 0 (jlv g 0 (.inl u2 :: (jia (0, [], [], []) bs).1)) [] g
        | none => false) 100000 false D [] [] m1 q1 0 (jlv g 0 (.inl u1 :: (jia (0, [], [], []) bs).1)) [] g
    | none => false
  | _, _ => false
theorem jcj2_ok {ro : List (List Int32)} (hro : jro ro) {R : jRl} {cs : List jC} {m1 m2 D k : Nat} {u1 u2 : Value} {c : Bool} {bs : List jBx} {la1 la2 : List jA} {ls : List ((Nat × Nat) × Nat)} (e : jcj2 R cs m1 m2 D u1 u2 bs k c la1 la2 ls = true) (hcs : ∀ k ∈ cs, jCok ro jGG k) {q1 q2 : xQ} (hq1 : xM[m1]? = some q1) (hq2 : xM[m2]? = some q2) {d : Nat} {args : List Value} {p : xH} (hd : D ≤ d) (hp : jInv R p) (hb : jBxs bs args) :
    ∃ n1 v1 p1 n2 v2 p2, ev ro n1 d q1 0 (lv_args 0 (u1 :: args)) [] p = some (some v1, p1) ∧ ev ro n2 d q2 0 (lv_args 0 (u2 :: args)) [] p1 = some (some v2, p2) ∧ jInv R p2 ∧ jk v1 = k ∧ jk v2 = k ∧ (c = true → v1 = v2) ∧ (p2.map fun c => (c.1, c.2.length)) = (p.map fun c => (c.1, c.2.length)) ∧ (p1.map fun c => (c.1, c.2.length)) = (p.map fun c => (c.1, c.2.length)) := by
  unfold jcj2 at e
  rw [hq1, hq2] at e
  dsimp only at e
  split at e
  next g hg =>
    rw [Bool.and_eq_true] at e
    obtain ⟨e2, e3⟩ := e
    have h0 : jSt jGG [] (0, [], [], []) p := ⟨rfl, fun q hq => absurd hq List.not_mem_nil, fun q hq => absurd hq List.not_mem_nil, fun q hq => absurd hq List.not_mem_nil, hp.1⟩
    obtain ⟨w1, l1, l2, l3⟩ := jia_ok h0 hb
    obtain ⟨w2, n1, n2⟩ := jre2_ok l2 hp.2 hg
    have l3 := l3.mono n1
    have hk : ∀ {g : jS} {l : List jV} {u : Value}, jkw g l = true → jkw g (.inl u :: l) = true := fun {g l u} h => by
      unfold jkw at h ⊢
      rw [List.all_cons, h]; rfl
    obtain ⟨n, x, f1, f2⟩ := jx_ok hro (E := (jGG, jW0, cs, la1, ls)) (Q := fun r p1 => ∃ v1, r = some v1 ∧ jk v1 = k ∧ (p1.map fun c => (c.1, c.2.length)) = (p.map fun c => (c.1, c.2.length)) ∧ ∃ n2 v2 p2, ev ro n2 d q2 0 (lv_args 0 (u2 :: args)) [] p1 = some (some v2, p2) ∧ jInv R p2 ∧ jk v2 = k ∧ (c = true → v1 = v2) ∧ (p2.map fun c => (c.1, c.2.length)) = (p.map fun c => (c.1, c.2.length))) (p0 := p) (ri := w2) hcs
      (fun r g p1 ra rv hr hs hw hro2 hbt => by
        split at hbt
        next a =>
          rw [Bool.and_eq_true, Bool.and_eq_true] at hbt
          obtain ⟨⟨b1, b2⟩, b3⟩ := hbt
          cases rv with
          | none => exact absurd hro2 (by simp [jRo])
          | some v1 =>
            refine ⟨v1, rfl, (jin_ok hs.2.1 b1 hro2).1, hw.1, ?_⟩
            obtain ⟨n2, x2, g1, g2⟩ := jx_ok hro (E := (jGG, jW0, cs, la2, ls)) (Q := fun r2 p2 => ∃ v2, r2 = some v2 ∧ jInv R p2 ∧ jk v2 = k ∧ (c = true → v1 = v2) ∧ (p2.map fun c => (c.1, c.2.length)) = (p.map fun c => (c.1, c.2.length))) (p0 := p1) (ri := r) hcs
              (fun r2 gg p2 ra2 rv2 hr2 hs2 hw2 hro3 hbt2 => by
                split at hbt2
                next b =>
                  rw [Bool.and_eq_true, Bool.and_eq_true] at hbt2
                  obtain ⟨⟨t1, t2⟩, t3⟩ := hbt2
                  cases rv2 with
                  | none => exact absurd hro3 (by simp [jRo])
                  | some v2 =>
                    refine ⟨v2, rfl, ⟨hs2.2.2.2.2, jrc_ok hs2 t3⟩, (jin_ok hs2.2.1 t1 hro3).1, fun hc => ?_, hw2.1.trans hw.1⟩
                    rw [hc] at t2
                    exact jsm_ok hs2.2.1 t2 (show jR r2 a v1 from jR.mono hr2 hro2) hro3
                next => cases hbt2) 100000 b3 (cfr := []) hd (jLe.refl r) hs (jLs_args hs.2.1 (show jSl r (.inl u2 :: _) (u2 :: args) from ⟨rfl, l3.mono hr⟩) (hk b2)) (show jSl r [] [] from trivial) (jWf.refl _ p1) (fun hd1 hm => absurd hm List.not_mem_nil) trivial
            obtain ⟨v2, g3, g4⟩ := g2
            exact ⟨n2, v2, x2.2, by rw [g1]; exact congrArg some (Prod.ext g3 rfl), g4⟩
        next => cases hbt) 100000 e3 (cfr := []) hd (jLe.refl w2) n2 (jLs_args n2.2.1 (show jSl w2 (.inl u1 :: _) (u1 :: args) from ⟨rfl, l3⟩) (hk e2)) (show jSl w2 [] [] from trivial) (jWf.refl _ p) (fun hd1 hm => absurd hm List.not_mem_nil) trivial
    obtain ⟨v1, f3, f4, f9, n2, v2, p2, f5, f6⟩ := f2
    exact ⟨n, v1, x.2, n2, v2, p2, by rw [f1]; exact congrArg some (Prod.ext f3 rfl), f5, f6.1, f4, f6.2.1, f6.2.2.1, f6.2.2.2, f9⟩
  next => cases e
end
