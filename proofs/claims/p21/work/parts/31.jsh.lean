noncomputable section
/-! the bounded machine is sound: runs -/
abbrev jCf : Type := xQ × Nat × xL × List Value
def jK (ro : List (List Int32)) (Q : Option Value → xH → Prop) : List jCf → Nat → Option Value → xH → Prop
  | [], _, r, p => Q r p
  | f :: fr, d, r, p => ∃ n x, ev ro n (d + 1) f.1 f.2.1 f.2.2.1 (r.toList ++ f.2.2.2) p = some x ∧ jK ro Q fr (d + 1) x.1 x.2
def jJ (ro : List (List Int32)) (Q : Option Value → xH → Prop) (cfr : List jCf) (d : Nat) (q : xQ) (pc : Nat) (ls : xL) (st : List Value) (p : xH) : Prop := ∃ n x, ev ro n d q pc ls st p = some x ∧ jK ro Q cfr d x.1 x.2
section JJ
variable {ro : List (List Int32)} {Q : Option Value → xH → Prop} {cfr : List jCf} {d : Nat} {q : xQ} {pc : Nat} {ls : xL} {st : List Value} {p : xH} {i : Instr}
theorem jJ_s {ls' : xL} {st' : List Value} (hi : xcg q.2.2.2.2 pc = some i) (h1 : xs1 q.1 q.2.1 i ls st = some (ls', st')) (k : jJ ro Q cfr d q (pc + xil i) ls' st' p) : jJ ro Q cfr d q pc ls st p := by
  obtain ⟨n, x, e, hk⟩ := k
  exact ⟨n + 1, x, (ev_s hi h1).trans e, hk⟩
theorem jJ_b {pc' : Nat} {st' : List Value} (hi : xcg q.2.2.2.2 pc = some i) (h0 : xs1 q.1 q.2.1 i ls st = none) (h1 : xbr i pc st = some (pc', st')) (k : jJ ro Q cfr d q pc' ls st' p) : jJ ro Q cfr d q pc ls st p := by
  obtain ⟨n, x, e, hk⟩ := k
  exact ⟨n + 1, x, (ev_b hi h0 h1).trans e, hk⟩
theorem jJ_h {st' : List Value} {p' : xH} (hi : xcg q.2.2.2.2 pc = some i) (h0 : xs1 q.1 q.2.1 i ls st = none) (h1 : xbr i pc st = none) (h2 : xho ro q.1 q.2.2.1 i st p = some (st', p')) (k : jJ ro Q cfr d q (pc + xil i) ls st' p') : jJ ro Q cfr d q pc ls st p := by
  obtain ⟨n, x, e, hk⟩ := k
  exact ⟨n + 1, x, (ev_h hi h0 h1 h2).trans e, hk⟩
theorem jJ_r {r : Option Value} (hi : xcg q.2.2.2.2 pc = some i) (h0 : xs1 q.1 q.2.1 i ls st = none) (h1 : xbr i pc st = none) (h2 : xho ro q.1 q.2.2.1 i st p = none) (h3 : xrt q.2.2.2.1 i st = some r) (k : jK ro Q cfr d r p) : jJ ro Q cfr d q pc ls st p :=
  ⟨1, (r, p), ev_r hi h0 h1 h2 h3, k⟩
theorem jJ_m {rest : List Value} (hi : xcg q.2.2.2.2 pc = some i) (h0 : xs1 q.1 q.2.1 i ls st = none) (h1 : xbr i pc st = none) (h2 : xho ro q.1 q.2.2.1 i st p = none) (h3 : xrt q.2.2.2.1 i st = none) (h4 : xob q.1 i st = none) (h5 : xmm q.1 i st = some rest) (h8 : Nat.ble (xcs rest) 8 = true) (k : jJ ro Q cfr (d + 1) q (pc + 3) ls rest p) : jJ ro Q cfr (d + 1) q pc ls st p := by
  obtain ⟨n, x, e, hk⟩ := k
  exact ⟨n + 1, x, (ev_o hi h0 h1 h2 h3 h4 h5 h8).trans e, hk⟩
theorem jJ_y {rest : List Value} {p' : xH} (hi : xcg q.2.2.2.2 pc = some i) (h0 : xs1 q.1 q.2.1 i ls st = none) (h1 : xbr i pc st = none) (h2 : xho ro q.1 q.2.2.1 i st p = none) (h3 : xrt q.2.2.2.1 i st = none) (h4 : xob q.1 i st = none) (h5 : xmm q.1 i st = none) (h6 : xay q.1 i st p = some (rest, p')) (h8 : Nat.ble (xcs rest) 8 = true) (k : jJ ro Q cfr (d + 1) q (pc + 3) ls rest p') : jJ ro Q cfr (d + 1) q pc ls st p := by
  obtain ⟨n, x, e, hk⟩ := k
  exact ⟨n + 1, x, (ev_y hi h0 h1 h2 h3 h4 h5 h6 h8).trans e, hk⟩
theorem jJ_c {y : Nat} {q' : xQ} {as rest : List Value} {r : Option Value} {p' : xH} {n1 : Nat} (hi : xcg q.2.2.2.2 pc = some i) (h0 : xs1 q.1 q.2.1 i ls st = none) (h1 : xbr i pc st = none) (h2 : xho ro q.1 q.2.2.1 i st p = none) (h3 : xrt q.2.2.2.1 i st = none) (h4 : xob q.1 i st = none) (h5 : xmm q.1 i st = none) (h5b : xay q.1 i st p = none)
    (h6 : xca q.1 i st p = some (y, as, rest)) (h7 : xM[y]? = some q') (h8 : (Nat.ble (xcs rest) 8 && Nat.ble (xcs as) q'.2.1) = true) (h9 : ev ro n1 d q' 0 (lv_args 0 as) [] p = some (r, p')) (k : jJ ro Q cfr (d + 1) q (pc + 3) ls (r.toList ++ rest) p') : jJ ro Q cfr (d + 1) q pc ls st p := by
  obtain ⟨n, x, e, hk⟩ := k
  have e1 := ev_mores n h9
  have e2 := ev_mores n1 e
  rw [Nat.add_comm n n1] at e2
  exact ⟨n1 + n + 1, x, (ev_c hi h0 h1 h2 h3 h4 h5 h5b h6 h7 h8 e1).trans e2, hk⟩
end JJ
def jH (ro : List (List Int32)) (Q : Option Value → xH → Prop) (G : jGt) (W : List (Nat × Nat)) (p0 : xH) (ri : jP) (cfr : List jCf) (d : Nat) (q : xQ) (r : jP) (hd : jHd) : Prop :=
  ∃ r0 z, jLe ri r0 ∧ jLe r0 r ∧ jBase r0 hd ∧ r[hd.2.1 + hd.2.2.2.2.2.2.2.2.2]? = some (.inl z) ∧ ∀ (r' : jP) (ls : xL) (p : xH) (z' : Value), jLe r0 r' → jSt G r' (jhs hd) p → jLs r' (jhv hd) ls → jWf W p0 p → r'[hd.2.1 + hd.2.2.2.2.2.2.2.2.2]? = some (.inl z') →
    (hd.2.2.2.2.2.2.2.2.1 = true → jz z < jz z') → (hd.2.2.2.2.2.2.2.2.1 = false → jz z' < jz z) → jJ ro Q cfr d q hd.1 ls [] p
theorem jH.mono {ro : List (List Int32)} {Q : Option Value → xH → Prop} {G : jGt} {W : List (Nat × Nat)} {p0 : xH} {ri : jP} {cfr : List jCf} {d : Nat} {q : xQ} {r r' : jP} {hd : jHd} (h : jLe r r') (k : jH ro Q G W p0 ri cfr d q r hd) : jH ro Q G W p0 ri cfr d q r' hd := by
  obtain ⟨r0, z, a1, a2, a3, a4, a5⟩ := k
  exact ⟨r0, z, a1, a2.trans h, a3, h.get a4, a5⟩
def jFrs (ro : List (List Int32)) (Q : Option Value → xH → Prop) (G : jGt) (W : List (Nat × Nat)) (p0 : xH) (ri : jP) (r : jP) : List jFr → List jCf → Nat → Prop
  | [], [], _ => True
  | f :: fr, c :: cfr, d => (f.2.1 = c.1 ∧ f.2.2.1 = c.2.1 ∧ jLs r f.2.2.2.1 c.2.2.1 ∧ jSl r f.2.2.2.2.1 c.2.2.2 ∧ ∀ hd ∈ f.2.2.2.2.2, jH ro Q G W p0 ri cfr (d + 1) f.2.1 r hd) ∧ jFrs ro Q G W p0 ri r fr cfr (d + 1)
  | _, _, _ => False
theorem jFrs.mono {ro : List (List Int32)} {Q : Option Value → xH → Prop} {G : jGt} {W : List (Nat × Nat)} {p0 : xH} {ri : jP} {r r' : jP} (h : jLe r r') : ∀ {fr : List jFr} {cfr : List jCf} {d : Nat}, jFrs ro Q G W p0 ri r fr cfr d → jFrs ro Q G W p0 ri r' fr cfr d
  | [], [], _, _ => trivial
  | [], _ :: _, _, k => absurd k (by simp [jFrs])
  | _ :: _, [], _, k => absurd k (by simp [jFrs])
  | f :: fr, c :: cfr, d, k => by
    obtain ⟨⟨k1, k2, k3, k4, k5⟩, k6⟩ := k
    exact ⟨⟨k1, k2, k3.mono h, k4.mono h, fun hd hm => (k5 hd hm).mono h⟩, k6.mono h⟩
theorem jrg_ok : ∀ {n : Nat} {lo k : Int}, lo ≤ k → k < lo + n → k ∈ jrg n lo
  | 0, lo, k, h1, h2 => absurd h2 (by omega)
  | n + 1, lo, k, h1, h2 => by
    by_cases h : k = lo
    · subst h; exact List.mem_cons_self
    · exact List.mem_cons_of_mem _ (jrg_ok (n := n) (by omega) (by push_cast at h2; omega))
theorem jsv_ok2 {r : jP} {l : Nat} {als : jL} {ast : List jV} {ls : xL} {st : List Value} {a : jV} (hl : jLs r als ls) (hs : jSl r ast st) (e : jsv l als ast = some a) : ∃ v, jR r a v := by
  unfold jsv at e
  cases hb : Nat.beq l 99 with
  | true =>
    rw [hb, cond_true] at e
    cases ast with
    | nil => cases e
    | cons b bs =>
      cases e
      obtain ⟨v, vs, -, g1, -⟩ := hs.cons
      exact ⟨v, g1⟩
  | false =>
    rw [hb, cond_false] at e
    obtain ⟨v, -, h2⟩ := hl _ (xfd_in e)
    exact ⟨v, h2⟩
theorem jsl_ok {G : jGt} {E : jE} {r : jP} {g : jS} {p : xH} {sk : Bool} {m pc : Nat} {als : jL} {ast : List jV} {ls : xL} {st : List Value} {z : jV × List Int} (h : jSt G r g p) (hl : jLs r als ls) (hs : jSl r ast st) (e : jsl E sk m pc als ast g = some z) : ∃ v, jR r z.1 v ∧ jz v ∈ z.2 := by
  unfold jsl at e
  cases sk with
  | true => cases e
  | false =>
    rw [cond_false] at e
    split at e
    next l hl2 =>
      split at e
      next a ha =>
        obtain ⟨v, hv⟩ := jsv_ok2 hl hs ha
        have hv2 := jnm_ok h.2.1 hv
        split at e
        next s hs2 =>
          split at e
          next q hq =>
            cases e
            rw [hs2] at hv2
            obtain ⟨i1, i2, i3⟩ := jbd_ok h.2.1 hq hv2
            refine ⟨v, hv2, jrg_ok i2 ?_⟩
            omega
          next => cases e
        next => cases e
      next => cases e
    next => cases e
theorem jan_pc : ∀ {L : List jA} {m pc : Nat} {A : jA}, jan L m pc = some A → A.1.2 = pc
  | [], _, _, _, h => by cases h
  | a :: l, m, pc, A, h => by
    rw [jan_cons] at h
    cases hb : (Nat.beq a.1.1 m && Nat.beq a.1.2 pc) with
    | true =>
      rw [hb] at h
      cases h
      rw [Bool.and_eq_true] at hb
      exact Nat.eq_of_beq_eq_true hb.2
    | false => rw [hb] at h; exact jan_pc h
theorem jhf_ok : ∀ {L : List jHd} {pc : Nat} {d : jHd}, jhf L pc = some d → d ∈ L ∧ d.1 = pc
  | [], _, _, h => by cases h
  | a :: l, pc, d, h => by
    unfold jhf at h
    cases hb : Nat.beq a.1 pc with
    | true => rw [hb] at h; cases h; exact ⟨List.mem_cons_self, Nat.eq_of_beq_eq_true hb⟩
    | false => rw [hb] at h; obtain ⟨h1, h2⟩ := jhf_ok h; exact ⟨List.mem_cons_of_mem _ h1, h2⟩
theorem jmt_ok {l : List jV} (h : jmt l = true) : l = [] := by
  unfold jmt at h
  split at h
  next => rfl
  next => cases h
theorem jble {a b c : Nat} (h : a ≤ b) (e : Nat.ble b c = true) : Nat.ble a c = true := Nat.ble_eq.mpr (Nat.le_trans h (Nat.le_of_ble_eq_true e))
theorem jRo_list {r : jP} {ra : Option jV} {rv : Option Value} (h : jRo r ra rv) {ast : List jV} {st : List Value} (hs : jSl r ast st) : jSl r (ra.toList ++ ast) (rv.toList ++ st) := by
  cases ra with
  | none =>
    cases rv with
    | none => exact hs
    | some v => exact absurd h (by simp [jRo])
  | some a =>
    cases rv with
    | none => exact absurd h (by simp [jRo])
    | some v => exact ⟨h, hs⟩
theorem jwsub {W V : List (Nat × Nat)} (h : V.all (fun w => bif Nat.beq w.2 9999 then jwa W w.1 else jw W w.1 w.2) = true) : ∀ r j, jw V r j = true → jw W r j = true := by
  intro r j hj
  unfold jw at hj
  rw [List.any_eq_true] at hj
  obtain ⟨x, hx, hx2⟩ := hj
  rw [Bool.and_eq_true, Bool.or_eq_true] at hx2
  have h1 := List.all_eq_true.mp h x hx
  have hr := Nat.eq_of_beq_eq_true hx2.1
  subst hr
  cases hb : Nat.beq x.2 9999 with
  | true => rw [hb, cond_true] at h1; exact jwa_w h1 j
  | false =>
    rw [hb, cond_false] at h1
    rw [hb] at hx2
    rcases hx2.2 with z | z
    · cases z
    · rw [← Nat.eq_of_beq_eq_true z]; exact h1
set_option maxHeartbeats 8000000 in
theorem jx_ok {ro : List (List Int32)} (hro : jro ro) {E : jE} {bot : jS → Option jV → Bool} {Q : Option Value → xH → Prop} {p0 : xH} {ri : jP} (hcons : ∀ c ∈ E.2.2.1, jCok ro E.1 c)
    (hbot : ∀ (r : jP) (g : jS) (p : xH) (ra : Option jV) (rv : Option Value), jLe ri r → jSt E.1 r g p → jWf E.2.1 p0 p → jRo r ra rv → bot g ra = true → Q rv p) :
    ∀ (n : Nat) {sk : Bool} {dd : Nat} {fr : List jFr} {cx : List jHd} {m : Nat} {q : xQ} {pc : Nat} {als : jL} {ast : List jV} {g : jS}, jx E bot n sk dd fr cx m q pc als ast g = true →
    ∀ {r : jP} {cfr : List jCf} {d : Nat} {ls : xL} {st : List Value} {p : xH}, dd ≤ d → jLe ri r → jSt E.1 r g p → jLs r als ls → jSl r ast st → jWf E.2.1 p0 p → (∀ hd ∈ cx, jH ro Q E.1 E.2.1 p0 ri cfr d q r hd) → jFrs ro Q E.1 E.2.1 p0 ri r fr cfr d → jJ ro Q cfr d q pc ls st p := by
  intro n
  induction n with
  | zero => intro sk dd fr cx m q pc als ast g e; cases e
  | succ n ih =>
    intro sk dd fr cx m q pc als ast g e r cfr d ls st p hd hri h hl hs hw hcx hfr
    rw [jx_succ] at e
    unfold jxb at e
    split at e
    next A hA =>
      have hpc : A.1.2 = pc := by
        cases sk with
        | true => cases hA
        | false => exact jan_pc hA
      rw [Bool.and_eq_true] at e
      have hmt := jmt_ok e.1
      subst hmt
      cases hs.nil
      have e := e.2
      split at e
      next hd0 hh =>
        obtain ⟨m1, m2⟩ := jhf_ok hh
        rw [Bool.and_eq_true] at e
        obtain ⟨r0, z, a1, a2, a3, a4, a5⟩ := hcx hd0 m1
        obtain ⟨vs, k1, k2, k3⟩ := jfit_ok a3 a2 h hl e.1
        obtain ⟨a, ha, hz⟩ := jms_ok h.2.1 e.2 a4
        obtain ⟨x, x1, x2⟩ := k3 a ha
        rw [← m2]
        exact a5 _ ls p x ⟨_, rfl⟩ k1 k2 hw x2 (hz x x1).1 (hz x x1).2
      next =>
        split at e
        next z hz =>
          obtain ⟨b0, r0, b1, b2, b3⟩ := jen_ok h hl hz
          rw [Bool.and_eq_true, Bool.and_eq_true] at e
          obtain ⟨⟨e1, e9⟩, e2⟩ := e
          obtain ⟨vs, k1, k2, k3⟩ := jfit_ok b3 (jLe.refl r0) b2 (hl.mono b1) e1
          have loop : ∀ (N : Nat) (r' : jP) (ls : xL) (p : xH) (z' : Value), jLe r0 r' → jSt E.1 r' (jhs z.1) p → jLs r' (jhv z.1) ls → jWf E.2.1 p0 p → r'[z.1.2.1 + z.1.2.2.2.2.2.2.2.2.2]? = some (.inl z') →
              (z.1.2.2.2.2.2.2.2.2.1 = true → (9223372036854775807 - jz z').toNat < N) → (z.1.2.2.2.2.2.2.2.2.1 = false → (jz z' + 9223372036854775808).toNat < N) → jJ ro Q cfr d q pc ls [] p := by
            intro N
            induction N with
            | zero =>
              intro r' ls p z' _ _ _ _ _ h1 h2
              cases hup : z.1.2.2.2.2.2.2.2.2.1 with
              | true => exact absurd (h1 hup) (Nat.not_lt_zero _)
              | false => exact absurd (h2 hup) (Nat.not_lt_zero _)
            | succ N ihN =>
              intro r' ls p z' c1 c2 c3 c4 c5 c6 c7
              refine ih e2 hd ((hri.trans b1).trans c1) c2 c3 trivial c4 (fun hd1 hm => ?_) (hfr.mono (b1.trans c1))
              rcases List.mem_cons.mp hm with rfl | hm
              · refine ⟨r0, z', hri.trans b1, c1, b3, c5, fun r2 ls2 p2 z2 f1 f2 f3 f4 f5 f6 f7 => ?_⟩
                rw [show z.1.1 = pc from b0.trans hpc]
                have j1 := jzb z'
                have j2 := jzb z2
                refine ihN r2 ls2 p2 z2 f1 f2 f3 f4 f5 (fun hup => ?_) (fun hup => ?_)
                · have := f6 hup
                  have := c6 hup
                  omega
                · have := f7 hup
                  have := c7 hup
                  omega
              · exact (hcx hd1 hm).mono (b1.trans c1)
          obtain ⟨x, hx⟩ : ∃ x, (r0 ++ vs.map Sum.inl)[z.1.2.1 + z.1.2.2.2.2.2.2.2.2.2]? = some (Sum.inl x) := by
            cases hc : jcv z.1 z.2 als with
            | some a => obtain ⟨x, -, x2⟩ := k3 a hc; exact ⟨x, x2⟩
            | none => rw [hc] at e9; cases e9
          exact loop _ _ ls p x ⟨_, rfl⟩ k1 k2 hw hx (fun _ => Nat.lt_succ_of_le (Nat.le_max_left _ _)) (fun _ => Nat.lt_succ_of_le (Nat.le_max_right _ _))
        next => cases e
    next =>
      split at e
      next z hz =>
        obtain ⟨v, v1, v2⟩ := jsl_ok h hl hs hz
        have e1 := List.all_eq_true.mp e _ v2
        obtain ⟨g2, f1, f2⟩ := jcut_ok 4 (lo := jz v) (hi := jz v) h v1 (Int.le_refl _) (Int.le_refl _)
        rw [f1] at e1
        exact ih e1 hd hri f2 hl hs hw hcx hfr
      next =>
        split at e
        next => cases e
        next i hi =>
          split at e
          next z hz =>
            obtain ⟨ls', st', r', k1, k2, k3, k4, k5⟩ := jx1_ok (als' := z.1) (ast' := z.2.1) (g' := z.2.2) h hz hl hs
            exact jJ_s hi k1 (ih e hd (hri.trans k2) k3 k4 k5 hw (fun hd1 hm => (hcx hd1 hm).mono k2) (hfr.mono k2))
          next =>
            split at e
            next l hz =>
              obtain ⟨n1, u, hu, st', r', k1, k2, k3, k4⟩ := jbr_ok h hz hs
              have e1 := List.all_eq_true.mp e u hu
              exact jJ_b hi (n1 _ _ _) k1 (ih e1 hd (hri.trans k2) k3 (hl.mono k2) k4 hw (fun hd1 hm => (hcx hd1 hm).mono k2) (hfr.mono k2))
            next =>
              split at e
              next z hz =>
                obtain ⟨n1, n2, st', p', r', k1, k2, k3, k4, k5⟩ := jho_ok (ast' := z.1) (g' := z.2) hro h hz hs
                exact jJ_h hi (n1 _ _ _) (n2 _) (k1 _) (ih e hd (hri.trans k2) k3 (hl.mono k2) k4 (k5 p0 hw) (fun hd1 hm => (hcx hd1 hm).mono k2) (hfr.mono k2))
              next =>
                split at e
                next rv hz =>
                  obtain ⟨n1, n2, n3, v, k1, k2⟩ := jrt_ok h hz hs
                  refine jJ_r hi (n1 _ _ _) (n2 _) (n3 _ _ _ _) k1 ?_
                  split at e
                  next =>
                    cases cfr with
                    | nil => exact hbot r g p rv v hri h hw k2 e
                    | cons c cs => exact absurd hfr (by simp [jFrs])
                  next f fr' =>
                    cases cfr with
                    | nil => exact absurd hfr (by simp [jFrs])
                    | cons c cs =>
                      obtain ⟨⟨f1, f2, f3, f4, f5⟩, f6⟩ := hfr
                      have := ih e (Nat.succ_le_succ hd) hri h f3 (jRo_list k2 f4) hw f5 f6
                      rw [f1, f2] at this
                      exact this
                next =>
                  split at e
                  next => cases e
                  next dd' =>
                    obtain ⟨d', rfl⟩ : ∃ d', d = d' + 1 := ⟨d - 1, by omega⟩
                    split at e
                    next z hz =>
                      rw [Bool.and_eq_true] at e
                      obtain ⟨n1, n2, n3, n4, n5, crest, r', k1, k2, k3, k4, v, vs, k5, k6, k7⟩ := jmm_ok (rest := z.1) (g' := z.2) h hz hs
                      have hc : Nat.ble (xcs crest) 8 = true := by
                        rw [k5]
                        have h1 := jcs_ok h.2.1 k7
                        have h2 := Nat.le_of_ble_eq_true e.1
                        simp only [xcs, List.map_cons, List.sum_cons] at h1 ⊢
                        exact Nat.ble_eq.mpr (by omega)
                      exact jJ_m hi (n1 _ _ _) (n2 _) (n3 _ _ _ _) (n4 _) n5 k1 hc (ih e.2 hd (hri.trans k2) k3 (hl.mono k2) k4 hw (fun hd1 hm => (hcx hd1 hm).mono k2) (hfr.mono k2))
                    next =>
                      split at e
                      next z hz =>
                        rw [Bool.and_eq_true] at e
                        obtain ⟨n1, n2, n3, n4, n5, n6, crest, p', k1, k2, k3, k4⟩ := jay_ok (rest := z.1) (g' := z.2) h hz hs
                        exact jJ_y hi (n1 _ _ _) (n2 _) (n3 _ _ _ _) (n4 _) n5 n6 k1 (jble (jcs_ok h.2.1 k3) e.1) (ih e.2 hd hri k2 hl k3 (k4 p0 hw) hcx hfr)
                      next =>
                        split at e
                        next => cases e
                        next y as rest hz =>
                          split at e
                          next => cases e
                          next q' hq' =>
                            obtain ⟨n1, n2, n3, n4, n5, n6, n7, cas, crest, k1, k2, k3⟩ := jca_ok h hz hs
                            rw [Bool.and_eq_true, Bool.and_eq_true] at e
                            obtain ⟨⟨e1, e2⟩, e3⟩ := e
                            have h8 : (Nat.ble (xcs crest) 8 && Nat.ble (xcs cas) q'.2.1) = true := by
                              rw [jble (jcs_ok h.2.1 k3) e1, jble (jcs_ok h.2.1 k2) e2]; rfl
                            split at e3
                            next c hc =>
                              rw [Bool.and_eq_true, Bool.and_eq_true] at e3
                              obtain ⟨⟨e4, e5⟩, e6⟩ := e3
                              obtain ⟨c1, c2, c3, c4⟩ := jcf_ok h k2 hc
                              obtain ⟨nn, rv, p', f1, f2, f3, o, f4, f5, f6⟩ := hcons c c1 q' (by rw [c2]; exact hq') d' cas p (Nat.le_trans (Nat.le_of_ble_eq_true e4) (Nat.le_of_succ_le_succ hd)) h.2.2.2.2 c3 c4
                              have e7 := List.all_eq_true.mp e6 o f4
                              split at e7
                              next z hz2 =>
                                obtain ⟨r', l1, l2, l3⟩ := jco_ok h hz2 f2 f3 f5 f6
                                exact jJ_c hi (n1 _ _ _) (n2 _) (n3 _ _ _) (n4 _) n5 n6 n7 k1 hq' h8 f1 (ih e7 hd (hri.trans l1) l2 (hl.mono l1) (jRo_list l3 (k3.mono l1)) (hw.trans f3 (jwsub e5)) (fun hd1 hm => (hcx hd1 hm).mono l1) (hfr.mono l1))
                              next => cases e7
                            next =>
                              rw [Bool.and_eq_true] at e3
                              have := ih e3.2 (cfr := (q, pc + 3, ls, crest) :: cfr) (Nat.le_of_succ_le_succ hd) hri h (jLs_args h.2.1 k2 e3.1) (show jSl r [] [] from trivial) hw (fun hd1 hm => absurd hm List.not_mem_nil) ⟨⟨rfl, rfl, hl, k3, hcx⟩, hfr⟩
                              obtain ⟨nn, x, f1, n2', x2, f2, f3⟩ := this
                              exact jJ_c hi (n1 _ _ _) (n2 _) (n3 _ _ _) (n4 _) n5 n6 n7 k1 hq' h8 f1 ⟨n2', x2, f2, f3⟩
end
