/-! contracts of methods, walked -/
abbrev T_bo : List (Nat × Nat) := [(35, 9999), (36, 9999), (37, 9999), (38, 9999), (39, 9999), (40, 9999), (41, 9999), (34, 9)]
def bsK (p : xH) (S : Nat) (A : Nat → Nat → Prop) (e : Nat → Nat) (s t : Nat → Nat → Int) : Prop := (rI p 13 7).toInt = (S : Int) ∧ S ≤ 7 ∧ (∀ n, n < S → hLk A S n (rI p 33 n)) ∧ hEr p ∧ dre p 17 = e ∧ drs p 18 = s ∧ drs p 19 = t
theorem bsK_e {p p2 : xH} {S : Nat} {A : Nat → Nat → Prop} {e : Nat → Nat} {s t : Nat → Nat → Int} (h : hNt T_bo p p2) (k : bsK p S A e s t) : bsK p2 S A e s t := by
  obtain ⟨a, b, c, d, f, g, i⟩ := k
  have f17 : ∀ j, rI p2 17 j = rI p 17 j := fun j => h.int (r := 17) rfl
  have f18 : ∀ j, rI p2 18 j = rI p 18 j := fun j => h.int (r := 18) rfl
  have f19 : ∀ j, rI p2 19 j = rI p 19 j := fun j => h.int (r := 19) rfl
  exact ⟨by rw [h.int (r := 13) (k := 7) rfl]; exact a, b, fun n hn => by rw [h.int (r := 33) rfl]; exact c n hn, hEr_e d f17 f18 f19, by rw [dre_e f17]; exact f, by rw [drs_e f18]; exact g, by rw [drs_e f19]; exact i⟩
theorem bsK_es {p : xH} {S : Nat} {A : Nat → Nat → Prop} {e : Nat → Nat} {s t : Nat → Nat → Int} (k : bsK p S A e s t) : hEs S e s t := by
  obtain ⟨a, b, c, d, f, g, i⟩ := k
  rw [← f, ← g, ← i]
  exact hEs_of d b
/-- the search, in the rows: l is the order under way (the latest first), b the best one so far -/
def bsX (p : xH) (S : Nat) (A : Nat → Nat → Prop) (e : Nat → Nat) (s t : Nat → Nat → Int) (l : List Nat) (b : Int × List Nat) : Prop := bsK p S A e s t ∧ lOk S l ∧ (∀ j, j ∈ l → ∃ T, hDr p j (dL A S e s t l j) T) ∧ oR p 40 l l.length ∧ (rI p 34 9).toInt = b.1 ∧ 0 ≤ b.1 ∧ b.1 ≤ 211 ∧ (b.1 < 211 → oR p 41 b.2 S)
theorem bsX_lc {p p2 : xH} {S : Nat} {A : Nat → Nat → Prop} {e : Nat → Nat} {s t : Nat → Nat → Int} {l : List Nat} {b : Int × List Nat} (h : hNt T_dx p p2) (g : ∀ (j : Nat) (r : dS) (T : Int32), j ∈ l → hDr p j r T → hDr p2 j r T) (x : bsX p S A e s t l b) : bsX p2 S A e s t l b := by
  obtain ⟨x1, x2, x3, x4, x5, x6, x7, x8⟩ := x
  refine ⟨bsK_e (h.up (by decide)) x1, x2, fun j hj => ?_, oR_e (fun i _ => h.int (r := 40) rfl) x4, by rw [h.int (r := 34) (k := 9) rfl]; exact x5, x6, x7, fun q => oR_e (fun i _ => h.int (r := 41) rfl) (x8 q)⟩
  obtain ⟨T, q⟩ := x3 j hj
  exact ⟨T, g j _ T hj q⟩
theorem bsX_ko {p p2 : xH} {S : Nat} {A : Nat → Nat → Prop} {e : Nat → Nat} {s t : Nat → Nat → Int} {l : List Nat} {b : Int × List Nat} {c : Int32} (h : hNt T_ko p p2) (hl : l.length = S) (hc : c.toInt = cL A S e s t l) (h9 : rI p2 34 9 = c) (h41 : ∀ j, j < S → rI p2 41 j = rI p 40 j) (x : bsX p S A e s t l b) : bsX p2 S A e s t l (cL A S e s t l, l) := by
  obtain ⟨x1, x2, x3, x4, x5, x6, x7, x8⟩ := x
  have z := cL_b (A := A) (bsK_es x1) x2.1
  have z7 := x1.2.1
  refine ⟨bsK_e (h.up (by decide)) x1, x2, fun j hj => ?_, oR_e (fun i _ => h.int (r := 40) rfl) x4, by rw [h9]; exact hc, z.1, by show cL A S e s t l ≤ 211; omega, fun q i hi => ?_⟩
  · obtain ⟨T, q⟩ := x3 j hj
    exact ⟨T, hDr_e (fun k => h.int (r := 35) rfl) (h.int (r := 36) rfl) (h.int (r := 37) rfl) (h.int (r := 38) rfl) (h.int (r := 39) rfl) q⟩
  · rw [h41 i hi]
    exact x4 i (by omega)
theorem bsX_tt {p p1 p2 : xH} {S : Nat} {A : Nat → Nat → Prop} {e : Nat → Nat} {s t : Nat → Nat → Int} {l : List Nat} {b : Int × List Nat} {n : Nat} {x T : Int32} (hw : hW p) (hn : n < S) (hl : n ∉ l) (e1 : p1 = wV p 40 l.length (.int x)) (hx : x.toInt = n) (h : hNt T_dx p1 p2) (hO : hOt p1 p2 n) (hD : hDr p2 n (dK (dSh A S (dL A S e s t l) l n) (s n) (t n) (e n)) T) (k : bsX p S A e s t l b) : bsX p2 S A e s t (n :: l) b := by
  obtain ⟨x1, x2, x3, x4, x5, x6, x7, x8⟩ := k
  have hlen := lOk_le (lOk_c x2 hn hl)
  have hS := x1.2.1
  rw [List.length_cons] at hlen
  have n1 : hNt T_bo p p1 := by rw [e1]; exact (hNt.refl _ _).w rfl
  have n2 : hNt T_bo p p2 := n1.trans (h.up (by decide))
  have o1 : ∀ r i, r ≠ 40 → rI p1 r i = rI p r i := fun r i q => by rw [e1, rI_o q]
  refine ⟨bsK_e n2 x1, lOk_c x2 hn hl, fun j hj => ?_, oR_e (fun i _ => h.int (r := 40) rfl) (oR_w hw (by show _ < 7; omega) e1 hx x4), by rw [h.int (r := 34) (k := 9) rfl, o1 34 _ (by decide)]; exact x5, x6, x7, fun q => oR_e (fun i _ => by rw [h.int (r := 41) rfl, o1 41 _ (by decide)]) (x8 q)⟩
  by_cases g : j = n
  · rw [g, dL_h]
    exact ⟨T, hD⟩
  · rw [dL_t g]
    rcases List.mem_cons.mp hj with q | q
    · exact absurd q g
    · obtain ⟨T2, q2⟩ := x3 j q
      exact ⟨T2, hDr_ot hO g (hDr_e (fun k => o1 35 k (by decide)) (o1 36 j (by decide)) (o1 37 j (by decide)) (o1 38 j (by decide)) (o1 39 j (by decide)) q2)⟩
theorem bsX_bk {p : xH} {S : Nat} {A : Nat → Nat → Prop} {e : Nat → Nat} {s t : Nat → Nat → Int} {l : List Nat} {b : Int × List Nat} {n : Nat} (hl : n ∉ l) (k : bsX p S A e s t (n :: l) b) : bsX p S A e s t l b := by
  obtain ⟨x1, x2, x3, x4, x5, x6, x7, x8⟩ := k
  refine ⟨x1, lOk_b x2 hl, fun j hj => ?_, oR_bk x4, x5, x6, x7, x8⟩
  obtain ⟨T, q⟩ := x3 j (List.mem_cons_of_mem _ hj)
  rw [dL_t (fun z => hl (by rw [← z]; exact hj))] at q
  exact ⟨T, q⟩
theorem bsX_y {p : xH} {S : Nat} {A : Nat → Nat → Prop} {e : Nat → Nat} {s t : Nat → Nat → Int} {l : List Nat} {b : Int × List Nat} {k : Nat} (hk : k = 0) (h : cL A S e s t l < b.1) (x : bsX p S A e s t l (cL A S e s t l, l)) : bsX p S A e s t l (bS A S e s t k l b) := by rw [bS_y hk h]; exact x
theorem bsX_n {p : xH} {S : Nat} {A : Nat → Nat → Prop} {e : Nat → Nat} {s t : Nat → Nat → Int} {l : List Nat} {b : Int × List Nat} {k : Nat} (hk : k = 0) (h : b.1 ≤ cL A S e s t l) (x : bsX p S A e s t l b) : bsX p S A e s t l (bS A S e s t k l b) := by rw [bS_n hk h]; exact x
theorem bsX_no {p : xH} {S : Nat} {A : Nat → Nat → Prop} {e : Nat → Nat} {s t : Nat → Nat → Int} {l : List Nat} {b : Int × List Nat} {k : Nat} (h : ∀ l', lExt S k l l' → b.1 ≤ cL A S e s t l') (x : bsX p S A e s t l b) : bsX p S A e s t l (bS A S e s t k l b) := by rw [bS_no h]; exact x
theorem bsX_s {p : xH} {S : Nat} {A : Nat → Nat → Prop} {e : Nat → Nat} {s t : Nat → Nat → Int} {l : List Nat} {b : Int × List Nat} {k j : Nat} (hk : k = j + 1) (x : bsX p S A e s t l (bR (fun n b => if n ∈ l then b else bS A S e s t j (n :: l) b) S b)) : bsX p S A e s t l (bS A S e s t k l b) := by rw [bS_s hk]; exact x
theorem bit_c {a z w x : Int32} {l : List Nat} {n : Nat} (ha : ∀ j, j < 32 → (bI a j = true ↔ j ∈ l)) (hx : x.toInt = n) (hn : n < 32) (hw : w = (1 : Int32) <<< (x &&& 31)) (hz : z = a ||| w) : ∀ j, j < 32 → (bI z j = true ↔ j ∈ n :: l) := fun j hj => by
  rw [hz, hw, bI_or, Bool.or_eq_true, ha j hj, bI_p (j := n) hx hn hj, decide_eq_true_iff, List.mem_cons]
  exact ⟨fun q => q.elim Or.inr Or.inl, fun q => q.elim Or.inr Or.inl⟩
def hs_orderFrom (ro : List (List Int32)) (n : Nat) : Prop := ∀ {d : Nat} {p : xH} {Q : Option Value → xH → Prop} {k : Int32} {ki : Int} {a : Int32} {ai : Int} {c : Int32} {ci : Int} (S : Nat) (A : Nat → Nat → Prop) (e : Nat → Nat) (s : Nat → Nat → Int) (t : Nat → Nat → Int) (l : List Nat) (b : Int × List Nat) (hk : k.toInt = ki) (ha : a.toInt = ai) (hc : c.toInt = ci) (pre0 : bsX p S A e s t l b) (pre1 : ki = (l.length : Int)) (pre2 : ∀ j, j < 32 → (bI a j = true ↔ j ∈ l)) (pre3 : ci = cL A S e s t l) (k0 : ∀ p2 : xH, (hNt T_bo p p2) → (bsX p2 S A e s t l (bS A S e s t (S - l.length) l b)) → Q none p2), hP ro n d (2, 5, 1, 0, k35) 0 (lv_args 0 [.ref 34, .int k, .int a, .int c]) [] p Q
def hs_orderWith (ro : List (List Int32)) (n : Nat) : Prop := ∀ {d : Nat} {p : xH} {Q : Option Value → xH → Prop} {x : Int32} {xi : Int} {k : Int32} {ki : Int} {a : Int32} {ai : Int} {c : Int32} {ci : Int} (S : Nat) (A : Nat → Nat → Prop) (e : Nat → Nat) (s : Nat → Nat → Int) (t : Nat → Nat → Int) (l : List Nat) (b : Int × List Nat) (hx : x.toInt = xi) (hk : k.toInt = ki) (ha : a.toInt = ai) (hc : c.toInt = ci) (pre0 : bsX p S A e s t l b) (pre1 : ki = (l.length : Int)) (pre2 : ∀ j, j < 32 → (bI a j = true ↔ j ∈ l)) (pre3 : ci = cL A S e s t l) (pre4 : 0 ≤ xi) (pre5 : xi < S) (pre6 : xi.toNat ∉ l) (k0 : ∀ p2 : xH, (hNt T_bo p p2) → (bsX p2 S A e s t l (bS A S e s t (S - l.length - 1) (xi.toNat :: l) b)) → Q none p2), hP ro n d (2, 6, 1, 0, k36) 0 (lv_args 0 [.ref 34, .int x, .int k, .int a, .int c]) [] p Q
def RC_bo (ro : List (List Int32)) (n : Nat) : Prop := hs_orderFrom ro n ∧ hs_orderWith ro n
theorem RC_bo_more {ro : List (List Int32)} {n : Nat} (h : RC_bo ro (n + 1)) : RC_bo ro n := ⟨fun S A e s t l b hk ha hc pre0 pre1 pre2 pre3 k0 => hp_more (h.1 S A e s t l b hk ha hc pre0 pre1 pre2 pre3 k0), fun S A e s t l b hx hk ha hc pre0 pre1 pre2 pre3 pre4 pre5 pre6 k0 => hp_more (h.2 S A e s t l b hx hk ha hc pre0 pre1 pre2 pre3 pre4 pre5 pre6 k0)⟩
theorem rs_orderFrom {ro : List (List Int32)} {n : Nat} (rc : RC_bo ro n) {d : Nat} {p : xH} {Q : Option Value → xH → Prop} {k : Int32} {ki : Int} {a : Int32} {ai : Int} {c : Int32} {ci : Int} (S : Nat) (A : Nat → Nat → Prop) (e : Nat → Nat) (s : Nat → Nat → Int) (t : Nat → Nat → Int) (l : List Nat) (b : Int × List Nat) (hk : k.toInt = ki) (ha : a.toInt = ai) (hc : c.toInt = ci) (pre0 : bsX p S A e s t l b) (pre1 : ki = (l.length : Int)) (pre2 : ∀ j, j < 32 → (bI a j = true ↔ j ∈ l)) (pre3 : ci = cL A S e s t l) (k0 : ∀ p2 : xH, (hNt T_bo p p2) → (bsX p2 S A e s t l (bS A S e s t (S - l.length) l b)) → Q none p2) : hP ro n d (2, 5, 1, 0, k35) 0 (lv_args 0 [.ref 34, .int k, .int a, .int c]) [] p Q := rc.1 S A e s t l b hk ha hc pre0 pre1 pre2 pre3 k0
theorem rs_orderWith {ro : List (List Int32)} {n : Nat} (rc : RC_bo ro n) {d : Nat} {p : xH} {Q : Option Value → xH → Prop} {x : Int32} {xi : Int} {k : Int32} {ki : Int} {a : Int32} {ai : Int} {c : Int32} {ci : Int} (S : Nat) (A : Nat → Nat → Prop) (e : Nat → Nat) (s : Nat → Nat → Int) (t : Nat → Nat → Int) (l : List Nat) (b : Int × List Nat) (hx : x.toInt = xi) (hk : k.toInt = ki) (ha : a.toInt = ai) (hc : c.toInt = ci) (pre0 : bsX p S A e s t l b) (pre1 : ki = (l.length : Int)) (pre2 : ∀ j, j < 32 → (bI a j = true ↔ j ∈ l)) (pre3 : ci = cL A S e s t l) (pre4 : 0 ≤ xi) (pre5 : xi < S) (pre6 : xi.toNat ∉ l) (k0 : ∀ p2 : xH, (hNt T_bo p p2) → (bsX p2 S A e s t l (bS A S e s t (S - l.length - 1) (xi.toNat :: l) b)) → Q none p2) : hP ro n d (2, 6, 1, 0, k36) 0 (lv_args 0 [.ref 34, .int x, .int k, .int a, .int c]) [] p Q := rc.2 S A e s t l b hx hk ha hc pre0 pre1 pre2 pre3 pre4 pre5 pre6 k0
theorem lp35_x {p : xH} {S k : Nat} {A : Nat → Nat → Prop} {e : Nat → Nat} {s t : Nat → Nat → Int} {l : List Nat} {b0 : Int × List Nat} {f : Nat → Int × List Nat → Int × List Nat} (h : k = S) (x : bsX p S A e s t l (bR f k b0)) : bsX p S A e s t l (bR f S b0) := by rw [← h] at x ⊢; exact x
theorem lp_35 {ro : List (List Int32)} {d : Nat} {Q : Option Value → xH → Prop} {p0 : xH} {S : Nat} {A : Nat → Nat → Prop} {e : Nat → Nat} {s t : Nat → Nat → Int} {l : List Nat} {b0 : Int × List Nat} {pl a c : Int32} (hll : l.length < S) (hS7 : S ≤ 7) (hpl : pl.toInt = (l.length : Int)) (hlt : l.length < S) (ha : ∀ j, j < 32 → (bI a j = true ↔ j ∈ l)) (hc : c.toInt = cL A S e s t l) (K : ∀ p2 : xH, hNt T_bo p0 p2 → bsX p2 S A e s t l (bR (fun n b => if n ∈ l then b else bS A S e s t (S - l.length - 1) (n :: l) b) S b0) → Q none p2) : ∀ (n : Nat) (k : Int32) (p : xH), (RC_bo ro n) → (0 ≤ k.toInt) → (k.toInt ≤ S) → (hNt T_bo p0 p) → (bsX p S A e s t l (bR (fun n b => if n ∈ l then b else bS A S e s t (S - l.length - 1) (n :: l) b) k.toInt.toNat b0)) → hP ro n d (2, 5, 1, 0, k35) 34 [(4, .int k), (0, .ref 34), (1, .int pl), (2, .int a), (3, .int c)] [] p Q := by
  intro n
  induction n with
  | zero => intros; exact hp_0
  | succ n ih =>
    intro k p rc hk1 hk2 hN hX
    replace rc := RC_bo_more rc
    have e13 : (rI p 13 7).toInt = (S : Int) := hX.1.1
    refine hp_s1 (pc' := 36) (st' := [.int k]) rfl rfl rfl ?_
    refine hp_s (pc' := 37) (st' := [.ref 34, .int k]) rfl rfl rfl ?_
    refine hp_getr (k := 0) (w := .ref 13) (pc' := 40) rfl rfl rfl rfl rfl ?_
    refine hp_get (k := 7) (pc' := 43) (v := (rI p 13 7)) rfl rfl rfl rfl rfl rfl ?_
    refine hp_ic (pc' := 46) (t := 70) (a := k.toInt) (b := (rI p 13 7).toInt) rfl rfl rfl rfl rfl (fun (h1 : (rI p 13 7).toInt ≤ k.toInt) => ?_) (fun (h2 : ¬ ((rI p 13 7).toInt ≤ k.toInt)) => ?_)
    ·
      refine hp_rv rfl rfl ?_
      exact K p hN (lp35_x (by omega) hX)
    ·
      refine hp_s (pc' := 47) (st' := [.int a]) rfl rfl rfl ?_
      refine hp_s (pc' := 49) (st' := [.int k, .int a]) rfl rfl rfl ?_
      refine hp_z (pc' := 50) (e := a >>> (k &&& 31)) (st' := []) rfl rfl rfl ?_
      intro z1 hz1
      refine hp_s (pc' := 51) (st' := [.int 1, .int z1]) rfl rfl rfl ?_
      refine hp_z (pc' := 52) (e := z1 &&& 1) (st' := []) rfl rfl rfl ?_
      intro z2 hz2
      have hbit : z2.toInt = if bI a k.toInt.toNat then 1 else 0 := by rw [hz2, hz1]; exact bI_at _ (by omega) (by omega)
      refine hp_if (pc' := 55) (t := 64) (a := z2.toInt) rfl rfl rfl rfl (fun (h3 : z2.toInt ≠ 0) => ?_) (fun (h4 : ¬ (z2.toInt ≠ 0)) => ?_)
      ·
        refine hp_inc (L := fun z_ => [(4, .int z_), (0, .ref 34), (1, .int pl), (2, .int a), (3, .int c)]) (pc' := 67) rfl rfl rfl (fun _ => rfl) rfl ?_
        intro z3 hz3
        have ez3 := i_add hz3 (show k.toInt = k.toInt from rfl) (show (Int32.ofInt 1).toInt = 1 from by decide)
        refine hp_go (pc' := 34) rfl rfl rfl ?_
        have hil : k.toInt.toNat ∈ l := by
          cases hb : bI a k.toInt.toNat with
          | true => exact (ha _ (by omega)).mp hb
          | false => rw [hb, if_neg (by decide)] at hbit; omega
        refine ih z3 p rc (by omega) (by omega) hN ?_
        rw [show z3.toInt.toNat = k.toInt.toNat + 1 by omega]
        show bsX _ S A e s t l (if k.toInt.toNat ∈ l then bR (fun n b => if n ∈ l then b else bS A S e s t (S - l.length - 1) (n :: l) b) k.toInt.toNat b0 else bS A S e s t (S - l.length - 1) (k.toInt.toNat :: l) (bR (fun n b => if n ∈ l then b else bS A S e s t (S - l.length - 1) (n :: l) b) k.toInt.toNat b0))
        rw [if_pos hil]; exact hX
      ·
        refine hp_s (pc' := 56) (st' := [.ref 34]) rfl rfl rfl ?_
        refine hp_s (pc' := 58) (st' := [.int k, .ref 34]) rfl rfl rfl ?_
        refine hp_s (pc' := 59) (st' := [.int pl, .int k, .ref 34]) rfl rfl rfl ?_
        refine hp_s (pc' := 60) (st' := [.int a, .int pl, .int k, .ref 34]) rfl rfl rfl ?_
        refine hp_s (pc' := 61) (st' := [.int c, .int a, .int pl, .int k, .ref 34]) rfl rfl rfl ?_
        have hnl : k.toInt.toNat ∉ l := fun g => by rw [(ha k.toInt.toNat (by omega)).mpr g, if_pos rfl] at hbit; omega
        refine hp_cv (r := 34) (o := 2) (kd := 1) (as := [.int k, .int pl, .int a, .int c]) (rest := []) (pc' := 64) rfl rfl rfl rfl rfl rfl rfl rfl rfl (fun d1 => ?_)
        refine rs_orderWith rc S A e s t l (bR (fun n b => if n ∈ l then b else bS A S e s t (S - l.length - 1) (n :: l) b) k.toInt.toNat b0) (xi := k.toInt) rfl (ki := pl.toInt) rfl (ai := a.toInt) rfl (ci := c.toInt) rfl (by first | assumption | omega) (by first | assumption | omega) (by first | assumption | omega) (by first | assumption | omega) (by first | assumption | omega) (by first | assumption | omega) (by first | assumption | omega) ?_
        intro p1 h5 h6
        refine hp_id (st := []) ?_
        refine hp_inc (L := fun z_ => [(4, .int z_), (0, .ref 34), (1, .int pl), (2, .int a), (3, .int c)]) (pc' := 67) rfl rfl rfl (fun _ => rfl) rfl ?_
        intro z4 hz4
        have ez4 := i_add hz4 (show k.toInt = k.toInt from rfl) (show (Int32.ofInt 1).toInt = 1 from by decide)
        refine hp_go (pc' := 34) rfl rfl rfl ?_
        refine ih z4 p1 rc (by omega) (by omega) (hN.trans h5) ?_
        rw [show z4.toInt.toNat = k.toInt.toNat + 1 by omega]
        show bsX _ S A e s t l (if k.toInt.toNat ∈ l then bR (fun n b => if n ∈ l then b else bS A S e s t (S - l.length - 1) (n :: l) b) k.toInt.toNat b0 else bS A S e s t (S - l.length - 1) (k.toInt.toNat :: l) (bR (fun n b => if n ∈ l then b else bS A S e s t (S - l.length - 1) (n :: l) b) k.toInt.toNat b0))
        rw [if_neg hnl]; exact h6
theorem ts_orderFrom {ro : List (List Int32)} {n : Nat} (rc : RC_bo ro n) : hs_orderFrom ro (n + 1) := by
  intro d p Q k ki a ai c ci S A e s t l b hk ha hc pre0 pre1 pre2 pre3 k0
  subst hk
  subst ha
  subst hc
  refine hp_id (ls := [(0, .ref 34), (1, .int k), (2, .int a), (3, .int c)]) ?_
  obtain ⟨x1, x2, x3, x4, x5, x6, x7, x8⟩ := pre0
  have pre0 : bsX p S A e s t l b := ⟨x1, x2, x3, x4, x5, x6, x7, x8⟩
  obtain ⟨b1, b2, b3, b4, b5, b6, b7⟩ := x1
  have x1 : bsK p S A e s t := ⟨b1, b2, b3, b4, b5, b6, b7⟩
  have hll := lOk_le x2
  have hcl := cL_b (A := A) (bsK_es x1) x2.1
  refine hp_s1 (pc' := 1) (st' := [.int k]) rfl rfl rfl ?_
  refine hp_s (pc' := 2) (st' := [.ref 34, .int k]) rfl rfl rfl ?_
  refine hp_getr (k := 0) (w := .ref 13) (pc' := 5) rfl rfl rfl rfl rfl ?_
  refine hp_get (k := 7) (pc' := 8) (v := (rI p 13 7)) rfl rfl rfl rfl rfl rfl ?_
  refine hp_ic (pc' := 11) (t := 17) (a := k.toInt) (b := (rI p 13 7).toInt) rfl rfl rfl rfl rfl (fun (h1 : k.toInt < (rI p 13 7).toInt) => ?_) (fun (h2 : ¬ (k.toInt < (rI p 13 7).toInt)) => ?_)
  ·
    refine hp_s (pc' := 18) (st' := [.ref 34]) rfl rfl rfl ?_
    refine hp_s (pc' := 19) (st' := [.int a, .ref 34]) rfl rfl rfl ?_
    refine hp_s (pc' := 20) (st' := [.int c, .int a, .ref 34]) rfl rfl rfl ?_
    have u1 : ∀ j, j ∈ l → j < S → hDb p j (dw (plX p A S l j)) := fun j hj _ => by obtain ⟨T, q⟩ := x3 j hj; have q1 := q.1; unfold plX; rw [b5, b6, b7]; exact q1
    have u2 : 0 ≤ c.toInt ∧ c.toInt ≤ 300 := ⟨by omega, by omega⟩
    refine hp_cv (r := 34) (o := 2) (kd := 1) (as := [.int a, .int c]) (rest := []) (pc' := 23) rfl rfl rfl rfl rfl rfl rfl rfl rfl (fun d1 => ?_)
    refine s_leastToCome S A l (ai := a.toInt) rfl (ci := c.toInt) rfl (by first | assumption | omega) (by first | assumption | omega) (by first | assumption | omega) (by first | assumption | omega) (by first | assumption | omega) (by first | assumption | omega) (by first | assumption | omega) ?_
    intro y1 p1 h3 h4 h5
    refine hp_id (st := [.int y1]) ?_
    refine hp_s (pc' := 24) (st' := [.ref 34, .int y1]) rfl rfl rfl ?_
    refine hp_get (k := 9) (pc' := 27) (v := (rI p 34 9)) rfl rfl rfl rfl rfl (by rw [h3.int (r := 34) (k := 9) rfl]) ?_
    refine hp_ic (pc' := 30) (t := 31) (a := y1.toInt) (b := (rI p 34 9).toInt) rfl rfl rfl rfl rfl (fun (h6 : y1.toInt < (rI p 34 9).toInt) => ?_) (fun (h7 : ¬ (y1.toInt < (rI p 34 9).toInt)) => ?_)
    ·
      refine hp_s (pc' := 32) (st' := [.int 0]) rfl rfl rfl ?_
      refine hp_s (pc' := 34) (ls' := [(4, .int 0), (0, .ref 34), (1, .int k), (2, .int a), (3, .int c)]) (st' := []) rfl rfl rfl ?_
      exact lp_35 (p0 := p1) (S := S) (A := A) (e := e) (s := s) (t := t) (l := l) (b0 := b) (pl := k) (a := a) (c := c) (by omega) b2 pre1 (by omega) pre2 pre3 (fun p2 u1 u2 => k0 p2 (hNt.trans (h3.up (by decide)) u1) (bsX_s (j := S - l.length - 1) (by omega) u2)) n 0 p1 rc (by decide) (by have h00 : (0 : Int32).toInt = 0 := (by decide); omega) (hNt.refl _ _) (by rw [i_ofz]; exact bsX_lc h3 h4 pre0)
    ·
      refine hp_rv rfl rfl ?_
      rw [b5, b6, b7] at h5
      exact k0 p1 (h3.up (by decide)) (bsX_no (fun l2 hl2 => by have q := cR_ext (A := A) (bsK_es x1) hl2 (lExt_full hl2 (by rw [x2.2]; omega)); omega) (bsX_lc h3 h4 pre0))
  ·
    refine hp_s (pc' := 12) (st' := [.ref 34]) rfl rfl rfl ?_
    refine hp_s (pc' := 13) (st' := [.int c, .ref 34]) rfl rfl rfl ?_
    refine hp_cv (r := 34) (o := 2) (kd := 1) (as := [.int c]) (rest := []) (pc' := 16) rfl rfl rfl rfl rfl rfl rfl rfl rfl (fun d2 => ?_)
    refine s_keepOrder (ci := c.toInt) rfl (by first | assumption | omega) (by first | assumption | omega) ?_ ?_
    ·
      intro h8
      refine hp_id (st := []) ?_
      refine hp_rv rfl rfl ?_
      exact k0 p (hNt.refl _ _) (bsX_n (by omega) (by omega) pre0)
    ·
      intro p2 h9 h10 h11 h12
      refine hp_id (st := []) ?_
      refine hp_rv rfl rfl ?_
      exact k0 p2 (h9.up (by decide)) (bsX_y (by omega) (by omega) (bsX_ko h9 (by omega) pre3 h11 (fun j hj => h12 j (by omega)) pre0))
theorem ts_orderWith {ro : List (List Int32)} {n : Nat} (rc : RC_bo ro n) : hs_orderWith ro (n + 1) := by
  intro d p Q x xi k ki a ai c ci S A e s t l b hx hk ha hc pre0 pre1 pre2 pre3 pre4 pre5 pre6 k0
  subst hx
  subst hk
  subst ha
  subst hc
  refine hp_id (ls := [(0, .ref 34), (1, .int x), (2, .int k), (3, .int a), (4, .int c)]) ?_
  have hS7 := pre0.1.2.1
  have hl7 := lOk_le pre0.2.1
  refine hp_hw (fun w0 => ?_)
  refine hp_s1 (pc' := 1) (st' := [.ref 34]) rfl rfl rfl ?_
  refine hp_getr (k := 7) (w := .ref 40) (pc' := 4) rfl rfl rfl rfl rfl ?_
  refine hp_s (pc' := 5) (st' := [.int k, .ref 40]) rfl rfl rfl ?_
  refine hp_s (pc' := 6) (st' := [.int x, .int k, .ref 40]) rfl rfl rfl ?_
  refine hp_st (t := 100) rfl (.inl rfl) rfl rfl ?_
  intro p1 wp1 (p1a : 0 ≤ k.toInt) (p1b : k.toInt < 7) ep1
  refine hp_s (pc' := 8) (st' := [.ref 34]) rfl rfl rfl ?_
  refine hp_s (pc' := 9) (st' := [.int x, .ref 34]) rfl rfl rfl ?_
  refine hp_s (pc' := 10) (st' := [.int a, .int x, .ref 34]) rfl rfl rfl ?_
  obtain ⟨x1, x2, x3, x4, x5, x6, x7, x8⟩ := pre0
  have pre0 : bsX p S A e s t l b := ⟨x1, x2, x3, x4, x5, x6, x7, x8⟩
  have n1 : hNt T_bo p p1 := (by rw [ep1]; exact (hNt.w (hNt.refl _ _) rfl))
  obtain ⟨b1, b2, b3, b4, b5, b6, b7⟩ := bsK_e n1 x1
  have t1 : hLk A S x.toInt.toNat (rI p1 33 x.toInt.toNat) := b3 _ (by omega)
  have t2 : ∀ j, j ∈ l → j < S → hDb p1 j (dw (dL A S e s t l j)) := fun j hj _ u hu m hm => by obtain ⟨T, q⟩ := x3 j hj; rw [ep1, rI_o (by decide)]; exact q.1 u hu m hm
  have t3 := b4.1 x.toInt.toNat
  have t4 := hEr_s b4 x.toInt.toNat
  have t5 := hEr_t b4 (n := x.toInt.toNat) (by omega)
  refine hp_cv (r := 34) (o := 2) (kd := 1) (as := [.int x, .int a]) (rest := []) (pc' := 13) rfl rfl rfl rfl rfl rfl rfl rfl rfl (fun d1 => ?_)
  refine s_takeTurn S A (dL A S e s t l) l (xi := x.toInt) rfl (ai := a.toInt) rfl (by first | assumption | omega) (by first | assumption | omega) (by first | assumption | omega) (by first | assumption | omega) (by first | assumption | omega) (by first | assumption | omega) (by first | assumption | omega) (by first | assumption | omega) (by first | assumption | omega) (by first | assumption | omega) ?_
  intro y1 p2 h1 h2 h3 h4
  have hzc : y1.toInt = cN A S e s t l x.toInt.toNat := by
    rw [h4, dCt_I b4 (by omega), b5, b6, b7]
    rfl
  rw [b5, b6, b7] at h3
  have hcb := cN_b (A := A) (bsK_es x1) (l := l) (n := x.toInt.toNat) (by omega)
  have hcl := cL_b (A := A) (bsK_es x1) x2.1
  have hll := lOk_le x2
  refine hp_id (st := [.int y1]) ?_
  refine hp_s (pc' := 15) (ls' := [(5, .int y1), (0, .ref 34), (1, .int x), (2, .int k), (3, .int a), (4, .int c)]) (st' := []) rfl rfl rfl ?_
  refine hp_s (pc' := 16) (st' := [.ref 34]) rfl rfl rfl ?_
  refine hp_s (pc' := 17) (st' := [.int k, .ref 34]) rfl rfl rfl ?_
  refine hp_s (pc' := 18) (st' := [.int 1, .int k, .ref 34]) rfl rfl rfl ?_
  refine hp_z (pc' := 19) (e := k + 1) (st' := [.ref 34]) rfl rfl rfl ?_
  intro z1 hz1
  have ez1 := i_add hz1 (show k.toInt = k.toInt from rfl) (show (1 : Int32).toInt = 1 from by decide)
  refine hp_s (pc' := 20) (st' := [.int a, .int z1, .ref 34]) rfl rfl rfl ?_
  refine hp_s (pc' := 21) (st' := [.int 1, .int a, .int z1, .ref 34]) rfl rfl rfl ?_
  refine hp_s (pc' := 22) (st' := [.int x, .int 1, .int a, .int z1, .ref 34]) rfl rfl rfl ?_
  refine hp_z (pc' := 23) (e := 1 <<< (x &&& 31)) (st' := [.int a, .int z1, .ref 34]) rfl rfl rfl ?_
  intro z2 hz2
  refine hp_z (pc' := 24) (e := a ||| z2) (st' := [.int z1, .ref 34]) rfl rfl rfl ?_
  intro z3 hz3
  refine hp_s (pc' := 26) (st' := [.int c, .int z3, .int z1, .ref 34]) rfl rfl rfl ?_
  refine hp_s (pc' := 28) (st' := [.int y1, .int c, .int z3, .int z1, .ref 34]) rfl rfl rfl ?_
  refine hp_z (pc' := 29) (e := c + y1) (st' := [.int z3, .int z1, .ref 34]) rfl rfl rfl ?_
  intro z4 hz4
  have ez4 := i_add hz4 (show c.toInt = c.toInt from rfl) (show y1.toInt = y1.toInt from rfl)
  have r0 : bsX p2 S A e s t (x.toInt.toNat :: l) b := bsX_tt w0 (by omega) pre6 (by rw [ep1, show k.toInt.toNat = l.length by omega]) (by omega) h1 h2 h3 pre0
  have r1 : z1.toInt = ((x.toInt.toNat :: l).length : Int) := by rw [List.length_cons]; push_cast; omega
  have r2 := bit_c pre2 (show x.toInt = (x.toInt.toNat : Int) by omega) (by omega) hz2 hz3
  have r3 : z4.toInt = cL A S e s t (x.toInt.toNat :: l) := by show _ = cL A S e s t l + cN A S e s t l x.toInt.toNat; omega
  refine hp_cv (r := 34) (o := 2) (kd := 1) (as := [.int z1, .int z3, .int z4]) (rest := []) (pc' := 32) rfl rfl rfl rfl rfl rfl rfl rfl rfl (fun d2 => ?_)
  refine rs_orderFrom rc S A e s t (x.toInt.toNat :: l) b (ki := z1.toInt) rfl (ai := z3.toInt) rfl (ci := z4.toInt) rfl (by first | assumption | omega) (by first | assumption | omega) (by first | assumption | omega) (by first | assumption | omega) ?_
  intro p3 h5 h6
  refine hp_id (st := []) ?_
  refine hp_rv rfl rfl ?_
  have q := bsX_bk pre6 h6
  rw [show S - (x.toInt.toNat :: l).length = S - l.length - 1 by rw [List.length_cons]; omega] at q
  exact k0 _ (hNt.trans (hNt.trans (by rw [ep1]; exact (hNt.w (hNt.refl _ _) rfl)) (h1.up (by decide))) (h5.up (by decide))) q
theorem RC_bo_all {ro : List (List Int32)} : ∀ n : Nat, RC_bo ro n
  | 0 => ⟨fun _ _ _ _ _ _ _ _ _ _ _ _ _ _ _ => hp_0, fun _ _ _ _ _ _ _ _ _ _ _ _ _ _ _ _ _ _ _ => hp_0⟩
  | n + 1 => ⟨ts_orderFrom (RC_bo_all n), ts_orderWith (RC_bo_all n)⟩
theorem s_orderFrom {ro : List (List Int32)} {n : Nat} {d : Nat} {p : xH} {Q : Option Value → xH → Prop} {k : Int32} {ki : Int} {a : Int32} {ai : Int} {c : Int32} {ci : Int} (S : Nat) (A : Nat → Nat → Prop) (e : Nat → Nat) (s : Nat → Nat → Int) (t : Nat → Nat → Int) (l : List Nat) (b : Int × List Nat) (hk : k.toInt = ki) (ha : a.toInt = ai) (hc : c.toInt = ci) (pre0 : bsX p S A e s t l b) (pre1 : ki = (l.length : Int)) (pre2 : ∀ j, j < 32 → (bI a j = true ↔ j ∈ l)) (pre3 : ci = cL A S e s t l) (k0 : ∀ p2 : xH, (hNt T_bo p p2) → (bsX p2 S A e s t l (bS A S e s t (S - l.length) l b)) → Q none p2) : hP ro n d (2, 5, 1, 0, k35) 0 (lv_args 0 [.ref 34, .int k, .int a, .int c]) [] p Q := rs_orderFrom (RC_bo_all n) S A e s t l b hk ha hc pre0 pre1 pre2 pre3 k0
theorem s_orderWith {ro : List (List Int32)} {n : Nat} {d : Nat} {p : xH} {Q : Option Value → xH → Prop} {x : Int32} {xi : Int} {k : Int32} {ki : Int} {a : Int32} {ai : Int} {c : Int32} {ci : Int} (S : Nat) (A : Nat → Nat → Prop) (e : Nat → Nat) (s : Nat → Nat → Int) (t : Nat → Nat → Int) (l : List Nat) (b : Int × List Nat) (hx : x.toInt = xi) (hk : k.toInt = ki) (ha : a.toInt = ai) (hc : c.toInt = ci) (pre0 : bsX p S A e s t l b) (pre1 : ki = (l.length : Int)) (pre2 : ∀ j, j < 32 → (bI a j = true ↔ j ∈ l)) (pre3 : ci = cL A S e s t l) (pre4 : 0 ≤ xi) (pre5 : xi < S) (pre6 : xi.toNat ∉ l) (k0 : ∀ p2 : xH, (hNt T_bo p p2) → (bsX p2 S A e s t l (bS A S e s t (S - l.length - 1) (xi.toNat :: l) b)) → Q none p2) : hP ro n d (2, 6, 1, 0, k36) 0 (lv_args 0 [.ref 34, .int x, .int k, .int a, .int c]) [] p Q := rs_orderWith (RC_bo_all n) S A e s t l b hx hk ha hc pre0 pre1 pre2 pre3 pre4 pre5 pre6 k0
