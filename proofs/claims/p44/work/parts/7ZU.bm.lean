/-! contracts of methods, walked -/
abbrev T_om : List (Nat × Nat) := [(79, 9999), (80, 9999), (81, 9999), (66, 25), (84, 9999), (85, 9999), (66, 30)]
theorem drt_Im {p : xH} (h : hEm p) {n : Nat} (hn : n < 7) : (drt p 72 74 n).toInt = tS (drs p 74 n) (dre p 72 n) ∧ 0 ≤ tS (drs p 74 n) (dre p 72 n) ∧ tS (drs p 74 n) (dre p 72 n) ≤ 24 := by
  have b := h.1 n
  have hd : dre p 72 n = (rI p 72 n).toInt.toNat := rfl
  obtain ⟨u, v, w⟩ := hSum_I (f := fun j => rI p 74 ((4 * (n : Int)).toNat + j)) (t := drs p 74 n) (k := dre p 72 n) (by omega) (fun j hj => ⟨by show (rI p 74 _).toInt = (rI p 74 _).toInt; congr 2, by have := (hEm_t h hn j hj).1; omega, (hEm_t h hn j hj).2⟩)
  exact ⟨u, v, by omega⟩
theorem dCt_Im {p : xH} (h : hEm p) {n : Nat} (hn : n < 7) {Sh : Int → Int → Prop} : (dCt (drt p 72 74 n) (dK Sh (drs p 73 n) (drs p 74 n) (dre p 72 n))).toInt = dcI (tS (drs p 74 n) (dre p 72 n)) (dK Sh (drs p 73 n) (drs p 74 n) (dre p 72 n)) := by
  obtain ⟨a, b, c⟩ := drt_Im h hn
  cases hq : dK Sh (drs p 73 n) (drs p 74 n) (dre p 72 n) with
  | none => show (30 : Int32).toInt = 30; decide
  | some q =>
    have i1 := dK_inv (hEm_s h n) (hEm_t h hn) (Nat.le_refl _) hq
    have e := Int32.toInt_ofInt_of_le (n := q.2.1) (by have := i1.1; omega) (by have := i1.2.1; omega)
    have i2 := i1.2.1
    have i3 := i1.1
    have e2 := i_sub (z := Int32.ofInt q.2.1 - drt p 72 74 n) rfl e a
    show (Int32.ofInt q.2.1 - drt p 72 74 n).toInt = q.2.1 - tS (drs p 74 n) (dre p 72 n)
    omega
def bmK (p : xH) (S : Nat) (A : Nat → Nat → Prop) (e : Nat → Nat) (s t : Nat → Nat → Int) : Prop := (rI p 66 6).toInt = (S : Int) ∧ S ≤ 7 ∧ (∀ n, n < S → hLk A S n (rI p 78 n)) ∧ hEm p ∧ dre p 72 = e ∧ drs p 73 = s ∧ drs p 74 = t
theorem bmK_e {p p2 : xH} {S : Nat} {A : Nat → Nat → Prop} {e : Nat → Nat} {s t : Nat → Nat → Int} (h : hNt T_om p p2) (k : bmK p S A e s t) : bmK p2 S A e s t := by
  obtain ⟨a, b, c, d, f, g, i⟩ := k
  have f72 : ∀ j, rI p2 72 j = rI p 72 j := fun j => h.int (r := 72) rfl
  have f73 : ∀ j, rI p2 73 j = rI p 73 j := fun j => h.int (r := 73) rfl
  have f74 : ∀ j, rI p2 74 j = rI p 74 j := fun j => h.int (r := 74) rfl
  exact ⟨by rw [h.int (r := 66) (k := 6) rfl]; exact a, b, fun n hn => by rw [h.int (r := 78) rfl]; exact c n hn, hEm_e d f72 f73 f74, by rw [dre_e f72]; exact f, by rw [drs_e f73]; exact g, by rw [drs_e f74]; exact i⟩
theorem bmK_es {p : xH} {S : Nat} {A : Nat → Nat → Prop} {e : Nat → Nat} {s t : Nat → Nat → Int} (k : bmK p S A e s t) : hEs S e s t := by
  obtain ⟨a, b, c, d, f, g, i⟩ := k
  rw [← f, ← g, ← i]
  exact fun n hn => ⟨hEm_s d n, hEm_t d (by omega)⟩
def bsM (p : xH) (S : Nat) (A : Nat → Nat → Prop) (e : Nat → Nat) (s t : Nat → Nat → Int) (l : List Nat) (b : Int × List Nat) : Prop := bmK p S A e s t ∧ lOk S l ∧ (∀ j, j ∈ l → ∃ T, hDm p j (dL A S e s t l j) T) ∧ oR p 84 l l.length ∧ ((b.1 = 211 ∧ (rI p 66 30).toInt = -1) ∨ (b.1 < 211 ∧ (rI p 66 30).toInt = b.1)) ∧ 0 ≤ b.1 ∧ b.1 ≤ 211 ∧ (b.1 < 211 → oR p 85 b.2 S)
theorem bsM_ko {p p2 : xH} {S : Nat} {A : Nat → Nat → Prop} {e : Nat → Nat} {s t : Nat → Nat → Int} {l : List Nat} {b : Int × List Nat} {c : Int32} (h : hNt [(66, 30), (85, 9999)] p p2) (hl : l.length = S) (hc : c.toInt = cL A S e s t l) (h9 : rI p2 66 30 = c) (h85 : ∀ j, j < S → rI p2 85 j = rI p 84 j) (x : bsM p S A e s t l b) : bsM p2 S A e s t l (cL A S e s t l, l) := by
  obtain ⟨x1, x2, x3, x4, x5, x6, x7, x8⟩ := x
  have z := cL_b (A := A) (bmK_es x1) x2.1
  have z7 := x1.2.1
  refine ⟨bmK_e (h.up (by decide)) x1, x2, fun j hj => ?_, oR_e (fun i _ => h.int (r := 84) rfl) x4, Or.inr ⟨by show cL A S e s t l < 211; omega, by rw [h9]; exact hc⟩, z.1, by show cL A S e s t l ≤ 211; omega, fun q i hi => ?_⟩
  · obtain ⟨T, q1, q2, q3⟩ := x3 j hj
    exact ⟨T, fun i hi => by rw [h.int (r := 79) rfl]; exact q1 i hi, by rw [h.int (r := 80) rfl]; exact q2, by rw [h.int (r := 81) rfl]; exact q3⟩
  · rw [h85 i hi]
    exact x4 i (by omega)
theorem bsM_tt {p p0 p1 p2 : xH} {S : Nat} {A : Nat → Nat → Prop} {e : Nat → Nat} {s t : Nat → Nat → Int} {l : List Nat} {b : Int × List Nat} {n : Nat} {x u T : Int32} (hw : hW p1) (hn : n < S) (hl : n ∉ l) (e0 : p0 = wV p 66 25 (.int u)) (hx : x.toInt = n) (h : hNt T_po p0 p1) (e2 : p2 = wV p1 84 l.length (.int x)) (hO : hOm p0 p1 n) (hD : hDm p1 n (dK (dSh A S (dL A S e s t l) l n) (s n) (t n) (e n)) T) (k : bsM p S A e s t l b) : bsM p2 S A e s t (n :: l) b := by
  obtain ⟨x1, x2, x3, x4, x5, x6, x7, x8⟩ := k
  have hlen := lOk_le (lOk_c x2 hn hl)
  have hS := x1.2.1
  rw [List.length_cons] at hlen
  have n0 : hNt T_po p p0 := by rw [e0]; exact (hNt.refl _ _).w rfl
  have n1 : hNt T_po p p1 := n0.trans h
  have n2 : hNt T_om p p2 := by rw [e2]; exact (n1.up (by decide)).w rfl
  have o2 : ∀ r i, r ≠ 84 → rI p2 r i = rI p1 r i := fun r i q => by rw [e2, rI_o q]
  refine ⟨bmK_e n2 x1, lOk_c x2 hn hl, fun j hj => ?_, oR_w hw (by show _ < 7; omega) e2 hx (oR_e (fun i _ => n1.int (r := 84) rfl) x4), by rw [o2 66 _ (by decide), n1.int (r := 66) (k := 30) rfl]; exact x5, x6, x7, fun q => oR_e (fun i _ => by rw [o2 85 _ (by decide), n1.int (r := 85) rfl]) (x8 q)⟩
  have up : ∀ (j : Nat) (r : dS) (T : Int32), hDm p1 j r T → hDm p2 j r T := fun j r T ⟨q1, q2, q3⟩ => ⟨fun i hi => by rw [o2 79 _ (by decide)]; exact q1 i hi, by rw [o2 80 _ (by decide)]; exact q2, by rw [o2 81 _ (by decide)]; exact q3⟩
  by_cases g : j = n
  · rw [g, dL_h]
    exact ⟨T, up _ _ _ hD⟩
  · rw [dL_t g]
    rcases List.mem_cons.mp hj with q | q
    · exact absurd q g
    · obtain ⟨T2, q1, q2, q3⟩ := x3 j q
      exact ⟨T2, up _ _ _ (hDm_ot hO g ⟨fun i hi => by rw [e0, rI_o (by decide)]; exact q1 i hi, by rw [e0, rI_o (by decide)]; exact q2, by rw [e0, rI_o (by decide)]; exact q3⟩)⟩
theorem bsM_bk {p : xH} {S : Nat} {A : Nat → Nat → Prop} {e : Nat → Nat} {s t : Nat → Nat → Int} {l : List Nat} {b : Int × List Nat} {n : Nat} (hl : n ∉ l) (k : bsM p S A e s t (n :: l) b) : bsM p S A e s t l b := by
  obtain ⟨x1, x2, x3, x4, x5, x6, x7, x8⟩ := k
  refine ⟨x1, lOk_b x2 hl, fun j hj => ?_, oR_bk x4, x5, x6, x7, x8⟩
  obtain ⟨T, q⟩ := x3 j (List.mem_cons_of_mem _ hj)
  rw [dL_t (fun z => hl (by rw [← z]; exact hj))] at q
  exact ⟨T, q⟩
theorem bsM_y {p : xH} {S : Nat} {A : Nat → Nat → Prop} {e : Nat → Nat} {s t : Nat → Nat → Int} {l : List Nat} {b : Int × List Nat} {k : Nat} (hk : k = 0) (h : cL A S e s t l < b.1) (x : bsM p S A e s t l (cL A S e s t l, l)) : bsM p S A e s t l (bS A S e s t k l b) := by rw [bS_y hk h]; exact x
theorem bsM_no {p : xH} {S : Nat} {A : Nat → Nat → Prop} {e : Nat → Nat} {s t : Nat → Nat → Int} {l : List Nat} {b : Int × List Nat} {k : Nat} (h : ∀ l', lExt S k l l' → b.1 ≤ cL A S e s t l') (x : bsM p S A e s t l b) : bsM p S A e s t l (bS A S e s t k l b) := by rw [bS_no h]; exact x
theorem bsM_s {p : xH} {S : Nat} {A : Nat → Nat → Prop} {e : Nat → Nat} {s t : Nat → Nat → Int} {l : List Nat} {b : Int × List Nat} {k j : Nat} (hk : k = j + 1) (x : bsM p S A e s t l (bR (fun n b => if n ∈ l then b else bS A S e s t j (n :: l) b) S b)) : bsM p S A e s t l (bS A S e s t k l b) := by rw [bS_s hk]; exact x
theorem lp223_x {p : xH} {S k : Nat} {A : Nat → Nat → Prop} {e : Nat → Nat} {s t : Nat → Nat → Int} {l : List Nat} {b0 : Int × List Nat} {f : Nat → Int × List Nat → Int × List Nat} (h : k = S) (x : bsM p S A e s t l (bR f k b0)) : bsM p S A e s t l (bR f S b0) := by rw [← h] at x ⊢; exact x
def hs_ordersOn (ro : List (List Int32)) (n : Nat) : Prop := ∀ {d : Nat} {p : xH} {Q : Option Value → xH → Prop} {k : Int32} {ki : Int} {a : Int32} {ai : Int} {c : Int32} {ci : Int} (S : Nat) (A : Nat → Nat → Prop) (e : Nat → Nat) (s : Nat → Nat → Int) (t : Nat → Nat → Int) (l : List Nat) (b : Int × List Nat) (hk : k.toInt = ki) (ha : a.toInt = ai) (hc : c.toInt = ci) (pre0 : bsM p S A e s t l b) (pre1 : ki = (l.length : Int)) (pre2 : ∀ j, j < 32 → (bI a j = true ↔ j ∈ l)) (pre3 : ci = cL A S e s t l) (k0 : ∀ p2 : xH, (hNt T_om p p2) → (bsM p2 S A e s t l (bS A S e s t (S - l.length) l b)) → Q none p2), hP ro n d (12, 5, 1, 0, k223) 0 (lv_args 0 [.ref 66, .int k, .int a, .int c]) [] p Q
def RC_om (ro : List (List Int32)) (n : Nat) : Prop := hs_ordersOn ro n ∧ True
theorem RC_om_more {ro : List (List Int32)} {n : Nat} (h : RC_om ro (n + 1)) : RC_om ro n := ⟨fun S A e s t l b hk ha hc pre0 pre1 pre2 pre3 k0 => hp_more (h.1 S A e s t l b hk ha hc pre0 pre1 pre2 pre3 k0), trivial⟩
theorem rs_ordersOn {ro : List (List Int32)} {n : Nat} (rc : RC_om ro n) {d : Nat} {p : xH} {Q : Option Value → xH → Prop} {k : Int32} {ki : Int} {a : Int32} {ai : Int} {c : Int32} {ci : Int} (S : Nat) (A : Nat → Nat → Prop) (e : Nat → Nat) (s : Nat → Nat → Int) (t : Nat → Nat → Int) (l : List Nat) (b : Int × List Nat) (hk : k.toInt = ki) (ha : a.toInt = ai) (hc : c.toInt = ci) (pre0 : bsM p S A e s t l b) (pre1 : ki = (l.length : Int)) (pre2 : ∀ j, j < 32 → (bI a j = true ↔ j ∈ l)) (pre3 : ci = cL A S e s t l) (k0 : ∀ p2 : xH, (hNt T_om p p2) → (bsM p2 S A e s t l (bS A S e s t (S - l.length) l b)) → Q none p2) : hP ro n d (12, 5, 1, 0, k223) 0 (lv_args 0 [.ref 66, .int k, .int a, .int c]) [] p Q := rc.1 S A e s t l b hk ha hc pre0 pre1 pre2 pre3 k0
theorem lp_223a {ro : List (List Int32)} {d : Nat} {Q : Option Value → xH → Prop} {p0 : xH} {pl a c : Int32} (g0 : 0 ≤ (rI p0 66 6).toInt) (g1 : (rI p0 66 6).toInt ≤ 7) (K : ∀ p2 : xH, hNt [(66, 30), (85, 9999)] p0 p2 → (∀ j, j < (rI p0 66 6).toInt.toNat → rI p2 85 j = rI p0 84 j) → rI p2 66 30 = c → Q none p2) : ∀ (n : Nat) (k : Int32) (p : xH), (0 ≤ k.toInt) → (k.toInt ≤ (rI p0 66 6).toInt) → (hNt [(66, 30), (85, 9999)] p0 p) → (∀ j, j < k.toInt.toNat → rI p 85 j = rI p0 84 j) → (rI p 66 30 = c) → hP ro n d (12, 5, 1, 0, k223) 32 [(4, .int k), (0, .ref 66), (1, .int pl), (2, .int a), (3, .int c)] [] p Q := by
  intro n
  induction n with
  | zero => intros; exact hp_0
  | succ n ih =>
    intro k p hk1 hk2 hN hr h9
    have t6 : (rI p 66 6).toInt = (rI p0 66 6).toInt := by rw [hN.int (r := 66) (k := 6) rfl]
    refine hp_s1 (pc' := 34) (st' := [.int k]) rfl rfl rfl ?_
    refine hp_s (pc' := 35) (st' := [.ref 66, .int k]) rfl rfl rfl ?_
    refine hp_get (k := 6) (pc' := 38) (v := (rI p 66 6)) rfl rfl rfl rfl rfl rfl ?_
    refine hp_ic (pc' := 41) (t := 61) (a := k.toInt) (b := (rI p 66 6).toInt) rfl rfl rfl rfl rfl (fun (h1 : (rI p 66 6).toInt ≤ k.toInt) => ?_) (fun (h2 : ¬ ((rI p 66 6).toInt ≤ k.toInt)) => ?_)
    ·
      refine hp_rv rfl rfl ?_
      exact K p hN (fun j hj => hr j (by omega)) h9
    ·
      refine hp_s (pc' := 42) (st' := [.ref 66]) rfl rfl rfl ?_
      refine hp_getr (k := 29) (w := .ref 85) (pc' := 45) rfl rfl rfl rfl rfl ?_
      refine hp_s (pc' := 47) (st' := [.int k, .ref 85]) rfl rfl rfl ?_
      refine hp_s (pc' := 48) (st' := [.ref 66, .int k, .ref 85]) rfl rfl rfl ?_
      refine hp_getr (k := 28) (w := .ref 84) (pc' := 51) rfl rfl rfl rfl rfl ?_
      refine hp_s (pc' := 53) (st' := [.int k, .ref 84, .int k, .ref 85]) rfl rfl rfl ?_
      refine hp_ld (t := 100) (v := (rI p 84 k.toInt.toNat)) rfl (.inl rfl) rfl rfl rfl ?_
      intro (g1a : 0 ≤ k.toInt) (g1b : k.toInt < 7)
      refine hp_st (t := 100) rfl (.inl rfl) rfl rfl ?_
      intro p1 wp1 (p1a : 0 ≤ k.toInt) (p1b : k.toInt < 7) ep1
      refine hp_inc (L := fun z_ => [(4, .int z_), (0, .ref 66), (1, .int pl), (2, .int a), (3, .int c)]) (pc' := 58) rfl rfl rfl (fun _ => rfl) rfl ?_
      intro z1 hz1
      have ez1 := i_add hz1 (show k.toInt = k.toInt from rfl) (show (Int32.ofInt 1).toInt = 1 from by decide)
      refine hp_go (pc' := 32) rfl rfl rfl ?_
      refine ih z1 p1 (by omega) (by omega) (by rw [ep1]; exact (hNt.w hN rfl)) (fun j hj => ?_) (by rw [ep1, rI_o (by decide)]; exact h9)
      by_cases g : j = k.toInt.toNat
      · rw [g, ep1, rI_eq wp1 (by show _ < 7; omega)]; exact hN.int (r := 84) rfl
      · rw [ep1, rI_ne (fun _ => g)]; exact hr j (by omega)
theorem lp_223b {ro : List (List Int32)} {d : Nat} {Q : Option Value → xH → Prop} {p0 : xH} {S : Nat} {A : Nat → Nat → Prop} {e : Nat → Nat} {s t : Nat → Nat → Int} {l : List Nat} {b0 : Int × List Nat} {pl a c : Int32} (hll : l.length < S) (hS7 : S ≤ 7) (hpl : pl.toInt = (l.length : Int)) (ha : ∀ j, j < 32 → (bI a j = true ↔ j ∈ l)) (hc : c.toInt = cL A S e s t l) (K : ∀ p2 : xH, hNt T_om p0 p2 → bsM p2 S A e s t l (bR (fun n b => if n ∈ l then b else bS A S e s t (S - l.length - 1) (n :: l) b) S b0) → Q none p2) : ∀ (n : Nat) (k : Int32) (p : xH), (RC_om ro n) → (0 ≤ k.toInt) → (k.toInt ≤ S) → (hNt T_om p0 p) → (bsM p S A e s t l (bR (fun n b => if n ∈ l then b else bS A S e s t (S - l.length - 1) (n :: l) b) k.toInt.toNat b0)) → hP ro n d (12, 5, 1, 0, k223) 65 [(4, .int k), (0, .ref 66), (1, .int pl), (2, .int a), (3, .int c)] [] p Q := by
  intro n
  induction n with
  | zero => intros; exact hp_0
  | succ n ih =>
    intro k p rc hk1 hk2 hN hX
    replace rc := RC_om_more rc
    obtain ⟨x1, x2, x3, x4, x5, x6, x7, x8⟩ := hX
    have hX : bsM p S A e s t l (bR (fun n b => if n ∈ l then b else bS A S e s t (S - l.length - 1) (n :: l) b) k.toInt.toNat b0) := ⟨x1, x2, x3, x4, x5, x6, x7, x8⟩
    have e6 : (rI p 66 6).toInt = (S : Int) := x1.1
    refine hp_s1 (pc' := 67) (st' := [.int k]) rfl rfl rfl ?_
    refine hp_s (pc' := 68) (st' := [.ref 66, .int k]) rfl rfl rfl ?_
    refine hp_get (k := 6) (pc' := 71) (v := (rI p 66 6)) rfl rfl rfl rfl rfl rfl ?_
    refine hp_ic (pc' := 74) (t := 129) (a := k.toInt) (b := (rI p 66 6).toInt) rfl rfl rfl rfl rfl (fun (h1 : (rI p 66 6).toInt ≤ k.toInt) => ?_) (fun (h2 : ¬ ((rI p 66 6).toInt ≤ k.toInt)) => ?_)
    ·
      refine hp_rv rfl rfl ?_
      exact K p hN (lp223_x (by omega) hX)
    ·
      refine hp_s (pc' := 75) (st' := [.int a]) rfl rfl rfl ?_
      refine hp_s (pc' := 77) (st' := [.int k, .int a]) rfl rfl rfl ?_
      refine hp_cs (kd := 0) (as := [.int a, .int k]) (rest := []) (pc' := 80) rfl rfl rfl rfl rfl rfl rfl (fun d1 => ?_)
      refine s_isIn (xi := a.toInt) rfl (yi := k.toInt) rfl ?_ ?_
      ·
        intro h3
        have hin : bI a k.toInt.toNat = true := b_if ((bI_at _ (by omega) (by omega)).symm.trans h3)
        have hil : k.toInt.toNat ∈ l := (ha _ (by omega)).mp hin
        refine hp_id (st := [.int 1]) ?_
        refine hp_go (pc' := 123) rfl rfl rfl ?_
        refine hp_inc (L := fun z_ => [(4, .int z_), (0, .ref 66), (1, .int pl), (2, .int a), (3, .int c)]) (pc' := 126) rfl rfl rfl (fun _ => rfl) rfl ?_
        intro z1 hz1
        have ez1 := i_add hz1 (show k.toInt = k.toInt from rfl) (show (Int32.ofInt 1).toInt = 1 from by decide)
        refine hp_go (pc' := 65) rfl rfl rfl ?_
        refine ih z1 p rc (by omega) (by omega) hN ?_
        rw [show z1.toInt.toNat = k.toInt.toNat + 1 by omega]
        show bsM _ S A e s t l (if k.toInt.toNat ∈ l then (bR (fun n b => if n ∈ l then b else bS A S e s t (S - l.length - 1) (n :: l) b) k.toInt.toNat b0) else bS A S e s t (S - l.length - 1) (k.toInt.toNat :: l) (bR (fun n b => if n ∈ l then b else bS A S e s t (S - l.length - 1) (n :: l) b) k.toInt.toNat b0))
        rw [if_pos hil]; exact hX
      ·
        intro h4
        have hin : bI a k.toInt.toNat = false := b_if0 (fun gz => h4 ((bI_at _ (by omega) (by omega)).trans gz))
        have hnl : k.toInt.toNat ∉ l := fun g => by rw [(ha k.toInt.toNat (by omega)).mpr g] at hin; cases hin
        refine hp_id (st := [.int 0]) ?_
        refine hp_go (pc' := 83) rfl rfl rfl ?_
        refine hp_s (pc' := 84) (st' := [.ref 66]) rfl rfl rfl ?_
        refine hp_s (pc' := 85) (st' := [.int a, .ref 66]) rfl rfl rfl ?_
        refine hp_put (k := 25) (pc' := 88) rfl rfl rfl rfl rfl ?_
        intro p1 wp1 ep1
        refine hp_s (pc' := 89) (st' := [.ref 66]) rfl rfl rfl ?_
        refine hp_s (pc' := 91) (st' := [.int k, .ref 66]) rfl rfl rfl ?_
        have n1 : hNt T_om p p1 := (by rw [ep1]; exact (hNt.w (hNt.refl _ _) rfl))
        obtain ⟨b1, b2, b3, b4, b5, b6, b7⟩ := bmK_e n1 x1
        have t1 : hLk A S k.toInt.toNat (rI p1 78 k.toInt.toNat) := b3 _ (by omega)
        have t1b : ∀ j, j < 32 → (bI (rI p1 66 25) j = true ↔ j ∈ l) := by rw [ep1, rI_eq wp1 (by decide)]; exact ha
        have t2 : ∀ j, j ∈ l → j < S → ∀ m : Nat, m < 30 → (rI p1 79 (30 * j + m)).toInt = dw (dL A S e s t l j) m := fun j hj _ m hm => by obtain ⟨T, q⟩ := x3 j hj; rw [ep1, rI_o (by decide)]; exact q.1 m hm
        have t3 := b4.1 k.toInt.toNat
        have t4 := hEm_s b4 k.toInt.toNat
        have t5 := hEm_t b4 (n := k.toInt.toNat) (by omega)
        refine hp_cv (r := 66) (o := 12) (kd := 1) (as := [.int k]) (rest := []) (pc' := 94) rfl rfl rfl rfl rfl rfl rfl rfl rfl (fun d2 => ?_)
        refine s_plansOne S A (dL A S e s t l) l (xi := k.toInt) rfl (by first | assumption | omega) (by first | assumption | omega) (by first | assumption | omega) (by first | assumption | omega) (by first | assumption | omega) (by first | assumption | omega) (by first | assumption | omega) (by first | assumption | omega) (by first | assumption | omega) (by first | assumption | omega) ?_
        intro p2 h5 h6 h7 h8
        refine hp_hw (fun w1 => ?_)
        have hcI := dCt_Im b4 (n := k.toInt.toNat) (by omega) (Sh := dSh A S (dL A S e s t l) l k.toInt.toNat)
        rw [b5, b6, b7] at h7 hcI
        refine hp_id (st := []) ?_
        refine hp_s (pc' := 95) (st' := [.ref 66]) rfl rfl rfl ?_
        refine hp_getr (k := 28) (w := .ref 84) (pc' := 98) rfl rfl rfl rfl rfl ?_
        refine hp_s (pc' := 99) (st' := [.int pl, .ref 84]) rfl rfl rfl ?_
        refine hp_s (pc' := 101) (st' := [.int k, .int pl, .ref 84]) rfl rfl rfl ?_
        refine hp_st (t := 100) rfl (.inl rfl) rfl rfl ?_
        intro p3 wp3 (p3a : 0 ≤ pl.toInt) (p3b : pl.toInt < 7) ep3
        refine hp_s (pc' := 103) (st' := [.ref 66]) rfl rfl rfl ?_
        refine hp_s (pc' := 104) (st' := [.int pl, .ref 66]) rfl rfl rfl ?_
        refine hp_s (pc' := 105) (st' := [.int 1, .int pl, .ref 66]) rfl rfl rfl ?_
        refine hp_z (pc' := 106) (e := pl + 1) (st' := [.ref 66]) rfl rfl rfl ?_
        intro z2 hz2
        have ez2 := i_add hz2 (show pl.toInt = pl.toInt from rfl) (show (1 : Int32).toInt = 1 from by decide)
        refine hp_s (pc' := 107) (st' := [.int a, .int z2, .ref 66]) rfl rfl rfl ?_
        refine hp_s (pc' := 108) (st' := [.int 1, .int a, .int z2, .ref 66]) rfl rfl rfl ?_
        refine hp_s (pc' := 110) (st' := [.int k, .int 1, .int a, .int z2, .ref 66]) rfl rfl rfl ?_
        refine hp_z (pc' := 111) (e := 1 <<< (k &&& 31)) (st' := [.int a, .int z2, .ref 66]) rfl rfl rfl ?_
        intro z3 hz3
        refine hp_z (pc' := 112) (e := a ||| z3) (st' := [.int z2, .ref 66]) rfl rfl rfl ?_
        intro z4 hz4
        refine hp_s (pc' := 113) (st' := [.int c, .int z4, .int z2, .ref 66]) rfl rfl rfl ?_
        refine hp_s (pc' := 114) (st' := [.ref 66, .int c, .int z4, .int z2, .ref 66]) rfl rfl rfl ?_
        refine hp_s (pc' := 116) (st' := [.int k, .ref 66, .int c, .int z4, .int z2, .ref 66]) rfl rfl rfl ?_
        have t6 : hDm p3 k.toInt.toNat (dK (dSh A S (dL A S e s t l) l k.toInt.toNat) (s k.toInt.toNat) (t k.toInt.toNat) (e k.toInt.toNat)) (drt p1 72 74 k.toInt.toNat) := by obtain ⟨q1, q2, q3⟩ := h7; exact ⟨fun i hi => by rw [ep3, rI_o (by decide)]; exact q1 i hi, by rw [ep3, rI_o (by decide)]; exact q2, by rw [ep3, rI_o (by decide)]; exact q3⟩
        refine hp_cv (r := 66) (o := 12) (kd := 1) (as := [.int k]) (rest := [.int c, .int z4, .int z2, .ref 66]) (pc' := 119) rfl rfl rfl rfl rfl rfl rfl rfl rfl (fun d3 => ?_)
        refine s_costOf (dK (dSh A S (dL A S e s t l) l k.toInt.toNat) (s k.toInt.toNat) (t k.toInt.toNat) (e k.toInt.toNat)) (drt p1 72 74 k.toInt.toNat) (xi := k.toInt) rfl (by first | assumption | omega) ?_
        intro y1 h9
        have hzc : y1.toInt = cN A S e s t l k.toInt.toNat := by rw [h9, hcI]; rfl
        have hcb := cN_b (A := A) (bmK_es x1) (l := l) (n := k.toInt.toNat) (by omega)
        have hcl := cL_b (A := A) (bmK_es x1) x2.1
        refine hp_id (st := [.int y1, .int c, .int z4, .int z2, .ref 66]) ?_
        refine hp_z (pc' := 120) (e := c + y1) (st' := [.int z4, .int z2, .ref 66]) rfl rfl rfl ?_
        intro z5 hz5
        have ez5 := i_add hz5 (show c.toInt = c.toInt from rfl) (show y1.toInt = y1.toInt from rfl)
        have r0 : bsM p3 S A e s t (k.toInt.toNat :: l) (bR (fun n b => if n ∈ l then b else bS A S e s t (S - l.length - 1) (n :: l) b) k.toInt.toNat b0) := bsM_tt (x := k) w1 (by omega) hnl ep1 (by omega) h5 (by rw [ep3, show pl.toInt.toNat = l.length by omega]) h6 h7 hX
        have r1 : z2.toInt = ((k.toInt.toNat :: l).length : Int) := by rw [List.length_cons]; push_cast; omega
        have r2 := bit_c ha (show k.toInt = (k.toInt.toNat : Int) by omega) (by omega) hz3 hz4
        have r3 : z5.toInt = cL A S e s t (k.toInt.toNat :: l) := by show _ = cL A S e s t l + cN A S e s t l k.toInt.toNat; omega
        refine hp_cv (r := 66) (o := 12) (kd := 1) (as := [.int z2, .int z4, .int z5]) (rest := []) (pc' := 123) rfl rfl rfl rfl rfl rfl rfl rfl rfl (fun d4 => ?_)
        refine rs_ordersOn rc S A e s t (k.toInt.toNat :: l) (bR (fun n b => if n ∈ l then b else bS A S e s t (S - l.length - 1) (n :: l) b) k.toInt.toNat b0) (ki := z2.toInt) rfl (ai := z4.toInt) rfl (ci := z5.toInt) rfl (by first | assumption | omega) (by first | assumption | omega) (by first | assumption | omega) (by first | assumption | omega) ?_
        intro p4 h10 h11
        refine hp_id (st := []) ?_
        refine hp_inc (L := fun z_ => [(4, .int z_), (0, .ref 66), (1, .int pl), (2, .int a), (3, .int c)]) (pc' := 126) rfl rfl rfl (fun _ => rfl) rfl ?_
        intro z6 hz6
        have ez6 := i_add hz6 (show k.toInt = k.toInt from rfl) (show (Int32.ofInt 1).toInt = 1 from by decide)
        refine hp_go (pc' := 65) rfl rfl rfl ?_
        refine ih z6 p4 rc (by omega) (by omega) (hNt.trans (by rw [ep3]; exact (hNt.w (hNt.trans (by rw [ep1]; exact (hNt.w hN rfl)) (h5.up (by decide))) rfl)) (h10.up (by decide))) ?_
        rw [show z6.toInt.toNat = k.toInt.toNat + 1 by omega]
        show bsM _ S A e s t l (if k.toInt.toNat ∈ l then (bR (fun n b => if n ∈ l then b else bS A S e s t (S - l.length - 1) (n :: l) b) k.toInt.toNat b0) else bS A S e s t (S - l.length - 1) (k.toInt.toNat :: l) (bR (fun n b => if n ∈ l then b else bS A S e s t (S - l.length - 1) (n :: l) b) k.toInt.toNat b0))
        have q := bsM_bk hnl h11
        rw [show S - (k.toInt.toNat :: l).length = S - l.length - 1 by rw [List.length_cons]; omega] at q
        rw [if_neg hnl]; exact q
theorem ts_ordersOn {ro : List (List Int32)} {n : Nat} (rc : RC_om ro n) : hs_ordersOn ro (n + 1) := by
  intro d p Q k ki a ai c ci S A e s t l b hk ha hc pre0 pre1 pre2 pre3 k0
  subst hk
  subst ha
  subst hc
  refine hp_id (ls := [(0, .ref 66), (1, .int k), (2, .int a), (3, .int c)]) ?_
  obtain ⟨x1, x2, x3, x4, x5, x6, x7, x8⟩ := pre0
  have pre0 : bsM p S A e s t l b := ⟨x1, x2, x3, x4, x5, x6, x7, x8⟩
  obtain ⟨b1, b2, b3, b4, b5, b6, b7⟩ := x1
  have x1 : bmK p S A e s t := ⟨b1, b2, b3, b4, b5, b6, b7⟩
  have hll := lOk_le x2
  have hcl := cL_b (A := A) (bmK_es x1) x2.1
  refine hp_s1 (pc' := 1) (st' := [.ref 66]) rfl rfl rfl ?_
  refine hp_get (k := 30) (pc' := 4) (v := (rI p 66 30)) rfl rfl rfl rfl rfl rfl ?_
  refine hp_if (pc' := 7) (t := 16) (a := (rI p 66 30).toInt) rfl rfl rfl rfl (fun (h1 : (rI p 66 30).toInt < 0) => ?_) (fun (h2 : ¬ ((rI p 66 30).toInt < 0)) => ?_)
  ·
    refine hp_s (pc' := 17) (st' := [.int k]) rfl rfl rfl ?_
    refine hp_s (pc' := 18) (st' := [.ref 66, .int k]) rfl rfl rfl ?_
    refine hp_get (k := 6) (pc' := 21) (v := (rI p 66 6)) rfl rfl rfl rfl rfl rfl ?_
    refine hp_ic (pc' := 24) (t := 62) (a := k.toInt) (b := (rI p 66 6).toInt) rfl rfl rfl rfl rfl (fun (h3 : k.toInt ≠ (rI p 66 6).toInt) => ?_) (fun (h4 : ¬ (k.toInt ≠ (rI p 66 6).toInt)) => ?_)
    ·
      refine hp_s (pc' := 63) (st' := [.int 0]) rfl rfl rfl ?_
      refine hp_s (pc' := 65) (ls' := [(4, .int 0), (0, .ref 66), (1, .int k), (2, .int a), (3, .int c)]) (st' := []) rfl rfl rfl ?_
      exact lp_223b (p0 := p) (S := S) (A := A) (e := e) (s := s) (t := t) (l := l) (b0 := b) (pl := k) (a := a) (c := c) (by omega) b2 pre1 pre2 pre3 (fun p2 u1 u2 => k0 p2 u1 (bsM_s (j := S - l.length - 1) (by omega) u2)) n 0 p rc (by decide) (by have h00 : (0 : Int32).toInt = 0 := (by decide); omega) (hNt.refl _ _) (by rw [i_ofz]; exact pre0)
    ·
      refine hp_s (pc' := 25) (st' := [.ref 66]) rfl rfl rfl ?_
      refine hp_s (pc' := 26) (st' := [.int c, .ref 66]) rfl rfl rfl ?_
      refine hp_put (k := 30) (pc' := 29) rfl rfl rfl rfl rfl ?_
      intro p1 wp1 ep1
      refine hp_s (pc' := 30) (st' := [.int 0]) rfl rfl rfl ?_
      refine hp_s (pc' := 32) (ls' := [(4, .int 0), (0, .ref 66), (1, .int k), (2, .int a), (3, .int c)]) (st' := []) rfl rfl rfl ?_
      exact lp_223a (p0 := p) (pl := k) (a := a) (c := c) (by omega) (by omega) (fun p2 u1 u2 u3 => k0 p2 (u1.up (by decide)) (bsM_y (by omega) (by omega) (bsM_ko u1 (by omega) pre3 u3 (fun j hj => u2 j (by omega)) pre0))) n 0 p1 (by decide) (by have h00 : (0 : Int32).toInt = 0 := (by decide); omega) (by rw [ep1]; exact (hNt.w (hNt.refl _ _) rfl)) (fun j hj => absurd hj (by rw [i_ofz]; exact Nat.not_lt_zero _)) (by rw [ep1, rI_eq wp1 (by decide)])
  ·
    refine hp_s (pc' := 8) (st' := [.int c]) rfl rfl rfl ?_
    refine hp_s (pc' := 9) (st' := [.ref 66, .int c]) rfl rfl rfl ?_
    refine hp_get (k := 30) (pc' := 12) (v := (rI p 66 30)) rfl rfl rfl rfl rfl rfl ?_
    refine hp_ic (pc' := 15) (t := 16) (a := c.toInt) (b := (rI p 66 30).toInt) rfl rfl rfl rfl rfl (fun (h5 : c.toInt < (rI p 66 30).toInt) => ?_) (fun (h6 : ¬ (c.toInt < (rI p 66 30).toInt)) => ?_)
    ·
      refine hp_s (pc' := 17) (st' := [.int k]) rfl rfl rfl ?_
      refine hp_s (pc' := 18) (st' := [.ref 66, .int k]) rfl rfl rfl ?_
      refine hp_get (k := 6) (pc' := 21) (v := (rI p 66 6)) rfl rfl rfl rfl rfl rfl ?_
      refine hp_ic (pc' := 24) (t := 62) (a := k.toInt) (b := (rI p 66 6).toInt) rfl rfl rfl rfl rfl (fun (h7 : k.toInt ≠ (rI p 66 6).toInt) => ?_) (fun (h8 : ¬ (k.toInt ≠ (rI p 66 6).toInt)) => ?_)
      ·
        refine hp_s (pc' := 63) (st' := [.int 0]) rfl rfl rfl ?_
        refine hp_s (pc' := 65) (ls' := [(4, .int 0), (0, .ref 66), (1, .int k), (2, .int a), (3, .int c)]) (st' := []) rfl rfl rfl ?_
        exact lp_223b (p0 := p) (S := S) (A := A) (e := e) (s := s) (t := t) (l := l) (b0 := b) (pl := k) (a := a) (c := c) (by omega) b2 pre1 pre2 pre3 (fun p2 u1 u2 => k0 p2 u1 (bsM_s (j := S - l.length - 1) (by omega) u2)) n 0 p rc (by decide) (by have h00 : (0 : Int32).toInt = 0 := (by decide); omega) (hNt.refl _ _) (by rw [i_ofz]; exact pre0)
      ·
        refine hp_s (pc' := 25) (st' := [.ref 66]) rfl rfl rfl ?_
        refine hp_s (pc' := 26) (st' := [.int c, .ref 66]) rfl rfl rfl ?_
        refine hp_put (k := 30) (pc' := 29) rfl rfl rfl rfl rfl ?_
        intro p2 wp2 ep2
        refine hp_s (pc' := 30) (st' := [.int 0]) rfl rfl rfl ?_
        refine hp_s (pc' := 32) (ls' := [(4, .int 0), (0, .ref 66), (1, .int k), (2, .int a), (3, .int c)]) (st' := []) rfl rfl rfl ?_
        exact lp_223a (p0 := p) (pl := k) (a := a) (c := c) (by omega) (by omega) (fun p2 u1 u2 u3 => k0 p2 (u1.up (by decide)) (bsM_y (by omega) (by omega) (bsM_ko u1 (by omega) pre3 u3 (fun j hj => u2 j (by omega)) pre0))) n 0 p2 (by decide) (by have h00 : (0 : Int32).toInt = 0 := (by decide); omega) (by rw [ep2]; exact (hNt.w (hNt.refl _ _) rfl)) (fun j hj => absurd hj (by rw [i_ofz]; exact Nat.not_lt_zero _)) (by rw [ep2, rI_eq wp2 (by decide)])
    ·
      refine hp_rv rfl rfl ?_
      exact k0 p (hNt.refl _ _) (bsM_no (fun l2 hl2 => by have q := cL_ext (A := A) (bmK_es x1) hl2; omega) pre0)
theorem RC_om_all {ro : List (List Int32)} : ∀ n : Nat, RC_om ro n
  | 0 => ⟨fun _ _ _ _ _ _ _ _ _ _ _ _ _ _ _ => hp_0, trivial⟩
  | n + 1 => ⟨ts_ordersOn (RC_om_all n), trivial⟩
theorem s_ordersOn {ro : List (List Int32)} {n : Nat} {d : Nat} {p : xH} {Q : Option Value → xH → Prop} {k : Int32} {ki : Int} {a : Int32} {ai : Int} {c : Int32} {ci : Int} (S : Nat) (A : Nat → Nat → Prop) (e : Nat → Nat) (s : Nat → Nat → Int) (t : Nat → Nat → Int) (l : List Nat) (b : Int × List Nat) (hk : k.toInt = ki) (ha : a.toInt = ai) (hc : c.toInt = ci) (pre0 : bsM p S A e s t l b) (pre1 : ki = (l.length : Int)) (pre2 : ∀ j, j < 32 → (bI a j = true ↔ j ∈ l)) (pre3 : ci = cL A S e s t l) (k0 : ∀ p2 : xH, (hNt T_om p p2) → (bsM p2 S A e s t l (bS A S e s t (S - l.length) l b)) → Q none p2) : hP ro n d (12, 5, 1, 0, k223) 0 (lv_args 0 [.ref 66, .int k, .int a, .int c]) [] p Q := rs_ordersOn (RC_om_all n) S A e s t l b hk ha hc pre0 pre1 pre2 pre3 k0
