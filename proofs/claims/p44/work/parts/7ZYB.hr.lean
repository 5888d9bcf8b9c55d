/-! contracts of methods, walked -/
abbrev T_ch : List (Nat × Nat) := [(46, 9999), (47, 9999), (48, 9999), (44, 6)]
theorem hsK_e {p p2 : xH} {S : Nat} {M : Nat → Nat → Prop} {C : Nat → Nat → Nat → Nat → Prop} (h : hNt T_ch p p2) (k : hsK p S M C) : hsK p2 S M C := by
  obtain ⟨a, b, c⟩ := k
  exact ⟨by rw [h.int (r := 13) (k := 7) rfl]; exact a, b, fun n hn a ha hM q q1 q2 i hi => by rw [h.int (r := 45) rfl]; exact c n hn a ha hM q q1 q2 i hi⟩
/-- the search, in the rows: l is what has been chosen (the latest first), b the best one so far -/
def hsX (p : xH) (S : Nat) (M : Nat → Nat → Prop) (C : Nat → Nat → Nat → Nat → Prop) (l : List Nat) (b : Nat × List Nat) : Prop := hsK p S M C ∧ l.length ≤ S ∧ hsF p S M C l l.length S ∧ (∀ i, i < l.length → (rI p 47 i).toInt = ((ix l i : Nat) : Int) - 1) ∧ (rI p 44 6).toInt = ((b.1 : Nat) : Int) ∧ b.1 ≤ 8 ∧ (b.1 < 8 → ∀ i, i < S → (rI p 48 i).toInt = ((ix b.2 i : Nat) : Int) - 1)
theorem hsX_nt {p p2 : xH} {S : Nat} {M : Nat → Nat → Prop} {C : Nat → Nat → Nat → Nat → Prop} {l : List Nat} {b : Nat × List Nat} (h : hNt [(46, 9999), (47, 9999)] p p2) (hO : ∀ j, j < 7 * l.length + 7 → rI p2 46 j = rI p 46 j) (h47 : ∀ i, i < l.length → rI p2 47 i = rI p 47 i) (x : hsX p S M C l b) : hsX p2 S M C l b := by
  obtain ⟨x1, x2, x3, x4, x5, x6, x7⟩ := x
  have hS := x1.2.1
  exact ⟨hsK_e (h.up (by decide)) x1, x2, fun q q1 q2 c hc => by rw [hO _ (by omega)]; exact x3 q q1 q2 c hc, fun i hi => by rw [h47 i hi]; exact x4 i hi, by rw [h.int (r := 44) (k := 6) rfl]; exact x5, x6, fun g i hi => by rw [h.int (r := 48) rfl]; exact x7 g i hi⟩
theorem hsX_lf {p p1 p2 : xH} {S : Nat} {M : Nat → Nat → Prop} {C : Nat → Nat → Nat → Nat → Prop} {l : List Nat} {b : Nat × List Nat} {c : Nat} {z : Int32} (hw : hW p) (hl : l.length < S) (e1 : p1 = wV p 47 l.length (.int z)) (hz : z.toInt = (c : Int) - 1) (h : hNt [(46, 9999)] p1 p2) (hF : hsF p2 S M C (c :: l) (l.length + 1) S) (x : hsX p S M C l b) : hsX p2 S M C (c :: l) b := by
  obtain ⟨x1, x2, x3, x4, x5, x6, x7⟩ := x
  have hS := x1.2.1
  have n1 : hNt T_ch p p2 := (show hNt T_ch p p1 by rw [e1]; exact (hNt.refl _ _).w rfl).trans (h.up (by decide))
  have o1 : ∀ r i, r ≠ 47 → rI p1 r i = rI p r i := fun r i q => by rw [e1, rI_o q]
  refine ⟨hsK_e n1 x1, by rw [List.length_cons]; omega, by rw [List.length_cons]; exact hF, fun i hi => ?_, by rw [h.int (r := 44) (k := 6) rfl, o1 44 _ (by decide)]; exact x5, x6, fun g i hi => by rw [h.int (r := 48) rfl, o1 48 _ (by decide)]; exact x7 g i hi⟩
  rw [List.length_cons] at hi
  rw [h.int (r := 47) rfl, e1, rI_w hw (by show _ < 7; omega)]
  by_cases g : i = l.length
  · rw [if_pos g, g, ix_h]; exact hz
  · rw [if_neg g, ix_t (by omega)]; exact x4 i (by omega)
theorem hsX_bk {p0 p : xH} {S : Nat} {M : Nat → Nat → Prop} {C : Nat → Nat → Nat → Nat → Prop} {l : List Nat} {b0 b : Nat × List Nat} {c : Nat} (x0 : hsX p0 S M C l b0) (hO : ∀ j, j < 7 * l.length + 7 → rI p 46 j = rI p0 46 j) (x : hsX p S M C (c :: l) b) : hsX p S M C l b := by
  obtain ⟨x1, x2, x3, x4, x5, x6, x7⟩ := x
  have hS := x1.2.1
  rw [List.length_cons] at x2
  exact ⟨x1, by omega, fun q q1 q2 i hi => by rw [hO _ (by omega)]; exact x0.2.2.1 q q1 q2 i hi, fun i hi => by rw [x4 i (by rw [List.length_cons]; omega), ix_t hi], x5, x6, x7⟩
theorem hsX_kp {p p2 : xH} {S : Nat} {M : Nat → Nat → Prop} {C : Nat → Nat → Nat → Nat → Prop} {l : List Nat} {b : Nat × List Nat} {w : Int32} (h : hNt [(44, 6), (48, 9999)] p p2) (hl : l.length = S) (hw : w.toInt = ((hn l : Nat) : Int)) (h6 : rI p2 44 6 = w) (h48 : ∀ j, j < S → rI p2 48 j = rI p 47 j) (x : hsX p S M C l b) : hsX p2 S M C l (hn l, l) := by
  obtain ⟨x1, x2, x3, x4, x5, x6, x7⟩ := x
  have hS := x1.2.1
  have hh := hn_len l
  exact ⟨hsK_e (h.up (by decide)) x1, x2, fun q q1 q2 i hi => by rw [h.int (r := 46) rfl]; exact x3 q q1 q2 i hi, fun i hi => by rw [h.int (r := 47) rfl]; exact x4 i hi, by rw [h6]; exact hw, by show hn l ≤ 8; omega, fun _ i hi => by rw [h48 i hi]; exact x4 i (by omega)⟩
theorem hsX_no {p : xH} {S : Nat} {M : Nat → Nat → Prop} {C : Nat → Nat → Nat → Nat → Prop} {l l2 : List Nat} {b : Nat × List Nat} {k : Nat} (h : ∀ x ∈ wY M C k l2, b.1 ≤ hn x) (x : hsX p S M C l b) : hsX p S M C l ((wY M C k l2).foldl hBb b) := by rw [hB_no h]; exact x
theorem hsX_0 {p : xH} {S : Nat} {M : Nat → Nat → Prop} {C : Nat → Nat → Nat → Nat → Prop} {l : List Nat} {b : Nat × List Nat} {k : Nat} (hk : k = 0) (h : hn l < b.1) (x : hsX p S M C l (hn l, l)) : hsX p S M C l ((wY M C k l).foldl hBb b) := by
  rw [wY_0 hk]
  show hsX p S M C l (hBb b l)
  rw [show hBb b l = (hn l, l) from if_pos h]
  exact x
theorem hsX_7 {p : xH} {S : Nat} {M : Nat → Nat → Prop} {C : Nat → Nat → Nat → Nat → Prop} {l : List Nat} {b : Nat × List Nat} {k j : Nat} (hk : k = j + 1) (x : hsX p S M C l (hB M C j l 7 b)) : hsX p S M C l ((wY M C k l).foldl hBb b) := by rw [hB_7 hk]; exact x
theorem hsX_sy {p : xH} {S : Nat} {M : Nat → Nat → Prop} {C : Nat → Nat → Nat → Nat → Prop} {l : List Nat} {b : Nat × List Nat} {k n m : Nat} (hm : m = n + 1) (hf : hFr M C l l.length n) (x : hsX p S M C l ((wY M C k (n :: l)).foldl hBb (hB M C k l n b))) : hsX p S M C l (hB M C k l m b) := by rw [hm, hB_s, wZ_y hf]; exact x
theorem hsX_sn {p : xH} {S : Nat} {M : Nat → Nat → Prop} {C : Nat → Nat → Nat → Nat → Prop} {l : List Nat} {b : Nat × List Nat} {k n m : Nat} (hm : m = n + 1) (hf : ¬ hFr M C l l.length n) (x : hsX p S M C l (hB M C k l n b)) : hsX p S M C l (hB M C k l m b) := by rw [hm, hB_s, wZ_n hf]; exact x
theorem hsX_m {p : xH} {S : Nat} {M : Nat → Nat → Prop} {C : Nat → Nat → Nat → Nat → Prop} {l : List Nat} {b : Nat × List Nat} {k n m : Nat} (h : n = m) (x : hsX p S M C l (hB M C k l n b)) : hsX p S M C l (hB M C k l m b) := by rw [← h]; exact x
def hs_chooseFrom (ro : List (List Int32)) (n : Nat) : Prop := ∀ {d : Nat} {p : xH} {Q : Option Value → xH → Prop} {x : Int32} {xi : Int} {w : Int32} {wi : Int} (S : Nat) (M : Nat → Nat → Prop) (C : Nat → Nat → Nat → Nat → Prop) (l : List Nat) (b : Nat × List Nat) (hx : x.toInt = xi) (hw : w.toInt = wi) (pre0 : hsX p S M C l b) (pre1 : xi = (l.length : Int)) (pre2 : wi = ((hn l : Nat) : Int)) (k0 : ∀ p2 : xH, (hNt T_ch p p2) → (hsX p2 S M C l ((wY M C (S - l.length) l).foldl hBb b)) → (∀ j, j < 7 * l.length + 7 → rI p2 46 j = rI p 46 j) → Q none p2), hP ro n d (10, 4, 1, 0, k120) 0 (lv_args 0 [.ref 44, .int x, .int w]) [] p Q
def hs_choose (ro : List (List Int32)) (n : Nat) : Prop := ∀ {d : Nat} {p : xH} {Q : Option Value → xH → Prop} {x : Int32} {xi : Int} {c : Int32} {ci : Int} {w : Int32} {wi : Int} (S : Nat) (M : Nat → Nat → Prop) (C : Nat → Nat → Nat → Nat → Prop) (l : List Nat) (b : Nat × List Nat) (hx : x.toInt = xi) (hc : c.toInt = ci) (hw : w.toInt = wi) (pre0 : hsX p S M C l b) (pre1 : xi = (l.length : Int)) (pre2 : wi = ((hn l : Nat) : Int)) (pre3 : 0 ≤ ci) (pre4 : ci < 7) (pre5 : hFr M C l l.length ci.toNat) (pre6 : l.length < S) (k0 : ∀ p2 : xH, (hNt T_ch p p2) → (hsX p2 S M C l ((wY M C (S - l.length - 1) (ci.toNat :: l)).foldl hBb b)) → (∀ j, j < 7 * l.length + 7 → rI p2 46 j = rI p 46 j) → Q none p2), hP ro n d (10, 4, 1, 0, k121) 0 (lv_args 0 [.ref 44, .int x, .int c, .int w]) [] p Q
def RC_ch (ro : List (List Int32)) (n : Nat) : Prop := hs_chooseFrom ro n ∧ hs_choose ro n
theorem RC_ch_more {ro : List (List Int32)} {n : Nat} (h : RC_ch ro (n + 1)) : RC_ch ro n := ⟨fun S M C l b hx hw pre0 pre1 pre2 k0 => hp_more (h.1 S M C l b hx hw pre0 pre1 pre2 k0), fun S M C l b hx hc hw pre0 pre1 pre2 pre3 pre4 pre5 pre6 k0 => hp_more (h.2 S M C l b hx hc hw pre0 pre1 pre2 pre3 pre4 pre5 pre6 k0)⟩
theorem rs_chooseFrom {ro : List (List Int32)} {n : Nat} (rc : RC_ch ro n) {d : Nat} {p : xH} {Q : Option Value → xH → Prop} {x : Int32} {xi : Int} {w : Int32} {wi : Int} (S : Nat) (M : Nat → Nat → Prop) (C : Nat → Nat → Nat → Nat → Prop) (l : List Nat) (b : Nat × List Nat) (hx : x.toInt = xi) (hw : w.toInt = wi) (pre0 : hsX p S M C l b) (pre1 : xi = (l.length : Int)) (pre2 : wi = ((hn l : Nat) : Int)) (k0 : ∀ p2 : xH, (hNt T_ch p p2) → (hsX p2 S M C l ((wY M C (S - l.length) l).foldl hBb b)) → (∀ j, j < 7 * l.length + 7 → rI p2 46 j = rI p 46 j) → Q none p2) : hP ro n d (10, 4, 1, 0, k120) 0 (lv_args 0 [.ref 44, .int x, .int w]) [] p Q := rc.1 S M C l b hx hw pre0 pre1 pre2 k0
theorem rs_choose {ro : List (List Int32)} {n : Nat} (rc : RC_ch ro n) {d : Nat} {p : xH} {Q : Option Value → xH → Prop} {x : Int32} {xi : Int} {c : Int32} {ci : Int} {w : Int32} {wi : Int} (S : Nat) (M : Nat → Nat → Prop) (C : Nat → Nat → Nat → Nat → Prop) (l : List Nat) (b : Nat × List Nat) (hx : x.toInt = xi) (hc : c.toInt = ci) (hw : w.toInt = wi) (pre0 : hsX p S M C l b) (pre1 : xi = (l.length : Int)) (pre2 : wi = ((hn l : Nat) : Int)) (pre3 : 0 ≤ ci) (pre4 : ci < 7) (pre5 : hFr M C l l.length ci.toNat) (pre6 : l.length < S) (k0 : ∀ p2 : xH, (hNt T_ch p p2) → (hsX p2 S M C l ((wY M C (S - l.length - 1) (ci.toNat :: l)).foldl hBb b)) → (∀ j, j < 7 * l.length + 7 → rI p2 46 j = rI p 46 j) → Q none p2) : hP ro n d (10, 4, 1, 0, k121) 0 (lv_args 0 [.ref 44, .int x, .int c, .int w]) [] p Q := rc.2 S M C l b hx hc hw pre0 pre1 pre2 pre3 pre4 pre5 pre6 k0
theorem lp_120a {ro : List (List Int32)} {d : Nat} {Q : Option Value → xH → Prop} {p0 : xH} {S : Nat} {x w : Int32} (g0 : (rI p0 13 7).toInt = (S : Int)) (hS7 : S ≤ 7) (K : ∀ p2 : xH, hNt [(44, 6), (48, 9999)] p0 p2 → (∀ j, j < S → rI p2 48 j = rI p0 47 j) → rI p2 44 6 = w → Q none p2) : ∀ (n : Nat) (k : Int32) (p : xH), (0 ≤ k.toInt) → (k.toInt ≤ S) → (hNt [(44, 6), (48, 9999)] p0 p) → (∀ j, j < k.toInt.toNat → rI p 48 j = rI p0 47 j) → (rI p 44 6 = w) → hP ro n d (10, 4, 1, 0, k120) 33 [(3, .int k), (0, .ref 44), (1, .int x), (2, .int w)] [] p Q := by
  intro n
  induction n with
  | zero => intros; exact hp_0
  | succ n ih =>
    intro k p hk1 hk2 hN hr h6
    have t7 : (rI p 13 7).toInt = (S : Int) := by rw [hN.int (r := 13) (k := 7) rfl]; exact g0
    refine hp_s1 (pc' := 34) (st' := [.int k]) rfl rfl rfl ?_
    refine hp_s (pc' := 35) (st' := [.ref 44, .int k]) rfl rfl rfl ?_
    refine hp_getr (k := 0) (w := .ref 13) (pc' := 38) rfl rfl rfl rfl rfl ?_
    refine hp_get (k := 7) (pc' := 41) (v := (rI p 13 7)) rfl rfl rfl rfl rfl rfl ?_
    refine hp_ic (pc' := 44) (t := 62) (a := k.toInt) (b := (rI p 13 7).toInt) rfl rfl rfl rfl rfl (fun (h1 : (rI p 13 7).toInt ≤ k.toInt) => ?_) (fun (h2 : ¬ ((rI p 13 7).toInt ≤ k.toInt)) => ?_)
    ·
      refine hp_rv rfl rfl ?_
      exact K p hN (fun j hj => hr j (by omega)) h6
    ·
      refine hp_s (pc' := 45) (st' := [.ref 44]) rfl rfl rfl ?_
      refine hp_getr (k := 5) (w := .ref 48) (pc' := 48) rfl rfl rfl rfl rfl ?_
      refine hp_s (pc' := 49) (st' := [.int k, .ref 48]) rfl rfl rfl ?_
      refine hp_s (pc' := 50) (st' := [.ref 44, .int k, .ref 48]) rfl rfl rfl ?_
      refine hp_getr (k := 4) (w := .ref 47) (pc' := 53) rfl rfl rfl rfl rfl ?_
      refine hp_s (pc' := 54) (st' := [.int k, .ref 47, .int k, .ref 48]) rfl rfl rfl ?_
      refine hp_ld (t := 100) (v := (rI p 47 k.toInt.toNat)) rfl (.inl rfl) rfl rfl rfl ?_
      intro (g1a : 0 ≤ k.toInt) (g1b : k.toInt < 7)
      refine hp_st (t := 100) rfl (.inl rfl) rfl rfl ?_
      intro p1 wp1 (p1a : 0 ≤ k.toInt) (p1b : k.toInt < 7) ep1
      refine hp_inc (L := fun z_ => [(3, .int z_), (0, .ref 44), (1, .int x), (2, .int w)]) (pc' := 59) rfl rfl rfl (fun _ => rfl) rfl ?_
      intro z1 hz1
      have ez1 := i_add hz1 (show k.toInt = k.toInt from rfl) (show (Int32.ofInt 1).toInt = 1 from by decide)
      refine hp_go (pc' := 33) rfl rfl rfl ?_
      refine ih z1 p1 (by omega) (by omega) (by rw [ep1]; exact (hNt.w hN rfl)) (fun j hj => ?_) (by rw [ep1, rI_o (by decide)]; exact h6)
      by_cases g : j = k.toInt.toNat
      · rw [g, ep1, rI_eq wp1 (by show _ < 7; omega)]; exact hN.int (r := 47) rfl
      · rw [ep1, rI_ne (fun _ => g)]; exact hr j (by omega)
theorem lp_120b {ro : List (List Int32)} {d : Nat} {Q : Option Value → xH → Prop} {p0 : xH} {S : Nat} {M : Nat → Nat → Prop} {C : Nat → Nat → Nat → Nat → Prop} {l : List Nat} {b0 : Nat × List Nat} {x w : Int32} (hlS : l.length < S) (hS7 : S ≤ 7) (hx : x.toInt = (l.length : Int)) (hw : w.toInt = ((hn l : Nat) : Int)) (K : ∀ p2 : xH, hNt T_ch p0 p2 → hsX p2 S M C l (hB M C (S - l.length - 1) l 7 b0) → (∀ j, j < 7 * l.length + 7 → rI p2 46 j = rI p0 46 j) → Q none p2) : ∀ (n : Nat) (k : Int32) (p : xH), (RC_ch ro n) → (0 ≤ k.toInt) → (k.toInt ≤ 7) → (hNt T_ch p0 p) → (∀ j, j < 7 * l.length + 7 → rI p 46 j = rI p0 46 j) → (hsX p S M C l (hB M C (S - l.length - 1) l k.toInt.toNat b0)) → hP ro n d (10, 4, 1, 0, k120) 65 [(3, .int k), (0, .ref 44), (1, .int x), (2, .int w)] [] p Q := by
  intro n
  induction n with
  | zero => intros; exact hp_0
  | succ n ih =>
    intro k p rc hk1 hk2 hN hO hX
    replace rc := RC_ch_more rc
    obtain ⟨x1, x2, x3, x4, x5, x6, x7⟩ := hX
    have hX : hsX p S M C l (hB M C (S - l.length - 1) l k.toInt.toNat b0) := ⟨x1, x2, x3, x4, x5, x6, x7⟩
    refine hp_s1 (pc' := 66) (st' := [.int k]) rfl rfl rfl ?_
    refine hp_s (pc' := 68) (st' := [.int 7, .int k]) rfl rfl rfl ?_
    refine hp_ic (pc' := 71) (t := 103) (a := k.toInt) (b := 7) rfl rfl rfl rfl (by decide) (fun (h1 : 7 ≤ k.toInt) => ?_) (fun (h2 : ¬ (7 ≤ k.toInt)) => ?_)
    ·
      refine hp_rv rfl rfl ?_
      exact K p hN (hsX_m (by omega) hX) hO
    ·
      refine hp_s (pc' := 72) (st' := [.ref 44]) rfl rfl rfl ?_
      refine hp_getr (k := 3) (w := .ref 46) (pc' := 75) rfl rfl rfl rfl rfl ?_
      refine hp_s (pc' := 76) (st' := [.int x, .ref 46]) rfl rfl rfl ?_
      refine hp_s (pc' := 78) (st' := [.int 7, .int x, .ref 46]) rfl rfl rfl ?_
      refine hp_z (pc' := 79) (e := x * 7) (st' := [.ref 46]) rfl rfl rfl ?_
      intro z1 hz1
      have ez1 := i_mul hz1 (show x.toInt = x.toInt from rfl) (show (7 : Int32).toInt = 7 from by decide)
      refine hp_s (pc' := 80) (st' := [.int x, .int z1, .ref 46]) rfl rfl rfl ?_
      refine hp_z (pc' := 81) (e := z1 + x) (st' := [.ref 46]) rfl rfl rfl ?_
      intro z2 hz2
      have ez2 := i_add hz2 (show z1.toInt = z1.toInt from rfl) (show x.toInt = x.toInt from rfl)
      refine hp_ld (t := 100) (v := (rI p 46 z2.toInt.toNat)) rfl (.inl rfl) rfl rfl rfl ?_
      intro (g1a : 0 ≤ z2.toInt) (g1b : z2.toInt < 56)
      have q9 : (rI p 46 z2.toInt.toNat) = rI p 46 (7 * l.length + l.length) := by congr 1; omega
      refine hp_s (pc' := 83) (st' := [.int k, .int (rI p 46 z2.toInt.toNat)]) rfl rfl rfl ?_
      refine hp_z (pc' := 84) (e := (rI p 46 z2.toInt.toNat) >>> (k &&& 31)) (st' := []) rfl rfl rfl ?_
      intro z3 hz3
      refine hp_s (pc' := 85) (st' := [.int 1, .int z3]) rfl rfl rfl ?_
      refine hp_z (pc' := 86) (e := z3 &&& 1) (st' := []) rfl rfl rfl ?_
      intro z4 hz4
      have hbit : z4.toInt = if bI (rI p 46 (7 * l.length + l.length)) k.toInt.toNat then 1 else 0 := by rw [hz4, hz3, q9]; exact bI_at _ (by omega) (by omega)
      have hf := x3 l.length (Nat.le_refl _) hlS k.toInt.toNat (by omega)
      refine hp_s (pc' := 87) (st' := [.int 1, .int z4]) rfl rfl rfl ?_
      refine hp_ic (pc' := 90) (t := 97) (a := z4.toInt) (b := 1) rfl rfl rfl rfl (by decide) (fun (h3 : z4.toInt ≠ 1) => ?_) (fun (h4 : ¬ (z4.toInt ≠ 1)) => ?_)
      ·
        refine hp_inc (L := fun z_ => [(3, .int z_), (0, .ref 44), (1, .int x), (2, .int w)]) (pc' := 100) rfl rfl rfl (fun _ => rfl) rfl ?_
        intro z5 hz5
        have ez5 := i_add hz5 (show k.toInt = k.toInt from rfl) (show (Int32.ofInt 1).toInt = 1 from by decide)
        refine hp_go (pc' := 65) rfl rfl rfl ?_
        have hnf : ¬ hFr M C l l.length k.toInt.toNat := fun g => b_if3 hbit (by by_cases hz : bI (rI p 46 (7 * l.length + l.length)) k.toInt.toNat = true; rw [if_pos hz] at hbit; omega; rw [if_neg hz] at hbit; omega) (hf.mpr ⟨by omega, g⟩)
        exact ih z5 p rc (by omega) (by omega) hN hO (hsX_sn (by omega) hnf hX)
      ·
        refine hp_s (pc' := 91) (st' := [.ref 44]) rfl rfl rfl ?_
        refine hp_s (pc' := 92) (st' := [.int x, .ref 44]) rfl rfl rfl ?_
        refine hp_s (pc' := 93) (st' := [.int k, .int x, .ref 44]) rfl rfl rfl ?_
        refine hp_s (pc' := 94) (st' := [.int w, .int k, .int x, .ref 44]) rfl rfl rfl ?_
        have hfr : hFr M C l l.length k.toInt.toNat := (hf.mp (b_if2 hbit (by omega))).2
        refine hp_cv (r := 44) (o := 10) (kd := 1) (as := [.int x, .int k, .int w]) (rest := []) (pc' := 97) rfl rfl rfl rfl rfl rfl rfl rfl rfl (fun d1 => ?_)
        refine rs_choose rc S M C l (hB M C (S - l.length - 1) l k.toInt.toNat b0) (xi := x.toInt) rfl (ci := k.toInt) rfl (wi := w.toInt) rfl (by first | assumption | omega) (by first | assumption | omega) (by first | assumption | omega) (by first | assumption | omega) (by first | assumption | omega) (by first | assumption | omega) (by first | assumption | omega) ?_
        intro p1 h5 h6 h7
        refine hp_id (st := []) ?_
        refine hp_inc (L := fun z_ => [(3, .int z_), (0, .ref 44), (1, .int x), (2, .int w)]) (pc' := 100) rfl rfl rfl (fun _ => rfl) rfl ?_
        intro z6 hz6
        have ez6 := i_add hz6 (show k.toInt = k.toInt from rfl) (show (Int32.ofInt 1).toInt = 1 from by decide)
        refine hp_go (pc' := 65) rfl rfl rfl ?_
        exact ih z6 p1 rc (by omega) (by omega) (hN.trans h5) (fun j hj => (h7 j hj).trans (hO j hj)) (hsX_sy (by omega) hfr h6)
theorem ts_chooseFrom {ro : List (List Int32)} {n : Nat} (rc : RC_ch ro n) : hs_chooseFrom ro (n + 1) := by
  intro d p Q x xi w wi S M C l b hx hw pre0 pre1 pre2 k0
  subst hx
  subst hw
  refine hp_id (ls := [(0, .ref 44), (1, .int x), (2, .int w)]) ?_
  obtain ⟨⟨b1, b2, b3⟩, x2, x3, x4, x5, x6, x7⟩ := pre0
  have pre0 : hsX p S M C l b := ⟨⟨b1, b2, b3⟩, x2, x3, x4, x5, x6, x7⟩
  have hh := hn_len l
  have hm := hMu_le (M := M) (C := C) (l := l) (q := l.length) (n := S - l.length)
  refine hp_s1 (pc' := 1) (st' := [.int w]) rfl rfl rfl ?_
  refine hp_s (pc' := 2) (st' := [.ref 44, .int w]) rfl rfl rfl ?_
  refine hp_s (pc' := 3) (st' := [.int x, .ref 44, .int w]) rfl rfl rfl ?_
  refine hp_cv (r := 44) (o := 10) (kd := 1) (as := [.int x]) (rest := [.int w]) (pc' := 6) rfl rfl rfl rfl rfl rfl rfl rfl rfl (fun d1 => ?_)
  refine s_mustWear S M C l (xi := x.toInt) rfl (by first | assumption | omega) (by first | assumption | omega) (by first | assumption | omega) (by first | assumption | omega) (by first | assumption | omega) ?_
  intro y1 h1
  refine hp_id (st := [.int y1, .int w]) ?_
  refine hp_z (pc' := 7) (e := w + y1) (st' := []) rfl rfl rfl ?_
  intro z1 hz1
  have ez1 := i_add hz1 (show w.toInt = w.toInt from rfl) (show y1.toInt = y1.toInt from rfl)
  refine hp_s (pc' := 8) (st' := [.ref 44, .int z1]) rfl rfl rfl ?_
  refine hp_get (k := 6) (pc' := 11) (v := (rI p 44 6)) rfl rfl rfl rfl rfl rfl ?_
  refine hp_ic (pc' := 14) (t := 15) (a := z1.toInt) (b := (rI p 44 6).toInt) rfl rfl rfl rfl rfl (fun (h2 : z1.toInt < (rI p 44 6).toInt) => ?_) (fun (h3 : ¬ (z1.toInt < (rI p 44 6).toInt)) => ?_)
  ·
    refine hp_s (pc' := 16) (st' := [.int x]) rfl rfl rfl ?_
    refine hp_s (pc' := 17) (st' := [.ref 44, .int x]) rfl rfl rfl ?_
    refine hp_getr (k := 0) (w := .ref 13) (pc' := 20) rfl rfl rfl rfl rfl ?_
    refine hp_get (k := 7) (pc' := 23) (v := (rI p 13 7)) rfl rfl rfl rfl rfl rfl ?_
    refine hp_ic (pc' := 26) (t := 63) (a := x.toInt) (b := (rI p 13 7).toInt) rfl rfl rfl rfl rfl (fun (h4 : x.toInt < (rI p 13 7).toInt) => ?_) (fun (h5 : ¬ (x.toInt < (rI p 13 7).toInt)) => ?_)
    ·
      refine hp_s (pc' := 64) (st' := [.int 0]) rfl rfl rfl ?_
      refine hp_s (pc' := 65) (ls' := [(3, .int 0), (0, .ref 44), (1, .int x), (2, .int w)]) (st' := []) rfl rfl rfl ?_
      exact lp_120b (p0 := p) (S := S) (M := M) (C := C) (l := l) (b0 := b) (x := x) (w := w) (by omega) b2 pre1 pre2 (fun p2 u1 u2 u3 => k0 p2 u1 (hsX_7 (j := S - l.length - 1) (by omega) u2) u3) n 0 p rc (by decide) (by decide) (hNt.refl _ _) (fun _ _ => rfl) (hsX_m (n := 0) (by rw [i_ofz]) pre0)
    ·
      refine hp_s (pc' := 27) (st' := [.ref 44]) rfl rfl rfl ?_
      refine hp_s (pc' := 28) (st' := [.int w, .ref 44]) rfl rfl rfl ?_
      refine hp_put (k := 6) (pc' := 31) rfl rfl rfl rfl rfl ?_
      intro p1 wp1 ep1
      refine hp_s (pc' := 32) (st' := [.int 0]) rfl rfl rfl ?_
      refine hp_s (pc' := 33) (ls' := [(3, .int 0), (0, .ref 44), (1, .int x), (2, .int w)]) (st' := []) rfl rfl rfl ?_
      exact lp_120a (p0 := p) (S := S) (x := x) (w := w) b1 b2 (fun p2 u1 u2 u3 => k0 p2 (u1.up (by decide)) (hsX_0 (by omega) (by omega) (hsX_kp u1 (by omega) pre2 u3 u2 pre0)) (fun j _ => u1.int (r := 46) rfl)) n 0 p1 (by decide) (by have h00 : (0 : Int32).toInt = 0 := (by decide); omega) (by rw [ep1]; exact (hNt.w (hNt.refl _ _) rfl)) (fun j hj => absurd hj (by rw [i_ofz]; exact Nat.not_lt_zero _)) (by rw [ep1, rI_eq wp1 (by decide)])
  ·
    refine hp_rv rfl rfl ?_
    exact k0 p (hNt.refl _ _) (hsX_no (fun y hy => by have q := wY_mu hy; omega) pre0) (fun _ _ => rfl)
theorem ts_choose {ro : List (List Int32)} {n : Nat} (rc : RC_ch ro n) : hs_choose ro (n + 1) := by
  intro d p Q x xi c ci w wi S M C l b hx hc hw pre0 pre1 pre2 pre3 pre4 pre5 pre6 k0
  subst hx
  subst hc
  subst hw
  refine hp_id (ls := [(0, .ref 44), (1, .int x), (2, .int c), (3, .int w)]) ?_
  refine hp_hw (fun w0 => ?_)
  have hS7 := pre0.1.2.1
  have hh := hn_len l
  refine hp_s1 (pc' := 1) (st' := [.ref 44]) rfl rfl rfl ?_
  refine hp_getr (k := 4) (w := .ref 47) (pc' := 4) rfl rfl rfl rfl rfl ?_
  refine hp_s (pc' := 5) (st' := [.int x, .ref 47]) rfl rfl rfl ?_
  refine hp_s (pc' := 6) (st' := [.int c, .int x, .ref 47]) rfl rfl rfl ?_
  refine hp_s (pc' := 7) (st' := [.int 1, .int c, .int x, .ref 47]) rfl rfl rfl ?_
  refine hp_z (pc' := 8) (e := c - 1) (st' := [.int x, .ref 47]) rfl rfl rfl ?_
  intro z1 hz1
  have ez1 := i_sub hz1 (show c.toInt = c.toInt from rfl) (show (1 : Int32).toInt = 1 from by decide)
  refine hp_st (t := 100) rfl (.inl rfl) rfl rfl ?_
  intro p1 wp1 (p1a : 0 ≤ x.toInt) (p1b : x.toInt < 7) ep1
  refine hp_s (pc' := 10) (st' := [.ref 44]) rfl rfl rfl ?_
  refine hp_s (pc' := 11) (st' := [.int x, .ref 44]) rfl rfl rfl ?_
  refine hp_s (pc' := 12) (st' := [.int c, .int x, .ref 44]) rfl rfl rfl ?_
  have n1 : hNt [(46, 9999), (47, 9999)] p p1 := by rw [ep1]; exact (hNt.refl _ _).w rfl
  have y0 : hsX p1 S M C l b := hsX_nt n1 (fun j _ => by rw [ep1, rI_o (by decide)]) (fun i hi => by rw [ep1, rI_ne (fun _ => by omega)]) pre0
  obtain ⟨⟨b1, b2, b3⟩, y2, y3, -⟩ := y0
  have t1 : kR p1 M C l.length c.toInt.toNat S := b3 _ pre6 _ (by omega) pre5.1
  refine hp_cv (r := 44) (o := 10) (kd := 1) (as := [.int x, .int c]) (rest := []) (pc' := 15) rfl rfl rfl rfl rfl rfl rfl rfl rfl (fun d1 => ?_)
  refine s_leavesFree S M C l (xi := x.toInt) rfl (ai := c.toInt) rfl (by first | assumption | omega) (by first | assumption | omega) (by first | assumption | omega) (by first | assumption | omega) (by first | assumption | omega) (by first | assumption | omega) (by first | assumption | omega) (by first | assumption | omega) ?_ ?_
  ·
    intro p2 h1 h2 h3
    refine hp_id (st := [.int 1]) ?_
    refine hp_go (pc' := 18) rfl rfl rfl ?_
    refine hp_s (pc' := 19) (st' := [.ref 44]) rfl rfl rfl ?_
    refine hp_s (pc' := 20) (st' := [.int x, .ref 44]) rfl rfl rfl ?_
    refine hp_s (pc' := 21) (st' := [.int 1, .int x, .ref 44]) rfl rfl rfl ?_
    refine hp_z (pc' := 22) (e := x + 1) (st' := [.ref 44]) rfl rfl rfl ?_
    intro z2 hz2
    have ez2 := i_add hz2 (show x.toInt = x.toInt from rfl) (show (1 : Int32).toInt = 1 from by decide)
    refine hp_s (pc' := 23) (st' := [.int c, .int z2, .ref 44]) rfl rfl rfl ?_
    refine hp_if (pc' := 26) (t := 30) (a := c.toInt) rfl rfl rfl rfl (fun (h4 : c.toInt ≠ 0) => ?_) (fun (h5 : ¬ (c.toInt ≠ 0)) => ?_)
    ·
      refine hp_s (pc' := 31) (st' := [.int w, .int z2, .ref 44]) rfl rfl rfl ?_
      refine hp_s (pc' := 32) (st' := [.int 1, .int w, .int z2, .ref 44]) rfl rfl rfl ?_
      refine hp_z (pc' := 33) (e := w + 1) (st' := [.int z2, .ref 44]) rfl rfl rfl ?_
      intro z3 hz3
      have ez3 := i_add hz3 (show w.toInt = w.toInt from rfl) (show (1 : Int32).toInt = 1 from by decide)
      have r0 : hsX p2 S M C (c.toInt.toNat :: l) b := hsX_lf w0 pre6 (by rw [ep1, show x.toInt.toNat = l.length by omega]) (by omega) h1 h3 pre0
      have r1 : z2.toInt = ((c.toInt.toNat :: l).length : Int) := by rw [List.length_cons]; push_cast; omega
      have r2 : z3.toInt = ((hn (c.toInt.toNat :: l) : Nat) : Int) := by
        show _ = ((hn l + (if c.toInt.toNat = 0 then 0 else 1) : Nat) : Int)
        first | (rw [if_pos (by omega)]; push_cast; omega) | (rw [if_neg (by omega)]; push_cast; omega)
      refine hp_cv (r := 44) (o := 10) (kd := 1) (as := [.int z2, .int z3]) (rest := []) (pc' := 36) rfl rfl rfl rfl rfl rfl rfl rfl rfl (fun d2 => ?_)
      refine rs_chooseFrom rc S M C (c.toInt.toNat :: l) b (xi := z2.toInt) rfl (wi := z3.toInt) rfl (by first | assumption | omega) (by first | assumption | omega) (by first | assumption | omega) ?_
      intro p3 h6 h7 h8
      refine hp_id (st := []) ?_
      refine hp_rv rfl rfl ?_
      have fr : ∀ j, j < 7 * l.length + 7 → rI p3 46 j = rI p 46 j := fun j hj => by rw [h8 j (by rw [List.length_cons]; omega), h2 j hj, ep1, rI_o (by decide)]
      have q := h7
      rw [show S - (c.toInt.toNat :: l).length = S - l.length - 1 by rw [List.length_cons]; omega] at q
      exact k0 p3 (hNt.trans (hNt.trans (by rw [ep1]; exact (hNt.w (hNt.refl _ _) rfl)) (h1.up (by decide))) (h6.up (by decide))) (hsX_bk pre0 fr q) fr
    ·
      refine hp_s (pc' := 27) (st' := [.int w, .int z2, .ref 44]) rfl rfl rfl ?_
      refine hp_go (pc' := 33) rfl rfl rfl ?_
      have r0 : hsX p2 S M C (c.toInt.toNat :: l) b := hsX_lf w0 pre6 (by rw [ep1, show x.toInt.toNat = l.length by omega]) (by omega) h1 h3 pre0
      have r1 : z2.toInt = ((c.toInt.toNat :: l).length : Int) := by rw [List.length_cons]; push_cast; omega
      have r2 : w.toInt = ((hn (c.toInt.toNat :: l) : Nat) : Int) := by
        show _ = ((hn l + (if c.toInt.toNat = 0 then 0 else 1) : Nat) : Int)
        first | (rw [if_pos (by omega)]; push_cast; omega) | (rw [if_neg (by omega)]; push_cast; omega)
      refine hp_cv (r := 44) (o := 10) (kd := 1) (as := [.int z2, .int w]) (rest := []) (pc' := 36) rfl rfl rfl rfl rfl rfl rfl rfl rfl (fun d3 => ?_)
      refine rs_chooseFrom rc S M C (c.toInt.toNat :: l) b (xi := z2.toInt) rfl (wi := w.toInt) rfl (by first | assumption | omega) (by first | assumption | omega) (by first | assumption | omega) ?_
      intro p4 h9 h10 h11
      refine hp_id (st := []) ?_
      refine hp_rv rfl rfl ?_
      have fr : ∀ j, j < 7 * l.length + 7 → rI p4 46 j = rI p 46 j := fun j hj => by rw [h11 j (by rw [List.length_cons]; omega), h2 j hj, ep1, rI_o (by decide)]
      have q := h10
      rw [show S - (c.toInt.toNat :: l).length = S - l.length - 1 by rw [List.length_cons]; omega] at q
      exact k0 p4 (hNt.trans (hNt.trans (by rw [ep1]; exact (hNt.w (hNt.refl _ _) rfl)) (h1.up (by decide))) (h9.up (by decide))) (hsX_bk pre0 fr q) fr
  ·
    intro p5 h12 h13 h14
    refine hp_id (st := [.int 0]) ?_
    refine hp_go (pc' := 36) rfl rfl rfl ?_
    refine hp_rv rfl rfl ?_
    obtain ⟨q, q1, q2, q3⟩ := h14
    exact k0 p5 ((hNt.trans (by rw [ep1]; exact (hNt.w (hNt.refl _ _) rfl)) (h12.up (by decide)))) (hsX_no (fun y hy => by have r := wY_fr hy q (by rw [List.length_cons]; omega) (by rw [List.length_cons]; omega); exact absurd r.2 (q3 _ r.1)) (hsX_nt (n1.trans (h12.up (by decide))) (fun j hj => by rw [h13 j hj, ep1, rI_o (by decide)]) (fun i hi => by rw [h12.int (r := 47) rfl, ep1, rI_ne (fun _ => by omega)]) pre0)) (fun j hj => by rw [h13 j hj, ep1, rI_o (by decide)])
theorem RC_ch_all {ro : List (List Int32)} : ∀ n : Nat, RC_ch ro n
  | 0 => ⟨fun _ _ _ _ _ _ _ _ _ _ _ => hp_0, fun _ _ _ _ _ _ _ _ _ _ _ _ _ _ _ _ => hp_0⟩
  | n + 1 => ⟨ts_chooseFrom (RC_ch_all n), ts_choose (RC_ch_all n)⟩
theorem s_chooseFrom {ro : List (List Int32)} {n : Nat} {d : Nat} {p : xH} {Q : Option Value → xH → Prop} {x : Int32} {xi : Int} {w : Int32} {wi : Int} (S : Nat) (M : Nat → Nat → Prop) (C : Nat → Nat → Nat → Nat → Prop) (l : List Nat) (b : Nat × List Nat) (hx : x.toInt = xi) (hw : w.toInt = wi) (pre0 : hsX p S M C l b) (pre1 : xi = (l.length : Int)) (pre2 : wi = ((hn l : Nat) : Int)) (k0 : ∀ p2 : xH, (hNt T_ch p p2) → (hsX p2 S M C l ((wY M C (S - l.length) l).foldl hBb b)) → (∀ j, j < 7 * l.length + 7 → rI p2 46 j = rI p 46 j) → Q none p2) : hP ro n d (10, 4, 1, 0, k120) 0 (lv_args 0 [.ref 44, .int x, .int w]) [] p Q := rs_chooseFrom (RC_ch_all n) S M C l b hx hw pre0 pre1 pre2 k0
theorem s_choose {ro : List (List Int32)} {n : Nat} {d : Nat} {p : xH} {Q : Option Value → xH → Prop} {x : Int32} {xi : Int} {c : Int32} {ci : Int} {w : Int32} {wi : Int} (S : Nat) (M : Nat → Nat → Prop) (C : Nat → Nat → Nat → Nat → Prop) (l : List Nat) (b : Nat × List Nat) (hx : x.toInt = xi) (hc : c.toInt = ci) (hw : w.toInt = wi) (pre0 : hsX p S M C l b) (pre1 : xi = (l.length : Int)) (pre2 : wi = ((hn l : Nat) : Int)) (pre3 : 0 ≤ ci) (pre4 : ci < 7) (pre5 : hFr M C l l.length ci.toNat) (pre6 : l.length < S) (k0 : ∀ p2 : xH, (hNt T_ch p p2) → (hsX p2 S M C l ((wY M C (S - l.length - 1) (ci.toNat :: l)).foldl hBb b)) → (∀ j, j < 7 * l.length + 7 → rI p2 46 j = rI p 46 j) → Q none p2) : hP ro n d (10, 4, 1, 0, k121) 0 (lv_args 0 [.ref 44, .int x, .int c, .int w]) [] p Q := rs_choose (RC_ch_all n) S M C l b hx hc hw pre0 pre1 pre2 pre3 pre4 pre5 pre6 k0
