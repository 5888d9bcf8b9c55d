/-! contracts of methods, walked -/
abbrev T_wf : List (Nat × Nat) := [(87, 9999)]
theorem rc_le {R : Nat → Prop} (h : ∀ n, R (n + 1) → R n) {m : Nat} : ∀ {n : Nat}, m ≤ n → R n → R m
  | 0, hm, r => by rw [show m = 0 by omega]; exact r
  | n + 1, hm, r => by
    by_cases g : m = n + 1
    · rw [g]; exact r
    · exact rc_le h (n := n) (by omega) (h n r)
def hwX (p : xH) (S : Nat) (M : Nat → Nat → Prop) (C : Nat → Nat → Nat → Nat → Prop) (l : List Nat) : Prop := ((rI p 66 6).toInt = (S : Int) ∧ S ≤ 7 ∧ hkD p C S 0 0 ∧ hM p 67 7 = M) ∧ l.length ≤ S ∧ ∀ i, i < l.length → ix l i < 7 ∧ (rI p 87 i).toInt = ((ix l i : Nat) : Int)
theorem hwX_e {p p2 : xH} {S : Nat} {M : Nat → Nat → Prop} {C : Nat → Nat → Nat → Nat → Prop} {l : List Nat} (h : hNt [(87, 9999)] p p2) (h87 : ∀ i, i < l.length → rI p2 87 i = rI p 87 i) (x : hwX p S M C l) : hwX p2 S M C l := by
  obtain ⟨⟨x1, x2, x3, x4⟩, x5, x6⟩ := x
  exact ⟨⟨by rw [h.int (r := 66) (k := 6) rfl]; exact x1, x2, hkD_e (fun j => h.int (r := 86) rfl) x3, by rw [hM_e (fun j => h.int (r := 67) rfl)]; exact x4⟩, x5, fun i hi => by rw [h87 i hi]; exact x6 i hi⟩
theorem hwX_c {p p2 : xH} {S : Nat} {M : Nat → Nat → Prop} {C : Nat → Nat → Nat → Nat → Prop} {l : List Nat} {c : Nat} {v : Int32} (hw : hW p) (hl : l.length < S) (hc : c < 7) (hv : v.toInt = (c : Int)) (e : p2 = wV p 87 l.length (.int v)) (x : hwX p S M C l) : hwX p2 S M C (c :: l) := by
  have hS := x.1.2.1
  have y := hwX_e (p2 := p2) (by rw [e]; exact (hNt.refl _ _).w rfl) (fun i hi => by rw [e, rI_ne (fun _ => by omega)]) x
  refine ⟨y.1, by rw [List.length_cons]; omega, fun i hi => ?_⟩
  rw [List.length_cons] at hi
  by_cases g : i = l.length
  · rw [g, ix_h, e, rI_w hw (by show _ < 7; omega), if_pos rfl]
    exact ⟨hc, hv⟩
  · rw [ix_t (by omega)]
    exact y.2.2 i (by omega)
theorem hwX_b {p : xH} {S : Nat} {M : Nat → Nat → Prop} {C : Nat → Nat → Nat → Nat → Prop} {l : List Nat} {c : Nat} (x : hwX p S M C (c :: l)) : hwX p S M C l := ⟨x.1, by have := x.2.1; rw [List.length_cons] at this; omega, fun i hi => by
  have q := x.2.2 i (by rw [List.length_cons]; omega)
  rw [ix_t hi] at q
  exact q⟩
theorem wZ_f0 {M : Nat → Nat → Prop} {C : Nat → Nat → Nat → Nat → Prop} {k a N : Nat} {l : List Nat} {y : Int} (hy : y = (N : Int) - ((hn l : Nat) : Int)) (h : ¬ (hFr M C l l.length a ∧ (a = 0 ∨ 0 < y))) : (wZ M C k l a).find? (hP_ N) = none := by
  rcases Classical.em (hFr M C l l.length a) with g | g
  · rw [wZ_y g]
    refine find_no (fun x hx => ?_)
    have q := wY_hn hx
    have q : hn l + (if a = 0 then 0 else 1) ≤ hn x := q
    have g2 : a ≠ 0 := fun z => h ⟨g, Or.inl z⟩
    have g3 : ¬ 0 < y := fun z => h ⟨g, Or.inr z⟩
    rw [if_neg g2] at q
    omega
  · rw [wZ_n g]; rfl
theorem find_1 {N : Nat} {l : List Nat} (h : hn l = N) : [l].find? (hP_ N) = some l := List.find?_cons_of_pos (decide_eq_true h)
theorem find_2 {N : Nat} {l : List Nat} (h : hn l ≠ N) : [l].find? (hP_ N) = none := by rw [find_c h]; rfl
def hs_wearsFrom (ro : List (List Int32)) (n : Nat) : Prop := ∀ {d : Nat} {p : xH} {Q : Option Value → xH → Prop} {x : Int32} {xi : Int} {y : Int32} {yi : Int} (S : Nat) (M : Nat → Nat → Prop) (C : Nat → Nat → Nat → Nat → Prop) (l : List Nat) (N : Nat) (hx : x.toInt = xi) (hy : y.toInt = yi) (pre0 : hwX p S M C l) (pre1 : xi = (l.length : Int)) (pre2 : yi = (N : Int) - ((hn l : Nat) : Int)) (k0 : ∀ l2 : List Nat, ∀ p2 : xH, (hNt T_wf p p2) → ((wY M C (S - l.length) l).find? (hP_ N) = some l2) → (∀ i, i < S → (rI p2 87 i).toInt = ((ix l2 i : Nat) : Int)) → Q (some (.int (1))) p2) (k1 : ∀ p2 : xH, (hNt T_wf p p2) → ((wY M C (S - l.length) l).find? (hP_ N) = none) → (hwX p2 S M C l) → Q (some (.int (0))) p2), hP ro n d (12, 6, 1, 2, k230) 0 (lv_args 0 [.ref 66, .int x, .int y]) [] p Q
def RC_wf (ro : List (List Int32)) (n : Nat) : Prop := hs_wearsFrom ro n ∧ True
theorem RC_wf_more {ro : List (List Int32)} {n : Nat} (h : RC_wf ro (n + 1)) : RC_wf ro n := ⟨fun S M C l N hx hy pre0 pre1 pre2 k0 k1 => hp_more (h.1 S M C l N hx hy pre0 pre1 pre2 k0 k1), trivial⟩
theorem rs_wearsFrom {ro : List (List Int32)} {n : Nat} (rc : RC_wf ro n) {d : Nat} {p : xH} {Q : Option Value → xH → Prop} {x : Int32} {xi : Int} {y : Int32} {yi : Int} (S : Nat) (M : Nat → Nat → Prop) (C : Nat → Nat → Nat → Nat → Prop) (l : List Nat) (N : Nat) (hx : x.toInt = xi) (hy : y.toInt = yi) (pre0 : hwX p S M C l) (pre1 : xi = (l.length : Int)) (pre2 : yi = (N : Int) - ((hn l : Nat) : Int)) (k0 : ∀ l2 : List Nat, ∀ p2 : xH, (hNt T_wf p p2) → ((wY M C (S - l.length) l).find? (hP_ N) = some l2) → (∀ i, i < S → (rI p2 87 i).toInt = ((ix l2 i : Nat) : Int)) → Q (some (.int (1))) p2) (k1 : ∀ p2 : xH, (hNt T_wf p p2) → ((wY M C (S - l.length) l).find? (hP_ N) = none) → (hwX p2 S M C l) → Q (some (.int (0))) p2) : hP ro n d (12, 6, 1, 2, k230) 0 (lv_args 0 [.ref 66, .int x, .int y]) [] p Q := rc.1 S M C l N hx hy pre0 pre1 pre2 k0 k1
theorem lp_230b {ro : List (List Int32)} {d : Nat} {Q : Option Value → xH → Prop} {p2 : xH} {S : Nat} {M : Nat → Nat → Prop} {C : Nat → Nat → Nat → Nat → Prop} {l : List Nat} {x y k : Int32} {N : Nat} (hX : hwX p2 S M C l) (hx : x.toInt = (l.length : Int)) (hlS : l.length < S) (k0 : 0 ≤ k.toInt) (k7 : k.toInt < 7) (K : ∀ m : Nat, m ≤ N → ∀ (q g : Int32), ((g.toInt = 1 ∧ (hFr M C l l.length k.toInt.toNat ∧ (k.toInt.toNat = 0 ∨ 0 < y.toInt))) ∨ (g.toInt = 0 ∧ ¬ (hFr M C l l.length k.toInt.toNat ∧ (k.toInt.toNat = 0 ∨ 0 < y.toInt)))) → hP ro m d (12, 6, 1, 2, k230) 99 [(5, .int q), (4, .int g), (3, .int k), (0, .ref 66), (1, .int x), (2, .int y)] [] p2 Q) : ∀ (n : Nat) (hn : n ≤ N) (q : Int32) (g : Int32), (0 ≤ q.toInt) → (q.toInt ≤ x.toInt) → ((g.toInt = 1 ∧ M l.length k.toInt.toNat ∧ (k.toInt.toNat = 0 ∨ 0 < y.toInt) ∧ ∀ i, i < q.toInt.toNat → ¬ C i (ix l i) l.length k.toInt.toNat) ∨ (g.toInt = 0 ∧ ¬ (hFr M C l l.length k.toInt.toNat ∧ (k.toInt.toNat = 0 ∨ 0 < y.toInt)))) → hP ro n d (12, 6, 1, 2, k230) 53 [(5, .int q), (4, .int g), (3, .int k), (0, .ref 66), (1, .int x), (2, .int y)] [] p2 Q := by
  intro n
  induction n with
  | zero => intros; exact hp_0
  | succ n ih =>
    intro hn q g hq1_ hq2_ hG
    obtain ⟨⟨x1, x2, x3, x4⟩, x5, x6⟩ := hX
    refine hp_s1 (pc' := 55) (st' := [.int q]) rfl rfl rfl ?_
    refine hp_s (pc' := 56) (st' := [.int x, .int q]) rfl rfl rfl ?_
    refine hp_ic (pc' := 59) (t := 99) (a := q.toInt) (b := x.toInt) rfl rfl rfl rfl rfl (fun (h1 : x.toInt ≤ q.toInt) => ?_) (fun (h2 : ¬ (x.toInt ≤ q.toInt)) => ?_)
    ·
      exact K n (by omega) _ _ (by rcases hG with ⟨u1, u2, u3, u4⟩ | u; exact Or.inl ⟨u1, ⟨u2, fun i hi => u4 i (by omega)⟩, u3⟩; exact Or.inr u)
    ·
      refine hp_s (pc' := 61) (st' := [.int g]) rfl rfl rfl ?_
      refine hp_if (pc' := 64) (t := 99) (a := g.toInt) rfl rfl rfl rfl (fun (h3 : g.toInt = 0) => ?_) (fun (h4 : ¬ (g.toInt = 0)) => ?_)
      ·
        exact K n (by omega) _ _ (by rcases hG with ⟨u1, u2, u3, u4⟩ | u; exact Or.inl ⟨u1, ⟨u2, fun i hi => u4 i (by omega)⟩, u3⟩; exact Or.inr u)
      ·
        refine hp_s (pc' := 65) (st' := [.ref 66]) rfl rfl rfl ?_
        refine hp_getr (k := 31) (w := .ref 86) (pc' := 68) rfl rfl rfl rfl rfl ?_
        refine hp_s (pc' := 69) (st' := [.int x, .ref 86]) rfl rfl rfl ?_
        refine hp_s (pc' := 70) (st' := [.int k, .int x, .ref 86]) rfl rfl rfl ?_
        refine hp_s (pc' := 72) (st' := [.int q, .int k, .int x, .ref 86]) rfl rfl rfl ?_
        refine hp_s (pc' := 73) (st' := [.ref 66, .int q, .int k, .int x, .ref 86]) rfl rfl rfl ?_
        refine hp_getr (k := 32) (w := .ref 87) (pc' := 76) rfl rfl rfl rfl rfl ?_
        refine hp_s (pc' := 78) (st' := [.int q, .ref 87, .int q, .int k, .int x, .ref 86]) rfl rfl rfl ?_
        refine hp_ld (t := 100) (v := (rI p2 87 q.toInt.toNat)) rfl (.inl rfl) rfl rfl rfl ?_
        intro (g1a : 0 ≤ q.toInt) (g1b : q.toInt < 7)
        have hq87 := x6 q.toInt.toNat (by omega)
        obtain ⟨hq1, hq2⟩ := hq87
        refine hp_cs (kd := 0) (as := [.int x, .int k, .int q, .int (rI p2 87 q.toInt.toNat)]) (rest := [.ref 86]) (pc' := 82) rfl rfl rfl rfl rfl rfl rfl (fun d1 => ?_)
        refine s_clashAt (xi := x.toInt) rfl (ai := k.toInt) rfl (yi := q.toInt) rfl (bi := (rI p2 87 q.toInt.toNat).toInt) rfl (by first | assumption | omega) (by first | assumption | omega) (by first | assumption | omega) (by first | assumption | omega) (by first | assumption | omega) (by first | assumption | omega) (by first | assumption | omega) (by first | assumption | omega) ?_
        intro y1 h5
        refine hp_id (st := [.int y1, .ref 86]) ?_
        refine hp_ld (t := 101) (v := (rI p2 86 y1.toInt.toNat)) rfl (.inr rfl) rfl rfl rfl ?_
        intro (g2a : 0 ≤ y1.toInt) (g2b : y1.toInt < 2401)
        have hk0 := x3 l.length q.toInt.toNat k.toInt.toNat (ix l q.toInt.toNat) (by omega) (by omega) (by omega) hq1 (Or.inl (by omega))
        unfold kmR at hk0
        rw [show 343 * l.length + 49 * k.toInt.toNat + 7 * q.toInt.toNat + ix l q.toInt.toNat = y1.toInt.toNat by omega] at hk0
        refine hp_if (pc' := 86) (t := 90) (a := (rI p2 86 y1.toInt.toNat).toInt) rfl rfl rfl rfl (fun (h6 : (rI p2 86 y1.toInt.toNat).toInt ≠ 0) => ?_) (fun (h7 : ¬ ((rI p2 86 y1.toInt.toNat).toInt ≠ 0)) => ?_)
        ·
          refine hp_s (pc' := 91) (st' := [.int 0]) rfl rfl rfl ?_
          refine hp_s (pc' := 93) (ls' := [(4, .int 0), (5, .int q), (3, .int k), (0, .ref 66), (1, .int x), (2, .int y)]) (st' := []) rfl rfl rfl ?_
          refine hp_inc (L := fun z_ => [(5, .int z_), (4, .int 0), (3, .int k), (0, .ref 66), (1, .int x), (2, .int y)]) (pc' := 96) rfl rfl rfl (fun _ => rfl) rfl ?_
          intro z1 hz1
          have ez1 := i_add hz1 (show q.toInt = q.toInt from rfl) (show (Int32.ofInt 1).toInt = 1 from by decide)
          refine hp_go (pc' := 53) rfl rfl rfl ?_
          refine ih (by omega) z1 (0 : Int32) (by omega) (by omega) ?_
          refine Or.inr ⟨by decide, fun u => u.1.2 q.toInt.toNat (by omega) ?_⟩
          rcases hk0 with h | h; exact h.2; exfalso; omega
        ·
          refine hp_s (pc' := 87) (st' := [.int 1]) rfl rfl rfl ?_
          refine hp_go (pc' := 91) rfl rfl rfl ?_
          refine hp_s (pc' := 93) (ls' := [(4, .int 1), (5, .int q), (3, .int k), (0, .ref 66), (1, .int x), (2, .int y)]) (st' := []) rfl rfl rfl ?_
          refine hp_inc (L := fun z_ => [(5, .int z_), (4, .int 1), (3, .int k), (0, .ref 66), (1, .int x), (2, .int y)]) (pc' := 96) rfl rfl rfl (fun _ => rfl) rfl ?_
          intro z2 hz2
          have ez2 := i_add hz2 (show q.toInt = q.toInt from rfl) (show (Int32.ofInt 1).toInt = 1 from by decide)
          refine hp_go (pc' := 53) rfl rfl rfl ?_
          refine ih (by omega) z2 (1 : Int32) (by omega) (by omega) ?_
          rcases hG with ⟨u1, u2, u3, u4⟩ | ⟨u1, -⟩
          · refine Or.inl ⟨by decide, u2, u3, fun i hi => ?_⟩
            by_cases e : i = q.toInt.toNat
            · rw [e]; rcases hk0 with h | h; exfalso; omega; exact h.2
            · exact u4 i (by omega)
          · exfalso; omega
theorem lp_230a {ro : List (List Int32)} {d : Nat} {Q : Option Value → xH → Prop} {p0 : xH} {S : Nat} {M : Nat → Nat → Prop} {C : Nat → Nat → Nat → Nat → Prop} {l : List Nat} {N : Nat} {x y : Int32} (hlS : l.length < S) (hx : x.toInt = (l.length : Int)) (hy : y.toInt = (N : Int) - ((hn l : Nat) : Int)) (K1 : ∀ (l2 : List Nat) (p2 : xH), hNt T_wf p0 p2 → (wA (wZ M C (S - l.length - 1) l) 7).find? (hP_ N) = some l2 → (∀ i, i < S → (rI p2 87 i).toInt = ((ix l2 i : Nat) : Int)) → Q (some (.int 1)) p2) (K0 : ∀ p2 : xH, hNt T_wf p0 p2 → (wA (wZ M C (S - l.length - 1) l) 7).find? (hP_ N) = none → hwX p2 S M C l → Q (some (.int 0)) p2) : ∀ (n : Nat) (k : Int32) (g : Int32) (q : Int32) (p : xH), (RC_wf ro n) → (0 ≤ k.toInt) → (k.toInt ≤ 7) → (hNt T_wf p0 p) → (hwX p S M C l) → (∀ i, i < k.toInt.toNat → (wZ M C (S - l.length - 1) l i).find? (hP_ N) = none) → hP ro n d (12, 6, 1, 2, k230) 20 [(3, .int k), (4, .int g), (5, .int q), (0, .ref 66), (1, .int x), (2, .int y)] [] p Q := by
  intro n
  induction n with
  | zero => intros; exact hp_0
  | succ n ih =>
    intro k g q p rc hk1 hk2 hN hX hA
    replace rc := RC_wf_more rc
    refine hp_hw (fun w0 => ?_)
    obtain ⟨⟨x1, x2, x3, x4⟩, x5, x6⟩ := hX
    have hX : hwX p S M C l := ⟨⟨x1, x2, x3, x4⟩, x5, x6⟩
    refine hp_s1 (pc' := 21) (st' := [.int k]) rfl rfl rfl ?_
    refine hp_s (pc' := 23) (st' := [.int 7, .int k]) rfl rfl rfl ?_
    refine hp_ic (pc' := 26) (t := 140) (a := k.toInt) (b := 7) rfl rfl rfl rfl (by decide) (fun (h1 : 7 ≤ k.toInt) => ?_) (fun (h2 : ¬ (7 ≤ k.toInt)) => ?_)
    ·
      refine hp_s (pc' := 141) (st' := [.int 0]) rfl rfl rfl ?_
      refine hp_rb rfl rfl (fun _ => ?_)
      exact K0 p hN (wA_none (fun i hi => hA i (by omega))) hX
    ·
      refine hp_s (pc' := 27) (st' := [.ref 66]) rfl rfl rfl ?_
      refine hp_s (pc' := 28) (st' := [.int x, .ref 66]) rfl rfl rfl ?_
      refine hp_s (pc' := 29) (st' := [.int k, .int x, .ref 66]) rfl rfl rfl ?_
      have hmM : hWr (rI p 67 (7 + x.toInt).toNat) (k - 1) ↔ M l.length k.toInt.toNat := by have q := hM_w (p := p) (r := 67) (o := 7) (q := l.length) (c := k.toInt.toNat) (y := k - 1) (by omega) (by have q := i_sub (z := k - 1) rfl (show k.toInt = k.toInt from rfl) (show (1 : Int32).toInt = 1 from by decide); omega); rw [show (7 + x.toInt).toNat = 7 + l.length by omega, ← x4]; exact q
      refine hp_cv (r := 66) (o := 12) (kd := 1) (as := [.int x, .int k]) (rest := []) (pc' := 32) rfl rfl rfl rfl rfl rfl rfl rfl rfl (fun d1 => ?_)
      refine s_mayWearM (xi := x.toInt) rfl (yi := k.toInt) rfl (by first | assumption | omega) (by first | assumption | omega) (by first | assumption | omega) (by first | assumption | omega) ?_ ?_
      ·
        intro h3
        refine hp_id (st := [.int 1]) ?_
        refine hp_go (pc' := 35) rfl rfl rfl ?_
        refine hp_s (pc' := 36) (st' := [.int k]) rfl rfl rfl ?_
        refine hp_if (pc' := 39) (t := 43) (a := k.toInt) rfl rfl rfl rfl (fun (h4 : k.toInt = 0) => ?_) (fun (h5 : ¬ (k.toInt = 0)) => ?_)
        ·
          refine hp_s (pc' := 44) (st' := [.int 1]) rfl rfl rfl ?_
          refine hp_go (pc' := 48) rfl rfl rfl ?_
          refine hp_s (pc' := 50) (ls' := [(4, .int 1), (3, .int k), (5, .int q), (0, .ref 66), (1, .int x), (2, .int y)]) (st' := []) rfl rfl rfl ?_
          refine hp_s (pc' := 51) (st' := [.int 0]) rfl rfl rfl ?_
          refine hp_s (pc' := 53) (ls' := [(5, .int 0), (4, .int 1), (3, .int k), (0, .ref 66), (1, .int x), (2, .int y)]) (st' := []) rfl rfl rfl ?_
          refine lp_230b (N := n) (S := S) (M := M) (C := C) (l := l) (x := x) (y := y) (k := k) hX hx hlS hk1 (by omega) (fun m0 hm0 q g j1 => ?_) n (Nat.le_refl _) 0 (1 : Int32) (by decide) (by have h00 : (0 : Int32).toInt = 0 := (by decide); omega) (Or.inl ⟨by decide, hmM.mp h3, by omega, fun i hi => absurd hi (by rw [i_ofz]; exact Nat.not_lt_zero _)⟩)
          have rcN := rc
          replace rc := rc_le (R := RC_wf ro) (fun _ => RC_wf_more) hm0 rc
          refine hp_s (pc' := 101) (st' := [.int g]) rfl rfl rfl ?_
          refine hp_if (pc' := 104) (t := 134) (a := g.toInt) rfl rfl rfl rfl (fun (h6 : g.toInt = 0) => ?_) (fun (h7 : ¬ (g.toInt = 0)) => ?_)
          ·
            refine hp_inc (L := fun z_ => [(3, .int z_), (5, .int q), (4, .int g), (0, .ref 66), (1, .int x), (2, .int y)]) (pc' := 137) rfl rfl rfl (fun _ => rfl) rfl ?_
            intro z1 hz1
            have ez1 := i_add hz1 (show k.toInt = k.toInt from rfl) (show (Int32.ofInt 1).toInt = 1 from by decide)
            refine hp_go (pc' := 20) rfl rfl rfl ?_
            refine hp_ls (ls' := [(3, .int z1), (4, .int g), (5, .int q), (0, .ref 66), (1, .int x), (2, .int y)]) rfl rfl ⟨rfl, rfl, rfl, rfl, rfl, rfl, trivial⟩ ?_
            have hno : (wZ M C (S - l.length - 1) l k.toInt.toNat).find? (hP_ N) = none := wZ_f0 hy (by rcases j1 with u | u; exact absurd u.1 (by omega); exact u.2)
            refine hp_le hm0 (ih z1 g q p rcN (by omega) (by omega) hN hX (fun i hi => ?_))
            by_cases e : i = k.toInt.toNat
            · rw [e]; exact hno
            · exact hA i (by omega)
          ·
            refine hp_s (pc' := 105) (st' := [.ref 66]) rfl rfl rfl ?_
            refine hp_getr (k := 32) (w := .ref 87) (pc' := 108) rfl rfl rfl rfl rfl ?_
            refine hp_s (pc' := 109) (st' := [.int x, .ref 87]) rfl rfl rfl ?_
            refine hp_s (pc' := 110) (st' := [.int k, .int x, .ref 87]) rfl rfl rfl ?_
            refine hp_st (t := 100) rfl (.inl rfl) rfl rfl ?_
            intro p1 wp1 (p1a : 0 ≤ x.toInt) (p1b : x.toInt < 7) ep1
            refine hp_s (pc' := 112) (st' := [.ref 66]) rfl rfl rfl ?_
            refine hp_s (pc' := 113) (st' := [.int x, .ref 66]) rfl rfl rfl ?_
            refine hp_s (pc' := 114) (st' := [.int 1, .int x, .ref 66]) rfl rfl rfl ?_
            refine hp_z (pc' := 115) (e := x + 1) (st' := [.ref 66]) rfl rfl rfl ?_
            intro z2 hz2
            have ez2 := i_add hz2 (show x.toInt = x.toInt from rfl) (show (1 : Int32).toInt = 1 from by decide)
            refine hp_s (pc' := 116) (st' := [.int k, .int z2, .ref 66]) rfl rfl rfl ?_
            refine hp_if (pc' := 119) (t := 123) (a := k.toInt) rfl rfl rfl rfl (fun (h8 : k.toInt ≠ 0) => ?_) (fun (h9 : ¬ (k.toInt ≠ 0)) => ?_)
            ·
              refine hp_s (pc' := 124) (st' := [.int y, .int z2, .ref 66]) rfl rfl rfl ?_
              refine hp_s (pc' := 125) (st' := [.int 1, .int y, .int z2, .ref 66]) rfl rfl rfl ?_
              refine hp_z (pc' := 126) (e := y - 1) (st' := [.int z2, .ref 66]) rfl rfl rfl ?_
              intro z3 hz3
              have ez3 := i_sub hz3 (show y.toInt = y.toInt from rfl) (show (1 : Int32).toInt = 1 from by decide)
              obtain ⟨hf, ha0⟩ : (hFr M C l l.length k.toInt.toNat ∧ (k.toInt.toNat = 0 ∨ 0 < y.toInt)) := by rcases j1 with u | u; exact u.2; exact absurd u.1 (by omega)
              have r0 : hwX p1 S M C (k.toInt.toNat :: l) := hwX_c (v := k) w0 hlS (by omega) (by omega) (by rw [ep1, show x.toInt.toNat = l.length by omega]) hX
              have r1 : z2.toInt = ((k.toInt.toNat :: l).length : Int) := by rw [List.length_cons]; push_cast; omega
              have r2 : z3.toInt = (N : Int) - ((hn (k.toInt.toNat :: l) : Nat) : Int) := by
                show _ = (N : Int) - ((hn l + (if k.toInt.toNat = 0 then 0 else 1) : Nat) : Int)
                first | (rw [if_pos (by omega)]; push_cast; omega) | (rw [if_neg (by omega)]; push_cast; omega)
              refine hp_cv (r := 66) (o := 12) (kd := 1) (as := [.int z2, .int z3]) (rest := []) (pc' := 129) rfl rfl rfl rfl rfl rfl rfl rfl rfl (fun d2 => ?_)
              refine rs_wearsFrom rc S M C (k.toInt.toNat :: l) N (xi := z2.toInt) rfl (yi := z3.toInt) rfl (by first | assumption | omega) (by first | assumption | omega) (by first | assumption | omega) ?_ ?_
              ·
                intro y1 p2 h10 h11 h12
                refine hp_id (st := [.int 1]) ?_
                refine hp_go (pc' := 132) rfl rfl rfl ?_
                refine hp_s (pc' := 133) (st' := [.int 1]) rfl rfl rfl ?_
                refine hp_rb rfl rfl (fun _ => ?_)
                have qf := h11
                rw [show S - (k.toInt.toNat :: l).length = S - l.length - 1 by rw [List.length_cons]; omega] at qf
                exact K1 _ p2 (hNt.trans (by rw [ep1]; exact (hNt.w hN rfl)) (h10.up (by decide))) (wA_some (m := k.toInt.toNat) hA (by rw [wZ_y hf]; exact qf) (by omega)) h12
              ·
                intro p3 h13 h14 h15
                refine hp_id (st := [.int 0]) ?_
                refine hp_go (pc' := 134) rfl rfl rfl ?_
                refine hp_inc (L := fun z_ => [(3, .int z_), (5, .int q), (4, .int g), (0, .ref 66), (1, .int x), (2, .int y)]) (pc' := 137) rfl rfl rfl (fun _ => rfl) rfl ?_
                intro z4 hz4
                have ez4 := i_add hz4 (show k.toInt = k.toInt from rfl) (show (Int32.ofInt 1).toInt = 1 from by decide)
                refine hp_go (pc' := 20) rfl rfl rfl ?_
                refine hp_ls (ls' := [(3, .int z4), (4, .int g), (5, .int q), (0, .ref 66), (1, .int x), (2, .int y)]) rfl rfl ⟨rfl, rfl, rfl, rfl, rfl, rfl, trivial⟩ ?_
                have qf := h14
                rw [show S - (k.toInt.toNat :: l).length = S - l.length - 1 by rw [List.length_cons]; omega] at qf
                have hno : (wZ M C (S - l.length - 1) l k.toInt.toNat).find? (hP_ N) = none := by rw [wZ_y hf]; exact qf
                refine hp_le hm0 (ih z4 g q p3 rcN (by omega) (by omega) (hNt.trans (by rw [ep1]; exact (hNt.w hN rfl)) (h13.up (by decide))) (hwX_b h15) (fun i hi => ?_))
                by_cases e : i = k.toInt.toNat
                · rw [e]; exact hno
                · exact hA i (by omega)
            ·
              refine hp_s (pc' := 120) (st' := [.int y, .int z2, .ref 66]) rfl rfl rfl ?_
              refine hp_go (pc' := 126) rfl rfl rfl ?_
              obtain ⟨hf, ha0⟩ : (hFr M C l l.length k.toInt.toNat ∧ (k.toInt.toNat = 0 ∨ 0 < y.toInt)) := by rcases j1 with u | u; exact u.2; exact absurd u.1 (by omega)
              have r0 : hwX p1 S M C (k.toInt.toNat :: l) := hwX_c (v := k) w0 hlS (by omega) (by omega) (by rw [ep1, show x.toInt.toNat = l.length by omega]) hX
              have r1 : z2.toInt = ((k.toInt.toNat :: l).length : Int) := by rw [List.length_cons]; push_cast; omega
              have r2 : y.toInt = (N : Int) - ((hn (k.toInt.toNat :: l) : Nat) : Int) := by
                show _ = (N : Int) - ((hn l + (if k.toInt.toNat = 0 then 0 else 1) : Nat) : Int)
                first | (rw [if_pos (by omega)]; push_cast; omega) | (rw [if_neg (by omega)]; push_cast; omega)
              refine hp_cv (r := 66) (o := 12) (kd := 1) (as := [.int z2, .int y]) (rest := []) (pc' := 129) rfl rfl rfl rfl rfl rfl rfl rfl rfl (fun d3 => ?_)
              refine rs_wearsFrom rc S M C (k.toInt.toNat :: l) N (xi := z2.toInt) rfl (yi := y.toInt) rfl (by first | assumption | omega) (by first | assumption | omega) (by first | assumption | omega) ?_ ?_
              ·
                intro y2 p4 h16 h17 h18
                refine hp_id (st := [.int 1]) ?_
                refine hp_go (pc' := 132) rfl rfl rfl ?_
                refine hp_s (pc' := 133) (st' := [.int 1]) rfl rfl rfl ?_
                refine hp_rb rfl rfl (fun _ => ?_)
                have qf := h17
                rw [show S - (k.toInt.toNat :: l).length = S - l.length - 1 by rw [List.length_cons]; omega] at qf
                exact K1 _ p4 (hNt.trans (by rw [ep1]; exact (hNt.w hN rfl)) (h16.up (by decide))) (wA_some (m := k.toInt.toNat) hA (by rw [wZ_y hf]; exact qf) (by omega)) h18
              ·
                intro p5 h19 h20 h21
                refine hp_id (st := [.int 0]) ?_
                refine hp_go (pc' := 134) rfl rfl rfl ?_
                refine hp_inc (L := fun z_ => [(3, .int z_), (5, .int q), (4, .int g), (0, .ref 66), (1, .int x), (2, .int y)]) (pc' := 137) rfl rfl rfl (fun _ => rfl) rfl ?_
                intro z5 hz5
                have ez5 := i_add hz5 (show k.toInt = k.toInt from rfl) (show (Int32.ofInt 1).toInt = 1 from by decide)
                refine hp_go (pc' := 20) rfl rfl rfl ?_
                refine hp_ls (ls' := [(3, .int z5), (4, .int g), (5, .int q), (0, .ref 66), (1, .int x), (2, .int y)]) rfl rfl ⟨rfl, rfl, rfl, rfl, rfl, rfl, trivial⟩ ?_
                have qf := h20
                rw [show S - (k.toInt.toNat :: l).length = S - l.length - 1 by rw [List.length_cons]; omega] at qf
                have hno : (wZ M C (S - l.length - 1) l k.toInt.toNat).find? (hP_ N) = none := by rw [wZ_y hf]; exact qf
                refine hp_le hm0 (ih z5 g q p5 rcN (by omega) (by omega) (hNt.trans (by rw [ep1]; exact (hNt.w hN rfl)) (h19.up (by decide))) (hwX_b h21) (fun i hi => ?_))
                by_cases e : i = k.toInt.toNat
                · rw [e]; exact hno
                · exact hA i (by omega)
        ·
          refine hp_s (pc' := 40) (st' := [.int y]) rfl rfl rfl ?_
          refine hp_if (pc' := 43) (t := 47) (a := y.toInt) rfl rfl rfl rfl (fun (h22 : y.toInt ≤ 0) => ?_) (fun (h23 : ¬ (y.toInt ≤ 0)) => ?_)
          ·
            refine hp_s (pc' := 48) (st' := [.int 0]) rfl rfl rfl ?_
            refine hp_s (pc' := 50) (ls' := [(4, .int 0), (3, .int k), (5, .int q), (0, .ref 66), (1, .int x), (2, .int y)]) (st' := []) rfl rfl rfl ?_
            refine hp_s (pc' := 51) (st' := [.int 0]) rfl rfl rfl ?_
            refine hp_s (pc' := 53) (ls' := [(5, .int 0), (4, .int 0), (3, .int k), (0, .ref 66), (1, .int x), (2, .int y)]) (st' := []) rfl rfl rfl ?_
            refine lp_230b (N := n) (S := S) (M := M) (C := C) (l := l) (x := x) (y := y) (k := k) hX hx hlS hk1 (by omega) (fun m0 hm0 q g j1 => ?_) n (Nat.le_refl _) 0 (0 : Int32) (by decide) (by have h00 : (0 : Int32).toInt = 0 := (by decide); omega) (Or.inr ⟨by decide, fun u => by have q := u.2; omega⟩)
            have rcN := rc
            replace rc := rc_le (R := RC_wf ro) (fun _ => RC_wf_more) hm0 rc
            refine hp_s (pc' := 101) (st' := [.int g]) rfl rfl rfl ?_
            refine hp_if (pc' := 104) (t := 134) (a := g.toInt) rfl rfl rfl rfl (fun (h24 : g.toInt = 0) => ?_) (fun (h25 : ¬ (g.toInt = 0)) => ?_)
            ·
              refine hp_inc (L := fun z_ => [(3, .int z_), (5, .int q), (4, .int g), (0, .ref 66), (1, .int x), (2, .int y)]) (pc' := 137) rfl rfl rfl (fun _ => rfl) rfl ?_
              intro z6 hz6
              have ez6 := i_add hz6 (show k.toInt = k.toInt from rfl) (show (Int32.ofInt 1).toInt = 1 from by decide)
              refine hp_go (pc' := 20) rfl rfl rfl ?_
              refine hp_ls (ls' := [(3, .int z6), (4, .int g), (5, .int q), (0, .ref 66), (1, .int x), (2, .int y)]) rfl rfl ⟨rfl, rfl, rfl, rfl, rfl, rfl, trivial⟩ ?_
              have hno : (wZ M C (S - l.length - 1) l k.toInt.toNat).find? (hP_ N) = none := wZ_f0 hy (by rcases j1 with u | u; exact absurd u.1 (by omega); exact u.2)
              refine hp_le hm0 (ih z6 g q p rcN (by omega) (by omega) hN hX (fun i hi => ?_))
              by_cases e : i = k.toInt.toNat
              · rw [e]; exact hno
              · exact hA i (by omega)
            ·
              refine hp_s (pc' := 105) (st' := [.ref 66]) rfl rfl rfl ?_
              refine hp_getr (k := 32) (w := .ref 87) (pc' := 108) rfl rfl rfl rfl rfl ?_
              refine hp_s (pc' := 109) (st' := [.int x, .ref 87]) rfl rfl rfl ?_
              refine hp_s (pc' := 110) (st' := [.int k, .int x, .ref 87]) rfl rfl rfl ?_
              refine hp_st (t := 100) rfl (.inl rfl) rfl rfl ?_
              intro p6 wp6 (p6a : 0 ≤ x.toInt) (p6b : x.toInt < 7) ep6
              refine hp_s (pc' := 112) (st' := [.ref 66]) rfl rfl rfl ?_
              refine hp_s (pc' := 113) (st' := [.int x, .ref 66]) rfl rfl rfl ?_
              refine hp_s (pc' := 114) (st' := [.int 1, .int x, .ref 66]) rfl rfl rfl ?_
              refine hp_z (pc' := 115) (e := x + 1) (st' := [.ref 66]) rfl rfl rfl ?_
              intro z7 hz7
              have ez7 := i_add hz7 (show x.toInt = x.toInt from rfl) (show (1 : Int32).toInt = 1 from by decide)
              refine hp_s (pc' := 116) (st' := [.int k, .int z7, .ref 66]) rfl rfl rfl ?_
              refine hp_if (pc' := 119) (t := 123) (a := k.toInt) rfl rfl rfl rfl (fun (h26 : k.toInt ≠ 0) => ?_) (fun (h27 : ¬ (k.toInt ≠ 0)) => ?_)
              ·
                refine hp_s (pc' := 124) (st' := [.int y, .int z7, .ref 66]) rfl rfl rfl ?_
                refine hp_s (pc' := 125) (st' := [.int 1, .int y, .int z7, .ref 66]) rfl rfl rfl ?_
                refine hp_z (pc' := 126) (e := y - 1) (st' := [.int z7, .ref 66]) rfl rfl rfl ?_
                intro z8 hz8
                have ez8 := i_sub hz8 (show y.toInt = y.toInt from rfl) (show (1 : Int32).toInt = 1 from by decide)
                obtain ⟨hf, ha0⟩ : (hFr M C l l.length k.toInt.toNat ∧ (k.toInt.toNat = 0 ∨ 0 < y.toInt)) := by rcases j1 with u | u; exact u.2; exact absurd u.1 (by omega)
                have r0 : hwX p6 S M C (k.toInt.toNat :: l) := hwX_c (v := k) w0 hlS (by omega) (by omega) (by rw [ep6, show x.toInt.toNat = l.length by omega]) hX
                have r1 : z7.toInt = ((k.toInt.toNat :: l).length : Int) := by rw [List.length_cons]; push_cast; omega
                have r2 : z8.toInt = (N : Int) - ((hn (k.toInt.toNat :: l) : Nat) : Int) := by
                  show _ = (N : Int) - ((hn l + (if k.toInt.toNat = 0 then 0 else 1) : Nat) : Int)
                  first | (rw [if_pos (by omega)]; push_cast; omega) | (rw [if_neg (by omega)]; push_cast; omega)
                refine hp_cv (r := 66) (o := 12) (kd := 1) (as := [.int z7, .int z8]) (rest := []) (pc' := 129) rfl rfl rfl rfl rfl rfl rfl rfl rfl (fun d4 => ?_)
                refine rs_wearsFrom rc S M C (k.toInt.toNat :: l) N (xi := z7.toInt) rfl (yi := z8.toInt) rfl (by first | assumption | omega) (by first | assumption | omega) (by first | assumption | omega) ?_ ?_
                ·
                  intro y3 p7 h28 h29 h30
                  refine hp_id (st := [.int 1]) ?_
                  refine hp_go (pc' := 132) rfl rfl rfl ?_
                  refine hp_s (pc' := 133) (st' := [.int 1]) rfl rfl rfl ?_
                  refine hp_rb rfl rfl (fun _ => ?_)
                  have qf := h29
                  rw [show S - (k.toInt.toNat :: l).length = S - l.length - 1 by rw [List.length_cons]; omega] at qf
                  exact K1 _ p7 (hNt.trans (by rw [ep6]; exact (hNt.w hN rfl)) (h28.up (by decide))) (wA_some (m := k.toInt.toNat) hA (by rw [wZ_y hf]; exact qf) (by omega)) h30
                ·
                  intro p8 h31 h32 h33
                  refine hp_id (st := [.int 0]) ?_
                  refine hp_go (pc' := 134) rfl rfl rfl ?_
                  refine hp_inc (L := fun z_ => [(3, .int z_), (5, .int q), (4, .int g), (0, .ref 66), (1, .int x), (2, .int y)]) (pc' := 137) rfl rfl rfl (fun _ => rfl) rfl ?_
                  intro z9 hz9
                  have ez9 := i_add hz9 (show k.toInt = k.toInt from rfl) (show (Int32.ofInt 1).toInt = 1 from by decide)
                  refine hp_go (pc' := 20) rfl rfl rfl ?_
                  refine hp_ls (ls' := [(3, .int z9), (4, .int g), (5, .int q), (0, .ref 66), (1, .int x), (2, .int y)]) rfl rfl ⟨rfl, rfl, rfl, rfl, rfl, rfl, trivial⟩ ?_
                  have qf := h32
                  rw [show S - (k.toInt.toNat :: l).length = S - l.length - 1 by rw [List.length_cons]; omega] at qf
                  have hno : (wZ M C (S - l.length - 1) l k.toInt.toNat).find? (hP_ N) = none := by rw [wZ_y hf]; exact qf
                  refine hp_le hm0 (ih z9 g q p8 rcN (by omega) (by omega) (hNt.trans (by rw [ep6]; exact (hNt.w hN rfl)) (h31.up (by decide))) (hwX_b h33) (fun i hi => ?_))
                  by_cases e : i = k.toInt.toNat
                  · rw [e]; exact hno
                  · exact hA i (by omega)
              ·
                refine hp_s (pc' := 120) (st' := [.int y, .int z7, .ref 66]) rfl rfl rfl ?_
                refine hp_go (pc' := 126) rfl rfl rfl ?_
                obtain ⟨hf, ha0⟩ : (hFr M C l l.length k.toInt.toNat ∧ (k.toInt.toNat = 0 ∨ 0 < y.toInt)) := by rcases j1 with u | u; exact u.2; exact absurd u.1 (by omega)
                have r0 : hwX p6 S M C (k.toInt.toNat :: l) := hwX_c (v := k) w0 hlS (by omega) (by omega) (by rw [ep6, show x.toInt.toNat = l.length by omega]) hX
                have r1 : z7.toInt = ((k.toInt.toNat :: l).length : Int) := by rw [List.length_cons]; push_cast; omega
                have r2 : y.toInt = (N : Int) - ((hn (k.toInt.toNat :: l) : Nat) : Int) := by
                  show _ = (N : Int) - ((hn l + (if k.toInt.toNat = 0 then 0 else 1) : Nat) : Int)
                  first | (rw [if_pos (by omega)]; push_cast; omega) | (rw [if_neg (by omega)]; push_cast; omega)
                refine hp_cv (r := 66) (o := 12) (kd := 1) (as := [.int z7, .int y]) (rest := []) (pc' := 129) rfl rfl rfl rfl rfl rfl rfl rfl rfl (fun d5 => ?_)
                refine rs_wearsFrom rc S M C (k.toInt.toNat :: l) N (xi := z7.toInt) rfl (yi := y.toInt) rfl (by first | assumption | omega) (by first | assumption | omega) (by first | assumption | omega) ?_ ?_
                ·
                  intro y4 p9 h34 h35 h36
                  refine hp_id (st := [.int 1]) ?_
                  refine hp_go (pc' := 132) rfl rfl rfl ?_
                  refine hp_s (pc' := 133) (st' := [.int 1]) rfl rfl rfl ?_
                  refine hp_rb rfl rfl (fun _ => ?_)
                  have qf := h35
                  rw [show S - (k.toInt.toNat :: l).length = S - l.length - 1 by rw [List.length_cons]; omega] at qf
                  exact K1 _ p9 (hNt.trans (by rw [ep6]; exact (hNt.w hN rfl)) (h34.up (by decide))) (wA_some (m := k.toInt.toNat) hA (by rw [wZ_y hf]; exact qf) (by omega)) h36
                ·
                  intro p10 h37 h38 h39
                  refine hp_id (st := [.int 0]) ?_
                  refine hp_go (pc' := 134) rfl rfl rfl ?_
                  refine hp_inc (L := fun z_ => [(3, .int z_), (5, .int q), (4, .int g), (0, .ref 66), (1, .int x), (2, .int y)]) (pc' := 137) rfl rfl rfl (fun _ => rfl) rfl ?_
                  intro z10 hz10
                  have ez10 := i_add hz10 (show k.toInt = k.toInt from rfl) (show (Int32.ofInt 1).toInt = 1 from by decide)
                  refine hp_go (pc' := 20) rfl rfl rfl ?_
                  refine hp_ls (ls' := [(3, .int z10), (4, .int g), (5, .int q), (0, .ref 66), (1, .int x), (2, .int y)]) rfl rfl ⟨rfl, rfl, rfl, rfl, rfl, rfl, trivial⟩ ?_
                  have qf := h38
                  rw [show S - (k.toInt.toNat :: l).length = S - l.length - 1 by rw [List.length_cons]; omega] at qf
                  have hno : (wZ M C (S - l.length - 1) l k.toInt.toNat).find? (hP_ N) = none := by rw [wZ_y hf]; exact qf
                  refine hp_le hm0 (ih z10 g q p10 rcN (by omega) (by omega) (hNt.trans (by rw [ep6]; exact (hNt.w hN rfl)) (h37.up (by decide))) (hwX_b h39) (fun i hi => ?_))
                  by_cases e : i = k.toInt.toNat
                  · rw [e]; exact hno
                  · exact hA i (by omega)
          ·
            refine hp_s (pc' := 44) (st' := [.int 1]) rfl rfl rfl ?_
            refine hp_go (pc' := 48) rfl rfl rfl ?_
            refine hp_s (pc' := 50) (ls' := [(4, .int 1), (3, .int k), (5, .int q), (0, .ref 66), (1, .int x), (2, .int y)]) (st' := []) rfl rfl rfl ?_
            refine hp_s (pc' := 51) (st' := [.int 0]) rfl rfl rfl ?_
            refine hp_s (pc' := 53) (ls' := [(5, .int 0), (4, .int 1), (3, .int k), (0, .ref 66), (1, .int x), (2, .int y)]) (st' := []) rfl rfl rfl ?_
            refine lp_230b (N := n) (S := S) (M := M) (C := C) (l := l) (x := x) (y := y) (k := k) hX hx hlS hk1 (by omega) (fun m0 hm0 q g j1 => ?_) n (Nat.le_refl _) 0 (1 : Int32) (by decide) (by have h00 : (0 : Int32).toInt = 0 := (by decide); omega) (Or.inl ⟨by decide, hmM.mp h3, by omega, fun i hi => absurd hi (by rw [i_ofz]; exact Nat.not_lt_zero _)⟩)
            have rcN := rc
            replace rc := rc_le (R := RC_wf ro) (fun _ => RC_wf_more) hm0 rc
            refine hp_s (pc' := 101) (st' := [.int g]) rfl rfl rfl ?_
            refine hp_if (pc' := 104) (t := 134) (a := g.toInt) rfl rfl rfl rfl (fun (h40 : g.toInt = 0) => ?_) (fun (h41 : ¬ (g.toInt = 0)) => ?_)
            ·
              refine hp_inc (L := fun z_ => [(3, .int z_), (5, .int q), (4, .int g), (0, .ref 66), (1, .int x), (2, .int y)]) (pc' := 137) rfl rfl rfl (fun _ => rfl) rfl ?_
              intro z11 hz11
              have ez11 := i_add hz11 (show k.toInt = k.toInt from rfl) (show (Int32.ofInt 1).toInt = 1 from by decide)
              refine hp_go (pc' := 20) rfl rfl rfl ?_
              refine hp_ls (ls' := [(3, .int z11), (4, .int g), (5, .int q), (0, .ref 66), (1, .int x), (2, .int y)]) rfl rfl ⟨rfl, rfl, rfl, rfl, rfl, rfl, trivial⟩ ?_
              have hno : (wZ M C (S - l.length - 1) l k.toInt.toNat).find? (hP_ N) = none := wZ_f0 hy (by rcases j1 with u | u; exact absurd u.1 (by omega); exact u.2)
              refine hp_le hm0 (ih z11 g q p rcN (by omega) (by omega) hN hX (fun i hi => ?_))
              by_cases e : i = k.toInt.toNat
              · rw [e]; exact hno
              · exact hA i (by omega)
            ·
              refine hp_s (pc' := 105) (st' := [.ref 66]) rfl rfl rfl ?_
              refine hp_getr (k := 32) (w := .ref 87) (pc' := 108) rfl rfl rfl rfl rfl ?_
              refine hp_s (pc' := 109) (st' := [.int x, .ref 87]) rfl rfl rfl ?_
              refine hp_s (pc' := 110) (st' := [.int k, .int x, .ref 87]) rfl rfl rfl ?_
              refine hp_st (t := 100) rfl (.inl rfl) rfl rfl ?_
              intro p11 wp11 (p11a : 0 ≤ x.toInt) (p11b : x.toInt < 7) ep11
              refine hp_s (pc' := 112) (st' := [.ref 66]) rfl rfl rfl ?_
              refine hp_s (pc' := 113) (st' := [.int x, .ref 66]) rfl rfl rfl ?_
              refine hp_s (pc' := 114) (st' := [.int 1, .int x, .ref 66]) rfl rfl rfl ?_
              refine hp_z (pc' := 115) (e := x + 1) (st' := [.ref 66]) rfl rfl rfl ?_
              intro z12 hz12
              have ez12 := i_add hz12 (show x.toInt = x.toInt from rfl) (show (1 : Int32).toInt = 1 from by decide)
              refine hp_s (pc' := 116) (st' := [.int k, .int z12, .ref 66]) rfl rfl rfl ?_
              refine hp_if (pc' := 119) (t := 123) (a := k.toInt) rfl rfl rfl rfl (fun (h42 : k.toInt ≠ 0) => ?_) (fun (h43 : ¬ (k.toInt ≠ 0)) => ?_)
              ·
                refine hp_s (pc' := 124) (st' := [.int y, .int z12, .ref 66]) rfl rfl rfl ?_
                refine hp_s (pc' := 125) (st' := [.int 1, .int y, .int z12, .ref 66]) rfl rfl rfl ?_
                refine hp_z (pc' := 126) (e := y - 1) (st' := [.int z12, .ref 66]) rfl rfl rfl ?_
                intro z13 hz13
                have ez13 := i_sub hz13 (show y.toInt = y.toInt from rfl) (show (1 : Int32).toInt = 1 from by decide)
                obtain ⟨hf, ha0⟩ : (hFr M C l l.length k.toInt.toNat ∧ (k.toInt.toNat = 0 ∨ 0 < y.toInt)) := by rcases j1 with u | u; exact u.2; exact absurd u.1 (by omega)
                have r0 : hwX p11 S M C (k.toInt.toNat :: l) := hwX_c (v := k) w0 hlS (by omega) (by omega) (by rw [ep11, show x.toInt.toNat = l.length by omega]) hX
                have r1 : z12.toInt = ((k.toInt.toNat :: l).length : Int) := by rw [List.length_cons]; push_cast; omega
                have r2 : z13.toInt = (N : Int) - ((hn (k.toInt.toNat :: l) : Nat) : Int) := by
                  show _ = (N : Int) - ((hn l + (if k.toInt.toNat = 0 then 0 else 1) : Nat) : Int)
                  first | (rw [if_pos (by omega)]; push_cast; omega) | (rw [if_neg (by omega)]; push_cast; omega)
                refine hp_cv (r := 66) (o := 12) (kd := 1) (as := [.int z12, .int z13]) (rest := []) (pc' := 129) rfl rfl rfl rfl rfl rfl rfl rfl rfl (fun d6 => ?_)
                refine rs_wearsFrom rc S M C (k.toInt.toNat :: l) N (xi := z12.toInt) rfl (yi := z13.toInt) rfl (by first | assumption | omega) (by first | assumption | omega) (by first | assumption | omega) ?_ ?_
                ·
                  intro y5 p12 h44 h45 h46
                  refine hp_id (st := [.int 1]) ?_
                  refine hp_go (pc' := 132) rfl rfl rfl ?_
                  refine hp_s (pc' := 133) (st' := [.int 1]) rfl rfl rfl ?_
                  refine hp_rb rfl rfl (fun _ => ?_)
                  have qf := h45
                  rw [show S - (k.toInt.toNat :: l).length = S - l.length - 1 by rw [List.length_cons]; omega] at qf
                  exact K1 _ p12 (hNt.trans (by rw [ep11]; exact (hNt.w hN rfl)) (h44.up (by decide))) (wA_some (m := k.toInt.toNat) hA (by rw [wZ_y hf]; exact qf) (by omega)) h46
                ·
                  intro p13 h47 h48 h49
                  refine hp_id (st := [.int 0]) ?_
                  refine hp_go (pc' := 134) rfl rfl rfl ?_
                  refine hp_inc (L := fun z_ => [(3, .int z_), (5, .int q), (4, .int g), (0, .ref 66), (1, .int x), (2, .int y)]) (pc' := 137) rfl rfl rfl (fun _ => rfl) rfl ?_
                  intro z14 hz14
                  have ez14 := i_add hz14 (show k.toInt = k.toInt from rfl) (show (Int32.ofInt 1).toInt = 1 from by decide)
                  refine hp_go (pc' := 20) rfl rfl rfl ?_
                  refine hp_ls (ls' := [(3, .int z14), (4, .int g), (5, .int q), (0, .ref 66), (1, .int x), (2, .int y)]) rfl rfl ⟨rfl, rfl, rfl, rfl, rfl, rfl, trivial⟩ ?_
                  have qf := h48
                  rw [show S - (k.toInt.toNat :: l).length = S - l.length - 1 by rw [List.length_cons]; omega] at qf
                  have hno : (wZ M C (S - l.length - 1) l k.toInt.toNat).find? (hP_ N) = none := by rw [wZ_y hf]; exact qf
                  refine hp_le hm0 (ih z14 g q p13 rcN (by omega) (by omega) (hNt.trans (by rw [ep11]; exact (hNt.w hN rfl)) (h47.up (by decide))) (hwX_b h49) (fun i hi => ?_))
                  by_cases e : i = k.toInt.toNat
                  · rw [e]; exact hno
                  · exact hA i (by omega)
              ·
                refine hp_s (pc' := 120) (st' := [.int y, .int z12, .ref 66]) rfl rfl rfl ?_
                refine hp_go (pc' := 126) rfl rfl rfl ?_
                obtain ⟨hf, ha0⟩ : (hFr M C l l.length k.toInt.toNat ∧ (k.toInt.toNat = 0 ∨ 0 < y.toInt)) := by rcases j1 with u | u; exact u.2; exact absurd u.1 (by omega)
                have r0 : hwX p11 S M C (k.toInt.toNat :: l) := hwX_c (v := k) w0 hlS (by omega) (by omega) (by rw [ep11, show x.toInt.toNat = l.length by omega]) hX
                have r1 : z12.toInt = ((k.toInt.toNat :: l).length : Int) := by rw [List.length_cons]; push_cast; omega
                have r2 : y.toInt = (N : Int) - ((hn (k.toInt.toNat :: l) : Nat) : Int) := by
                  show _ = (N : Int) - ((hn l + (if k.toInt.toNat = 0 then 0 else 1) : Nat) : Int)
                  first | (rw [if_pos (by omega)]; push_cast; omega) | (rw [if_neg (by omega)]; push_cast; omega)
                refine hp_cv (r := 66) (o := 12) (kd := 1) (as := [.int z12, .int y]) (rest := []) (pc' := 129) rfl rfl rfl rfl rfl rfl rfl rfl rfl (fun d7 => ?_)
                refine rs_wearsFrom rc S M C (k.toInt.toNat :: l) N (xi := z12.toInt) rfl (yi := y.toInt) rfl (by first | assumption | omega) (by first | assumption | omega) (by first | assumption | omega) ?_ ?_
                ·
                  intro y6 p14 h50 h51 h52
                  refine hp_id (st := [.int 1]) ?_
                  refine hp_go (pc' := 132) rfl rfl rfl ?_
                  refine hp_s (pc' := 133) (st' := [.int 1]) rfl rfl rfl ?_
                  refine hp_rb rfl rfl (fun _ => ?_)
                  have qf := h51
                  rw [show S - (k.toInt.toNat :: l).length = S - l.length - 1 by rw [List.length_cons]; omega] at qf
                  exact K1 _ p14 (hNt.trans (by rw [ep11]; exact (hNt.w hN rfl)) (h50.up (by decide))) (wA_some (m := k.toInt.toNat) hA (by rw [wZ_y hf]; exact qf) (by omega)) h52
                ·
                  intro p15 h53 h54 h55
                  refine hp_id (st := [.int 0]) ?_
                  refine hp_go (pc' := 134) rfl rfl rfl ?_
                  refine hp_inc (L := fun z_ => [(3, .int z_), (5, .int q), (4, .int g), (0, .ref 66), (1, .int x), (2, .int y)]) (pc' := 137) rfl rfl rfl (fun _ => rfl) rfl ?_
                  intro z15 hz15
                  have ez15 := i_add hz15 (show k.toInt = k.toInt from rfl) (show (Int32.ofInt 1).toInt = 1 from by decide)
                  refine hp_go (pc' := 20) rfl rfl rfl ?_
                  refine hp_ls (ls' := [(3, .int z15), (4, .int g), (5, .int q), (0, .ref 66), (1, .int x), (2, .int y)]) rfl rfl ⟨rfl, rfl, rfl, rfl, rfl, rfl, trivial⟩ ?_
                  have qf := h54
                  rw [show S - (k.toInt.toNat :: l).length = S - l.length - 1 by rw [List.length_cons]; omega] at qf
                  have hno : (wZ M C (S - l.length - 1) l k.toInt.toNat).find? (hP_ N) = none := by rw [wZ_y hf]; exact qf
                  refine hp_le hm0 (ih z15 g q p15 rcN (by omega) (by omega) (hNt.trans (by rw [ep11]; exact (hNt.w hN rfl)) (h53.up (by decide))) (hwX_b h55) (fun i hi => ?_))
                  by_cases e : i = k.toInt.toNat
                  · rw [e]; exact hno
                  · exact hA i (by omega)
      ·
        intro h56
        refine hp_id (st := [.int 0]) ?_
        refine hp_go (pc' := 47) rfl rfl rfl ?_
        refine hp_s (pc' := 48) (st' := [.int 0]) rfl rfl rfl ?_
        refine hp_s (pc' := 50) (ls' := [(4, .int 0), (3, .int k), (5, .int q), (0, .ref 66), (1, .int x), (2, .int y)]) (st' := []) rfl rfl rfl ?_
        refine hp_s (pc' := 51) (st' := [.int 0]) rfl rfl rfl ?_
        refine hp_s (pc' := 53) (ls' := [(5, .int 0), (4, .int 0), (3, .int k), (0, .ref 66), (1, .int x), (2, .int y)]) (st' := []) rfl rfl rfl ?_
        refine lp_230b (N := n) (S := S) (M := M) (C := C) (l := l) (x := x) (y := y) (k := k) hX hx hlS hk1 (by omega) (fun m0 hm0 q g j1 => ?_) n (Nat.le_refl _) 0 (0 : Int32) (by decide) (by have h00 : (0 : Int32).toInt = 0 := (by decide); omega) (Or.inr ⟨by decide, fun u => h56 (hmM.mpr u.1.1)⟩)
        have rcN := rc
        replace rc := rc_le (R := RC_wf ro) (fun _ => RC_wf_more) hm0 rc
        refine hp_s (pc' := 101) (st' := [.int g]) rfl rfl rfl ?_
        refine hp_if (pc' := 104) (t := 134) (a := g.toInt) rfl rfl rfl rfl (fun (h57 : g.toInt = 0) => ?_) (fun (h58 : ¬ (g.toInt = 0)) => ?_)
        ·
          refine hp_inc (L := fun z_ => [(3, .int z_), (5, .int q), (4, .int g), (0, .ref 66), (1, .int x), (2, .int y)]) (pc' := 137) rfl rfl rfl (fun _ => rfl) rfl ?_
          intro z16 hz16
          have ez16 := i_add hz16 (show k.toInt = k.toInt from rfl) (show (Int32.ofInt 1).toInt = 1 from by decide)
          refine hp_go (pc' := 20) rfl rfl rfl ?_
          refine hp_ls (ls' := [(3, .int z16), (4, .int g), (5, .int q), (0, .ref 66), (1, .int x), (2, .int y)]) rfl rfl ⟨rfl, rfl, rfl, rfl, rfl, rfl, trivial⟩ ?_
          have hno : (wZ M C (S - l.length - 1) l k.toInt.toNat).find? (hP_ N) = none := wZ_f0 hy (by rcases j1 with u | u; exact absurd u.1 (by omega); exact u.2)
          refine hp_le hm0 (ih z16 g q p rcN (by omega) (by omega) hN hX (fun i hi => ?_))
          by_cases e : i = k.toInt.toNat
          · rw [e]; exact hno
          · exact hA i (by omega)
        ·
          refine hp_s (pc' := 105) (st' := [.ref 66]) rfl rfl rfl ?_
          refine hp_getr (k := 32) (w := .ref 87) (pc' := 108) rfl rfl rfl rfl rfl ?_
          refine hp_s (pc' := 109) (st' := [.int x, .ref 87]) rfl rfl rfl ?_
          refine hp_s (pc' := 110) (st' := [.int k, .int x, .ref 87]) rfl rfl rfl ?_
          refine hp_st (t := 100) rfl (.inl rfl) rfl rfl ?_
          intro p16 wp16 (p16a : 0 ≤ x.toInt) (p16b : x.toInt < 7) ep16
          refine hp_s (pc' := 112) (st' := [.ref 66]) rfl rfl rfl ?_
          refine hp_s (pc' := 113) (st' := [.int x, .ref 66]) rfl rfl rfl ?_
          refine hp_s (pc' := 114) (st' := [.int 1, .int x, .ref 66]) rfl rfl rfl ?_
          refine hp_z (pc' := 115) (e := x + 1) (st' := [.ref 66]) rfl rfl rfl ?_
          intro z17 hz17
          have ez17 := i_add hz17 (show x.toInt = x.toInt from rfl) (show (1 : Int32).toInt = 1 from by decide)
          refine hp_s (pc' := 116) (st' := [.int k, .int z17, .ref 66]) rfl rfl rfl ?_
          refine hp_if (pc' := 119) (t := 123) (a := k.toInt) rfl rfl rfl rfl (fun (h59 : k.toInt ≠ 0) => ?_) (fun (h60 : ¬ (k.toInt ≠ 0)) => ?_)
          ·
            refine hp_s (pc' := 124) (st' := [.int y, .int z17, .ref 66]) rfl rfl rfl ?_
            refine hp_s (pc' := 125) (st' := [.int 1, .int y, .int z17, .ref 66]) rfl rfl rfl ?_
            refine hp_z (pc' := 126) (e := y - 1) (st' := [.int z17, .ref 66]) rfl rfl rfl ?_
            intro z18 hz18
            have ez18 := i_sub hz18 (show y.toInt = y.toInt from rfl) (show (1 : Int32).toInt = 1 from by decide)
            obtain ⟨hf, ha0⟩ : (hFr M C l l.length k.toInt.toNat ∧ (k.toInt.toNat = 0 ∨ 0 < y.toInt)) := by rcases j1 with u | u; exact u.2; exact absurd u.1 (by omega)
            have r0 : hwX p16 S M C (k.toInt.toNat :: l) := hwX_c (v := k) w0 hlS (by omega) (by omega) (by rw [ep16, show x.toInt.toNat = l.length by omega]) hX
            have r1 : z17.toInt = ((k.toInt.toNat :: l).length : Int) := by rw [List.length_cons]; push_cast; omega
            have r2 : z18.toInt = (N : Int) - ((hn (k.toInt.toNat :: l) : Nat) : Int) := by
              show _ = (N : Int) - ((hn l + (if k.toInt.toNat = 0 then 0 else 1) : Nat) : Int)
              first | (rw [if_pos (by omega)]; push_cast; omega) | (rw [if_neg (by omega)]; push_cast; omega)
            refine hp_cv (r := 66) (o := 12) (kd := 1) (as := [.int z17, .int z18]) (rest := []) (pc' := 129) rfl rfl rfl rfl rfl rfl rfl rfl rfl (fun d8 => ?_)
            refine rs_wearsFrom rc S M C (k.toInt.toNat :: l) N (xi := z17.toInt) rfl (yi := z18.toInt) rfl (by first | assumption | omega) (by first | assumption | omega) (by first | assumption | omega) ?_ ?_
            ·
              intro y7 p17 h61 h62 h63
              refine hp_id (st := [.int 1]) ?_
              refine hp_go (pc' := 132) rfl rfl rfl ?_
              refine hp_s (pc' := 133) (st' := [.int 1]) rfl rfl rfl ?_
              refine hp_rb rfl rfl (fun _ => ?_)
              have qf := h62
              rw [show S - (k.toInt.toNat :: l).length = S - l.length - 1 by rw [List.length_cons]; omega] at qf
              exact K1 _ p17 (hNt.trans (by rw [ep16]; exact (hNt.w hN rfl)) (h61.up (by decide))) (wA_some (m := k.toInt.toNat) hA (by rw [wZ_y hf]; exact qf) (by omega)) h63
            ·
              intro p18 h64 h65 h66
              refine hp_id (st := [.int 0]) ?_
              refine hp_go (pc' := 134) rfl rfl rfl ?_
              refine hp_inc (L := fun z_ => [(3, .int z_), (5, .int q), (4, .int g), (0, .ref 66), (1, .int x), (2, .int y)]) (pc' := 137) rfl rfl rfl (fun _ => rfl) rfl ?_
              intro z19 hz19
              have ez19 := i_add hz19 (show k.toInt = k.toInt from rfl) (show (Int32.ofInt 1).toInt = 1 from by decide)
              refine hp_go (pc' := 20) rfl rfl rfl ?_
              refine hp_ls (ls' := [(3, .int z19), (4, .int g), (5, .int q), (0, .ref 66), (1, .int x), (2, .int y)]) rfl rfl ⟨rfl, rfl, rfl, rfl, rfl, rfl, trivial⟩ ?_
              have qf := h65
              rw [show S - (k.toInt.toNat :: l).length = S - l.length - 1 by rw [List.length_cons]; omega] at qf
              have hno : (wZ M C (S - l.length - 1) l k.toInt.toNat).find? (hP_ N) = none := by rw [wZ_y hf]; exact qf
              refine hp_le hm0 (ih z19 g q p18 rcN (by omega) (by omega) (hNt.trans (by rw [ep16]; exact (hNt.w hN rfl)) (h64.up (by decide))) (hwX_b h66) (fun i hi => ?_))
              by_cases e : i = k.toInt.toNat
              · rw [e]; exact hno
              · exact hA i (by omega)
          ·
            refine hp_s (pc' := 120) (st' := [.int y, .int z17, .ref 66]) rfl rfl rfl ?_
            refine hp_go (pc' := 126) rfl rfl rfl ?_
            obtain ⟨hf, ha0⟩ : (hFr M C l l.length k.toInt.toNat ∧ (k.toInt.toNat = 0 ∨ 0 < y.toInt)) := by rcases j1 with u | u; exact u.2; exact absurd u.1 (by omega)
            have r0 : hwX p16 S M C (k.toInt.toNat :: l) := hwX_c (v := k) w0 hlS (by omega) (by omega) (by rw [ep16, show x.toInt.toNat = l.length by omega]) hX
            have r1 : z17.toInt = ((k.toInt.toNat :: l).length : Int) := by rw [List.length_cons]; push_cast; omega
            have r2 : y.toInt = (N : Int) - ((hn (k.toInt.toNat :: l) : Nat) : Int) := by
              show _ = (N : Int) - ((hn l + (if k.toInt.toNat = 0 then 0 else 1) : Nat) : Int)
              first | (rw [if_pos (by omega)]; push_cast; omega) | (rw [if_neg (by omega)]; push_cast; omega)
            refine hp_cv (r := 66) (o := 12) (kd := 1) (as := [.int z17, .int y]) (rest := []) (pc' := 129) rfl rfl rfl rfl rfl rfl rfl rfl rfl (fun d9 => ?_)
            refine rs_wearsFrom rc S M C (k.toInt.toNat :: l) N (xi := z17.toInt) rfl (yi := y.toInt) rfl (by first | assumption | omega) (by first | assumption | omega) (by first | assumption | omega) ?_ ?_
            ·
              intro y8 p19 h67 h68 h69
              refine hp_id (st := [.int 1]) ?_
              refine hp_go (pc' := 132) rfl rfl rfl ?_
              refine hp_s (pc' := 133) (st' := [.int 1]) rfl rfl rfl ?_
              refine hp_rb rfl rfl (fun _ => ?_)
              have qf := h68
              rw [show S - (k.toInt.toNat :: l).length = S - l.length - 1 by rw [List.length_cons]; omega] at qf
              exact K1 _ p19 (hNt.trans (by rw [ep16]; exact (hNt.w hN rfl)) (h67.up (by decide))) (wA_some (m := k.toInt.toNat) hA (by rw [wZ_y hf]; exact qf) (by omega)) h69
            ·
              intro p20 h70 h71 h72
              refine hp_id (st := [.int 0]) ?_
              refine hp_go (pc' := 134) rfl rfl rfl ?_
              refine hp_inc (L := fun z_ => [(3, .int z_), (5, .int q), (4, .int g), (0, .ref 66), (1, .int x), (2, .int y)]) (pc' := 137) rfl rfl rfl (fun _ => rfl) rfl ?_
              intro z20 hz20
              have ez20 := i_add hz20 (show k.toInt = k.toInt from rfl) (show (Int32.ofInt 1).toInt = 1 from by decide)
              refine hp_go (pc' := 20) rfl rfl rfl ?_
              refine hp_ls (ls' := [(3, .int z20), (4, .int g), (5, .int q), (0, .ref 66), (1, .int x), (2, .int y)]) rfl rfl ⟨rfl, rfl, rfl, rfl, rfl, rfl, trivial⟩ ?_
              have qf := h71
              rw [show S - (k.toInt.toNat :: l).length = S - l.length - 1 by rw [List.length_cons]; omega] at qf
              have hno : (wZ M C (S - l.length - 1) l k.toInt.toNat).find? (hP_ N) = none := by rw [wZ_y hf]; exact qf
              refine hp_le hm0 (ih z20 g q p20 rcN (by omega) (by omega) (hNt.trans (by rw [ep16]; exact (hNt.w hN rfl)) (h70.up (by decide))) (hwX_b h72) (fun i hi => ?_))
              by_cases e : i = k.toInt.toNat
              · rw [e]; exact hno
              · exact hA i (by omega)
theorem ts_wearsFrom {ro : List (List Int32)} {n : Nat} (rc : RC_wf ro n) : hs_wearsFrom ro (n + 1) := by
  intro d p Q x xi y yi S M C l N hx hy pre0 pre1 pre2 k0 k1
  subst hx
  subst hy
  refine hp_id (ls := [(0, .ref 66), (1, .int x), (2, .int y)]) ?_
  obtain ⟨⟨x1, x2, x3, x4⟩, x5, x6⟩ := pre0
  have pre0 : hwX p S M C l := ⟨⟨x1, x2, x3, x4⟩, x5, x6⟩
  refine hp_s1 (pc' := 1) (st' := [.int x]) rfl rfl rfl ?_
  refine hp_s (pc' := 2) (st' := [.ref 66, .int x]) rfl rfl rfl ?_
  refine hp_get (k := 6) (pc' := 5) (v := (rI p 66 6)) rfl rfl rfl rfl rfl rfl ?_
  refine hp_ic (pc' := 8) (t := 18) (a := x.toInt) (b := (rI p 66 6).toInt) rfl rfl rfl rfl rfl (fun (h1 : x.toInt ≠ (rI p 66 6).toInt) => ?_) (fun (h2 : ¬ (x.toInt ≠ (rI p 66 6).toInt)) => ?_)
  ·
    refine hp_s (pc' := 19) (st' := [.int 0]) rfl rfl rfl ?_
    refine hp_s (pc' := 20) (ls' := [(3, .int 0), (0, .ref 66), (1, .int x), (2, .int y)]) (st' := []) rfl rfl rfl ?_
    refine hp_ls (ls' := [(3, .int 0), (4, .int 0), (5, .int 0), (0, .ref 66), (1, .int x), (2, .int y)]) rfl rfl ⟨rfl, rfl, rfl, rfl, trivial⟩ ?_
    exact lp_230a (p0 := p) (S := S) (M := M) (C := C) (l := l) (N := N) (x := x) (y := y) (by omega) pre1 pre2 (fun l2 p2 u1 u2 u3 => k0 l2 p2 u1 (by rw [wY_s (j := S - l.length - 1) (by omega)]; exact u2) u3) (fun p2 u1 u2 u3 => k1 p2 u1 (by rw [wY_s (j := S - l.length - 1) (by omega)]; exact u2) u3) n 0 (0 : Int32) (0 : Int32) p rc (by decide) (by decide) (hNt.refl _ _) pre0 (fun i hi => absurd hi (by rw [i_ofz]; exact Nat.not_lt_zero _))
  ·
    refine hp_s (pc' := 9) (st' := [.int y]) rfl rfl rfl ?_
    refine hp_if (pc' := 12) (t := 16) (a := y.toInt) rfl rfl rfl rfl (fun (h3 : y.toInt ≠ 0) => ?_) (fun (h4 : ¬ (y.toInt ≠ 0)) => ?_)
    ·
      refine hp_s (pc' := 17) (st' := [.int 0]) rfl rfl rfl ?_
      refine hp_rb rfl rfl (fun _ => ?_)
      exact k1 p (hNt.refl _ _) (by rw [wY_0 (by omega)]; exact find_2 (by omega)) pre0
    ·
      refine hp_s (pc' := 13) (st' := [.int 1]) rfl rfl rfl ?_
      refine hp_go (pc' := 17) rfl rfl rfl ?_
      refine hp_rb rfl rfl (fun _ => ?_)
      exact k0 l p (hNt.refl _ _) (by rw [wY_0 (by omega)]; exact find_1 (by omega)) (fun i hi => (x6 i (by omega)).2)
theorem RC_wf_all {ro : List (List Int32)} : ∀ n : Nat, RC_wf ro n
  | 0 => ⟨fun _ _ _ _ _ _ _ _ _ _ _ _ => hp_0, trivial⟩
  | n + 1 => ⟨ts_wearsFrom (RC_wf_all n), trivial⟩
theorem s_wearsFrom {ro : List (List Int32)} {n : Nat} {d : Nat} {p : xH} {Q : Option Value → xH → Prop} {x : Int32} {xi : Int} {y : Int32} {yi : Int} (S : Nat) (M : Nat → Nat → Prop) (C : Nat → Nat → Nat → Nat → Prop) (l : List Nat) (N : Nat) (hx : x.toInt = xi) (hy : y.toInt = yi) (pre0 : hwX p S M C l) (pre1 : xi = (l.length : Int)) (pre2 : yi = (N : Int) - ((hn l : Nat) : Int)) (k0 : ∀ l2 : List Nat, ∀ p2 : xH, (hNt T_wf p p2) → ((wY M C (S - l.length) l).find? (hP_ N) = some l2) → (∀ i, i < S → (rI p2 87 i).toInt = ((ix l2 i : Nat) : Int)) → Q (some (.int (1))) p2) (k1 : ∀ p2 : xH, (hNt T_wf p p2) → ((wY M C (S - l.length) l).find? (hP_ N) = none) → (hwX p2 S M C l) → Q (some (.int (0))) p2) : hP ro n d (12, 6, 1, 2, k230) 0 (lv_args 0 [.ref 66, .int x, .int y]) [] p Q := rs_wearsFrom (RC_wf_all n) S M C l N hx hy pre0 pre1 pre2 k0 k1
