/-! contracts of methods, walked -/
def shM (p : xH) (S n : Nat) (s m : Int) : Prop := ∃ j, j < S ∧ bI (rI p 78 n &&& rI p 66 25) j = true ∧ (rI p 79 (30 * j + m.toNat)).toInt = s
theorem lp_214 {ro : List (List Int32)} {d : Nat} {Q : Option Value → xH → Prop} {S : Nat} {x s m : Int32} {p : xH} (hS : (rI p 66 6).toInt = (S : Int)) (hS7 : S ≤ 7) (m0 : 0 ≤ m.toInt) (m30 : m.toInt < 30) (K1 : shM p S x.toInt.toNat s.toInt m.toInt → Q (some (.int 1)) p) (K0 : ¬ shM p S x.toInt.toNat s.toInt m.toInt → Q (some (.int 0)) p) : ∀ (n : Nat) (k : Int32), (0 ≤ k.toInt) → (k.toInt ≤ S) → (∀ j, j < k.toInt.toNat → bI (rI p 78 x.toInt.toNat &&& rI p 66 25) j = true → ¬ (rI p 79 (30 * j + m.toInt.toNat)).toInt = s.toInt) → hP ro n d (12, 5, 1, 2, k214) 3 [(4, .int k), (0, .ref 66), (1, .int x), (2, .int s), (3, .int m)] [] p Q := by
  intro n
  induction n with
  | zero => intros; exact hp_0
  | succ n ih =>
    intro k hk1 hk2 hm
    refine hp_s1 (pc' := 5) (st' := [.int k]) rfl rfl rfl ?_
    refine hp_s (pc' := 6) (st' := [.ref 66, .int k]) rfl rfl rfl ?_
    refine hp_get (k := 6) (pc' := 9) (v := (rI p 66 6)) rfl rfl rfl rfl rfl rfl ?_
    refine hp_ic (pc' := 12) (t := 55) (a := k.toInt) (b := (rI p 66 6).toInt) rfl rfl rfl rfl rfl (fun (h1 : (rI p 66 6).toInt ≤ k.toInt) => ?_) (fun (h2 : ¬ ((rI p 66 6).toInt ≤ k.toInt)) => ?_)
    ·
      refine hp_s (pc' := 56) (st' := [.int 0]) rfl rfl rfl ?_
      refine hp_rb rfl rfl (fun _ => ?_)
      exact K0 (fun ⟨j, a1, a2, a3⟩ => hm j (by omega) a2 a3)
    ·
      refine hp_s (pc' := 13) (st' := [.ref 66]) rfl rfl rfl ?_
      refine hp_getr (k := 21) (w := .ref 78) (pc' := 16) rfl rfl rfl rfl rfl ?_
      refine hp_s (pc' := 17) (st' := [.int x, .ref 78]) rfl rfl rfl ?_
      refine hp_ld (t := 100) (v := (rI p 78 x.toInt.toNat)) rfl (.inl rfl) rfl rfl rfl ?_
      intro (g1a : 0 ≤ x.toInt) (g1b : x.toInt < 7)
      refine hp_s (pc' := 19) (st' := [.ref 66, .int (rI p 78 x.toInt.toNat)]) rfl rfl rfl ?_
      refine hp_get (k := 25) (pc' := 22) (v := (rI p 66 25)) rfl rfl rfl rfl rfl rfl ?_
      refine hp_z (pc' := 23) (e := (rI p 78 x.toInt.toNat) &&& (rI p 66 25)) (st' := []) rfl rfl rfl ?_
      intro z1 hz1
      refine hp_s (pc' := 25) (st' := [.int k, .int z1]) rfl rfl rfl ?_
      refine hp_cs (kd := 0) (as := [.int z1, .int k]) (rest := []) (pc' := 28) rfl rfl rfl rfl rfl rfl rfl (fun d1 => ?_)
      refine s_isIn (xi := z1.toInt) rfl (yi := k.toInt) rfl ?_ ?_
      ·
        intro h3
        have hin : bI (rI p 78 x.toInt.toNat &&& rI p 66 25) k.toInt.toNat = true := by rw [← hz1]; exact b_if ((bI_at _ (by omega) (by omega)).symm.trans h3)
        refine hp_id (st := [.int 1]) ?_
        refine hp_go (pc' := 31) rfl rfl rfl ?_
        refine hp_s (pc' := 32) (st' := [.ref 66]) rfl rfl rfl ?_
        refine hp_getr (k := 22) (w := .ref 79) (pc' := 35) rfl rfl rfl rfl rfl ?_
        refine hp_s (pc' := 37) (st' := [.int 30, .ref 79]) rfl rfl rfl ?_
        refine hp_s (pc' := 39) (st' := [.int k, .int 30, .ref 79]) rfl rfl rfl ?_
        refine hp_z (pc' := 40) (e := 30 * k) (st' := [.ref 79]) rfl rfl rfl ?_
        intro z2 hz2
        have ez2 := i_mul hz2 (show (30 : Int32).toInt = 30 from by decide) (show k.toInt = k.toInt from rfl)
        refine hp_s (pc' := 41) (st' := [.int m, .int z2, .ref 79]) rfl rfl rfl ?_
        refine hp_z (pc' := 42) (e := z2 + m) (st' := [.ref 79]) rfl rfl rfl ?_
        intro z3 hz3
        have ez3 := i_add hz3 (show z2.toInt = z2.toInt from rfl) (show m.toInt = m.toInt from rfl)
        refine hp_ld (t := 100) (v := (rI p 79 z3.toInt.toNat)) rfl (.inl rfl) rfl rfl rfl ?_
        intro (g2a : 0 ≤ z3.toInt) (g2b : z3.toInt < 210)
        have q9 : (rI p 79 z3.toInt.toNat) = rI p 79 (30 * k.toInt.toNat + m.toInt.toNat) := by congr 1; omega
        refine hp_s (pc' := 44) (st' := [.int s, .int (rI p 79 z3.toInt.toNat)]) rfl rfl rfl ?_
        refine hp_ic (pc' := 47) (t := 49) (a := (rI p 79 z3.toInt.toNat).toInt) (b := s.toInt) rfl rfl rfl rfl rfl (fun (h4 : (rI p 79 z3.toInt.toNat).toInt ≠ s.toInt) => ?_) (fun (h5 : ¬ ((rI p 79 z3.toInt.toNat).toInt ≠ s.toInt)) => ?_)
        ·
          refine hp_inc (L := fun z_ => [(4, .int z_), (0, .ref 66), (1, .int x), (2, .int s), (3, .int m)]) (pc' := 52) rfl rfl rfl (fun _ => rfl) rfl ?_
          intro z4 hz4
          have ez4 := i_add hz4 (show k.toInt = k.toInt from rfl) (show (Int32.ofInt 1).toInt = 1 from by decide)
          refine hp_go (pc' := 3) rfl rfl rfl ?_
          refine ih z4 (by omega) (by omega) (fun j hj a1 a2 => ?_)
          by_cases g : j < k.toInt.toNat
          · exact hm j g a1 a2
          · have ej : j = k.toInt.toNat := by omega
            rw [ej] at a1 a2
            rw [← q9] at a2; omega
        ·
          refine hp_s (pc' := 48) (st' := [.int 1]) rfl rfl rfl ?_
          refine hp_rb rfl rfl (fun _ => ?_)
          exact K1 ⟨k.toInt.toNat, by omega, hin, by rw [← q9]; omega⟩
      ·
        intro h6
        have hin : bI (rI p 78 x.toInt.toNat &&& rI p 66 25) k.toInt.toNat = false := by rw [← hz1]; exact b_if0 (fun gz => h6 ((bI_at _ (by omega) (by omega)).trans gz))
        refine hp_id (st := [.int 0]) ?_
        refine hp_go (pc' := 49) rfl rfl rfl ?_
        refine hp_inc (L := fun z_ => [(4, .int z_), (0, .ref 66), (1, .int x), (2, .int s), (3, .int m)]) (pc' := 52) rfl rfl rfl (fun _ => rfl) rfl ?_
        intro z5 hz5
        have ez5 := i_add hz5 (show k.toInt = k.toInt from rfl) (show (Int32.ofInt 1).toInt = 1 from by decide)
        refine hp_go (pc' := 3) rfl rfl rfl ?_
        refine ih z5 (by omega) (by omega) (fun j hj a1 a2 => ?_)
        by_cases g : j < k.toInt.toNat
        · exact hm j g a1 a2
        · have ej : j = k.toInt.toNat := by omega
          rw [ej] at a1 a2
          rw [a1] at hin; cases hin
theorem s_isShut {ro : List (List Int32)} {n d : Nat} {p : xH} {Q : Option Value → xH → Prop} (S : Nat) {x : Int32} {xi : Int} {s : Int32} {si : Int} {m : Int32} {mi : Int} (hx : x.toInt = xi) (hs : s.toInt = si) (hm : m.toInt = mi) (pre0 : (rI p 66 6).toInt = (S : Int)) (pre1 : S ≤ 7) (pre2 : 0 ≤ mi) (pre3 : mi < 30) (k0 : (shM p S xi.toNat si mi) → Q (some (.int (1))) p) (k1 : (¬ shM p S xi.toNat si mi) → Q (some (.int (0))) p) : hP ro n d (12, 5, 1, 2, k214) 0 (lv_args 0 [.ref 66, .int x, .int s, .int m]) [] p Q := by
  subst hx
  subst hs
  subst hm
  refine hp_id (ls := [(0, .ref 66), (1, .int x), (2, .int s), (3, .int m)]) ?_
  refine hp_s (pc' := 1) (st' := [.int 0]) rfl rfl rfl ?_
  refine hp_s (pc' := 3) (ls' := [(4, .int 0), (0, .ref 66), (1, .int x), (2, .int s), (3, .int m)]) (st' := []) rfl rfl rfl ?_
  exact lp_214 (x := x) (s := s) (m := m) pre0 pre1 pre2 pre3 k0 k1 n 0 (by decide) (by have h00 : (0 : Int32).toInt = 0 := (by decide); omega) (fun j hj => absurd hj (by rw [i_ofz]; exact Nat.not_lt_zero _))
theorem lp_215 {ro : List (List Int32)} {d : Nat} {Q : Option Value → xH → Prop} {S : Nat} {x k f s t : Int32} {p : xH} (hS : (rI p 66 6).toInt = (S : Int)) (hS7 : S ≤ 7) (f0 : 0 ≤ f.toInt) (f30 : f.toInt ≤ 30) (t1 : 1 ≤ t.toInt) (t6 : t.toInt ≤ 6) (K : ∀ r : Int32, r.toInt = gW (dA (shM p S x.toInt.toNat) s.toInt t.toInt) (31 - t.toInt) f.toInt → Q (some (.int r)) p) : ∀ (n : Nat) (m : Int32) (c : Int32), (0 ≤ m.toInt) → (m.toInt ≤ 30) → (0 ≤ c.toInt) → (c.toInt < t.toInt) → (f.toInt ≤ m.toInt - c.toInt) → (gW (dA (shM p S x.toInt.toNat) s.toInt t.toInt) (31 - t.toInt) (m.toInt - c.toInt) = gW (dA (shM p S x.toInt.toNat) s.toInt t.toInt) (31 - t.toInt) f.toInt) → (∀ u : Int, m.toInt - c.toInt ≤ u → u < m.toInt → ¬ shM p S x.toInt.toNat s.toInt u) → hP ro n d (12, 8, 1, 1, k215) 30 [(7, .int m), (6, .int c), (4, .int s), (5, .int t), (0, .ref 66), (1, .int x), (2, .int k), (3, .int f)] [] p Q := by
  intro n
  induction n with
  | zero => intros; exact hp_0
  | succ n ih =>
    intro m c hm1 hm2 hc1 hc2 hc3 hg hfr
    refine hp_s1 (pc' := 32) (st' := [.int m]) rfl rfl rfl ?_
    refine hp_s (pc' := 34) (st' := [.int 30, .int m]) rfl rfl rfl ?_
    refine hp_ic (pc' := 37) (t := 80) (a := m.toInt) (b := 30) rfl rfl rfl rfl (by decide) (fun (h1 : 30 ≤ m.toInt) => ?_) (fun (h2 : ¬ (30 ≤ m.toInt)) => ?_)
    ·
      refine hp_s (pc' := 81) (st' := [.int (-1)]) rfl rfl rfl ?_
      refine hp_ri rfl rfl ?_
      refine K (-1) ?_
      rw [← hg, gW_stop (by omega)]; decide
    ·
      refine hp_s (pc' := 38) (st' := [.ref 66]) rfl rfl rfl ?_
      refine hp_s (pc' := 39) (st' := [.int x, .ref 66]) rfl rfl rfl ?_
      refine hp_s (pc' := 41) (st' := [.int s, .int x, .ref 66]) rfl rfl rfl ?_
      refine hp_s (pc' := 43) (st' := [.int m, .int s, .int x, .ref 66]) rfl rfl rfl ?_
      refine hp_cv (r := 66) (o := 12) (kd := 1) (as := [.int x, .int s, .int m]) (rest := []) (pc' := 46) rfl rfl rfl rfl rfl rfl rfl rfl rfl (fun d1 => ?_)
      refine s_isShut S (xi := x.toInt) rfl (si := s.toInt) rfl (mi := m.toInt) rfl (by first | assumption | omega) (by first | assumption | omega) (by first | assumption | omega) (by first | assumption | omega) ?_ ?_
      ·
        intro h3
        refine hp_id (st := [.int 1]) ?_
        refine hp_go (pc' := 49) rfl rfl rfl ?_
        refine hp_s (pc' := 50) (st' := [.int 0]) rfl rfl rfl ?_
        refine hp_go (pc' := 57) rfl rfl rfl ?_
        refine hp_s (pc' := 59) (ls' := [(6, .int 0), (7, .int m), (4, .int s), (5, .int t), (0, .ref 66), (1, .int x), (2, .int k), (3, .int f)]) (st' := []) rfl rfl rfl ?_
        refine hp_s (pc' := 61) (st' := [.int 0]) rfl rfl rfl ?_
        refine hp_s (pc' := 63) (st' := [.int t, .int 0]) rfl rfl rfl ?_
        refine hp_ic (pc' := 66) (t := 74) (a := 0) (b := t.toInt) rfl rfl rfl (by decide) rfl (fun (h4 : 0 ≠ t.toInt) => ?_) (fun (h5 : ¬ (0 ≠ t.toInt)) => ?_)
        ·
          refine hp_inc (L := fun z_ => [(7, .int z_), (6, .int 0), (4, .int s), (5, .int t), (0, .ref 66), (1, .int x), (2, .int k), (3, .int f)]) (pc' := 77) rfl rfl rfl (fun _ => rfl) rfl ?_
          intro z1 hz1
          have ez1 := i_add hz1 (show m.toInt = m.toInt from rfl) (show (Int32.ofInt 1).toInt = 1 from by decide)
          refine hp_go (pc' := 30) rfl rfl rfl ?_
          refine ih z1 0 (by omega) (by omega) (by decide) (by have h00 : (0 : Int32).toInt = 0 := (by decide); omega) (by have h00 : (0 : Int32).toInt = 0 := (by decide); omega) ?_ (fun u h1 h2 => absurd h2 (by have h00 : (0 : Int32).toInt = 0 := (by decide); omega))
          rw [← hg, show z1.toInt - (0 : Int32).toInt = m.toInt - c.toInt + ((c.toInt.toNat + 1 : Nat) : Int) by have h00 : (0 : Int32).toInt = 0 := (by decide); push_cast; omega]
          refine (gW_skip (fun j h1 h2 g => ?_)).symm
          have q := g (m.toInt - j) (by push_cast at h2; omega) (by push_cast at h2; omega)
          rw [show j + (m.toInt - j) = m.toInt by omega] at q
          exact q h3
        ·
          refine hp_s (pc' := 68) (st' := [.int m]) rfl rfl rfl ?_
          refine hp_s (pc' := 70) (st' := [.int t, .int m]) rfl rfl rfl ?_
          refine hp_z (pc' := 71) (e := m - t) (st' := []) rfl rfl rfl ?_
          intro z2 hz2
          have ez2 := i_sub hz2 (show m.toInt = m.toInt from rfl) (show t.toInt = t.toInt from rfl)
          refine hp_s (pc' := 72) (st' := [.int 1, .int z2]) rfl rfl rfl ?_
          refine hp_z (pc' := 73) (e := z2 + 1) (st' := []) rfl rfl rfl ?_
          intro z3 hz3
          have ez3 := i_add hz3 (show z2.toInt = z2.toInt from rfl) (show (1 : Int32).toInt = 1 from by decide)
          refine hp_ri rfl rfl ?_
          exfalso; omega
      ·
        intro h6
        refine hp_id (st := [.int 0]) ?_
        refine hp_go (pc' := 53) rfl rfl rfl ?_
        refine hp_s (pc' := 55) (st' := [.int c]) rfl rfl rfl ?_
        refine hp_s (pc' := 56) (st' := [.int 1, .int c]) rfl rfl rfl ?_
        refine hp_z (pc' := 57) (e := c + 1) (st' := []) rfl rfl rfl ?_
        intro z4 hz4
        have ez4 := i_add hz4 (show c.toInt = c.toInt from rfl) (show (1 : Int32).toInt = 1 from by decide)
        refine hp_s (pc' := 59) (ls' := [(6, .int z4), (7, .int m), (4, .int s), (5, .int t), (0, .ref 66), (1, .int x), (2, .int k), (3, .int f)]) (st' := []) rfl rfl rfl ?_
        refine hp_s (pc' := 61) (st' := [.int z4]) rfl rfl rfl ?_
        refine hp_s (pc' := 63) (st' := [.int t, .int z4]) rfl rfl rfl ?_
        refine hp_ic (pc' := 66) (t := 74) (a := z4.toInt) (b := t.toInt) rfl rfl rfl rfl rfl (fun (h7 : z4.toInt ≠ t.toInt) => ?_) (fun (h8 : ¬ (z4.toInt ≠ t.toInt)) => ?_)
        ·
          refine hp_inc (L := fun z_ => [(7, .int z_), (6, .int z4), (4, .int s), (5, .int t), (0, .ref 66), (1, .int x), (2, .int k), (3, .int f)]) (pc' := 77) rfl rfl rfl (fun _ => rfl) rfl ?_
          intro z5 hz5
          have ez5 := i_add hz5 (show m.toInt = m.toInt from rfl) (show (Int32.ofInt 1).toInt = 1 from by decide)
          refine hp_go (pc' := 30) rfl rfl rfl ?_
          refine ih z5 z4 (by omega) (by omega) (by omega) (by omega) (by omega) (by rw [show z5.toInt - z4.toInt = m.toInt - c.toInt by omega]; exact hg) (fun u h1 h2 => ?_)
          by_cases g : u < m.toInt
          · exact hfr u (by omega) g
          · rw [show u = m.toInt by omega]; exact h6
        ·
          refine hp_s (pc' := 68) (st' := [.int m]) rfl rfl rfl ?_
          refine hp_s (pc' := 70) (st' := [.int t, .int m]) rfl rfl rfl ?_
          refine hp_z (pc' := 71) (e := m - t) (st' := []) rfl rfl rfl ?_
          intro z6 hz6
          have ez6 := i_sub hz6 (show m.toInt = m.toInt from rfl) (show t.toInt = t.toInt from rfl)
          refine hp_s (pc' := 72) (st' := [.int 1, .int z6]) rfl rfl rfl ?_
          refine hp_z (pc' := 73) (e := z6 + 1) (st' := []) rfl rfl rfl ?_
          intro z7 hz7
          have ez7 := i_add hz7 (show z6.toInt = z6.toInt from rfl) (show (1 : Int32).toInt = 1 from by decide)
          refine hp_ri rfl rfl ?_
          have hA : (dA (shM p S x.toInt.toNat) s.toInt t.toInt) (m.toInt - c.toInt) := fun j j1 j2 => by
            by_cases g : m.toInt - c.toInt + j < m.toInt
            · exact hfr _ (by omega) g
            · rw [show m.toInt - c.toInt + j = m.toInt by omega]; exact h6
          refine K _ ?_
          rw [← hg, gW_hit (by omega) hA]
          omega
theorem s_begins1 {ro : List (List Int32)} {n d : Nat} {p : xH} {Q : Option Value → xH → Prop} (S : Nat) {x : Int32} {xi : Int} {k : Int32} {ki : Int} {f : Int32} {fi : Int} (hx : x.toInt = xi) (hk : k.toInt = ki) (hf : f.toInt = fi) (pre0 : (rI p 66 6).toInt = (S : Int)) (pre1 : S ≤ 7) (pre2 : 0 ≤ fi) (pre3 : fi ≤ 30) (pre4 : 0 ≤ xi ∧ xi < 7) (pre5 : 0 ≤ ki ∧ ki < 4) (pre6 : 1 ≤ drs p 74 xi.toNat ki.toNat) (pre7 : drs p 74 xi.toNat ki.toNat ≤ 6) (k0 : ∀ r : Int32, (r.toInt = dB (shM p S xi.toNat) (drs p 73 xi.toNat ki.toNat) (drs p 74 xi.toNat ki.toNat) fi) → Q (some (.int r)) p) : hP ro n d (12, 8, 1, 1, k215) 0 (lv_args 0 [.ref 66, .int x, .int k, .int f]) [] p Q := by
  subst hx
  subst hk
  subst hf
  refine hp_id (ls := [(0, .ref 66), (1, .int x), (2, .int k), (3, .int f)]) ?_
  obtain ⟨pre4a, pre4b⟩ := pre4
  obtain ⟨pre5a, pre5b⟩ := pre5
  refine hp_s (pc' := 1) (st' := [.ref 66]) rfl rfl rfl ?_
  refine hp_getr (k := 9) (w := .ref 73) (pc' := 4) rfl rfl rfl rfl rfl ?_
  refine hp_s (pc' := 5) (st' := [.int 4, .ref 73]) rfl rfl rfl ?_
  refine hp_s (pc' := 6) (st' := [.int x, .int 4, .ref 73]) rfl rfl rfl ?_
  refine hp_z (pc' := 7) (e := 4 * x) (st' := [.ref 73]) rfl rfl rfl ?_
  intro z1 hz1
  have ez1 := i_mul hz1 (show (4 : Int32).toInt = 4 from by decide) (show x.toInt = x.toInt from rfl)
  refine hp_s (pc' := 8) (st' := [.int k, .int z1, .ref 73]) rfl rfl rfl ?_
  refine hp_z (pc' := 9) (e := z1 + k) (st' := [.ref 73]) rfl rfl rfl ?_
  intro z2 hz2
  have ez2 := i_add hz2 (show z1.toInt = z1.toInt from rfl) (show k.toInt = k.toInt from rfl)
  refine hp_ld (t := 100) (v := (rI p 73 z2.toInt.toNat)) rfl (.inl rfl) rfl rfl rfl ?_
  intro (g1a : 0 ≤ z2.toInt) (g1b : z2.toInt < 28)
  have q18 : (rI p 73 z2.toInt.toNat).toInt = drs p 73 x.toInt.toNat k.toInt.toNat := by unfold drs; congr 2; omega
  refine hp_s (pc' := 12) (ls' := [(4, .int (rI p 73 z2.toInt.toNat)), (0, .ref 66), (1, .int x), (2, .int k), (3, .int f)]) (st' := []) rfl rfl rfl ?_
  refine hp_s (pc' := 13) (st' := [.ref 66]) rfl rfl rfl ?_
  refine hp_getr (k := 10) (w := .ref 74) (pc' := 16) rfl rfl rfl rfl rfl ?_
  refine hp_s (pc' := 17) (st' := [.int 4, .ref 74]) rfl rfl rfl ?_
  refine hp_s (pc' := 18) (st' := [.int x, .int 4, .ref 74]) rfl rfl rfl ?_
  refine hp_z (pc' := 19) (e := 4 * x) (st' := [.ref 74]) rfl rfl rfl ?_
  intro z3 hz3
  have ez3 := i_mul hz3 (show (4 : Int32).toInt = 4 from by decide) (show x.toInt = x.toInt from rfl)
  refine hp_s (pc' := 20) (st' := [.int k, .int z3, .ref 74]) rfl rfl rfl ?_
  refine hp_z (pc' := 21) (e := z3 + k) (st' := [.ref 74]) rfl rfl rfl ?_
  intro z4 hz4
  have ez4 := i_add hz4 (show z3.toInt = z3.toInt from rfl) (show k.toInt = k.toInt from rfl)
  refine hp_ld (t := 100) (v := (rI p 74 z4.toInt.toNat)) rfl (.inl rfl) rfl rfl rfl ?_
  intro (g2a : 0 ≤ z4.toInt) (g2b : z4.toInt < 28)
  have q19 : (rI p 74 z4.toInt.toNat).toInt = drs p 74 x.toInt.toNat k.toInt.toNat := by unfold drs; congr 2; omega
  refine hp_s (pc' := 24) (ls' := [(5, .int (rI p 74 z4.toInt.toNat)), (4, .int (rI p 73 z2.toInt.toNat)), (0, .ref 66), (1, .int x), (2, .int k), (3, .int f)]) (st' := []) rfl rfl rfl ?_
  refine hp_s (pc' := 25) (st' := [.int 0]) rfl rfl rfl ?_
  refine hp_s (pc' := 27) (ls' := [(6, .int 0), (5, .int (rI p 74 z4.toInt.toNat)), (4, .int (rI p 73 z2.toInt.toNat)), (0, .ref 66), (1, .int x), (2, .int k), (3, .int f)]) (st' := []) rfl rfl rfl ?_
  refine hp_s (pc' := 28) (st' := [.int f]) rfl rfl rfl ?_
  refine hp_s (pc' := 30) (ls' := [(7, .int f), (6, .int 0), (5, .int (rI p 74 z4.toInt.toNat)), (4, .int (rI p 73 z2.toInt.toNat)), (0, .ref 66), (1, .int x), (2, .int k), (3, .int f)]) (st' := []) rfl rfl rfl ?_
  refine hp_ls (ls' := [(7, .int f), (6, .int 0), (4, .int (rI p 73 z2.toInt.toNat)), (5, .int (rI p 74 z4.toInt.toNat)), (0, .ref 66), (1, .int x), (2, .int k), (3, .int f)]) rfl rfl ⟨rfl, rfl, rfl, rfl, rfl, rfl, rfl, rfl, trivial⟩ ?_
  exact lp_215 (S := S) (x := x) (k := k) (f := f) (s := (rI p 73 z2.toInt.toNat)) (t := (rI p 74 z4.toInt.toNat)) pre0 pre1 pre2 pre3 (by rw [q19]; exact pre6) (by rw [q19]; exact pre7) (fun r hr => k0 r (by rw [hr]; unfold dB; rw [q18, q19])) n f 0 (by omega) (by omega) (by decide) (by have h00 : (0 : Int32).toInt = 0 := (by decide); omega) (by have h00 : (0 : Int32).toInt = 0 := (by decide); omega) (by rw [show f.toInt - (0 : Int32).toInt = f.toInt by have h00 : (0 : Int32).toInt = 0 := (by decide); omega]) (fun u h1 h2 => absurd h2 (by have h00 : (0 : Int32).toInt = 0 := (by decide); omega))
