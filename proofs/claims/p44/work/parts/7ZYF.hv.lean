/-! contracts of methods, walked -/
def hmN (S : Nat) (M : Nat → Nat → Prop) (C : Nat → Nat → Nat → Nat → Prop) : Prop := ∀ m, m ≤ S → (wY M C S []).find? (hP_ m) = none
def hmY (S : Nat) (M : Nat → Nat → Prop) (C : Nat → Nat → Nat → Nat → Prop) (r : Nat × List Nat) : Prop := r.1 ≤ S ∧ (∀ m, m < r.1 → (wY M C S []).find? (hP_ m) = none) ∧ (wY M C S []).find? (hP_ r.1) = some r.2
theorem lp_231 {ro : List (List Int32)} {d : Nat} {Q : Option Value → xH → Prop} {p0 : xH} {S : Nat} {M : Nat → Nat → Prop} {C : Nat → Nat → Nat → Nat → Prop} {x : Int32} (hS7 : S ≤ 7) (hx : x.toInt = -1 ∨ (0 ≤ x.toInt ∧ x.toInt < S)) (K1 : ∀ (r : Nat × List Nat) (z : Int32) (p2 : xH), hNt T_wf p0 p2 → hmY S M C r → ((x.toInt = -1 ∧ z.toInt = ((r.1 : Nat) : Int)) ∨ (x.toInt ≠ -1 ∧ z.toInt = ((ix r.2 x.toInt.toNat : Nat) : Int) - 1)) → Q (some (.int z)) p2) (K0 : ∀ p2 : xH, hNt T_wf p0 p2 → hmN S M C → Q (some (.int (-2))) p2) : ∀ (n : Nat) (v : Int32) (p : xH), (0 ≤ v.toInt) → (v.toInt ≤ S + 1) → (hNt T_wf p0 p) → (hwX p S M C []) → (∀ m, m < v.toInt.toNat → (wY M C S []).find? (hP_ m) = none) → hP ro n d (12, 3, 1, 1, k231) 22 [(2, .int v), (0, .ref 66), (1, .int x)] [] p Q := by
  intro n
  induction n with
  | zero => intros; exact hp_0
  | succ n ih =>
    intro v p hv1 hv2 hN hX hA
    obtain ⟨⟨x1, x2, x3, x4⟩, x5, x6⟩ := hX
    have hX : hwX p S M C [] := ⟨⟨x1, x2, x3, x4⟩, x5, x6⟩
    refine hp_s1 (pc' := 23) (st' := [.int v]) rfl rfl rfl ?_
    refine hp_s (pc' := 24) (st' := [.ref 66, .int v]) rfl rfl rfl ?_
    refine hp_get (k := 6) (pc' := 27) (v := (rI p 66 6)) rfl rfl rfl rfl rfl rfl ?_
    refine hp_ic (pc' := 30) (t := 63) (a := v.toInt) (b := (rI p 66 6).toInt) rfl rfl rfl rfl rfl (fun (h1 : (rI p 66 6).toInt < v.toInt) => ?_) (fun (h2 : ¬ ((rI p 66 6).toInt < v.toInt)) => ?_)
    ·
      refine hp_s (pc' := 65) (st' := [.int (-2)]) rfl rfl rfl ?_
      refine hp_ri rfl rfl ?_
      exact K0 p hN (fun m hm => hA m (by omega))
    ·
      refine hp_s (pc' := 31) (st' := [.ref 66]) rfl rfl rfl ?_
      refine hp_s (pc' := 32) (st' := [.int 0, .ref 66]) rfl rfl rfl ?_
      refine hp_s (pc' := 33) (st' := [.int v, .int 0, .ref 66]) rfl rfl rfl ?_
      have r1 : (0 : Int) = (([] : List Nat).length : Int) := rfl
      have r2 : v.toInt = ((v.toInt.toNat : Nat) : Int) - ((hn [] : Nat) : Int) := by show _ = _ - ((0 : Nat) : Int); omega
      refine hp_cv (r := 66) (o := 12) (kd := 1) (as := [.int 0, .int v]) (rest := []) (pc' := 36) rfl rfl rfl rfl rfl rfl rfl rfl rfl (fun d1 => ?_)
      refine s_wearsFrom S M C [] v.toInt.toNat (xi := 0) (by decide) (yi := v.toInt) rfl (by first | assumption | omega) (by first | assumption | omega) (by first | assumption | omega) ?_ ?_
      ·
        intro y1 p1 h3 h4 h5
        refine hp_id (st := [.int 1]) ?_
        refine hp_go (pc' := 39) rfl rfl rfl ?_
        refine hp_s (pc' := 40) (st' := [.int x]) rfl rfl rfl ?_
        refine hp_s (pc' := 41) (st' := [.int (-1), .int x]) rfl rfl rfl ?_
        refine hp_ic (pc' := 44) (t := 48) (a := x.toInt) (b := (-1)) rfl rfl rfl rfl (by decide) (fun (h6 : x.toInt ≠ (-1)) => ?_) (fun (h7 : ¬ (x.toInt ≠ (-1))) => ?_)
        ·
          refine hp_s (pc' := 49) (st' := [.ref 66]) rfl rfl rfl ?_
          refine hp_getr (k := 32) (w := .ref 87) (pc' := 52) rfl rfl rfl rfl rfl ?_
          refine hp_s (pc' := 53) (st' := [.int x, .ref 87]) rfl rfl rfl ?_
          refine hp_ld (t := 100) (v := (rI p1 87 x.toInt.toNat)) rfl (.inl rfl) rfl rfl rfl ?_
          intro (g1a : 0 ≤ x.toInt) (g1b : x.toInt < 7)
          refine hp_s (pc' := 55) (st' := [.int 1, .int (rI p1 87 x.toInt.toNat)]) rfl rfl rfl ?_
          refine hp_z (pc' := 56) (e := (rI p1 87 x.toInt.toNat) - 1) (st' := []) rfl rfl rfl ?_
          intro z1 hz1
          have ez1 := i_sub hz1 (show (rI p1 87 x.toInt.toNat).toInt = (rI p1 87 x.toInt.toNat).toInt from rfl) (show (1 : Int32).toInt = 1 from by decide)
          refine hp_ri rfl rfl ?_
          have qf := h4
          rw [show S - ([] : List Nat).length = S from Nat.sub_zero _] at qf
          have hz := h5 x.toInt.toNat (by omega)
          exact K1 (v.toInt.toNat, y1) _ _ (hN.trans h3) ⟨by show v.toInt.toNat ≤ S; omega, fun m hm => hA m (by have hm : m < v.toInt.toNat := hm; omega), qf⟩ (Or.inr ⟨by omega, by show _ = ((ix y1 x.toInt.toNat : Nat) : Int) - 1; omega⟩)
        ·
          refine hp_s (pc' := 45) (st' := [.int v]) rfl rfl rfl ?_
          refine hp_go (pc' := 56) rfl rfl rfl ?_
          refine hp_ri rfl rfl ?_
          have qf := h4
          rw [show S - ([] : List Nat).length = S from Nat.sub_zero _] at qf
          exact K1 (v.toInt.toNat, y1) _ _ (hN.trans h3) ⟨by show v.toInt.toNat ≤ S; omega, fun m hm => hA m (by have hm : m < v.toInt.toNat := hm; omega), qf⟩ (Or.inl ⟨by omega, by show v.toInt = ((v.toInt.toNat : Nat) : Int); omega⟩)
      ·
        intro p2 h8 h9 h10
        refine hp_id (st := [.int 0]) ?_
        refine hp_go (pc' := 57) rfl rfl rfl ?_
        refine hp_inc (L := fun z_ => [(2, .int z_), (0, .ref 66), (1, .int x)]) (pc' := 60) rfl rfl rfl (fun _ => rfl) rfl ?_
        intro z2 hz2
        have ez2 := i_add hz2 (show v.toInt = v.toInt from rfl) (show (Int32.ofInt 1).toInt = 1 from by decide)
        refine hp_go (pc' := 22) rfl rfl rfl ?_
        have qf := h9
        rw [show S - ([] : List Nat).length = S from Nat.sub_zero _] at qf
        refine ih z2 p2 (by omega) (by omega) (hN.trans h8) h10 (fun m hm => ?_)
        by_cases e : m = v.toInt.toNat
        · rw [e]; exact qf
        · exact hA m (by omega)
theorem M_hats {ro : List (List Int32)} {n d : Nat} {p : xH} {Q : Option Value → xH → Prop} (lo : Option (List yN)) {x : Int32} {xi : Int} (hx : x.toInt = xi) (pre0 : lMo p lo) (pre1 : ∀ j, 0 ≤ (rI p 67 j).toInt ∧ (rI p 67 j).toInt < 64) (pre2 : ∀ j, -1 ≤ (rI p 71 j).toInt ∧ (rI p 71 j).toInt < 6) (pre3 : 0 ≤ (rI p 66 6).toInt) (pre4 : (rI p 66 6).toInt ≤ 7) (k0 : (xi ≠ -1) → (¬ (0 ≤ xi ∧ xi < (rI p 66 6).toInt)) → Q (some (.int (-2000000000))) p) (k1 : ∀ p2 : xH, (hNt T_hm p p2) → (xi = -1 ∨ (0 ≤ xi ∧ xi < (rI p 66 6).toInt)) → (hmN (rI p 66 6).toInt.toNat (hM p 67 7) (kM p lo)) → Q (some (.int (-2))) p2) (k2 : ∀ r : Nat × List Nat, ∀ z : Int32, ∀ p2 : xH, (hNt T_hm p p2) → (xi = -1) → (hmY (rI p 66 6).toInt.toNat (hM p 67 7) (kM p lo) r) → (z.toInt = ((r.1 : Nat) : Int)) → Q (some (.int z)) p2) (k3 : ∀ r : Nat × List Nat, ∀ z : Int32, ∀ p2 : xH, (hNt T_hm p p2) → (0 ≤ xi) → (xi < (rI p 66 6).toInt) → (hmY (rI p 66 6).toInt.toNat (hM p 67 7) (kM p lo) r) → (z.toInt = ((ix r.2 xi.toNat : Nat) : Int) - 1) → Q (some (.int z)) p2) : hP ro n d (12, 3, 1, 1, k231) 0 (lv_args 0 [.ref 66, .int x]) [] p Q := by
  subst hx
  refine hp_id (ls := [(0, .ref 66), (1, .int x)]) ?_
  refine hp_s (pc' := 1) (st' := [.int x]) rfl rfl rfl ?_
  refine hp_s (pc' := 2) (st' := [.int (-1), .int x]) rfl rfl rfl ?_
  refine hp_ic (pc' := 5) (t := 16) (a := x.toInt) (b := (-1)) rfl rfl rfl rfl (by decide) (fun (h1 : x.toInt = (-1)) => ?_) (fun (h2 : ¬ (x.toInt = (-1))) => ?_)
  ·
    refine hp_s (pc' := 17) (st' := [.ref 66]) rfl rfl rfl ?_
    refine hp_cv (r := 66) (o := 12) (kd := 1) (as := []) (rest := []) (pc' := 20) rfl rfl rfl rfl rfl rfl rfl rfl rfl (fun d1 => ?_)
    refine s_asksHats lo (by first | assumption | omega) (by first | assumption | omega) (by first | assumption | omega) (by first | assumption | omega) (by first | assumption | omega) ?_
    intro p1 h3 h4
    refine hp_id (st := []) ?_
    refine hp_s (pc' := 21) (st' := [.int 0]) rfl rfl rfl ?_
    refine hp_s (pc' := 22) (ls' := [(2, .int 0), (0, .ref 66), (1, .int x)]) (st' := []) rfl rfl rfl ?_
    have r0 : hwX p1 (rI p 66 6).toInt.toNat (hM p 67 7) (kM p lo) [] := ⟨⟨by rw [h3.int (r := 66) (k := 6) rfl]; omega, by omega, h4, hM_e (fun j => h3.int (r := 67) rfl)⟩, Nat.zero_le _, fun i hi => absurd hi (Nat.not_lt_zero _)⟩
    exact lp_231 (p0 := p1) (S := (rI p 66 6).toInt.toNat) (M := hM p 67 7) (C := kM p lo) (x := x) (by omega) (by omega) (fun r z p2 u1 u2 u3 => by rcases u3 with ⟨g1, g2⟩ | ⟨g1, g2⟩; exact k2 r z p2 (hNt.trans (h3.up (by decide)) (u1.up (by decide))) g1 u2 g2; exact k3 r z p2 (hNt.trans (h3.up (by decide)) (u1.up (by decide))) (by omega) (by omega) u2 g2) (fun p2 u1 u2 => k1 p2 (hNt.trans (h3.up (by decide)) (u1.up (by decide))) (by omega) u2) n 0 p1 (by decide) (by have h00 : (0 : Int32).toInt = 0 := (by decide); omega) (hNt.refl _ _) r0 (fun m hm => absurd hm (by rw [i_ofz]; exact Nat.not_lt_zero _))
  ·
    refine hp_s (pc' := 6) (st' := [.ref 66]) rfl rfl rfl ?_
    refine hp_s (pc' := 7) (st' := [.int x, .ref 66]) rfl rfl rfl ?_
    refine hp_cv (r := 66) (o := 12) (kd := 1) (as := [.int x]) (rest := []) (pc' := 10) rfl rfl rfl rfl rfl rfl rfl rfl rfl (fun d2 => ?_)
    refine s_isPerson (xi := x.toInt) rfl (by first | assumption | omega) ?_ ?_
    ·
      intro h5 h6
      refine hp_id (st := [.int 1]) ?_
      refine hp_go (pc' := 16) rfl rfl rfl ?_
      refine hp_s (pc' := 17) (st' := [.ref 66]) rfl rfl rfl ?_
      refine hp_cv (r := 66) (o := 12) (kd := 1) (as := []) (rest := []) (pc' := 20) rfl rfl rfl rfl rfl rfl rfl rfl rfl (fun d3 => ?_)
      refine s_asksHats lo (by first | assumption | omega) (by first | assumption | omega) (by first | assumption | omega) (by first | assumption | omega) (by first | assumption | omega) ?_
      intro p2 h7 h8
      refine hp_id (st := []) ?_
      refine hp_s (pc' := 21) (st' := [.int 0]) rfl rfl rfl ?_
      refine hp_s (pc' := 22) (ls' := [(2, .int 0), (0, .ref 66), (1, .int x)]) (st' := []) rfl rfl rfl ?_
      have r0 : hwX p2 (rI p 66 6).toInt.toNat (hM p 67 7) (kM p lo) [] := ⟨⟨by rw [h7.int (r := 66) (k := 6) rfl]; omega, by omega, h8, hM_e (fun j => h7.int (r := 67) rfl)⟩, Nat.zero_le _, fun i hi => absurd hi (Nat.not_lt_zero _)⟩
      exact lp_231 (p0 := p2) (S := (rI p 66 6).toInt.toNat) (M := hM p 67 7) (C := kM p lo) (x := x) (by omega) (by omega) (fun r z p2 u1 u2 u3 => by rcases u3 with ⟨g1, g2⟩ | ⟨g1, g2⟩; exact k2 r z p2 (hNt.trans (h7.up (by decide)) (u1.up (by decide))) g1 u2 g2; exact k3 r z p2 (hNt.trans (h7.up (by decide)) (u1.up (by decide))) (by omega) (by omega) u2 g2) (fun p2 u1 u2 => k1 p2 (hNt.trans (h7.up (by decide)) (u1.up (by decide))) (by omega) u2) n 0 p2 (by decide) (by have h00 : (0 : Int32).toInt = 0 := (by decide); omega) (hNt.refl _ _) r0 (fun m hm => absurd hm (by rw [i_ofz]; exact Nat.not_lt_zero _))
    ·
      intro h9
      refine hp_id (st := [.int 0]) ?_
      refine hp_go (pc' := 13) rfl rfl rfl ?_
      refine hp_s (pc' := 15) (st' := [.int (-2000000000)]) rfl rfl rfl ?_
      refine hp_ri rfl rfl ?_
      exact k0 (by omega) (by assumption)
