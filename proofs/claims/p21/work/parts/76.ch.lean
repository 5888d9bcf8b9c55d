/-! the relation of the changes; mend, undo, redo -/
theorem rI_of {p : xH} {r k : Nat} {x : Int32} (h : rV p r k = .int x) : rI p r k = x := by unfold rI; rw [h]
theorem rI_eqv {p p' : xH} {r k r' k' : Nat} (h : rV p r k = rV p' r' k') : rI p r k = rI p' r' k' := by unfold rI; rw [h]
abbrev F_ch : List (Nat × Nat) := [(13, 7), (52, 5), (52, 6), (66, 4), (66, 5), (53, 9999), (54, 9999), (55, 9999), (56, 9999), (68, 9999), (69, 9999), (70, 9999)]
/-- a change that both have -/
def hOkc (p : xH) (k : Nat) : Prop := 0 ≤ (rI p 53 k).toInt ∧ (rI p 53 k).toInt < 7 ∧ 0 ≤ (rI p 54 k).toInt ∧ (rI p 54 k).toInt ≤ 4 ∧ (3 ≤ (rI p 54 k).toInt → (rI p 53 k).toInt = 0) ∧ ((rI p 54 k).toInt = 2 → (rI p 53 k).toInt < (rI p 13 7).toInt) ∧ (rI p 68 k).toInt = hAt (rI p 53 k).toInt (rI p 54 k).toInt ∧ rV p 55 k = rV p 69 k ∧ rV p 56 k = rV p 70 k
def C_ch (p : xH) : Prop := rI p 52 5 = rI p 66 5 ∧ rI p 52 6 = rI p 66 4 ∧ (rI p 52 5).toInt ≤ (rI p 52 6).toInt ∧ ∀ k, k < (rI p 52 6).toInt.toNat → hOkc p k
theorem C_ch_up {p p1 : xH} (h : hSm [(52, 5), (52, 6), (66, 4), (66, 5), (53, 9999), (54, 9999), (55, 9999), (56, 9999), (68, 9999), (69, 9999), (70, 9999)] p p1) (hz : (rI p 13 7).toInt ≤ (rI p1 13 7).toInt) (c : C_ch p) : C_ch p1 := by
  obtain ⟨c1, c2, c3, c4⟩ := c
  have e6 : rI p1 52 6 = rI p 52 6 := h.int rfl
  refine ⟨by rw [h.int (r := 52) (k := 5) rfl, h.int (r := 66) (k := 5) rfl]; exact c1, by rw [e6, h.int (r := 66) (k := 4) rfl]; exact c2, by rw [h.int (r := 52) (k := 5) rfl, e6]; exact c3, fun k hk => ?_⟩
  rw [e6] at hk
  obtain ⟨d1, d2, d3, d4, d5, d6, d7, d8, d9⟩ := c4 k hk
  have e53 : rI p1 53 k = rI p 53 k := h.int rfl
  have e54 : rI p1 54 k = rI p 54 k := h.int rfl
  unfold hOkc
  rw [e53, e54, h.int (r := 68) rfl, h 55 k rfl, h 69 k rfl, h 56 k rfl, h 70 k rfl]
  exact ⟨d1, d2, d3, d4, d5, fun z => by have := d6 z; omega, d7, d8, d9⟩
theorem C_ch_fr {p p1 : xH} (h : hSm F_ch p p1) (c : C_ch p) : C_ch p1 := C_ch_up (h.sub (fun r k e => by unfold hF at e ⊢; rw [List.any_cons, e, Bool.or_true])) (by rw [h.int (r := 13) (k := 7) rfl]; exact Int.le_refl _) c
/-- reading behind what is told -/
theorem hTl_o {p : xH} {n : Nat} {w : Int} {v : Int32} {r j : Nat} (h13 : r ≠ 13) (h14 : r ≠ 14) (h15 : r ≠ 15) (h16 : r ≠ 16) : rV (hTl p n w v) r j = rV p r j := by
  unfold hTl
  repeat' split
  all_goals exact rV_ne (fun z => absurd z (by assumption))
theorem hTl_rows {p : xH} {n : Nat} {w : Int} {v : Int32} (hw : hW p) (hn : n < 7) (h0 : 0 ≤ w) (h4 : w ≤ 4) :
    (∀ j, rV (hTl p n w v) 14 j = if w = 0 ∧ j = n then .int v else rV p 14 j) ∧ (∀ j, rV (hTl p n w v) 15 j = if w = 1 ∧ j = n then .int v else rV p 15 j) ∧ (∀ j, rV (hTl p n w v) 16 j = if w = 2 ∧ j = n then .int v else rV p 16 j) ∧ rI (hTl p n w v) 13 8 = (if w = 3 then v else rI p 13 8) ∧ rI (hTl p n w v) 13 9 = (if w = 4 then v else rI p 13 9) ∧ rI (hTl p n w v) 13 7 = rI p 13 7 := by
  have key : ∀ z : Int, z = w → z = 0 ∨ z = 1 ∨ z = 2 ∨ z = 3 ∨ z = 4 := fun z hz => by omega
  rcases key w rfl with h | h | h | h | h <;> subst h <;> unfold hTl
  · refine ⟨fun j => ?_, fun j => ?_, fun j => ?_, ?_, ?_, ?_⟩
    · rw [if_pos rfl, rV_w hw hn]; by_cases z : j = n
      · rw [if_pos z, if_pos ⟨rfl, z⟩]
      · rw [if_neg z, if_neg (fun y => z y.2)]
    · rw [if_pos rfl, if_neg (by omega)]; exact rV_ne (fun z => absurd z (by decide))
    · rw [if_pos rfl, if_neg (by omega)]; exact rV_ne (fun z => absurd z (by decide))
    · rw [if_pos rfl, if_neg (by omega)]; exact rI_o (by decide)
    · rw [if_pos rfl, if_neg (by omega)]; exact rI_o (by decide)
    · rw [if_pos rfl]; exact rI_o (by decide)
  · refine ⟨fun j => ?_, fun j => ?_, fun j => ?_, ?_, ?_, ?_⟩
    · rw [if_neg (by omega), if_pos rfl, if_neg (by omega)]; exact rV_ne (fun z => absurd z (by decide))
    · rw [if_neg (by omega), if_pos rfl, rV_w hw hn]; by_cases z : j = n
      · rw [if_pos z, if_pos ⟨rfl, z⟩]
      · rw [if_neg z, if_neg (fun y => z y.2)]
    · rw [if_neg (by omega), if_pos rfl, if_neg (by omega)]; exact rV_ne (fun z => absurd z (by decide))
    · rw [if_neg (by omega), if_pos rfl, if_neg (by omega)]; exact rI_o (by decide)
    · rw [if_neg (by omega), if_pos rfl, if_neg (by omega)]; exact rI_o (by decide)
    · rw [if_neg (by omega), if_pos rfl]; exact rI_o (by decide)
  · refine ⟨fun j => ?_, fun j => ?_, fun j => ?_, ?_, ?_, ?_⟩
    · rw [if_neg (by omega), if_neg (by omega), if_pos rfl, if_neg (by omega)]; exact rV_ne (fun z => absurd z (by decide))
    · rw [if_neg (by omega), if_neg (by omega), if_pos rfl, if_neg (by omega)]; exact rV_ne (fun z => absurd z (by decide))
    · rw [if_neg (by omega), if_neg (by omega), if_pos rfl, rV_w hw hn]; by_cases z : j = n
      · rw [if_pos z, if_pos ⟨rfl, z⟩]
      · rw [if_neg z, if_neg (fun y => z y.2)]
    · rw [if_neg (by omega), if_neg (by omega), if_pos rfl, if_neg (by omega)]; exact rI_o (by decide)
    · rw [if_neg (by omega), if_neg (by omega), if_pos rfl, if_neg (by omega)]; exact rI_o (by decide)
    · rw [if_neg (by omega), if_neg (by omega), if_pos rfl]; exact rI_o (by decide)
  · refine ⟨fun j => ?_, fun j => ?_, fun j => ?_, ?_, ?_, ?_⟩
    · rw [if_neg (by omega), if_neg (by omega), if_neg (by omega), if_pos rfl, if_neg (by omega)]; exact rV_ne (fun z => absurd z (by decide))
    · rw [if_neg (by omega), if_neg (by omega), if_neg (by omega), if_pos rfl, if_neg (by omega)]; exact rV_ne (fun z => absurd z (by decide))
    · rw [if_neg (by omega), if_neg (by omega), if_neg (by omega), if_pos rfl, if_neg (by omega)]; exact rV_ne (fun z => absurd z (by decide))
    · rw [if_neg (by omega), if_neg (by omega), if_neg (by omega), if_pos rfl, if_pos rfl]; exact rI_eq hw (by decide)
    · rw [if_neg (by omega), if_neg (by omega), if_neg (by omega), if_pos rfl, if_neg (by omega)]; exact rI_ne (fun _ => by decide)
    · rw [if_neg (by omega), if_neg (by omega), if_neg (by omega), if_pos rfl]; exact rI_ne (fun _ => by decide)
  · refine ⟨fun j => ?_, fun j => ?_, fun j => ?_, ?_, ?_, ?_⟩
    · rw [if_neg (by omega), if_neg (by omega), if_neg (by omega), if_neg (by omega), if_neg (by omega)]; exact rV_ne (fun z => absurd z (by decide))
    · rw [if_neg (by omega), if_neg (by omega), if_neg (by omega), if_neg (by omega), if_neg (by omega)]; exact rV_ne (fun z => absurd z (by decide))
    · rw [if_neg (by omega), if_neg (by omega), if_neg (by omega), if_neg (by omega), if_neg (by omega)]; exact rV_ne (fun z => absurd z (by decide))
    · rw [if_neg (by omega), if_neg (by omega), if_neg (by omega), if_neg (by omega), if_neg (by omega)]; exact rI_ne (fun _ => by decide)
    · rw [if_neg (by omega), if_neg (by omega), if_neg (by omega), if_neg (by omega), if_pos rfl]; exact rI_eq hw (by decide)
    · rw [if_neg (by omega), if_neg (by omega), if_neg (by omega), if_neg (by omega)]; exact rI_ne (fun _ => by decide)
/-- what is told is the same of both -/
theorem hTd_eq {p : xH} (c : C_cr p) {n w : Int} (h0 : 0 ≤ n) (h7 : n < 7) (w0 : 0 ≤ w) (w4 : w ≤ 4) (w3 : 3 ≤ w → n = 0) : hTd p n.toNat w = rI p 67 (hAt n w).toNat := by
  obtain ⟨c1, c2, c3, c4, c5, -⟩ := c
  unfold hTd hAt
  by_cases e0 : w = 0
  · subst e0
    rw [if_pos rfl, if_pos (by omega), show (7 * (0 : Int) + n).toNat = n.toNat by omega]
    exact rI_eqv (c1 _ (by omega))
  · rw [if_neg e0]
    by_cases e1 : w = 1
    · subst e1
      rw [if_pos rfl, if_pos (by omega), show (7 * (1 : Int) + n).toNat = 7 + n.toNat by omega]
      exact rI_eqv (c2 _ (by omega))
    · rw [if_neg e1]
      by_cases e2 : w = 2
      · subst e2
        rw [if_pos rfl, if_pos (by omega), show (7 * (2 : Int) + n).toNat = 14 + n.toNat by omega]
        exact rI_eqv (c3 _ (by omega))
      · rw [if_neg e2]
        by_cases e3 : w = 3
        · subst e3
          rw [if_pos rfl, if_neg (by omega)]
          exact c4
        · rw [if_neg e3, if_neg (by omega), show w = 4 by omega]
          exact c5
/-- told to both -/
theorem C_cr_tell {p p2 : xH} {n w : Int} {v : Int32} (c : C_cr p) (h0 : 0 ≤ n) (h7 : n < 7) (w0 : 0 ≤ w) (w4 : w ≤ 4) (w3 : 3 ≤ w → n = 0) (w2 : w = 2 → n < (rI p 13 7).toInt)
    (h14 : ∀ j, rV p2 14 j = if w = 0 ∧ j = n.toNat then .int v else rV p 14 j) (h15 : ∀ j, rV p2 15 j = if w = 1 ∧ j = n.toNat then .int v else rV p 15 j) (h16 : ∀ j, rV p2 16 j = if w = 2 ∧ j = n.toNat then .int v else rV p 16 j) (h8 : rI p2 13 8 = if w = 3 then v else rI p 13 8) (h9 : rI p2 13 9 = if w = 4 then v else rI p 13 9) (hs : rI p2 13 7 = rI p 13 7) (h67 : ∀ j, rV p2 67 j = if j = (hAt n w).toNat then .int v else rV p 67 j) : C_cr p2 := by
  obtain ⟨c1, c2, c3, c4, c5, c6⟩ := c
  have ha : (w = 0 ∧ (hAt n w).toNat = n.toNat) ∨ (w = 1 ∧ (hAt n w).toNat = 7 + n.toNat) ∨ (w = 2 ∧ (hAt n w).toNat = 14 + n.toNat) ∨ (w = 3 ∧ (hAt n w).toNat = 21) ∨ (w = 4 ∧ (hAt n w).toNat = 22) := by
    unfold hAt
    by_cases z : w ≤ 2
    · rw [if_pos z]; omega
    · rw [if_neg z]; omega
  refine ⟨fun j hj => ?_, fun j hj => ?_, fun j hj => ?_, ?_, ?_, fun j hj hj2 => ?_⟩
  · rw [h14, h67]
    by_cases z : w = 0 ∧ j = n.toNat
    · rw [if_pos z, if_pos (by omega)]
    · rw [if_neg z, if_neg (by omega)]; exact c1 j hj
  · rw [h15, h67]
    by_cases z : w = 1 ∧ j = n.toNat
    · rw [if_pos z, if_pos (by omega)]
    · rw [if_neg z, if_neg (by omega)]; exact c2 j hj
  · rw [h16, h67]
    by_cases z : w = 2 ∧ j = n.toNat
    · rw [if_pos z, if_pos (by omega)]
    · rw [if_neg z, if_neg (by omega)]; exact c3 j hj
  · rw [h8]
    by_cases z : w = 3
    · rw [if_pos z]; exact (rI_of (by rw [h67, if_pos (by omega)])).symm
    · rw [if_neg z, c4]; exact (rI_eqv (by rw [h67, if_neg (by omega)])).symm
  · rw [h9]
    by_cases z : w = 4
    · rw [if_pos z]; exact (rI_of (by rw [h67, if_pos (by omega)])).symm
    · rw [if_neg z, c5]; exact (rI_eqv (by rw [h67, if_neg (by omega)])).symm
  · rw [h16]
    rw [hs] at hj
    rw [if_neg (by intro z; have := w2 z.1; omega)]
    exact c6 j hj hj2
/-- one more change, of both; e: where the others were -/
theorem C_ch_add {p p2 : xH} {m : Nat} {e : Nat → Nat} {n w a b v : Int32} (c : C_ch p) (he : ∀ j, j < m → e j < (rI p 52 6).toInt.toNat)
    (x53 : ∀ j, j ≤ m → rV p2 53 j = if j = m then .int n else rV p 53 (e j)) (x54 : ∀ j, j ≤ m → rV p2 54 j = if j = m then .int w else rV p 54 (e j)) (x55 : ∀ j, j ≤ m → rV p2 55 j = if j = m then .int b else rV p 55 (e j)) (x56 : ∀ j, j ≤ m → rV p2 56 j = if j = m then .int v else rV p 56 (e j))
    (x68 : ∀ j, j ≤ m → rV p2 68 j = if j = m then .int a else rV p 68 (e j)) (x69 : ∀ j, j ≤ m → rV p2 69 j = if j = m then .int b else rV p 69 (e j)) (x70 : ∀ j, j ≤ m → rV p2 70 j = if j = m then .int v else rV p 70 (e j))
    (a5 : (rI p2 52 5).toInt = m + 1) (a6 : (rI p2 52 6).toInt = m + 1) (b5 : (rI p2 66 5).toInt = m + 1) (b4 : (rI p2 66 4).toInt = m + 1) (hs : rI p2 13 7 = rI p 13 7)
    (v1 : 0 ≤ n.toInt ∧ n.toInt < 7 ∧ 0 ≤ w.toInt ∧ w.toInt ≤ 4 ∧ (3 ≤ w.toInt → n.toInt = 0) ∧ (w.toInt = 2 → n.toInt < (rI p 13 7).toInt) ∧ a.toInt = hAt n.toInt w.toInt) : C_ch p2 := by
  refine ⟨Int32.toInt_inj.mp (a5.trans b5.symm), Int32.toInt_inj.mp (a6.trans b4.symm), by omega, fun k hk => ?_⟩
  have hk2 : k ≤ m := by omega
  by_cases z : k = m
  · have i53 : rI p2 53 k = n := rI_of (by rw [x53 k hk2, if_pos z])
    have i54 : rI p2 54 k = w := rI_of (by rw [x54 k hk2, if_pos z])
    have i68 : rI p2 68 k = a := rI_of (by rw [x68 k hk2, if_pos z])
    unfold hOkc
    rw [i53, i54, i68, hs, x55 k hk2, x69 k hk2, x56 k hk2, x70 k hk2, if_pos z, if_pos z, if_pos z, if_pos z]
    obtain ⟨q1, q2, q3, q4, q5, q6, q7⟩ := v1
    exact ⟨q1, q2, q3, q4, q5, q6, q7, rfl, rfl⟩
  · have i53 : rI p2 53 k = rI p 53 (e k) := rI_eqv (by rw [x53 k hk2, if_neg z])
    have i54 : rI p2 54 k = rI p 54 (e k) := rI_eqv (by rw [x54 k hk2, if_neg z])
    have i68 : rI p2 68 k = rI p 68 (e k) := rI_eqv (by rw [x68 k hk2, if_neg z])
    have := c.2.2.2 (e k) (he k (by omega))
    unfold hOkc at this ⊢
    rw [i53, i54, i68, hs, x55 k hk2, x69 k hk2, x56 k hk2, x70 k hk2, if_neg z, if_neg z, if_neg z, if_neg z]
    exact this
theorem gh_made {p : xH} (h : GH jGG p) : 0 ≤ (rI p 52 5).toInt ∧ (rI p 52 5).toInt ≤ 40 := gh_fld h (r := 52) (k := 5) rfl rfl
theorem hAdd_hW {p : xH} {n w b v : Int32} (h : hW p) : hW (hAdd p n w b v) := hW_wV (hW_wV (hW_wV (hW_wV (hW_wV (hW_wV h rfl) rfl) rfl) rfl) rfl) rfl
theorem hAddM_hW {p : xH} {m a b v : Int32} (h : hW p) : hW (hAddM p m a b v) := hW_wV (hW_wV (hW_wV (hW_wV (hW_wV h rfl) rfl) rfl) rfl) rfl
theorem hAdd_o {p : xH} {n w b v : Int32} {r j : Nat} (h52 : r ≠ 52) (h53 : r ≠ 53) (h54 : r ≠ 54) (h55 : r ≠ 55) (h56 : r ≠ 56) : rV (hAdd p n w b v) r j = rV p r j := by
  unfold hAdd
  rw [rV_ne (fun z => absurd z h52), rV_ne (fun z => absurd z h52), rV_ne (fun z => absurd z h56), rV_ne (fun z => absurd z h55), rV_ne (fun z => absurd z h54), rV_ne (fun z => absurd z h53)]
theorem hAdd_rows {p : xH} {n w b v : Int32} {m : Nat} (h : hW p) (hm : (rI p 52 5).toInt = m) (hm2 : m < 40) :
    (∀ j, rV (hAdd p n w b v) 53 j = if j = m then .int n else rV p 53 j) ∧ (∀ j, rV (hAdd p n w b v) 54 j = if j = m then .int w else rV p 54 j) ∧ (∀ j, rV (hAdd p n w b v) 55 j = if j = m then .int b else rV p 55 j) ∧ (∀ j, rV (hAdd p n w b v) 56 j = if j = m then .int v else rV p 56 j) ∧ (rI (hAdd p n w b v) 52 5).toInt = m + 1 ∧ (rI (hAdd p n w b v) 52 6).toInt = m + 1 := by
  have w1 := hW_wV (v := .int n) h (r := 53) (k := m) rfl
  have w2 := hW_wV (v := .int w) w1 (r := 54) (k := m) rfl
  have w3 := hW_wV (v := .int b) w2 (r := 55) (k := m) rfl
  have w4 := hW_wV (v := .int v) w3 (r := 56) (k := m) rfl
  have w5 := hW_wV (v := .int (rI p 52 5 + 1)) w4 (r := 52) (k := 5) rfl
  have q := i_add (show rI p 52 5 + 1 = rI p 52 5 + 1 from rfl) rfl (show (1 : Int32).toInt = 1 from by decide)
  have hmm : (rI p 52 5).toInt.toNat = m := by omega
  unfold hAdd
  rw [hmm]
  refine ⟨fun j => ?_, fun j => ?_, fun j => ?_, fun j => ?_, ?_, ?_⟩
  · rw [rV_ne (fun z => absurd z (by decide)), rV_ne (fun z => absurd z (by decide)), rV_ne (fun z => absurd z (by decide)), rV_ne (fun z => absurd z (by decide)), rV_ne (fun z => absurd z (by decide)), rV_w h hm2]
  · rw [rV_ne (fun z => absurd z (by decide)), rV_ne (fun z => absurd z (by decide)), rV_ne (fun z => absurd z (by decide)), rV_ne (fun z => absurd z (by decide)), rV_w w1 hm2, rV_ne (fun z => absurd z (by decide))]
  · rw [rV_ne (fun z => absurd z (by decide)), rV_ne (fun z => absurd z (by decide)), rV_ne (fun z => absurd z (by decide)), rV_w w2 hm2, rV_ne (fun z => absurd z (by decide)), rV_ne (fun z => absurd z (by decide))]
  · rw [rV_ne (fun z => absurd z (by decide)), rV_ne (fun z => absurd z (by decide)), rV_w w3 hm2, rV_ne (fun z => absurd z (by decide)), rV_ne (fun z => absurd z (by decide)), rV_ne (fun z => absurd z (by decide))]
  · rw [rI_ne (fun _ => by decide), rI_eq w4 (by decide)]; omega
  · rw [rI_eq w5 (by decide)]; omega
theorem hAddM_o {p : xH} {m a b v : Int32} {r j : Nat} (h66 : r = 66 → j ≠ 5 ∧ j ≠ 4) (h68 : r ≠ 68) (h69 : r ≠ 69) (h70 : r ≠ 70) : rV (hAddM p m a b v) r j = rV p r j := by
  unfold hAddM
  rw [rV_ne (fun z => (h66 z).2), rV_ne (fun z => (h66 z).1), rV_ne (fun z => absurd z h70), rV_ne (fun z => absurd z h69), rV_ne (fun z => absurd z h68)]
theorem hAddM_rows {p : xH} {u a b v : Int32} {m : Nat} (h : hW p) (hm : u.toInt = m) (hm2 : m < 40) :
    (∀ j, rV (hAddM p u a b v) 68 j = if j = m then .int a else rV p 68 j) ∧ (∀ j, rV (hAddM p u a b v) 69 j = if j = m then .int b else rV p 69 j) ∧ (∀ j, rV (hAddM p u a b v) 70 j = if j = m then .int v else rV p 70 j) ∧ (rI (hAddM p u a b v) 66 5).toInt = m + 1 ∧ (rI (hAddM p u a b v) 66 4).toInt = m + 1 := by
  have w1 := hW_wV (v := .int a) h (r := 68) (k := m) rfl
  have w2 := hW_wV (v := .int b) w1 (r := 69) (k := m) rfl
  have w3 := hW_wV (v := .int v) w2 (r := 70) (k := m) rfl
  have w5 := hW_wV (v := .int (u + 1)) w3 (r := 66) (k := 5) rfl
  have q := i_add (show u + 1 = u + 1 from rfl) rfl (show (1 : Int32).toInt = 1 from by decide)
  have hmm : u.toInt.toNat = m := by omega
  unfold hAddM
  rw [hmm]
  refine ⟨fun j => ?_, fun j => ?_, fun j => ?_, ?_, ?_⟩
  · rw [rV_ne (fun z => absurd z (by decide)), rV_ne (fun z => absurd z (by decide)), rV_ne (fun z => absurd z (by decide)), rV_ne (fun z => absurd z (by decide)), rV_w h hm2]
  · rw [rV_ne (fun z => absurd z (by decide)), rV_ne (fun z => absurd z (by decide)), rV_ne (fun z => absurd z (by decide)), rV_w w1 hm2, rV_ne (fun z => absurd z (by decide))]
  · rw [rV_ne (fun z => absurd z (by decide)), rV_ne (fun z => absurd z (by decide)), rV_w w2 hm2, rV_ne (fun z => absurd z (by decide)), rV_ne (fun z => absurd z (by decide))]
  · rw [rI_ne (fun _ => by decide), rI_eq w3 (by decide)]; omega
  · rw [rI_eq w5 (by decide)]; omega
abbrev T_mend : List (Nat × Nat) := [(13, 8), (13, 9), (14, 9999), (15, 9999), (16, 9999), (52, 5), (52, 6), (53, 9999), (54, 9999), (55, 9999), (56, 9999), (66, 4), (66, 5), (67, 9999), (68, 9999), (69, 9999), (70, 9999)]
theorem hTl_Nt {T : List (Nat × Nat)} {p q : xH} {n : Nat} {w : Int} {v : Int32} (h : hNt T p q) (e14 : ∀ j, hF T 14 j = true) (e15 : ∀ j, hF T 15 j = true) (e16 : ∀ j, hF T 16 j = true) (e8 : hF T 13 8 = true) (e9 : hF T 13 9 = true) : hNt T p (hTl q n w v) := by
  unfold hTl
  repeat' split
  · exact h.w (e14 n)
  · exact h.w (e15 n)
  · exact h.w (e16 n)
  · exact h.w e8
  · exact h.w e9
/-- what is there behind a change, of both -/
theorem mend_fin {p q P1 qm P2 : xH} {m : Nat} {e : Nat → Nat} {x y a z v um : Int32} (hcr : C_cr p) (hch : C_ch p)
    (wq : hW q) (m1 : (rI q 52 5).toInt = m) (m2 : m < 40) (he : ∀ j, j < m → e j < (rI p 52 6).toInt.toNat)
    (q53 : ∀ j, j < m → rV q 53 j = rV p 53 (e j)) (q54 : ∀ j, j < m → rV q 54 j = rV p 54 (e j)) (q55 : ∀ j, j < m → rV q 55 j = rV p 55 (e j)) (q56 : ∀ j, j < m → rV q 56 j = rV p 56 (e j)) (nq : hNt [(52, 5), (53, 9999), (54, 9999), (55, 9999), (56, 9999)] p q)
    (eP1 : P1 = hTl (hAdd q x y z v) x.toInt.toNat y.toInt v)
    (wm : hW qm) (k1 : um.toInt = m) (q68 : ∀ j, j < m → rV qm 68 j = rV P1 68 (e j)) (q69 : ∀ j, j < m → rV qm 69 j = rV P1 69 (e j)) (q70 : ∀ j, j < m → rV qm 70 j = rV P1 70 (e j)) (nm : hNt [(66, 5), (68, 9999), (69, 9999), (70, 9999)] P1 qm)
    (eP2 : P2 = wV (hAddM qm um a z v) 67 a.toInt.toNat (.int v))
    (v1 : 0 ≤ x.toInt ∧ x.toInt < 7 ∧ 0 ≤ y.toInt ∧ y.toInt ≤ 4 ∧ (3 ≤ y.toInt → x.toInt = 0) ∧ (y.toInt = 2 → x.toInt < (rI p 13 7).toInt) ∧ a.toInt = hAt x.toInt y.toInt) : hNt T_mend p P2 ∧ C_cr P2 ∧ C_ch P2 := by
  obtain ⟨u1, u2, u3, u4, u5, u6, u7⟩ := v1
  have wa : hW (hAdd q x y z v) := hAdd_hW wq
  obtain ⟨t14, t15, t16, t8, t9, t7⟩ := hTl_rows (v := v) (n := x.toInt.toNat) (w := y.toInt) wa (by omega) u3 u4
  rw [← eP1] at t14 t15 t16 t8 t9 t7
  obtain ⟨r53, r54, r55, r56, r5, r6⟩ := hAdd_rows (n := x) (w := y) (b := z) (v := v) wq m1 m2
  obtain ⟨s68, s69, s70, s5, s4⟩ := hAddM_rows (a := a) (b := z) (v := v) wm k1 m2
  have wam : hW (hAddM qm um a z v) := hAddM_hW wm
  have ha : 0 ≤ a.toInt ∧ a.toInt ≤ 22 := by
    rw [u7]; unfold hAt
    by_cases g : y.toInt ≤ 2
    · rw [if_pos g]; omega
    · rw [if_neg g]; omega
  -- from the end to the class's end
  have d0 : ∀ r j, r ≠ 67 → rV P2 r j = rV (hAddM qm um a z v) r j := fun r j g => by rw [eP2, rV_ne (fun z => absurd z g)]
  have d1 : ∀ r j, r ≠ 67 → r ≠ 66 → r ≠ 68 → r ≠ 69 → r ≠ 70 → rV P2 r j = rV P1 r j := fun r j g1 g2 g3 g4 g5 => by
    rw [d0 r j g1, hAddM_o (fun z => absurd z g2) g3 g4 g5]
    refine nm r j ?_
    unfold hF
    rw [List.any_eq_false]
    intro f hf
    simp only [List.mem_cons, List.mem_nil_iff, or_false] at hf
    rcases hf with rfl | rfl | rfl | rfl <;> intro z <;> rw [Bool.and_eq_true] at z <;> have z1 := Nat.eq_of_beq_eq_true z.1 <;> simp only at z1 <;> omega
  have d2 : ∀ r j, r ≠ 13 → r ≠ 14 → r ≠ 15 → r ≠ 16 → rV P1 r j = rV (hAdd q x y z v) r j := fun r j g1 g2 g3 g4 => by rw [eP1]; exact hTl_o g1 g2 g3 g4
  have dq : ∀ r j, r ≠ 52 → r ≠ 53 → r ≠ 54 → r ≠ 55 → r ≠ 56 → rV (hAdd q x y z v) r j = rV p r j := fun r j g1 g2 g3 g4 g5 => by
    rw [hAdd_o g1 g2 g3 g4 g5]
    refine nq r j ?_
    unfold hF
    rw [List.any_eq_false]
    intro f hf
    simp only [List.mem_cons, List.mem_nil_iff, or_false] at hf
    rcases hf with rfl | rfl | rfl | rfl | rfl <;> intro z <;> rw [Bool.and_eq_true] at z <;> have z1 := Nat.eq_of_beq_eq_true z.1 <;> simp only at z1 <;> omega
  have i1 : ∀ r j, r ≠ 67 → r ≠ 66 → r ≠ 68 → r ≠ 69 → r ≠ 70 → rI P2 r j = rI P1 r j := fun r j g1 g2 g3 g4 g5 => rI_eqv (d1 r j g1 g2 g3 g4 g5)
  have iq : ∀ r j, r ≠ 52 → r ≠ 53 → r ≠ 54 → r ≠ 55 → r ≠ 56 → rI (hAdd q x y z v) r j = rI p r j := fun r j g1 g2 g3 g4 g5 => rI_eqv (dq r j g1 g2 g3 g4 g5)
  have i2 : ∀ r j, r ≠ 13 → r ≠ 14 → r ≠ 15 → r ≠ 16 → rI P1 r j = rI (hAdd q x y z v) r j := fun r j g1 g2 g3 g4 => rI_eqv (d2 r j g1 g2 g3 g4)
  have hs : rI P2 13 7 = rI p 13 7 := by rw [i1 13 7 (by decide) (by decide) (by decide) (by decide) (by decide), t7, iq 13 7 (by decide) (by decide) (by decide) (by decide) (by decide)]
  refine ⟨?_, ?_, ?_⟩
  · have n0 : hNt T_mend p q := nq.up (by decide)
    have n1 : hNt T_mend p (hAdd q x y z v) := (((((n0.w rfl).w rfl).w rfl).w rfl).w rfl).w rfl
    have n2 : hNt T_mend p P1 := by rw [eP1]; exact hTl_Nt n1 (fun _ => rfl) (fun _ => rfl) (fun _ => rfl) rfl rfl
    have n3 : hNt T_mend p qm := n2.trans (nm.up (by decide))
    rw [eP2]
    exact (((((n3.w rfl).w rfl).w rfl).w rfl).w rfl).w rfl
  · refine C_cr_tell hcr u1 u2 u3 u4 u5 u6 (v := v) (fun j => ?_) (fun j => ?_) (fun j => ?_) ?_ ?_ hs (fun j => ?_)
    · rw [d1 14 j (by decide) (by decide) (by decide) (by decide) (by decide), t14, dq 14 j (by decide) (by decide) (by decide) (by decide) (by decide)]
    · rw [d1 15 j (by decide) (by decide) (by decide) (by decide) (by decide), t15, dq 15 j (by decide) (by decide) (by decide) (by decide) (by decide)]
    · rw [d1 16 j (by decide) (by decide) (by decide) (by decide) (by decide), t16, dq 16 j (by decide) (by decide) (by decide) (by decide) (by decide)]
    · rw [i1 13 8 (by decide) (by decide) (by decide) (by decide) (by decide), t8, iq 13 8 (by decide) (by decide) (by decide) (by decide) (by decide)]
    · rw [i1 13 9 (by decide) (by decide) (by decide) (by decide) (by decide), t9, iq 13 9 (by decide) (by decide) (by decide) (by decide) (by decide)]
    · rw [eP2, rV_w wam (by show _ < 23; omega), u7, hAddM_o (fun z => absurd z (by decide)) (by decide) (by decide) (by decide), nm 67 j rfl, d2 67 j (by decide) (by decide) (by decide) (by decide), dq 67 j (by decide) (by decide) (by decide) (by decide) (by decide)]
  · have row : ∀ r j, r ≠ 13 → r ≠ 14 → r ≠ 15 → r ≠ 16 → r ≠ 66 → r ≠ 67 → r ≠ 68 → r ≠ 69 → r ≠ 70 → rV P2 r j = rV (hAdd q x y z v) r j := fun r j g1 g2 g3 g4 g5 g6 g7 g8 g9 => by rw [d1 r j g6 g5 g7 g8 g9, d2 r j g1 g2 g3 g4]
    have back : ∀ r j, r ≠ 13 → r ≠ 14 → r ≠ 15 → r ≠ 16 → r ≠ 52 → r ≠ 53 → r ≠ 54 → r ≠ 55 → r ≠ 56 → rV P1 r j = rV p r j := fun r j g1 g2 g3 g4 g5 g6 g7 g8 g9 => by rw [d2 r j g1 g2 g3 g4, dq r j g5 g6 g7 g8 g9]
    refine C_ch_add (m := m) (e := e) (n := x) (w := y) (a := a) (b := z) (v := v) hch he (fun j hj => ?_) (fun j hj => ?_) (fun j hj => ?_) (fun j hj => ?_) (fun j hj => ?_) (fun j hj => ?_) (fun j hj => ?_) ?_ ?_ ?_ ?_ hs ⟨u1, u2, u3, u4, u5, u6, u7⟩
    · rw [row 53 j (by decide) (by decide) (by decide) (by decide) (by decide) (by decide) (by decide) (by decide) (by decide), r53]
      by_cases g : j = m
      · rw [if_pos g, if_pos g]
      · rw [if_neg g, if_neg g, q53 j (by omega)]
    · rw [row 54 j (by decide) (by decide) (by decide) (by decide) (by decide) (by decide) (by decide) (by decide) (by decide), r54]
      by_cases g : j = m
      · rw [if_pos g, if_pos g]
      · rw [if_neg g, if_neg g, q54 j (by omega)]
    · rw [row 55 j (by decide) (by decide) (by decide) (by decide) (by decide) (by decide) (by decide) (by decide) (by decide), r55]
      by_cases g : j = m
      · rw [if_pos g, if_pos g]
      · rw [if_neg g, if_neg g, q55 j (by omega)]
    · rw [row 56 j (by decide) (by decide) (by decide) (by decide) (by decide) (by decide) (by decide) (by decide) (by decide), r56]
      by_cases g : j = m
      · rw [if_pos g, if_pos g]
      · rw [if_neg g, if_neg g, q56 j (by omega)]
    · rw [d0 68 j (by decide), s68]
      by_cases g : j = m
      · rw [if_pos g, if_pos g]
      · rw [if_neg g, if_neg g, q68 j (by omega), back 68 _ (by decide) (by decide) (by decide) (by decide) (by decide) (by decide) (by decide) (by decide) (by decide)]
    · rw [d0 69 j (by decide), s69]
      by_cases g : j = m
      · rw [if_pos g, if_pos g]
      · rw [if_neg g, if_neg g, q69 j (by omega), back 69 _ (by decide) (by decide) (by decide) (by decide) (by decide) (by decide) (by decide) (by decide) (by decide)]
    · rw [d0 70 j (by decide), s70]
      by_cases g : j = m
      · rw [if_pos g, if_pos g]
      · rw [if_neg g, if_neg g, q70 j (by omega), back 70 _ (by decide) (by decide) (by decide) (by decide) (by decide) (by decide) (by decide) (by decide) (by decide)]
    · rw [i1 52 5 (by decide) (by decide) (by decide) (by decide) (by decide), i2 52 5 (by decide) (by decide) (by decide) (by decide)]; exact r5
    · rw [i1 52 6 (by decide) (by decide) (by decide) (by decide) (by decide), i2 52 6 (by decide) (by decide) (by decide) (by decide)]; exact r6
    · rw [show rI P2 66 5 = rI (hAddM qm um a z v) 66 5 from rI_eqv (d0 66 5 (by decide))]; exact s5
    · rw [show rI P2 66 4 = rI (hAddM qm um a z v) 66 4 from rI_eqv (d0 66 4 (by decide))]; exact s4
theorem hMay_ok {s n w v : Int} (hs : s ≤ 7) (h : hMay s n w v) : 0 ≤ n ∧ n < 7 ∧ 0 ≤ w ∧ w ≤ 4 ∧ (3 ≤ w → n = 0) ∧ (w = 2 → n < s) := by
  unfold hMay at h
  omega
theorem t_mend {ro : List (List Int32)} {p : xH} (hG : GH jGG p) (hZ : C_sz p) (hcr : C_cr p) (hch : C_ch p) (a0 a1 a2 : Int32) {n m d d' : Nat} :
    hP ro n d (11, 5, 1, 1, k131) 0 (lv_args 0 [.ref 0, .int a0, .int a1, .int a2]) [] p (fun v1 p1 => hP ro m d' (12, 4, 1, 1, k190) 0 (lv_args 0 [.ref 66, .int a0, .int a1, .int a2]) [] p1 (fun v2 p2 => v1 = v2 ∧ hNt T_mend p p2 ∧ C_cr p2 ∧ C_ch p2)) := by
  have hw := hW_of hG
  have hb := gh_sz hG
  have hmd := gh_made hG
  have hZ0 : rI p 13 7 = rI p 66 6 := hZ
  obtain ⟨g1, g2, g3, g4⟩ := hch
  refine X_mend (xi := a0.toInt) (yi := a1.toInt) (vi := a2.toInt) rfl rfl rfl ?_ ?_ ?_ ?_
  · intro h1
    rw [hZ0] at h1
    refine M_mend (xi := a0.toInt) (yi := a1.toInt) (vi := a2.toInt) rfl rfl rfl (by rw [← hZ0]; exact hb.1) (by rw [← hZ0]; exact hb.2) ?_ ?_ ?_ ?_
    · intro h2; exact ⟨rfl, hNt.refl _ _, hcr, g1, g2, g3, g4⟩
    · intro a z h2; exact absurd h2 h1
    · intro a z p2 h2; exact absurd h2 h1
    · intro a z q1 u q p2 h2; exact absurd h2 h1
  · intro z h1 hz h2
    have ok := hMay_ok hb.2 h1
    have e1 := hTd_eq hcr ok.1 ok.2.1 ok.2.2.1 ok.2.2.2.1 ok.2.2.2.2.1
    rw [hZ0] at h1
    refine M_mend (xi := a0.toInt) (yi := a1.toInt) (vi := a2.toInt) rfl rfl rfl (by rw [← hZ0]; exact hb.1) (by rw [← hZ0]; exact hb.2) ?_ ?_ ?_ ?_
    · intro h3; exact absurd h1 h3
    · intro a z2 h3 ha hz2 h4
      exact ⟨by rw [hz, e1, hz2, ha], hNt.refl _ _, hcr, g1, g2, g3, g4⟩
    · intro a z2 p2 h3 ha hz2 h4
      exact absurd (by rw [hz2, ha, ← e1, ← hz]; exact h2) h4
    · intro a z2 q1 u q p2 h3 ha hz2 h4
      exact absurd (by rw [hz2, ha, ← e1, ← hz]; exact h2) h4
  · intro z p1 h1 hz h2 hlt ep
    have ok := hMay_ok hb.2 h1
    have e1 := hTd_eq hcr ok.1 ok.2.1 ok.2.2.1 ok.2.2.2.1 ok.2.2.2.2.1
    have dn : ∀ r j, r ≠ 13 → r ≠ 14 → r ≠ 15 → r ≠ 16 → r ≠ 52 → r ≠ 53 → r ≠ 54 → r ≠ 55 → r ≠ 56 → rI p1 r j = rI p r j := fun r j x1 x2 x3 x4 x5 x6 x7 x8 x9 => rI_eqv (by rw [ep, hTl_o x1 x2 x3 x4, hAdd_o x5 x6 x7 x8 x9])
    have f6 : rI p1 66 6 = rI p 13 7 := by rw [dn 66 6 (by decide) (by decide) (by decide) (by decide) (by decide) (by decide) (by decide) (by decide) (by decide), hZ0]
    have f5 : rI p1 66 5 = rI p 52 5 := by rw [dn 66 5 (by decide) (by decide) (by decide) (by decide) (by decide) (by decide) (by decide) (by decide) (by decide), g1]
    have f67 : ∀ j, rI p1 67 j = rI p 67 j := fun j => dn 67 j (by decide) (by decide) (by decide) (by decide) (by decide) (by decide) (by decide) (by decide) (by decide)
    refine hp_hw (fun wp1 => ?_)
    refine M_mend (xi := a0.toInt) (yi := a1.toInt) (vi := a2.toInt) rfl rfl rfl (by rw [f6]; exact hb.1) (by rw [f6]; exact hb.2) ?_ ?_ ?_ ?_
    · intro h3; rw [f6] at h3; exact absurd h1 h3
    · intro a z2 h3 ha hz2 h4
      exact absurd h4 (by rw [hz2, f67, ha, ← e1, ← hz]; exact h2)
    · intro a z2 p2 h3 ha hz2 h4 h5 ep2
      have ez : z2 = z := by rw [hz2, f67, ha, ← e1, ← hz]
      subst ez
      have hm0 : (rI p 52 5).toInt = ((rI p 52 5).toInt.toNat : Nat) := by omega
      refine ⟨rfl, mend_fin (m := (rI p 52 5).toInt.toNat) (e := fun j => j) hcr ⟨g1, g2, g3, g4⟩ hw hm0 (by omega) (fun j hj => by omega) (fun j _ => rfl) (fun j _ => rfl) (fun j _ => rfl) (fun j _ => rfl) (hNt.refl _ _) ep wp1 (by rw [f5]; exact hm0) (fun j _ => rfl) (fun j _ => rfl) (fun j _ => rfl) (hNt.refl _ _) ep2 ⟨ok.1, ok.2.1, ok.2.2.1, ok.2.2.2.1, ok.2.2.2.2.1, ok.2.2.2.2.2, ha⟩⟩
    · intro a z2 q1 u q p2 h3 ha hz2 h4 h5
      rw [f5] at h5
      exfalso; omega
  · intro z s1 q p1 h1 hz h2 hge hdn ws1 eq ep
    obtain ⟨n1, d53, d54, d55, d56⟩ := hdn
    have ok := hMay_ok hb.2 h1
    have e1 := hTd_eq hcr ok.1 ok.2.1 ok.2.2.1 ok.2.2.2.1 ok.2.2.2.2.1
    have nq : hNt [(52, 5), (53, 9999), (54, 9999), (55, 9999), (56, 9999)] p q := by rw [eq]; exact (n1.up (by decide)).w rfl
    have wq : hW q := by rw [eq]; exact hW_wV ws1 rfl
    have m39 : (rI q 52 5).toInt = (39 : Nat) := by rw [eq, rI_eq ws1 (by decide)]; decide
    have dn : ∀ r j, r ≠ 13 → r ≠ 14 → r ≠ 15 → r ≠ 16 → r ≠ 52 → r ≠ 53 → r ≠ 54 → r ≠ 55 → r ≠ 56 → rI p1 r j = rI q r j := fun r j x1 x2 x3 x4 x5 x6 x7 x8 x9 => rI_eqv (by rw [ep, hTl_o x1 x2 x3 x4, hAdd_o x5 x6 x7 x8 x9])
    have f6 : rI p1 66 6 = rI p 13 7 := by rw [dn 66 6 (by decide) (by decide) (by decide) (by decide) (by decide) (by decide) (by decide) (by decide) (by decide), nq.int rfl, hZ0]
    have f5 : rI p1 66 5 = rI p 52 5 := by rw [dn 66 5 (by decide) (by decide) (by decide) (by decide) (by decide) (by decide) (by decide) (by decide) (by decide), nq.int rfl, g1]
    have f67 : ∀ j, rI p1 67 j = rI p 67 j := fun j => by rw [dn 67 j (by decide) (by decide) (by decide) (by decide) (by decide) (by decide) (by decide) (by decide) (by decide)]; exact nq.int rfl
    refine M_mend (xi := a0.toInt) (yi := a1.toInt) (vi := a2.toInt) rfl rfl rfl (by rw [f6]; exact hb.1) (by rw [f6]; exact hb.2) ?_ ?_ ?_ ?_
    · intro h3; rw [f6] at h3; exact absurd h1 h3
    · intro a z2 h3 ha hz2 h4
      exact absurd h4 (by rw [hz2, f67, ha, ← e1, ← hz]; exact h2)
    · intro a z2 p2 h3 ha hz2 h4 h5
      rw [f5] at h5
      exfalso; omega
    · intro a z2 t1 u qm p2 h3 ha hz2 h4 h5 hdm wt1 hu eqm ep2
      obtain ⟨nm1, d68, d69, d70⟩ := hdm
      have ez : z2 = z := by rw [hz2, f67, ha, ← e1, ← hz]
      subst ez
      have nm : hNt [(66, 5), (68, 9999), (69, 9999), (70, 9999)] p1 qm := by rw [eqm]; exact (nm1.up (by decide)).w rfl
      have wqm : hW qm := by rw [eqm]; exact hW_wV wt1 rfl
      have k39 : u.toInt = (39 : Nat) := by
        have i := i_sub hu (show (rI t1 66 5).toInt = (rI p 52 5).toInt by rw [nm1.int rfl, f5]) (show (1 : Int32).toInt = 1 from by decide)
        omega
      have row : ∀ r, r ≠ 52 → ∀ j, rV q r j = rV s1 r j := fun r hr j => by rw [eq, rV_ne (fun z => absurd z hr)]
      have rom : ∀ r, r ≠ 66 → ∀ j, rV qm r j = rV t1 r j := fun r hr j => by rw [eqm, rV_ne (fun z => absurd z hr)]
      refine ⟨rfl, mend_fin (m := 39) (e := fun j => j + 1) hcr ⟨g1, g2, g3, g4⟩ wq m39 (by decide) (fun j hj => by omega) (fun j hj => ?_) (fun j hj => ?_) (fun j hj => ?_) (fun j hj => ?_) nq ep wqm k39 (fun j hj => ?_) (fun j hj => ?_) (fun j hj => ?_) nm ep2 ⟨ok.1, ok.2.1, ok.2.2.1, ok.2.2.2.1, ok.2.2.2.2.1, ok.2.2.2.2.2, ha⟩⟩
      · rw [row 53 (by decide), d53 j, if_pos (by omega)]
      · rw [row 54 (by decide), d54 j, if_pos (by omega)]
      · rw [row 55 (by decide), d55 j, if_pos (by omega)]
      · rw [row 56 (by decide), d56 j, if_pos (by omega)]
      · rw [rom 68 (by decide), d68 j, if_pos (by omega)]
      · rw [rom 69 (by decide), d69 j, if_pos (by omega)]
      · rw [rom 70 (by decide), d70 j, if_pos (by omega)]
theorem told_fin {p P1 P2 : xH} {k : Nat} {v : Int32} (hcr : C_cr p) (hch : C_ch p) (hk : hOkc p k)
    (nX : hNt [(52, 5), (13, 8), (13, 9), (14, 9999), (15, 9999), (16, 9999)] p P1) (nM : hNt [(66, 5), (67, 9999)] P1 P2)
    (t14 : ∀ j, rV P1 14 j = if (rI p 54 k).toInt = 0 ∧ j = (rI p 53 k).toInt.toNat then .int v else rV p 14 j) (t15 : ∀ j, rV P1 15 j = if (rI p 54 k).toInt = 1 ∧ j = (rI p 53 k).toInt.toNat then .int v else rV p 15 j) (t16 : ∀ j, rV P1 16 j = if (rI p 54 k).toInt = 2 ∧ j = (rI p 53 k).toInt.toNat then .int v else rV p 16 j) (t8 : rI P1 13 8 = if (rI p 54 k).toInt = 3 then v else rI p 13 8) (t9 : rI P1 13 9 = if (rI p 54 k).toInt = 4 then v else rI p 13 9)
    (t67 : ∀ j, rV P2 67 j = if j = (rI p 68 k).toInt.toNat then .int v else rV P1 67 j) (h5 : rI P2 52 5 = rI P2 66 5) (h6 : (rI P2 52 5).toInt ≤ (rI p 52 6).toInt) : hNt T_mend p P2 ∧ C_cr P2 ∧ C_ch P2 := by
  obtain ⟨u1, u2, u3, u4, u5, u6, u7, -, -⟩ := hk
  obtain ⟨g1, g2, g3, g4⟩ := hch
  have all : hNt T_mend p P2 := (nX.up (by decide)).trans (nM.up (by decide))
  refine ⟨all, ?_, h5, ?_, ?_, fun j hj => ?_⟩
  · refine C_cr_tell hcr u1 u2 u3 u4 u5 u6 (v := v) (fun j => ?_) (fun j => ?_) (fun j => ?_) ?_ ?_ ?_ (fun j => ?_)
    · rw [nM 14 j rfl, t14]
    · rw [nM 15 j rfl, t15]
    · rw [nM 16 j rfl, t16]
    · rw [nM.int rfl, t8]
    · rw [nM.int rfl, t9]
    · rw [nM.int rfl, nX.int rfl]
    · rw [t67, u7, nX 67 j rfl]
  · rw [nM.int (r := 52) (k := 6) rfl, nX.int (r := 52) (k := 6) rfl, nM.int (r := 66) (k := 4) rfl, nX.int (r := 66) (k := 4) rfl]; exact g2
  · rw [nM.int (r := 52) (k := 6) rfl, nX.int (r := 52) (k := 6) rfl]; exact h6
  · rw [nM.int (r := 52) (k := 6) rfl, nX.int (r := 52) (k := 6) rfl] at hj
    have := g4 j hj
    unfold hOkc at this ⊢
    rw [nM.int (r := 53) rfl, nX.int (r := 53) rfl, nM.int (r := 54) rfl, nX.int (r := 54) rfl, nM.int (r := 68) rfl, nX.int (r := 68) rfl, nM.int (r := 13) (k := 7) rfl, nX.int (r := 13) (k := 7) rfl, nM 55 j rfl, nX 55 j rfl, nM 56 j rfl, nX 56 j rfl, nM 69 j rfl, nX 69 j rfl, nM 70 j rfl, nX 70 j rfl]
    exact this
theorem gh_54 {p : xH} (h : GH jGG p) (k : Nat) : 0 ≤ (rI p 54 k).toInt ∧ (rI p 54 k).toInt ≤ 4 := gh_any h (r := 54) rfl (by decide) (by decide) k
theorem t_undo {ro : List (List Int32)} {p : xH} (hG : GH jGG p) (hcr : C_cr p) (hch : C_ch p) {n m d d' : Nat} :
    hP ro n d (11, 1, 1, 1, k160) 0 (lv_args 0 [.ref 0]) [] p (fun v1 p1 => hP ro m d' (12, 1, 1, 1, k179) 0 (lv_args 0 [.ref 66]) [] p1 (fun v2 p2 => v1 = v2 ∧ hNt T_mend p p2 ∧ C_cr p2 ∧ C_ch p2)) := by
  have hw := hW_of hG
  have hmd := gh_made hG
  have g := hch
  obtain ⟨g1, g2, g3, g4⟩ := g
  refine X_undo (fun j => gh_54 hG j) ?_ ?_
  · intro h1
    refine M_undo ?_ ?_
    · intro h2; exact ⟨rfl, hNt.refl _ _, hcr, hch⟩
    · intro z q p2 h2; rw [← g1] at h2; exfalso; omega
  · intro z q p1 y h1 hz eq ep hy
    have iz := i_sub hz rfl (show (1 : Int32).toInt = 1 from by decide)
    have hk := g4 z.toInt.toNat (by omega)
    have hk0 := hk
    obtain ⟨u1, u2, u3, u4, u5, u6, u7, u8, u9⟩ := hk0
    have wq : hW q := by rw [eq]; exact hW_wV hw rfl
    have sm : ∀ r j, r ≠ 52 → rV q r j = rV p r j := fun r j hr => by rw [eq, rV_ne (fun z => absurd z hr)]
    obtain ⟨t14, t15, t16, t8, t9, t7⟩ := hTl_rows (v := rI p 55 z.toInt.toNat) (n := (rI p 53 z.toInt.toNat).toInt.toNat) (w := (rI p 54 z.toInt.toNat).toInt) wq (by omega) u3 u4
    rw [← ep] at t14 t15 t16 t8 t9 t7
    have nX : hNt [(52, 5), (13, 8), (13, 9), (14, 9999), (15, 9999), (16, 9999)] p p1 := by
      rw [ep]
      exact hTl_Nt (by rw [eq]; exact (hNt.refl _ _).w rfl) (fun _ => rfl) (fun _ => rfl) (fun _ => rfl) rfl rfl
    have e5 : rI p1 52 5 = z := by rw [show rI p1 52 5 = rI q 52 5 from rI_eqv (by rw [ep]; exact hTl_o (by decide) (by decide) (by decide) (by decide)), eq, rI_eq hw (by decide)]
    have f5 : rI p1 66 5 = rI p 52 5 := by rw [nX.int rfl, g1]
    refine hp_hw (fun wp1 => ?_)
    refine M_undo ?_ ?_
    · intro h2; rw [f5] at h2; exfalso; omega
    · intro z2 qm p2 h2 hz2 eqm ep2
      have ez : z2 = z := by rw [hz2, f5, hz]
      subst ez
      rw [nX.int (r := 68) rfl, nX.int (r := 69) rfl] at ep2
      have e69 : rI p 69 z2.toInt.toNat = rI p 55 z2.toInt.toNat := (rI_eqv u8).symm
      rw [e69] at ep2
      have wqm : hW qm := by rw [eqm]; exact hW_wV wp1 rfl
      have nM : hNt [(66, 5), (67, 9999)] p1 p2 := by rw [ep2, eqm]; exact ((hNt.refl _ _).w rfl).w rfl
      have a67 : (rI p 68 z2.toInt.toNat).toInt.toNat < 23 := by
        rw [u7]; unfold hAt
        by_cases q : (rI p 54 z2.toInt.toNat).toInt ≤ 2
        · rw [if_pos q]; omega
        · rw [if_neg q]; omega
      have f52 : rI p2 52 5 = z2 := by rw [nM.int rfl, e5]
      have f66 : rI p2 66 5 = z2 := by rw [ep2, rI_o (by decide), eqm, rI_eq wp1 (by decide)]
      obtain ⟨r1, r2, r3⟩ := told_fin (v := rI p 55 z2.toInt.toNat) hcr hch hk nX nM (fun j => by rw [t14, sm 14 j (by decide)]) (fun j => by rw [t15, sm 15 j (by decide)]) (fun j => by rw [t16, sm 16 j (by decide)]) (by rw [t8, show rI q 13 8 = rI p 13 8 from rI_eqv (sm 13 8 (by decide))]) (by rw [t9, show rI q 13 9 = rI p 13 9 from rI_eqv (sm 13 9 (by decide))]) (fun j => by rw [ep2, rV_w wqm a67, eqm, rV_ne (fun z => absurd z (by decide))]) (by rw [f52, f66]) (by rw [f52]; omega)
      exact ⟨by rw [hy, e5], r1, r2, r3⟩
theorem gh_all {p : xH} (h : GH jGG p) : 0 ≤ (rI p 52 6).toInt ∧ (rI p 52 6).toInt ≤ 40 := gh_fld h (r := 52) (k := 6) rfl rfl
theorem t_redo {ro : List (List Int32)} {p : xH} (hG : GH jGG p) (hcr : C_cr p) (hch : C_ch p) {n m d d' : Nat} :
    hP ro n d (11, 1, 1, 1, k161) 0 (lv_args 0 [.ref 0]) [] p (fun v1 p1 => hP ro m d' (12, 1, 1, 1, k180) 0 (lv_args 0 [.ref 66]) [] p1 (fun v2 p2 => v1 = v2 ∧ hNt T_mend p p2 ∧ C_cr p2 ∧ C_ch p2)) := by
  have hw := hW_of hG
  have hmd := gh_made hG
  have hal := gh_all hG
  have g := hch
  obtain ⟨g1, g2, g3, g4⟩ := g
  refine X_redo (fun j => gh_54 hG j) ?_ ?_
  · intro h1
    refine M_redo ?_ ?_
    · intro h2; exact ⟨rfl, hNt.refl _ _, hcr, hch⟩
    · intro q p2 y h2; rw [← g1, ← g2] at h2; exfalso; omega
  · intro q p1 y h1 eq ep hy
    have hk := g4 (rI p 52 5).toInt.toNat (by omega)
    have hk0 := hk
    obtain ⟨u1, u2, u3, u4, u5, u6, u7, u8, u9⟩ := hk0
    obtain ⟨t14, t15, t16, t8, t9, t7⟩ := hTl_rows (v := rI p 56 (rI p 52 5).toInt.toNat) (n := (rI p 53 (rI p 52 5).toInt.toNat).toInt.toNat) (w := (rI p 54 (rI p 52 5).toInt.toNat).toInt) hw (by omega) u3 u4
    rw [← eq] at t14 t15 t16 t8 t9 t7
    have nq : hNt [(52, 5), (13, 8), (13, 9), (14, 9999), (15, 9999), (16, 9999)] p q := by
      rw [eq]
      exact hTl_Nt (hNt.refl _ _) (fun _ => rfl) (fun _ => rfl) (fun _ => rfl) rfl rfl
    have nX : hNt [(52, 5), (13, 8), (13, 9), (14, 9999), (15, 9999), (16, 9999)] p p1 := by rw [ep]; exact nq.w rfl
    have c5 : rI q 52 5 = rI p 52 5 := rI_eqv (by rw [eq]; exact hTl_o (by decide) (by decide) (by decide) (by decide))
    have c6 : rI q 52 6 = rI p 52 6 := rI_eqv (by rw [eq]; exact hTl_o (by decide) (by decide) (by decide) (by decide))
    have sm : ∀ r j, r ≠ 52 → rV p1 r j = rV q r j := fun r j hr => by rw [ep, rV_ne (fun z => absurd z hr)]
    have wq : hW q := by
      rw [eq]; unfold hTl
      repeat' split
      all_goals exact hW_wV hw rfl
    have f5 : rI p1 66 5 = rI p 52 5 := by rw [nX.int rfl, g1]
    have f4 : rI p1 66 4 = rI p 52 6 := by rw [nX.int rfl, g2]
    have e5 : rI p1 52 5 = rI p 52 5 + 1 := by rw [ep, rI_eq wq (by decide), c5]
    have i5 := i_add e5 rfl (show (1 : Int32).toInt = 1 from by decide)
    refine hp_hw (fun wp1 => ?_)
    refine M_redo ?_ ?_
    · intro h2; rw [f5, f4] at h2; exfalso; omega
    · intro qm p2 y2 h2 eqm ep2 hy2
      rw [f5, nX.int (r := 68) rfl, nX.int (r := 70) rfl] at eqm
      have e70 : rI p 70 (rI p 52 5).toInt.toNat = rI p 56 (rI p 52 5).toInt.toNat := (rI_eqv u9).symm
      rw [e70] at eqm
      have wqm : hW qm := by rw [eqm]; exact hW_wV wp1 rfl
      have nM : hNt [(66, 5), (67, 9999)] p1 p2 := by rw [ep2, eqm]; exact ((hNt.refl _ _).w rfl).w rfl
      have a67 : (rI p 68 (rI p 52 5).toInt.toNat).toInt.toNat < 23 := by
        rw [u7]; unfold hAt
        by_cases q : (rI p 54 (rI p 52 5).toInt.toNat).toInt ≤ 2
        · rw [if_pos q]; omega
        · rw [if_neg q]; omega
      have f52 : rI p2 52 5 = rI p 52 5 + 1 := by rw [nM.int rfl, e5]
      have f66 : rI p2 66 5 = rI p 52 5 + 1 := by rw [ep2, rI_eq wqm (by decide), f5]
      obtain ⟨r1, r2, r3⟩ := told_fin (v := rI p 56 (rI p 52 5).toInt.toNat) hcr hch hk nX nM (fun j => by rw [sm 14 j (by decide), t14]) (fun j => by rw [sm 15 j (by decide), t15]) (fun j => by rw [sm 16 j (by decide), t16]) (by rw [show rI p1 13 8 = rI q 13 8 from rI_eqv (sm 13 8 (by decide)), t8]) (by rw [show rI p1 13 9 = rI q 13 9 from rI_eqv (sm 13 9 (by decide)), t9]) (fun j => by rw [ep2, rV_ne (fun z => absurd z (by decide)), eqm, rV_w wp1 a67]) (by rw [f52, f66]) (by rw [f52, ← e5]; omega)
      exact ⟨by rw [hy, hy2, c6, c5, f4, f5], r1, r2, r3⟩
