/-! contracts of methods, walked -/
/-- the text's letters, as the reference sees them -/
def fM (p : xH) (j : Nat) : Int := if (j : Int) < (rI p 66 17).toInt then (if (rI p 66 15).toInt < 0 then (rI p 75 j).toInt else (rI p 76 j).toInt) else -1
def nM (p : xH) (k : Int) : Int32 := rI p 77 k.toNat
abbrev T_m : List (Nat × Nat) := [(66, 16), (66, 18), (66, 19)]
theorem fM_nt {p p2 : xH} (h : hNt T_m p p2) : fM p2 = fM p := by
  funext j
  unfold fM
  rw [h.int (r := 66) (k := 17) rfl, h.int (r := 66) (k := 15) rfl, h.int (r := 75) rfl, h.int (r := 76) rfl]
theorem nM_nt {p p2 : xH} (h : hNt T_m p p2) : nM p2 = nM p := by
  funext j
  unfold nM
  rw [h.int (r := 77) rfl]
theorem fM_end {p : xH} {j : Nat} (h : (rI p 66 17).toInt ≤ j) : fM p j = -1 := by unfold fM; rw [if_neg (by omega)]
theorem fM_in {p : xH} {j : Nat} (h : fM p j ≠ -1) : (j : Int) < (rI p 66 17).toInt := by
  rcases Int.lt_or_le (j : Int) (rI p 66 17).toInt with z | z
  · exact z
  · exact absurd (fM_end z) h
/-- the reference may go on here -/
def hMp (p : xH) : Prop := -1 ≤ (rI p 66 15).toInt ∧ (rI p 66 15).toInt ≤ 0 ∧ -1 ≤ (rI p 66 18).toInt ∧ (0 ≤ (rI p 66 18).toInt ∨ 0 ≤ (rI p 66 16).toInt ∧ (rI p 66 16).toInt ≤ (rI p 66 17).toInt ∧ (rI p 66 17).toInt ≤ 120 ∧ 0 ≤ (rI p 66 19).toInt ∧ (rI p 66 19).toInt ≤ 6)
/-- what one piece comes to -/
def MO (l : Nat) (p p2 : xH) (v : Int32) : Prop := hNt T_m p p2 ∧ ((0 ≤ (rI p 66 18).toInt ∧ (rI p2 66 18).toInt = (rI p 66 18).toInt) ∨ ((rI p 66 18).toInt = -1 ∧ (rI p2 66 18).toInt = -1 ∧ (rI p2 66 19).toInt = (rI p 66 19).toInt ∧ ∃ e b, yP (fM p) l none ((rI p 66 19).toInt).toNat ((rI p 66 16).toInt.toNat) (some e, b) ∧ (rI p2 66 16).toInt = b ∧ (rI p 66 16).toInt.toNat ≤ b ∧ (b : Int) ≤ (rI p 66 17).toInt ∧ lV (nM p) e v) ∨ ((rI p 66 18).toInt = -1 ∧ ∃ b, yP (fM p) l none ((rI p 66 19).toInt).toNat ((rI p 66 16).toInt.toNat) (none, b) ∧ (rI p2 66 18).toInt = b))
/-- on the way through a row of pieces -/
def ML (l : Nat) (p p2 : xH) (v : Int32) : Prop := hNt T_m p p2 ∧ ((0 ≤ (rI p 66 18).toInt ∧ (rI p2 66 18).toInt = (rI p 66 18).toInt) ∨ ((rI p 66 18).toInt = -1 ∧ (rI p2 66 18).toInt = -1 ∧ (rI p2 66 19).toInt = (rI p 66 19).toInt ∧ ∃ e b, (∀ r, yP (fM p) l (some e) ((rI p 66 19).toInt).toNat b r → yP (fM p) l none ((rI p 66 19).toInt).toNat ((rI p 66 16).toInt.toNat) r) ∧ (rI p2 66 16).toInt = b ∧ (rI p 66 16).toInt.toNat ≤ b ∧ (b : Int) ≤ (rI p 66 17).toInt ∧ lV (nM p) e v) ∨ ((rI p 66 18).toInt = -1 ∧ ∃ b, yP (fM p) l none ((rI p 66 19).toInt).toNat ((rI p 66 16).toInt.toNat) (none, b) ∧ (rI p2 66 18).toInt = b))
theorem hMp_of {p p2 : xH} (h : hMp p) (n : hNt T_m p p2) (k : (0 ≤ (rI p2 66 18).toInt) ∨ ((rI p2 66 18).toInt = -1 ∧ (rI p 66 18).toInt = -1 ∧ (rI p2 66 19).toInt = (rI p 66 19).toInt ∧ ∃ b : Nat, (rI p2 66 16).toInt = b ∧ (b : Int) ≤ (rI p 66 17).toInt)) : hMp p2 := by
  obtain ⟨h1, h2, h3, h4⟩ := h
  unfold hMp
  rw [n.int (r := 66) (k := 15) rfl, n.int (r := 66) (k := 17) rfl]
  rcases k with k | ⟨k1, k2, k3, b, k4, k5⟩
  · exact ⟨h1, h2, by omega, Or.inl k⟩
  · exact ⟨h1, h2, by omega, Or.inr (by omega)⟩
theorem MO_p {l : Nat} {p p2 : xH} {v : Int32} (h : hMp p) (g : MO l p p2 v) : hMp p2 := by
  obtain ⟨g1, g2⟩ := g
  rcases g2 with ⟨a1, a2⟩ | ⟨a1, a2, a3, e, b, a4, a5, a6, a7, a8⟩ | ⟨a1, b, a2, a3⟩
  · exact hMp_of h g1 (Or.inl (by omega))
  · exact hMp_of h g1 (Or.inr ⟨a2, a1, a3, b, a5, a7⟩)
  · exact hMp_of h g1 (Or.inl (by omega))
theorem ML_p {l : Nat} {p p2 : xH} {v : Int32} (h : hMp p) (g : ML l p p2 v) : hMp p2 := by
  obtain ⟨g1, g2⟩ := g
  rcases g2 with ⟨a1, a2⟩ | ⟨a1, a2, a3, e, b, a4, a5, a6, a7, a8⟩ | ⟨a1, b, a2, a3⟩
  · exact hMp_of h g1 (Or.inl (by omega))
  · exact hMp_of h g1 (Or.inr ⟨a2, a1, a3, b, a5, a7⟩)
  · exact hMp_of h g1 (Or.inl (by omega))
theorem ML_in {l : Nat} {p p2 : xH} {v : Int32} (hl : l ≤ 4) (h2 : l ≠ 2) (g : MO (l + 1) p p2 v) : ML l p p2 v := by
  obtain ⟨g1, g2⟩ := g
  refine ⟨g1, ?_⟩
  rcases g2 with a | ⟨a1, a2, a3, e, b, a4, a5⟩ | ⟨a1, b, a2, a3⟩
  · exact Or.inl a
  · exact Or.inr (Or.inl ⟨a1, a2, a3, e, b, fun r h => yP_lo hl h2 a4 h, a5⟩)
  · exact Or.inr (Or.inr ⟨a1, b, yP_lb hl a2, a3⟩)
theorem ML_out {l : Nat} {p p2 : xH} {v : Int32} (g : ML l p p2 v) (hn : 0 ≤ (rI p2 66 18).toInt ∨ ¬ lop l (fM p2 ((rI p2 66 16).toInt.toNat))) : MO l p p2 v := by
  obtain ⟨g1, g2⟩ := g
  refine ⟨g1, ?_⟩
  rw [fM_nt g1] at hn
  rcases g2 with a | ⟨a1, a2, a3, e, b, a4, a5, a6⟩ | a
  · exact Or.inl a
  · refine Or.inr (Or.inl ⟨a1, a2, a3, e, b, a4 _ (yP_le ?_), a5, a6⟩)
    rcases hn with hn | hn
    · omega
    · rw [show (rI p2 66 16).toInt.toNat = b from i_to a5] at hn; exact hn
  · exact Or.inr (Or.inr a)
/-- a sign is passed -/
def Mat (p p2 : xH) : Prop := ∃ z : Int32, z.toInt = (rI p 66 16).toInt + 1 ∧ p2 = wV p 66 16 (.int z)
theorem Mat_nt {p p2 : xH} (h : Mat p p2) : hNt T_m p p2 := by
  obtain ⟨z, hz, e⟩ := h
  rw [e]
  exact (hNt.refl _ _).w rfl
theorem Mat_r {p p2 : xH} (hw : hW p) (h : Mat p p2) : (rI p2 66 16).toInt = (rI p 66 16).toInt + 1 ∧ (rI p2 66 18).toInt = (rI p 66 18).toInt ∧ (rI p2 66 19).toInt = (rI p 66 19).toInt := by
  obtain ⟨z, hz, e⟩ := h
  refine ⟨by rw [e, rI_eq hw (by decide), hz], ?_, ?_⟩
  · show (rI p2 66 18).toInt = (rI p 66 18).toInt; rw [e, rI_ne (fun _ => by decide)]
  · show (rI p2 66 19).toInt = (rI p 66 19).toInt; rw [e, rI_ne (fun _ => by decide)]
theorem Mat_p {p p2 : xH} (hw : hW p) (h : Mat p p2) (hm : hMp p) (hc : 0 ≤ (rI p 66 18).toInt ∨ fM p ((rI p 66 16).toInt.toNat) ≠ -1) : hMp p2 := by
  obtain ⟨r1, r2, r3⟩ := Mat_r hw h
  refine hMp_of hm (Mat_nt h) ?_
  rcases hc with hc | hc
  · exact Or.inl (by omega)
  · have := fM_in hc
    obtain ⟨h1, h2, h3, h4⟩ := hm
    rcases Int.lt_or_le ((rI p 66 18).toInt) 0 with z | z
    · exact Or.inr ⟨by omega, by omega, r3, (rI p2 66 16).toInt.toNat, by omega, by omega⟩
    · exact Or.inl (by omega)
theorem ML_go {l : Nat} {p0 p p1 p2 : xH} {v w u : Int32} (h0 : hMp p0) (hw : hW p) (g : ML l p0 p v) (hF : (rI p 66 18).toInt < 0) (hc : lop l (fM p ((rI p 66 16).toInt.toNat))) (h1 : Mat p p1) (k : MO (l + 1) p1 p2 w) (hu : u = ljo (fM p ((rI p 66 16).toInt.toNat)) v w) : ML l p0 p2 u := by
  obtain ⟨g1, g2⟩ := g
  obtain ⟨r1, r2, r3⟩ := Mat_r hw h1
  obtain ⟨k1, k2⟩ := k
  have n1 := Mat_nt h1
  refine ⟨(g1.trans n1).trans k1, ?_⟩
  rw [fM_nt g1] at hc hu
  rcases g2 with ⟨a1, a2⟩ | ⟨a1, a2, a3, e, b, a4, a5, a6, a7, a8⟩ | ⟨a1, b, a2, a3⟩
  · exact Or.inl ⟨a1, by omega⟩
  · have hb : (rI p 66 16).toInt.toNat = b := i_to a5
    rw [hb] at hc hu
    have hb1 : (rI p1 66 16).toInt.toNat = b + 1 := by show (rI p1 66 16).toInt.toNat = b + 1; omega
    rw [fM_nt n1, fM_nt g1, nM_nt n1, nM_nt g1, hb1, show (rI p1 66 19).toInt = (rI p0 66 19).toInt by omega] at k2
    rcases k2 with ⟨c1, c2⟩ | ⟨c1, c2, c3, e2, b2, c4, c5, c6, c7, c8⟩ | ⟨c1, b2, c2, c3⟩
    · exfalso; omega
    · refine Or.inr (Or.inl ⟨a1, c2, c3, e ++ e2 ++ [(fM p0 b, 0)], b2, fun r hr => a4 r (yP_lm hc c4 hr), c5, by omega, ?_, lV_bin hc a8 c8 hu⟩)
      rw [n1.int (r := 66) (k := 17) rfl, g1.int (r := 66) (k := 17) rfl] at c7
      exact c7
    · exact Or.inr (Or.inr ⟨a1, b2, a4 _ (yP_lx hc c2), c3⟩)
  · exact Or.inr (Or.inr ⟨a1, b, a2, by omega⟩)
theorem MC_no {p p2 : xH} {v : Int32} (g : MO 3 p p2 v) (hn : 0 ≤ (rI p2 66 18).toInt ∨ ¬ lop 2 (fM p2 ((rI p2 66 16).toInt.toNat))) : MO 2 p p2 v := by
  obtain ⟨g1, g2⟩ := g
  refine ⟨g1, ?_⟩
  rw [fM_nt g1] at hn
  rcases g2 with a | ⟨a1, a2, a3, e, b, a4, a5, a6⟩ | ⟨a1, b, a2, a3⟩
  · exact Or.inl a
  · refine Or.inr (Or.inl ⟨a1, a2, a3, e, b, yP_c1 a4 ?_, a5, a6⟩)
    rcases hn with hn | hn
    · omega
    · rw [show (rI p2 66 16).toInt.toNat = b from i_to a5] at hn; exact hn
  · exact Or.inr (Or.inr ⟨a1, b, yP_lb (by decide) a2, a3⟩)
theorem MC_go {p0 p p1 p2 : xH} {v w u : Int32} (hw : hW p) (g : MO 3 p0 p v) (hF : (rI p 66 18).toInt < 0) (hc : lop 2 (fM p ((rI p 66 16).toInt.toNat))) (h1 : Mat p p1) (k : MO 3 p1 p2 w) (hu : u = ljo (fM p ((rI p 66 16).toInt.toNat)) v w) : MO 2 p0 p2 u := by
  obtain ⟨g1, g2⟩ := g
  obtain ⟨r1, r2, r3⟩ := Mat_r hw h1
  obtain ⟨k1, k2⟩ := k
  have n1 := Mat_nt h1
  refine ⟨(g1.trans n1).trans k1, ?_⟩
  rw [fM_nt g1] at hc hu
  rcases g2 with ⟨a1, a2⟩ | ⟨a1, a2, a3, e, b, a4, a5, a6, a7, a8⟩ | ⟨a1, b, a2, a3⟩
  · exact Or.inl ⟨a1, by omega⟩
  · have hb : (rI p 66 16).toInt.toNat = b := i_to a5
    rw [hb] at hc hu
    have hb1 : (rI p1 66 16).toInt.toNat = b + 1 := by show (rI p1 66 16).toInt.toNat = b + 1; omega
    rw [fM_nt n1, fM_nt g1, nM_nt n1, nM_nt g1, hb1, show (rI p1 66 19).toInt = (rI p0 66 19).toInt by omega] at k2
    rcases k2 with ⟨c1, c2⟩ | ⟨c1, c2, c3, e2, b2, c4, c5, c6, c7, c8⟩ | ⟨c1, b2, c2, c3⟩
    · exfalso; omega
    · refine Or.inr (Or.inl ⟨a1, c2, c3, e ++ e2 ++ [(fM p0 b, 0)], b2, yP_c2 a4 hc c4, c5, by omega, ?_, lV_bin hc a8 c8 hu⟩)
      rw [n1.int (r := 66) (k := 17) rfl, g1.int (r := 66) (k := 17) rfl] at c7
      exact c7
    · exact Or.inr (Or.inr ⟨a1, b2, yP_c3 a4 hc c2, c3⟩)
  · exact Or.inr (Or.inr ⟨a1, b, yP_lb (by decide) a2, by omega⟩)
theorem MO_bad {l : Nat} {p p2 : xH} {v : Int32} {b : Nat} (hF : (rI p 66 18).toInt = -1) (n : hNt T_m p p2) (h : yP (fM p) l none ((rI p 66 19).toInt).toNat ((rI p 66 16).toInt.toNat) (none, b)) (hb : (rI p2 66 18).toInt = b) : MO l p p2 v := ⟨n, Or.inr (Or.inr ⟨hF, b, h, hb⟩)⟩
theorem MO_ok {l : Nat} {p p2 : xH} {v : Int32} {e : lE} {b : Nat} (hF : (rI p 66 18).toInt = -1) (n : hNt T_m p p2) (h : yP (fM p) l none ((rI p 66 19).toInt).toNat ((rI p 66 16).toInt.toNat) (some e, b)) (hF2 : (rI p2 66 18).toInt = -1) (hO : (rI p2 66 19).toInt = (rI p 66 19).toInt) (hb : (rI p2 66 16).toInt = b) (h1 : (rI p 66 16).toInt.toNat ≤ b) (h2 : (b : Int) ≤ (rI p 66 17).toInt) (hv : lV (nM p) e v) : MO l p p2 v := ⟨n, Or.inr (Or.inl ⟨hF, hF2, hO, e, b, h, hb, h1, h2, hv⟩)⟩
theorem ljo_or {c : Int} {x y : Int32} (h : c = 124) : ljo c x y = if x ≠ 0 ∨ y ≠ 0 then 1 else 0 := by unfold ljo; rw [if_pos h]
theorem ljo_and {c : Int} {x y : Int32} (h : c = 38) : ljo c x y = if x ≠ 0 ∧ y ≠ 0 then 1 else 0 := by unfold ljo; rw [if_neg (by omega), if_pos h]
theorem i_z {x : Int32} (h : x.toInt = 0) : x = 0 := Int32.toInt_inj.mp (by rw [h]; decide)
theorem i_nz {x : Int32} (h : x.toInt ≠ 0) : x ≠ 0 := fun e => h (by rw [e]; decide)
theorem ljo_1 {c : Int} {x y : Int32} (h : (c = 124 ∧ (x.toInt ≠ 0 ∨ y.toInt ≠ 0)) ∨ (c = 38 ∧ x.toInt ≠ 0 ∧ y.toInt ≠ 0) ∨ (c = 60 ∧ x.toInt < y.toInt) ∨ (c = 61 ∧ x.toInt = y.toInt) ∨ (c = 62 ∧ y.toInt < x.toInt)) : 1 = ljo c x y := by
  unfold ljo
  rcases h with ⟨h, k⟩ | ⟨h, k1, k2⟩ | ⟨h, k⟩ | ⟨h, k⟩ | ⟨h, k⟩
  · rw [if_pos h, if_pos (k.imp i_nz i_nz)]
  · rw [if_neg (by omega), if_pos h, if_pos ⟨i_nz k1, i_nz k2⟩]
  · rw [if_neg (by omega), if_neg (by omega), if_pos h, if_pos k]
  · rw [if_neg (by omega), if_neg (by omega), if_neg (by omega), if_pos h, if_pos k]
  · rw [if_neg (by omega), if_neg (by omega), if_neg (by omega), if_neg (by omega), if_pos h, if_pos k]
theorem ljo_0 {c : Int} {x y : Int32} (h : (c = 124 ∧ x.toInt = 0 ∧ y.toInt = 0) ∨ (c = 38 ∧ (x.toInt = 0 ∨ y.toInt = 0)) ∨ (c = 60 ∧ ¬ x.toInt < y.toInt) ∨ (c = 61 ∧ ¬ x.toInt = y.toInt) ∨ (c = 62 ∧ ¬ y.toInt < x.toInt)) : 0 = ljo c x y := by
  unfold ljo
  rcases h with ⟨h, k1, k2⟩ | ⟨h, k⟩ | ⟨h, k⟩ | ⟨h, k⟩ | ⟨h, k⟩
  · rw [if_pos h, if_neg (fun z => z.elim (fun a => a (i_z k1)) (fun a => a (i_z k2)))]
  · rw [if_neg (by omega), if_pos h, if_neg (fun z => k.elim (fun a => z.1 (i_z a)) (fun a => z.2 (i_z a)))]
  · rw [if_neg (by omega), if_neg (by omega), if_pos h, if_neg k]
  · rw [if_neg (by omega), if_neg (by omega), if_neg (by omega), if_pos h, if_neg k]
  · rw [if_neg (by omega), if_neg (by omega), if_neg (by omega), if_neg (by omega), if_pos h, if_neg k]
theorem ljo_ad {c : Int} {x y : Int32} (h : c = 43) : x + y = ljo c x y := by subst h; rfl
theorem ljo_su {c : Int} {x y : Int32} (h : c = 45) : x - y = ljo c x y := by subst h; rfl
theorem ljo_mu {c : Int} {x y : Int32} (h : c = 42) : x * y = ljo c x y := by subst h; rfl
theorem ljo_dz {c : Int} {x y : Int32} (h : c = 47 ∨ c = 37) (hy : y.toInt = 0) : 0 = ljo c x y := by
  have := i_z hy
  subst this
  rcases h with h | h <;> subst h <;> rfl
theorem ljo_di {c : Int} {x y : Int32} (h : c = 47) (hy : y ≠ 0) : x / y = ljo c x y := by
  subst h
  show _ = if y = 0 then 0 else x / y
  rw [if_neg hy]
theorem ljo_re {c : Int} {x y : Int32} (h : c = 37) (hy : y ≠ 0) : x - x / y * y = ljo c x y := by
  subst h
  show _ = if y = 0 then 0 else x - x / y * y
  rw [if_neg hy]
theorem s_byteAt {ro : List (List Int32)} {n d : Nat} {p : xH} {Q : Option Value → xH → Prop}  (pre0 : hMp p) (k0 : ∀ z : Int32, (0 ≤ (rI p 66 18).toInt ∨ z.toInt = fM p ((rI p 66 16).toInt.toNat) ∨ (z.toInt = 0 ∧ fM p ((rI p 66 16).toInt.toNat) = -1)) → Q (some (.int z)) p) : hP ro n d (12, 1, 1, 1, k197) 0 (lv_args 0 [.ref 66]) [] p Q := by
  refine hp_id (ls := [(0, .ref 66)]) ?_
  refine hp_s (pc' := 1) (st' := [.ref 66]) rfl rfl rfl ?_
  refine hp_get (k := 16) (pc' := 4) (v := (rI p 66 16)) rfl rfl rfl rfl rfl rfl ?_
  refine hp_s (pc' := 5) (st' := [.ref 66, .int (rI p 66 16)]) rfl rfl rfl ?_
  refine hp_get (k := 17) (pc' := 8) (v := (rI p 66 17)) rfl rfl rfl rfl rfl rfl ?_
  refine hp_ic (pc' := 11) (t := 47) (a := (rI p 66 16).toInt) (b := (rI p 66 17).toInt) rfl rfl rfl rfl rfl (fun (h1 : (rI p 66 17).toInt ≤ (rI p 66 16).toInt) => ?_) (fun (h2 : ¬ ((rI p 66 17).toInt ≤ (rI p 66 16).toInt)) => ?_)
  ·
    refine hp_s (pc' := 48) (st' := [.int 0]) rfl rfl rfl ?_
    refine hp_ri rfl rfl ?_
    obtain ⟨q1, q2, q3, q4⟩ := pre0
    exact k0 _ (by rcases q4 with q4 | q4; exact Or.inl q4; exact Or.inr (Or.inr ⟨by decide, fM_end (by show _ ≤ ((rI p 66 16).toInt.toNat : Int); omega)⟩))
  ·
    refine hp_s (pc' := 12) (st' := [.ref 66]) rfl rfl rfl ?_
    refine hp_get (k := 15) (pc' := 15) (v := (rI p 66 15)) rfl rfl rfl rfl rfl rfl ?_
    refine hp_if (pc' := 18) (t := 30) (a := (rI p 66 15).toInt) rfl rfl rfl rfl (fun (h3 : 0 ≤ (rI p 66 15).toInt) => ?_) (fun (h4 : ¬ (0 ≤ (rI p 66 15).toInt)) => ?_)
    ·
      refine hp_s (pc' := 31) (st' := [.ref 66]) rfl rfl rfl ?_
      refine hp_getr (k := 13) (w := .ref 76) (pc' := 34) rfl rfl rfl rfl rfl ?_
      refine hp_s (pc' := 35) (st' := [.ref 66, .ref 76]) rfl rfl rfl ?_
      refine hp_get (k := 15) (pc' := 38) (v := (rI p 66 15)) rfl rfl rfl rfl rfl rfl ?_
      refine hp_s (pc' := 39) (st' := [.ref 66, .int (rI p 66 15), .ref 76]) rfl rfl rfl ?_
      refine hp_get (k := 16) (pc' := 42) (v := (rI p 66 16)) rfl rfl rfl rfl rfl rfl ?_
      refine hp_z (pc' := 43) (e := (rI p 66 15) + (rI p 66 16)) (st' := [.ref 76]) rfl rfl rfl ?_
      intro z1 hz1
      have ez1 := i_add hz1 (show (rI p 66 15).toInt = (rI p 66 15).toInt from rfl) (show (rI p 66 16).toInt = (rI p 66 16).toInt from rfl)
      refine hp_ld (t := 100) (v := (rI p 76 z1.toInt.toNat)) rfl (.inl rfl) rfl rfl rfl ?_
      intro (g1a : 0 ≤ z1.toInt) (g1b : z1.toInt < 120)
      refine hp_go (pc' := 48) rfl rfl rfl ?_
      refine hp_ri rfl rfl ?_
      obtain ⟨q1, q2, q3, q4⟩ := pre0
      refine k0 _ ?_
      rcases q4 with q4 | q4
      · exact Or.inl q4
      · refine Or.inr (Or.inl ?_)
        unfold fM
        rw [if_pos (by omega)]
        first | (rw [if_pos (by omega)]; done) | (rw [if_neg (by omega)]; congr 2; omega)
    ·
      refine hp_s (pc' := 19) (st' := [.ref 66]) rfl rfl rfl ?_
      refine hp_getr (k := 11) (w := .ref 75) (pc' := 22) rfl rfl rfl rfl rfl ?_
      refine hp_s (pc' := 23) (st' := [.ref 66, .ref 75]) rfl rfl rfl ?_
      refine hp_get (k := 16) (pc' := 26) (v := (rI p 66 16)) rfl rfl rfl rfl rfl rfl ?_
      refine hp_ld (t := 100) (v := (rI p 75 (rI p 66 16).toInt.toNat)) rfl (.inl rfl) rfl rfl rfl ?_
      intro (g2a : 0 ≤ (rI p 66 16).toInt) (g2b : (rI p 66 16).toInt < 120)
      refine hp_go (pc' := 48) rfl rfl rfl ?_
      refine hp_ri rfl rfl ?_
      obtain ⟨q1, q2, q3, q4⟩ := pre0
      refine k0 _ ?_
      rcases q4 with q4 | q4
      · exact Or.inl q4
      · refine Or.inr (Or.inl ?_)
        unfold fM
        rw [if_pos (by omega)]
        first | (rw [if_pos (by omega)]; done) | (rw [if_neg (by omega)]; congr 2; omega)
theorem s_wrong {ro : List (List Int32)} {n d : Nat} {p : xH} {Q : Option Value → xH → Prop}   (k0 : ∀ p2 : xH, p2 = (wV p 66 18 (.int (rI p 66 16))) → ((rI p 66 18).toInt < 0) → Q (some (.int (0))) p2) (k1 : ∀ p2 : xH, p2 = (wV p 66 18 (.int (rI p 66 18))) → (0 ≤ (rI p 66 18).toInt) → Q (some (.int (0))) p2) : hP ro n d (12, 1, 1, 1, k198) 0 (lv_args 0 [.ref 66]) [] p Q := by
  refine hp_id (ls := [(0, .ref 66)]) ?_
  refine hp_s (pc' := 1) (st' := [.ref 66]) rfl rfl rfl ?_
  refine hp_s (pc' := 2) (st' := [.ref 66, .ref 66]) rfl rfl rfl ?_
  refine hp_get (k := 18) (pc' := 5) (v := (rI p 66 18)) rfl rfl rfl rfl rfl rfl ?_
  refine hp_if (pc' := 8) (t := 15) (a := (rI p 66 18).toInt) rfl rfl rfl rfl (fun (h1 : 0 ≤ (rI p 66 18).toInt) => ?_) (fun (h2 : ¬ (0 ≤ (rI p 66 18).toInt)) => ?_)
  ·
    refine hp_s (pc' := 16) (st' := [.ref 66, .ref 66]) rfl rfl rfl ?_
    refine hp_get (k := 18) (pc' := 19) (v := (rI p 66 18)) rfl rfl rfl rfl rfl rfl ?_
    refine hp_put (k := 18) (pc' := 22) rfl rfl rfl rfl rfl ?_
    intro p1 wp1 ep1
    refine hp_s (pc' := 23) (st' := [.int 0]) rfl rfl rfl ?_
    refine hp_ri rfl rfl ?_
    first | (exact k0 _ (by subst_vars; rfl) (by first | assumption | omega)) | (exact k1 _ (by subst_vars; rfl) (by first | assumption | omega)) | (exfalso; omega)
  ·
    refine hp_s (pc' := 9) (st' := [.ref 66, .ref 66]) rfl rfl rfl ?_
    refine hp_get (k := 16) (pc' := 12) (v := (rI p 66 16)) rfl rfl rfl rfl rfl rfl ?_
    refine hp_go (pc' := 19) rfl rfl rfl ?_
    refine hp_put (k := 18) (pc' := 22) rfl rfl rfl rfl rfl ?_
    intro p2 wp2 ep2
    refine hp_s (pc' := 23) (st' := [.int 0]) rfl rfl rfl ?_
    refine hp_ri rfl rfl ?_
    first | (exact k0 _ (by subst_vars; rfl) (by first | assumption | omega)) | (exact k1 _ (by subst_vars; rfl) (by first | assumption | omega)) | (exfalso; omega)
theorem s_takes {ro : List (List Int32)} {n d : Nat} {p : xH} {Q : Option Value → xH → Prop} {c : Int32} {ci : Int} (hc : c.toInt = ci) (pre0 : hMp p) (pre1 : 1 ≤ ci) (k0 : ∀ p2 : xH, (hNt [(66, 16)] p p2) → ((rI p 66 18).toInt < 0) → (fM p ((rI p 66 16).toInt.toNat) = ci) → (Mat p p2) → Q (some (.int (1))) p2) (k1 : (0 ≤ (rI p 66 18).toInt ∨ fM p ((rI p 66 16).toInt.toNat) ≠ ci) → Q (some (.int (0))) p) : hP ro n d (12, 2, 1, 2, k199) 0 (lv_args 0 [.ref 66, .int c]) [] p Q := by
  subst hc
  refine hp_id (ls := [(0, .ref 66), (1, .int c)]) ?_
  refine hp_s (pc' := 1) (st' := [.ref 66]) rfl rfl rfl ?_
  refine hp_get (k := 18) (pc' := 4) (v := (rI p 66 18)) rfl rfl rfl rfl rfl rfl ?_
  refine hp_if (pc' := 7) (t := 15) (a := (rI p 66 18).toInt) rfl rfl rfl rfl (fun (h1 : 0 ≤ (rI p 66 18).toInt) => ?_) (fun (h2 : ¬ (0 ≤ (rI p 66 18).toInt)) => ?_)
  ·
    refine hp_s (pc' := 16) (st' := [.int 0]) rfl rfl rfl ?_
    refine hp_rb rfl rfl (fun _ => ?_)
    obtain ⟨q1, q2, q3, q4⟩ := pre0
    exact k1 (by omega)
  ·
    refine hp_s (pc' := 8) (st' := [.ref 66]) rfl rfl rfl ?_
    refine hp_cv (r := 66) (o := 12) (kd := 1) (as := []) (rest := []) (pc' := 11) rfl rfl rfl rfl rfl rfl rfl rfl rfl (fun d1 => ?_)
    refine s_byteAt (by first | assumption | omega) ?_
    intro y1 h3
    refine hp_id (st := [.int y1]) ?_
    refine hp_s (pc' := 12) (st' := [.int c, .int y1]) rfl rfl rfl ?_
    refine hp_ic (pc' := 15) (t := 17) (a := y1.toInt) (b := c.toInt) rfl rfl rfl rfl rfl (fun (h4 : y1.toInt = c.toInt) => ?_) (fun (h5 : ¬ (y1.toInt = c.toInt)) => ?_)
    ·
      refine hp_s (pc' := 18) (st' := [.ref 66]) rfl rfl rfl ?_
      refine hp_s (pc' := 19) (st' := [.ref 66, .ref 66]) rfl rfl rfl ?_
      refine hp_get (k := 16) (pc' := 22) (v := (rI p 66 16)) rfl rfl rfl rfl rfl rfl ?_
      refine hp_s (pc' := 23) (st' := [.int 1, .int (rI p 66 16), .ref 66]) rfl rfl rfl ?_
      refine hp_z (pc' := 24) (e := (rI p 66 16) + 1) (st' := [.ref 66]) rfl rfl rfl ?_
      intro z1 hz1
      have ez1 := i_add hz1 (show (rI p 66 16).toInt = (rI p 66 16).toInt from rfl) (show (1 : Int32).toInt = 1 from by decide)
      refine hp_put (k := 16) (pc' := 27) rfl rfl rfl rfl rfl ?_
      intro p1 wp1 ep1
      refine hp_s (pc' := 28) (st' := [.int 1]) rfl rfl rfl ?_
      refine hp_rb rfl rfl (fun _ => ?_)
      obtain ⟨q1, q2, q3, q4⟩ := pre0
      exact k0 _ (by rw [ep1]; exact (hNt.w (hNt.refl _ _) rfl)) (by omega) (by omega) ⟨z1, by omega, ep1⟩
    ·
      refine hp_s (pc' := 16) (st' := [.int 0]) rfl rfl rfl ?_
      refine hp_rb rfl rfl (fun _ => ?_)
      obtain ⟨q1, q2, q3, q4⟩ := pre0
      exact k1 (by omega)
theorem s_nameOfM {ro : List (List Int32)} {n d : Nat} {p : xH} {Q : Option Value → xH → Prop} {c : Int32} {ci : Int} (hc : c.toInt = ci)  (k0 : ∀ z : Int32, (z.toInt = lnm ci) → Q (some (.int z)) p) : hP ro n d (12, 1, 0, 1, k205) 0 (lv_args 0 [.int c]) [] p Q := by
  subst hc
  refine hp_id (ls := [(0, .int c)]) ?_
  refine hp_s (pc' := 1) (st' := [.int c]) rfl rfl rfl ?_
  by_cases h1 : c.toInt = 97
  ·
    refine hp_sw (v := 97) (t := 70) rfl rfl (h1) rfl ?_
    refine hp_s (pc' := 71) (st' := [.int 1]) rfl rfl rfl ?_
    refine hp_ri rfl rfl ?_
    first | (exact k0 _ (by unfold lnm; repeat (first | decide | omega | rw [if_pos (by omega)] | rw [if_neg (by omega)]))) | (exfalso; omega)
  by_cases h2 : c.toInt = 98
  ·
    refine hp_sw (v := 98) (t := 72) rfl rfl (h2) rfl ?_
    refine hp_s (pc' := 73) (st' := [.int 2]) rfl rfl rfl ?_
    refine hp_ri rfl rfl ?_
    first | (exact k0 _ (by unfold lnm; repeat (first | decide | omega | rw [if_pos (by omega)] | rw [if_neg (by omega)]))) | (exfalso; omega)
  by_cases h3 : c.toInt = 99
  ·
    refine hp_sw (v := 99) (t := 80) rfl rfl (h3) rfl ?_
    refine hp_s (pc' := 81) (st' := [.int (-1)]) rfl rfl rfl ?_
    refine hp_ri rfl rfl ?_
    first | (exact k0 _ (by unfold lnm; repeat (first | decide | omega | rw [if_pos (by omega)] | rw [if_neg (by omega)]))) | (exfalso; omega)
  by_cases h4 : c.toInt = 100
  ·
    refine hp_sw (v := 100) (t := 68) rfl rfl (h4) rfl ?_
    refine hp_s (pc' := 69) (st' := [.int 0]) rfl rfl rfl ?_
    refine hp_ri rfl rfl ?_
    first | (exact k0 _ (by unfold lnm; repeat (first | decide | omega | rw [if_pos (by omega)] | rw [if_neg (by omega)]))) | (exfalso; omega)
  by_cases h5 : c.toInt = 101
  ·
    refine hp_sw (v := 101) (t := 78) rfl rfl (h5) rfl ?_
    refine hp_s (pc' := 79) (st' := [.int 5]) rfl rfl rfl ?_
    refine hp_ri rfl rfl ?_
    first | (exact k0 _ (by unfold lnm; repeat (first | decide | omega | rw [if_pos (by omega)] | rw [if_neg (by omega)]))) | (exfalso; omega)
  by_cases h6 : c.toInt = 102
  ·
    refine hp_sw (v := 102) (t := 80) rfl rfl (h6) rfl ?_
    refine hp_s (pc' := 81) (st' := [.int (-1)]) rfl rfl rfl ?_
    refine hp_ri rfl rfl ?_
    first | (exact k0 _ (by unfold lnm; repeat (first | decide | omega | rw [if_pos (by omega)] | rw [if_neg (by omega)]))) | (exfalso; omega)
  by_cases h7 : c.toInt = 103
  ·
    refine hp_sw (v := 103) (t := 80) rfl rfl (h7) rfl ?_
    refine hp_s (pc' := 81) (st' := [.int (-1)]) rfl rfl rfl ?_
    refine hp_ri rfl rfl ?_
    first | (exact k0 _ (by unfold lnm; repeat (first | decide | omega | rw [if_pos (by omega)] | rw [if_neg (by omega)]))) | (exfalso; omega)
  by_cases h8 : c.toInt = 104
  ·
    refine hp_sw (v := 104) (t := 74) rfl rfl (h8) rfl ?_
    refine hp_s (pc' := 75) (st' := [.int 3]) rfl rfl rfl ?_
    refine hp_ri rfl rfl ?_
    first | (exact k0 _ (by unfold lnm; repeat (first | decide | omega | rw [if_pos (by omega)] | rw [if_neg (by omega)]))) | (exfalso; omega)
  by_cases h9 : c.toInt = 105
  ·
    refine hp_sw (v := 105) (t := 80) rfl rfl (h9) rfl ?_
    refine hp_s (pc' := 81) (st' := [.int (-1)]) rfl rfl rfl ?_
    refine hp_ri rfl rfl ?_
    first | (exact k0 _ (by unfold lnm; repeat (first | decide | omega | rw [if_pos (by omega)] | rw [if_neg (by omega)]))) | (exfalso; omega)
  by_cases h10 : c.toInt = 106
  ·
    refine hp_sw (v := 106) (t := 80) rfl rfl (h10) rfl ?_
    refine hp_s (pc' := 81) (st' := [.int (-1)]) rfl rfl rfl ?_
    refine hp_ri rfl rfl ?_
    first | (exact k0 _ (by unfold lnm; repeat (first | decide | omega | rw [if_pos (by omega)] | rw [if_neg (by omega)]))) | (exfalso; omega)
  by_cases h11 : c.toInt = 107
  ·
    refine hp_sw (v := 107) (t := 80) rfl rfl (h11) rfl ?_
    refine hp_s (pc' := 81) (st' := [.int (-1)]) rfl rfl rfl ?_
    refine hp_ri rfl rfl ?_
    first | (exact k0 _ (by unfold lnm; repeat (first | decide | omega | rw [if_pos (by omega)] | rw [if_neg (by omega)]))) | (exfalso; omega)
  by_cases h12 : c.toInt = 108
  ·
    refine hp_sw (v := 108) (t := 80) rfl rfl (h12) rfl ?_
    refine hp_s (pc' := 81) (st' := [.int (-1)]) rfl rfl rfl ?_
    refine hp_ri rfl rfl ?_
    first | (exact k0 _ (by unfold lnm; repeat (first | decide | omega | rw [if_pos (by omega)] | rw [if_neg (by omega)]))) | (exfalso; omega)
  by_cases h13 : c.toInt = 109
  ·
    refine hp_sw (v := 109) (t := 76) rfl rfl (h13) rfl ?_
    refine hp_s (pc' := 77) (st' := [.int 4]) rfl rfl rfl ?_
    refine hp_ri rfl rfl ?_
    first | (exact k0 _ (by unfold lnm; repeat (first | decide | omega | rw [if_pos (by omega)] | rw [if_neg (by omega)]))) | (exfalso; omega)
  refine hp_td (t := 80) rfl rfl (by omega) ?_
  refine hp_s (pc' := 81) (st' := [.int (-1)]) rfl rfl rfl ?_
  refine hp_ri rfl rfl ?_
  first | (exact k0 _ (by unfold lnm; repeat (first | decide | omega | rw [if_pos (by omega)] | rw [if_neg (by omega)]))) | (exfalso; omega)
/-- behind a sign that goes one deeper -/
theorem Mop {p p2 : xH} {z y : Int32} (hw : hW p) (hm : hMp p) (hF : (rI p 66 18).toInt < 0) (hc : fM p ((rI p 66 16).toInt.toNat) ≠ -1) (ho : (rI p 66 19).toInt < 6) (hz : z.toInt = (rI p 66 19).toInt + 1) (hy : y.toInt = (rI p 66 16).toInt + 1) (e : p2 = wV (wV p 66 19 (.int z)) 66 16 (.int y)) : hMp p2 ∧ hNt T_m p p2 ∧ (rI p2 66 18).toInt = -1 ∧ (rI p2 66 19).toInt = (rI p 66 19).toInt + 1 ∧ (rI p2 66 16).toInt = (rI p 66 16).toInt + 1 := by
  obtain ⟨h1, h2, h3, h4⟩ := hm
  have w1 : hW (wV p 66 19 (.int z)) := hW_wV hw rfl
  have n : hNt T_m p p2 := by rw [e]; exact ((hNt.refl _ _).w rfl).w rfl
  have e16 : (rI p2 66 16).toInt = (rI p 66 16).toInt + 1 := by rw [e, rI_eq w1 (by decide), hy]
  have e18 : (rI p2 66 18).toInt = (rI p 66 18).toInt := by rw [e, rI_ne (fun _ => by decide), rI_ne (fun _ => by decide)]
  have e19 : (rI p2 66 19).toInt = (rI p 66 19).toInt + 1 := by rw [e, rI_ne (fun _ => by decide), rI_eq hw (by decide), hz]
  have hin := fM_in hc
  refine ⟨?_, n, by omega, e19, e16⟩
  unfold hMp
  rw [n.int (r := 66) (k := 15) rfl, n.int (r := 66) (k := 17) rfl]
  exact ⟨h1, h2, by omega, Or.inr (by omega)⟩
theorem MO_in1 {l : Nat} {p p2 p3 : xH} {v : Int32} (n : hNt T_m p p2) (hF : (rI p2 66 18).toInt = -1) (ho : (rI p2 66 19).toInt = (rI p 66 19).toInt + 1) (ha : (rI p2 66 16).toInt = (rI p 66 16).toInt + 1) (h0 : 0 ≤ (rI p 66 19).toInt) (h1 : 0 ≤ (rI p 66 16).toInt) (g : MO l p2 p3 v) : hNt T_m p p3 ∧ (((rI p3 66 18).toInt = -1 ∧ (rI p3 66 19).toInt = (rI p 66 19).toInt + 1 ∧ ∃ (e : lE) (b : Nat), yP (fM p) l none (((rI p 66 19).toInt).toNat + 1) ((rI p 66 16).toInt.toNat + 1) (some e, b) ∧ (rI p3 66 16).toInt = b ∧ (rI p 66 16).toInt.toNat + 1 ≤ b ∧ (b : Int) ≤ (rI p 66 17).toInt ∧ lV (nM p) e v) ∨ ∃ b : Nat, yP (fM p) l none (((rI p 66 19).toInt).toNat + 1) ((rI p 66 16).toInt.toNat + 1) (none, b) ∧ (rI p3 66 18).toInt = b) := by
  obtain ⟨g1, g2⟩ := g
  refine ⟨n.trans g1, ?_⟩
  rw [fM_nt n, nM_nt n, show ((rI p2 66 19).toInt).toNat = ((rI p 66 19).toInt).toNat + 1 by omega, show (rI p2 66 16).toInt.toNat = (rI p 66 16).toInt.toNat + 1 by omega, n.int (r := 66) (k := 17) rfl] at g2
  rcases g2 with ⟨a1, a2⟩ | ⟨a1, a2, a3, e, b, a4, a5, a6, a7, a8⟩ | ⟨a1, b, a2, a3⟩
  · exfalso; omega
  · exact Or.inl ⟨a2, by omega, e, b, a4, a5, a6, a7, a8⟩
  · exact Or.inr ⟨b, a2, a3⟩
def hM_ei (ro : List (List Int32)) (n : Nat) : Prop := ∀ {d : Nat} {p : xH} {Q : Option Value → xH → Prop}  (pre0 : hMp p) (k0 : ∀ z : Int32, ∀ p2 : xH, (hNt T_m p p2) → (MO 0 p p2 z) → Q (some (.int z)) p2), hP ro n d (12, 3, 1, 1, k200) 0 (lv_args 0 [.ref 66]) [] p Q
def hM_bo (ro : List (List Int32)) (n : Nat) : Prop := ∀ {d : Nat} {p : xH} {Q : Option Value → xH → Prop}  (pre0 : hMp p) (k0 : ∀ z : Int32, ∀ p2 : xH, (hNt T_m p p2) → (MO 1 p p2 z) → Q (some (.int z)) p2), hP ro n d (12, 3, 1, 1, k201) 0 (lv_args 0 [.ref 66]) [] p Q
def hM_co (ro : List (List Int32)) (n : Nat) : Prop := ∀ {d : Nat} {p : xH} {Q : Option Value → xH → Prop}  (pre0 : hMp p) (k0 : ∀ z : Int32, ∀ p2 : xH, (hNt T_m p p2) → (MO 2 p p2 z) → Q (some (.int z)) p2), hP ro n d (12, 4, 1, 1, k202) 0 (lv_args 0 [.ref 66]) [] p Q
def hM_su (ro : List (List Int32)) (n : Nat) : Prop := ∀ {d : Nat} {p : xH} {Q : Option Value → xH → Prop}  (pre0 : hMp p) (k0 : ∀ z : Int32, ∀ p2 : xH, (hNt T_m p p2) → (MO 3 p p2 z) → Q (some (.int z)) p2), hP ro n d (12, 4, 1, 1, k203) 0 (lv_args 0 [.ref 66]) [] p Q
def hM_pr (ro : List (List Int32)) (n : Nat) : Prop := ∀ {d : Nat} {p : xH} {Q : Option Value → xH → Prop}  (pre0 : hMp p) (k0 : ∀ z : Int32, ∀ p2 : xH, (hNt T_m p p2) → (MO 4 p p2 z) → Q (some (.int z)) p2), hP ro n d (12, 4, 1, 1, k204) 0 (lv_args 0 [.ref 66]) [] p Q
def hM_on (ro : List (List Int32)) (n : Nat) : Prop := ∀ {d : Nat} {p : xH} {Q : Option Value → xH → Prop}  (pre0 : hMp p) (k0 : ∀ z : Int32, ∀ p2 : xH, (hNt T_m p p2) → (MO 5 p p2 z) → Q (some (.int z)) p2), hP ro n d (12, 5, 1, 1, k206) 0 (lv_args 0 [.ref 66]) [] p Q
def RC_mo (ro : List (List Int32)) (n : Nat) : Prop := hM_ei ro n ∧ hM_bo ro n ∧ hM_co ro n ∧ hM_su ro n ∧ hM_pr ro n ∧ hM_on ro n
theorem RC_mo_more {ro : List (List Int32)} {n : Nat} (h : RC_mo ro (n + 1)) : RC_mo ro n := ⟨fun pre0 k0 => hp_more (h.1 pre0 k0), fun pre0 k0 => hp_more (h.2.1 pre0 k0), fun pre0 k0 => hp_more (h.2.2.1 pre0 k0), fun pre0 k0 => hp_more (h.2.2.2.1 pre0 k0), fun pre0 k0 => hp_more (h.2.2.2.2.1 pre0 k0), fun pre0 k0 => hp_more (h.2.2.2.2.2 pre0 k0)⟩
theorem rM_ei {ro : List (List Int32)} {n : Nat} (rc : RC_mo ro n) {d : Nat} {p : xH} {Q : Option Value → xH → Prop}  (pre0 : hMp p) (k0 : ∀ z : Int32, ∀ p2 : xH, (hNt T_m p p2) → (MO 0 p p2 z) → Q (some (.int z)) p2) : hP ro n d (12, 3, 1, 1, k200) 0 (lv_args 0 [.ref 66]) [] p Q := rc.1 pre0 k0
theorem rM_bo {ro : List (List Int32)} {n : Nat} (rc : RC_mo ro n) {d : Nat} {p : xH} {Q : Option Value → xH → Prop}  (pre0 : hMp p) (k0 : ∀ z : Int32, ∀ p2 : xH, (hNt T_m p p2) → (MO 1 p p2 z) → Q (some (.int z)) p2) : hP ro n d (12, 3, 1, 1, k201) 0 (lv_args 0 [.ref 66]) [] p Q := rc.2.1 pre0 k0
theorem rM_co {ro : List (List Int32)} {n : Nat} (rc : RC_mo ro n) {d : Nat} {p : xH} {Q : Option Value → xH → Prop}  (pre0 : hMp p) (k0 : ∀ z : Int32, ∀ p2 : xH, (hNt T_m p p2) → (MO 2 p p2 z) → Q (some (.int z)) p2) : hP ro n d (12, 4, 1, 1, k202) 0 (lv_args 0 [.ref 66]) [] p Q := rc.2.2.1 pre0 k0
theorem rM_su {ro : List (List Int32)} {n : Nat} (rc : RC_mo ro n) {d : Nat} {p : xH} {Q : Option Value → xH → Prop}  (pre0 : hMp p) (k0 : ∀ z : Int32, ∀ p2 : xH, (hNt T_m p p2) → (MO 3 p p2 z) → Q (some (.int z)) p2) : hP ro n d (12, 4, 1, 1, k203) 0 (lv_args 0 [.ref 66]) [] p Q := rc.2.2.2.1 pre0 k0
theorem rM_pr {ro : List (List Int32)} {n : Nat} (rc : RC_mo ro n) {d : Nat} {p : xH} {Q : Option Value → xH → Prop}  (pre0 : hMp p) (k0 : ∀ z : Int32, ∀ p2 : xH, (hNt T_m p p2) → (MO 4 p p2 z) → Q (some (.int z)) p2) : hP ro n d (12, 4, 1, 1, k204) 0 (lv_args 0 [.ref 66]) [] p Q := rc.2.2.2.2.1 pre0 k0
theorem rM_on {ro : List (List Int32)} {n : Nat} (rc : RC_mo ro n) {d : Nat} {p : xH} {Q : Option Value → xH → Prop}  (pre0 : hMp p) (k0 : ∀ z : Int32, ∀ p2 : xH, (hNt T_m p p2) → (MO 5 p p2 z) → Q (some (.int z)) p2) : hP ro n d (12, 5, 1, 1, k206) 0 (lv_args 0 [.ref 66]) [] p Q := rc.2.2.2.2.2 pre0 k0
theorem lp_200b {ro : List (List Int32)} {d : Nat} {Q : Option Value → xH → Prop} {p0 : xH} (g0 : hMp p0) (K : ∀ (v : Int32) (p2 : xH), MO 0 p0 p2 v → Q (some (.int v)) p2) : ∀ (n : Nat) (v : Int32) (t : Int32) (p : xH), (RC_mo ro n) → (ML 0 p0 p v) → hP ro n d (12, 3, 1, 1, k200) 5 [(1, .int v), (2, .int t), (0, .ref 66)] [] p Q := by
  intro n
  induction n with
  | zero => intros; exact hp_0
  | succ n ih =>
    intro v t p rc hX
    replace rc := RC_mo_more rc
    refine hp_hw (fun wp => ?_)
    have hTp1 := ML_p g0 hX
    refine hp_s1 (pc' := 6) (st' := [.ref 66]) rfl rfl rfl ?_
    refine hp_s (pc' := 8) (st' := [.int 124, .ref 66]) rfl rfl rfl ?_
    refine hp_cv (r := 66) (o := 12) (kd := 1) (as := [.int 124]) (rest := []) (pc' := 11) rfl rfl rfl rfl rfl rfl rfl rfl rfl (fun d1 => ?_)
    refine s_takes (ci := 124) (by decide) (by first | assumption | omega) (by first | assumption | omega) ?_ ?_
    ·
      intro p1 h1 h2 h3 h4
      have hF := h2
      have hop : lop 0 (fM p ((rI p 66 16).toInt.toNat)) := by unfold lop; omega
      have hM := h4
      have hT1 := Mat_p wp hM hTp1 (Or.inr (by omega))
      refine hp_id (st := [.int 1]) ?_
      refine hp_go (pc' := 14) rfl rfl rfl ?_
      refine hp_s (pc' := 15) (st' := [.ref 66]) rfl rfl rfl ?_
      refine hp_cv (r := 66) (o := 12) (kd := 1) (as := []) (rest := []) (pc' := 18) rfl rfl rfl rfl rfl rfl rfl rfl rfl (fun d2 => ?_)
      refine rM_bo rc (by first | assumption | omega) ?_
      intro y1 p2 h5 h6
      skip
      refine hp_id (st := [.int y1]) ?_
      refine hp_s (pc' := 19) (ls' := [(2, .int y1), (1, .int v), (0, .ref 66)]) (st' := []) rfl rfl rfl ?_
      refine hp_s (pc' := 20) (st' := [.int v]) rfl rfl rfl ?_
      refine hp_if (pc' := 23) (t := 27) (a := v.toInt) rfl rfl rfl rfl (fun (h7 : v.toInt ≠ 0) => ?_) (fun (h8 : ¬ (v.toInt ≠ 0)) => ?_)
      ·
        refine hp_s (pc' := 28) (st' := [.int 1]) rfl rfl rfl ?_
        refine hp_go (pc' := 32) rfl rfl rfl ?_
        refine hp_s (pc' := 33) (ls' := [(1, .int 1), (2, .int y1), (0, .ref 66)]) (st' := []) rfl rfl rfl ?_
        refine hp_go (pc' := 5) rfl rfl rfl ?_
        exact ih (1 : Int32) y1 _ rc (ML_go g0 wp hX hF hop hM h6 (by first | exact ljo_1 (by omega) | exact ljo_0 (by omega)))
      ·
        refine hp_s (pc' := 24) (st' := [.int y1]) rfl rfl rfl ?_
        refine hp_if (pc' := 27) (t := 31) (a := y1.toInt) rfl rfl rfl rfl (fun (h9 : y1.toInt = 0) => ?_) (fun (h10 : ¬ (y1.toInt = 0)) => ?_)
        ·
          refine hp_s (pc' := 32) (st' := [.int 0]) rfl rfl rfl ?_
          refine hp_s (pc' := 33) (ls' := [(1, .int 0), (2, .int y1), (0, .ref 66)]) (st' := []) rfl rfl rfl ?_
          refine hp_go (pc' := 5) rfl rfl rfl ?_
          exact ih (0 : Int32) y1 _ rc (ML_go g0 wp hX hF hop hM h6 (by first | exact ljo_1 (by omega) | exact ljo_0 (by omega)))
        ·
          refine hp_s (pc' := 28) (st' := [.int 1]) rfl rfl rfl ?_
          refine hp_go (pc' := 32) rfl rfl rfl ?_
          refine hp_s (pc' := 33) (ls' := [(1, .int 1), (2, .int y1), (0, .ref 66)]) (st' := []) rfl rfl rfl ?_
          refine hp_go (pc' := 5) rfl rfl rfl ?_
          exact ih (1 : Int32) y1 _ rc (ML_go g0 wp hX hF hop hM h6 (by first | exact ljo_1 (by omega) | exact ljo_0 (by omega)))
    ·
      intro h11
      have hn0 := h11
      refine hp_id (st := [.int 0]) ?_
      refine hp_go (pc' := 36) rfl rfl rfl ?_
      refine hp_s (pc' := 37) (st' := [.int v]) rfl rfl rfl ?_
      refine hp_ri rfl rfl ?_
      exact K v p (ML_out hX (by first | exact hn0.imp id (fun z => by unfold lop; omega)))
theorem lp_200a {ro : List (List Int32)} {d : Nat} {Q : Option Value → xH → Prop} {p0 : xH} (g0 : hMp p0) (K : ∀ (v : Int32) (p2 : xH), MO 0 p0 p2 v → Q (some (.int v)) p2) : ∀ (n : Nat) (v : Int32) (p : xH), (RC_mo ro n) → (ML 0 p0 p v) → hP ro n d (12, 3, 1, 1, k200) 5 [(1, .int v), (0, .ref 66)] [] p Q := by
  intro n
  intro v p rc hX
  refine hp_hw (fun wp => ?_)
  have hTp1 := ML_p g0 hX
  refine hp_s (pc' := 6) (st' := [.ref 66]) rfl rfl rfl ?_
  refine hp_s (pc' := 8) (st' := [.int 124, .ref 66]) rfl rfl rfl ?_
  refine hp_cv (r := 66) (o := 12) (kd := 1) (as := [.int 124]) (rest := []) (pc' := 11) rfl rfl rfl rfl rfl rfl rfl rfl rfl (fun d1 => ?_)
  refine s_takes (ci := 124) (by decide) (by first | assumption | omega) (by first | assumption | omega) ?_ ?_
  ·
    intro p1 h1 h2 h3 h4
    have hF := h2
    have hop : lop 0 (fM p ((rI p 66 16).toInt.toNat)) := by unfold lop; omega
    have hM := h4
    have hT1 := Mat_p wp hM hTp1 (Or.inr (by omega))
    refine hp_id (st := [.int 1]) ?_
    refine hp_go (pc' := 14) rfl rfl rfl ?_
    refine hp_s (pc' := 15) (st' := [.ref 66]) rfl rfl rfl ?_
    refine hp_cv (r := 66) (o := 12) (kd := 1) (as := []) (rest := []) (pc' := 18) rfl rfl rfl rfl rfl rfl rfl rfl rfl (fun d2 => ?_)
    refine rM_bo rc (by first | assumption | omega) ?_
    intro y1 p2 h5 h6
    skip
    refine hp_id (st := [.int y1]) ?_
    refine hp_s (pc' := 19) (ls' := [(2, .int y1), (1, .int v), (0, .ref 66)]) (st' := []) rfl rfl rfl ?_
    refine hp_s (pc' := 20) (st' := [.int v]) rfl rfl rfl ?_
    refine hp_if (pc' := 23) (t := 27) (a := v.toInt) rfl rfl rfl rfl (fun (h7 : v.toInt ≠ 0) => ?_) (fun (h8 : ¬ (v.toInt ≠ 0)) => ?_)
    ·
      refine hp_s (pc' := 28) (st' := [.int 1]) rfl rfl rfl ?_
      refine hp_go (pc' := 32) rfl rfl rfl ?_
      refine hp_s (pc' := 33) (ls' := [(1, .int 1), (2, .int y1), (0, .ref 66)]) (st' := []) rfl rfl rfl ?_
      refine hp_go (pc' := 5) rfl rfl rfl ?_
      exact lp_200b g0 K n (1 : Int32) y1 _ rc (ML_go g0 wp hX hF hop hM h6 (by first | exact ljo_1 (by omega) | exact ljo_0 (by omega)))
    ·
      refine hp_s (pc' := 24) (st' := [.int y1]) rfl rfl rfl ?_
      refine hp_if (pc' := 27) (t := 31) (a := y1.toInt) rfl rfl rfl rfl (fun (h9 : y1.toInt = 0) => ?_) (fun (h10 : ¬ (y1.toInt = 0)) => ?_)
      ·
        refine hp_s (pc' := 32) (st' := [.int 0]) rfl rfl rfl ?_
        refine hp_s (pc' := 33) (ls' := [(1, .int 0), (2, .int y1), (0, .ref 66)]) (st' := []) rfl rfl rfl ?_
        refine hp_go (pc' := 5) rfl rfl rfl ?_
        exact lp_200b g0 K n (0 : Int32) y1 _ rc (ML_go g0 wp hX hF hop hM h6 (by first | exact ljo_1 (by omega) | exact ljo_0 (by omega)))
      ·
        refine hp_s (pc' := 28) (st' := [.int 1]) rfl rfl rfl ?_
        refine hp_go (pc' := 32) rfl rfl rfl ?_
        refine hp_s (pc' := 33) (ls' := [(1, .int 1), (2, .int y1), (0, .ref 66)]) (st' := []) rfl rfl rfl ?_
        refine hp_go (pc' := 5) rfl rfl rfl ?_
        exact lp_200b g0 K n (1 : Int32) y1 _ rc (ML_go g0 wp hX hF hop hM h6 (by first | exact ljo_1 (by omega) | exact ljo_0 (by omega)))
  ·
    intro h11
    have hn0 := h11
    refine hp_id (st := [.int 0]) ?_
    refine hp_go (pc' := 36) rfl rfl rfl ?_
    refine hp_s (pc' := 37) (st' := [.int v]) rfl rfl rfl ?_
    refine hp_ri rfl rfl ?_
    exact K v p (ML_out hX (by first | exact hn0.imp id (fun z => by unfold lop; omega)))
theorem tM_ei {ro : List (List Int32)} {n : Nat} (rc : RC_mo ro n) : hM_ei ro (n + 1) := by
  intro d p Q pre0 k0
  refine hp_id (ls := [(0, .ref 66)]) ?_
  refine hp_s1 (pc' := 1) (st' := [.ref 66]) rfl rfl rfl ?_
  refine hp_cv (r := 66) (o := 12) (kd := 1) (as := []) (rest := []) (pc' := 4) rfl rfl rfl rfl rfl rfl rfl rfl rfl (fun d1 => ?_)
  refine rM_bo rc (by first | assumption | omega) ?_
  intro y1 p1 h1 h2
  skip
  refine hp_id (st := [.int y1]) ?_
  refine hp_s (pc' := 5) (ls' := [(1, .int y1), (0, .ref 66)]) (st' := []) rfl rfl rfl ?_
  exact lp_200a (p0 := p) pre0 (fun v p2 h => k0 v p2 h.1 h) n _ _ rc (ML_in (by decide) (by decide) h2)
theorem lp_201b {ro : List (List Int32)} {d : Nat} {Q : Option Value → xH → Prop} {p0 : xH} (g0 : hMp p0) (K : ∀ (v : Int32) (p2 : xH), MO 1 p0 p2 v → Q (some (.int v)) p2) : ∀ (n : Nat) (v : Int32) (t : Int32) (p : xH), (RC_mo ro n) → (ML 1 p0 p v) → hP ro n d (12, 3, 1, 1, k201) 5 [(1, .int v), (2, .int t), (0, .ref 66)] [] p Q := by
  intro n
  induction n with
  | zero => intros; exact hp_0
  | succ n ih =>
    intro v t p rc hX
    replace rc := RC_mo_more rc
    refine hp_hw (fun wp => ?_)
    have hTp1 := ML_p g0 hX
    refine hp_s1 (pc' := 6) (st' := [.ref 66]) rfl rfl rfl ?_
    refine hp_s (pc' := 8) (st' := [.int 38, .ref 66]) rfl rfl rfl ?_
    refine hp_cv (r := 66) (o := 12) (kd := 1) (as := [.int 38]) (rest := []) (pc' := 11) rfl rfl rfl rfl rfl rfl rfl rfl rfl (fun d1 => ?_)
    refine s_takes (ci := 38) (by decide) (by first | assumption | omega) (by first | assumption | omega) ?_ ?_
    ·
      intro p1 h1 h2 h3 h4
      have hF := h2
      have hop : lop 1 (fM p ((rI p 66 16).toInt.toNat)) := by unfold lop; omega
      have hM := h4
      have hT1 := Mat_p wp hM hTp1 (Or.inr (by omega))
      refine hp_id (st := [.int 1]) ?_
      refine hp_go (pc' := 14) rfl rfl rfl ?_
      refine hp_s (pc' := 15) (st' := [.ref 66]) rfl rfl rfl ?_
      refine hp_cv (r := 66) (o := 12) (kd := 1) (as := []) (rest := []) (pc' := 18) rfl rfl rfl rfl rfl rfl rfl rfl rfl (fun d2 => ?_)
      refine rM_co rc (by first | assumption | omega) ?_
      intro y1 p2 h5 h6
      skip
      refine hp_id (st := [.int y1]) ?_
      refine hp_s (pc' := 19) (ls' := [(2, .int y1), (1, .int v), (0, .ref 66)]) (st' := []) rfl rfl rfl ?_
      refine hp_s (pc' := 20) (st' := [.int v]) rfl rfl rfl ?_
      refine hp_if (pc' := 23) (t := 31) (a := v.toInt) rfl rfl rfl rfl (fun (h7 : v.toInt = 0) => ?_) (fun (h8 : ¬ (v.toInt = 0)) => ?_)
      ·
        refine hp_s (pc' := 32) (st' := [.int 0]) rfl rfl rfl ?_
        refine hp_s (pc' := 33) (ls' := [(1, .int 0), (2, .int y1), (0, .ref 66)]) (st' := []) rfl rfl rfl ?_
        refine hp_go (pc' := 5) rfl rfl rfl ?_
        exact ih (0 : Int32) y1 _ rc (ML_go g0 wp hX hF hop hM h6 (by first | exact ljo_1 (by omega) | exact ljo_0 (by omega)))
      ·
        refine hp_s (pc' := 24) (st' := [.int y1]) rfl rfl rfl ?_
        refine hp_if (pc' := 27) (t := 31) (a := y1.toInt) rfl rfl rfl rfl (fun (h9 : y1.toInt = 0) => ?_) (fun (h10 : ¬ (y1.toInt = 0)) => ?_)
        ·
          refine hp_s (pc' := 32) (st' := [.int 0]) rfl rfl rfl ?_
          refine hp_s (pc' := 33) (ls' := [(1, .int 0), (2, .int y1), (0, .ref 66)]) (st' := []) rfl rfl rfl ?_
          refine hp_go (pc' := 5) rfl rfl rfl ?_
          exact ih (0 : Int32) y1 _ rc (ML_go g0 wp hX hF hop hM h6 (by first | exact ljo_1 (by omega) | exact ljo_0 (by omega)))
        ·
          refine hp_s (pc' := 28) (st' := [.int 1]) rfl rfl rfl ?_
          refine hp_go (pc' := 32) rfl rfl rfl ?_
          refine hp_s (pc' := 33) (ls' := [(1, .int 1), (2, .int y1), (0, .ref 66)]) (st' := []) rfl rfl rfl ?_
          refine hp_go (pc' := 5) rfl rfl rfl ?_
          exact ih (1 : Int32) y1 _ rc (ML_go g0 wp hX hF hop hM h6 (by first | exact ljo_1 (by omega) | exact ljo_0 (by omega)))
    ·
      intro h11
      have hn0 := h11
      refine hp_id (st := [.int 0]) ?_
      refine hp_go (pc' := 36) rfl rfl rfl ?_
      refine hp_s (pc' := 37) (st' := [.int v]) rfl rfl rfl ?_
      refine hp_ri rfl rfl ?_
      exact K v p (ML_out hX (by first | exact hn0.imp id (fun z => by unfold lop; omega)))
theorem lp_201a {ro : List (List Int32)} {d : Nat} {Q : Option Value → xH → Prop} {p0 : xH} (g0 : hMp p0) (K : ∀ (v : Int32) (p2 : xH), MO 1 p0 p2 v → Q (some (.int v)) p2) : ∀ (n : Nat) (v : Int32) (p : xH), (RC_mo ro n) → (ML 1 p0 p v) → hP ro n d (12, 3, 1, 1, k201) 5 [(1, .int v), (0, .ref 66)] [] p Q := by
  intro n
  intro v p rc hX
  refine hp_hw (fun wp => ?_)
  have hTp1 := ML_p g0 hX
  refine hp_s (pc' := 6) (st' := [.ref 66]) rfl rfl rfl ?_
  refine hp_s (pc' := 8) (st' := [.int 38, .ref 66]) rfl rfl rfl ?_
  refine hp_cv (r := 66) (o := 12) (kd := 1) (as := [.int 38]) (rest := []) (pc' := 11) rfl rfl rfl rfl rfl rfl rfl rfl rfl (fun d1 => ?_)
  refine s_takes (ci := 38) (by decide) (by first | assumption | omega) (by first | assumption | omega) ?_ ?_
  ·
    intro p1 h1 h2 h3 h4
    have hF := h2
    have hop : lop 1 (fM p ((rI p 66 16).toInt.toNat)) := by unfold lop; omega
    have hM := h4
    have hT1 := Mat_p wp hM hTp1 (Or.inr (by omega))
    refine hp_id (st := [.int 1]) ?_
    refine hp_go (pc' := 14) rfl rfl rfl ?_
    refine hp_s (pc' := 15) (st' := [.ref 66]) rfl rfl rfl ?_
    refine hp_cv (r := 66) (o := 12) (kd := 1) (as := []) (rest := []) (pc' := 18) rfl rfl rfl rfl rfl rfl rfl rfl rfl (fun d2 => ?_)
    refine rM_co rc (by first | assumption | omega) ?_
    intro y1 p2 h5 h6
    skip
    refine hp_id (st := [.int y1]) ?_
    refine hp_s (pc' := 19) (ls' := [(2, .int y1), (1, .int v), (0, .ref 66)]) (st' := []) rfl rfl rfl ?_
    refine hp_s (pc' := 20) (st' := [.int v]) rfl rfl rfl ?_
    refine hp_if (pc' := 23) (t := 31) (a := v.toInt) rfl rfl rfl rfl (fun (h7 : v.toInt = 0) => ?_) (fun (h8 : ¬ (v.toInt = 0)) => ?_)
    ·
      refine hp_s (pc' := 32) (st' := [.int 0]) rfl rfl rfl ?_
      refine hp_s (pc' := 33) (ls' := [(1, .int 0), (2, .int y1), (0, .ref 66)]) (st' := []) rfl rfl rfl ?_
      refine hp_go (pc' := 5) rfl rfl rfl ?_
      exact lp_201b g0 K n (0 : Int32) y1 _ rc (ML_go g0 wp hX hF hop hM h6 (by first | exact ljo_1 (by omega) | exact ljo_0 (by omega)))
    ·
      refine hp_s (pc' := 24) (st' := [.int y1]) rfl rfl rfl ?_
      refine hp_if (pc' := 27) (t := 31) (a := y1.toInt) rfl rfl rfl rfl (fun (h9 : y1.toInt = 0) => ?_) (fun (h10 : ¬ (y1.toInt = 0)) => ?_)
      ·
        refine hp_s (pc' := 32) (st' := [.int 0]) rfl rfl rfl ?_
        refine hp_s (pc' := 33) (ls' := [(1, .int 0), (2, .int y1), (0, .ref 66)]) (st' := []) rfl rfl rfl ?_
        refine hp_go (pc' := 5) rfl rfl rfl ?_
        exact lp_201b g0 K n (0 : Int32) y1 _ rc (ML_go g0 wp hX hF hop hM h6 (by first | exact ljo_1 (by omega) | exact ljo_0 (by omega)))
      ·
        refine hp_s (pc' := 28) (st' := [.int 1]) rfl rfl rfl ?_
        refine hp_go (pc' := 32) rfl rfl rfl ?_
        refine hp_s (pc' := 33) (ls' := [(1, .int 1), (2, .int y1), (0, .ref 66)]) (st' := []) rfl rfl rfl ?_
        refine hp_go (pc' := 5) rfl rfl rfl ?_
        exact lp_201b g0 K n (1 : Int32) y1 _ rc (ML_go g0 wp hX hF hop hM h6 (by first | exact ljo_1 (by omega) | exact ljo_0 (by omega)))
  ·
    intro h11
    have hn0 := h11
    refine hp_id (st := [.int 0]) ?_
    refine hp_go (pc' := 36) rfl rfl rfl ?_
    refine hp_s (pc' := 37) (st' := [.int v]) rfl rfl rfl ?_
    refine hp_ri rfl rfl ?_
    exact K v p (ML_out hX (by first | exact hn0.imp id (fun z => by unfold lop; omega)))
theorem tM_bo {ro : List (List Int32)} {n : Nat} (rc : RC_mo ro n) : hM_bo ro (n + 1) := by
  intro d p Q pre0 k0
  refine hp_id (ls := [(0, .ref 66)]) ?_
  refine hp_s1 (pc' := 1) (st' := [.ref 66]) rfl rfl rfl ?_
  refine hp_cv (r := 66) (o := 12) (kd := 1) (as := []) (rest := []) (pc' := 4) rfl rfl rfl rfl rfl rfl rfl rfl rfl (fun d1 => ?_)
  refine rM_co rc (by first | assumption | omega) ?_
  intro y1 p1 h1 h2
  skip
  refine hp_id (st := [.int y1]) ?_
  refine hp_s (pc' := 5) (ls' := [(1, .int y1), (0, .ref 66)]) (st' := []) rfl rfl rfl ?_
  exact lp_201a (p0 := p) pre0 (fun v p2 h => k0 v p2 h.1 h) n _ _ rc (ML_in (by decide) (by decide) h2)
theorem tM_co {ro : List (List Int32)} {n : Nat} (rc : RC_mo ro n) : hM_co ro (n + 1) := by
  intro d p Q pre0 k0
  refine hp_id (ls := [(0, .ref 66)]) ?_
  refine hp_s1 (pc' := 1) (st' := [.ref 66]) rfl rfl rfl ?_
  refine hp_cv (r := 66) (o := 12) (kd := 1) (as := []) (rest := []) (pc' := 4) rfl rfl rfl rfl rfl rfl rfl rfl rfl (fun d1 => ?_)
  refine rM_su rc (by first | assumption | omega) ?_
  intro y1 p1 h1 h2
  refine hp_hw (fun wp => ?_)
  have hTp1 := MO_p pre0 h2
  refine hp_id (st := [.int y1]) ?_
  refine hp_s (pc' := 5) (ls' := [(1, .int y1), (0, .ref 66)]) (st' := []) rfl rfl rfl ?_
  refine hp_s (pc' := 6) (st' := [.ref 66]) rfl rfl rfl ?_
  refine hp_cv (r := 66) (o := 12) (kd := 1) (as := []) (rest := []) (pc' := 9) rfl rfl rfl rfl rfl rfl rfl rfl rfl (fun d2 => ?_)
  refine s_byteAt (by first | assumption | omega) ?_
  intro y2 h3
  have hby := h3
  refine hp_id (st := [.int y2]) ?_
  refine hp_s (pc' := 10) (ls' := [(2, .int y2), (1, .int y1), (0, .ref 66)]) (st' := []) rfl rfl rfl ?_
  refine hp_s (pc' := 11) (st' := [.ref 66]) rfl rfl rfl ?_
  refine hp_get (k := 18) (pc' := 14) (v := (rI p1 66 18)) rfl rfl rfl rfl rfl rfl ?_
  refine hp_if (pc' := 17) (t := 35) (a := (rI p1 66 18).toInt) rfl rfl rfl rfl (fun (h4 : 0 ≤ (rI p1 66 18).toInt) => ?_) (fun (h5 : ¬ (0 ≤ (rI p1 66 18).toInt)) => ?_)
  ·
    refine hp_s (pc' := 36) (st' := [.int y1]) rfl rfl rfl ?_
    refine hp_ri rfl rfl ?_
    exact k0 _ _ h1 (MC_no h2 (by first | exact Or.inl (by omega) | exact Or.inr (by unfold lop; omega)))
  ·
    refine hp_s (pc' := 18) (st' := [.int y2]) rfl rfl rfl ?_
    refine hp_s (pc' := 20) (st' := [.int 60, .int y2]) rfl rfl rfl ?_
    refine hp_ic (pc' := 23) (t := 37) (a := y2.toInt) (b := 60) rfl rfl rfl rfl (by decide) (fun (h6 : y2.toInt = 60) => ?_) (fun (h7 : ¬ (y2.toInt = 60)) => ?_)
    ·
      refine hp_s (pc' := 38) (st' := [.ref 66]) rfl rfl rfl ?_
      refine hp_s (pc' := 39) (st' := [.ref 66, .ref 66]) rfl rfl rfl ?_
      refine hp_get (k := 16) (pc' := 42) (v := (rI p1 66 16)) rfl rfl rfl rfl rfl rfl ?_
      refine hp_s (pc' := 43) (st' := [.int 1, .int (rI p1 66 16), .ref 66]) rfl rfl rfl ?_
      refine hp_z (pc' := 44) (e := (rI p1 66 16) + 1) (st' := [.ref 66]) rfl rfl rfl ?_
      intro z1 hz1
      have ez1 := i_add hz1 (show (rI p1 66 16).toInt = (rI p1 66 16).toInt from rfl) (show (1 : Int32).toInt = 1 from by decide)
      refine hp_put (k := 16) (pc' := 47) rfl rfl rfl rfl rfl ?_
      intro p2 wp2 ep2
      have hF : (rI p1 66 18).toInt < 0 := by omega
      have hop : lop 2 (fM p1 ((rI p1 66 16).toInt.toNat)) := by unfold lop; omega
      obtain ⟨qa, qb, qc, qd⟩ := hTp1
      have hTp1 : hMp p1 := ⟨qa, qb, qc, qd⟩
      have hM : Mat p1 p2 := ⟨z1, by omega, ep2⟩
      have hT1 := Mat_p wp hM hTp1 (Or.inr (by omega))
      refine hp_s (pc' := 48) (st' := [.ref 66]) rfl rfl rfl ?_
      refine hp_cv (r := 66) (o := 12) (kd := 1) (as := []) (rest := []) (pc' := 51) rfl rfl rfl rfl rfl rfl rfl rfl rfl (fun d3 => ?_)
      refine rM_su rc (by first | assumption | omega) ?_
      intro y3 p3 h8 h9
      skip
      refine hp_id (st := [.int y3]) ?_
      refine hp_s (pc' := 52) (ls' := [(3, .int y3), (2, .int y2), (1, .int y1), (0, .ref 66)]) (st' := []) rfl rfl rfl ?_
      refine hp_s (pc' := 53) (st' := [.int y2]) rfl rfl rfl ?_
      refine hp_s (pc' := 55) (st' := [.int 60, .int y2]) rfl rfl rfl ?_
      refine hp_ic (pc' := 58) (t := 66) (a := y2.toInt) (b := 60) rfl rfl rfl rfl (by decide) (fun (h10 : y2.toInt ≠ 60) => ?_) (fun (h11 : ¬ (y2.toInt ≠ 60)) => ?_)
      ·
        refine hp_s (pc' := 67) (st' := [.int y2]) rfl rfl rfl ?_
        refine hp_s (pc' := 69) (st' := [.int 61, .int y2]) rfl rfl rfl ?_
        refine hp_ic (pc' := 72) (t := 80) (a := y2.toInt) (b := 61) rfl rfl rfl rfl (by decide) (fun (h12 : y2.toInt ≠ 61) => ?_) (fun (h13 : ¬ (y2.toInt ≠ 61)) => ?_)
        ·
          refine hp_s (pc' := 81) (st' := [.int y1]) rfl rfl rfl ?_
          refine hp_s (pc' := 82) (st' := [.int y3, .int y1]) rfl rfl rfl ?_
          refine hp_ic (pc' := 85) (t := 89) (a := y1.toInt) (b := y3.toInt) rfl rfl rfl rfl rfl (fun (h14 : y1.toInt ≤ y3.toInt) => ?_) (fun (h15 : ¬ (y1.toInt ≤ y3.toInt)) => ?_)
          ·
            refine hp_s (pc' := 90) (st' := [.int 0]) rfl rfl rfl ?_
            refine hp_ri rfl rfl ?_
            have hZ := MC_go (u := (0 : Int32)) wp h2 hF hop hM h9 (by first | exact ljo_1 (x := y1) (y := y3) (by omega) | exact ljo_0 (x := y1) (y := y3) (by omega))
            exact k0 _ _ hZ.1 hZ
          ·
            refine hp_s (pc' := 86) (st' := [.int 1]) rfl rfl rfl ?_
            refine hp_go (pc' := 90) rfl rfl rfl ?_
            refine hp_ri rfl rfl ?_
            have hZ := MC_go (u := (1 : Int32)) wp h2 hF hop hM h9 (by first | exact ljo_1 (x := y1) (y := y3) (by omega) | exact ljo_0 (x := y1) (y := y3) (by omega))
            exact k0 _ _ hZ.1 hZ
        ·
          refine hp_s (pc' := 73) (st' := [.int y1]) rfl rfl rfl ?_
          refine hp_s (pc' := 74) (st' := [.int y3, .int y1]) rfl rfl rfl ?_
          refine hp_ic (pc' := 77) (t := 89) (a := y1.toInt) (b := y3.toInt) rfl rfl rfl rfl rfl (fun (h16 : y1.toInt ≠ y3.toInt) => ?_) (fun (h17 : ¬ (y1.toInt ≠ y3.toInt)) => ?_)
          ·
            refine hp_s (pc' := 90) (st' := [.int 0]) rfl rfl rfl ?_
            refine hp_ri rfl rfl ?_
            have hZ := MC_go (u := (0 : Int32)) wp h2 hF hop hM h9 (by first | exact ljo_1 (x := y1) (y := y3) (by omega) | exact ljo_0 (x := y1) (y := y3) (by omega))
            exact k0 _ _ hZ.1 hZ
          ·
            refine hp_go (pc' := 85) rfl rfl rfl ?_
            refine hp_s (pc' := 86) (st' := [.int 1]) rfl rfl rfl ?_
            refine hp_go (pc' := 90) rfl rfl rfl ?_
            refine hp_ri rfl rfl ?_
            have hZ := MC_go (u := (1 : Int32)) wp h2 hF hop hM h9 (by first | exact ljo_1 (x := y1) (y := y3) (by omega) | exact ljo_0 (x := y1) (y := y3) (by omega))
            exact k0 _ _ hZ.1 hZ
      ·
        refine hp_s (pc' := 59) (st' := [.int y1]) rfl rfl rfl ?_
        refine hp_s (pc' := 60) (st' := [.int y3, .int y1]) rfl rfl rfl ?_
        refine hp_ic (pc' := 63) (t := 89) (a := y1.toInt) (b := y3.toInt) rfl rfl rfl rfl rfl (fun (h18 : y3.toInt ≤ y1.toInt) => ?_) (fun (h19 : ¬ (y3.toInt ≤ y1.toInt)) => ?_)
        ·
          refine hp_s (pc' := 90) (st' := [.int 0]) rfl rfl rfl ?_
          refine hp_ri rfl rfl ?_
          have hZ := MC_go (u := (0 : Int32)) wp h2 hF hop hM h9 (by first | exact ljo_1 (x := y1) (y := y3) (by omega) | exact ljo_0 (x := y1) (y := y3) (by omega))
          exact k0 _ _ hZ.1 hZ
        ·
          refine hp_go (pc' := 85) rfl rfl rfl ?_
          refine hp_s (pc' := 86) (st' := [.int 1]) rfl rfl rfl ?_
          refine hp_go (pc' := 90) rfl rfl rfl ?_
          refine hp_ri rfl rfl ?_
          have hZ := MC_go (u := (1 : Int32)) wp h2 hF hop hM h9 (by first | exact ljo_1 (x := y1) (y := y3) (by omega) | exact ljo_0 (x := y1) (y := y3) (by omega))
          exact k0 _ _ hZ.1 hZ
    ·
      refine hp_s (pc' := 24) (st' := [.int y2]) rfl rfl rfl ?_
      refine hp_s (pc' := 26) (st' := [.int 61, .int y2]) rfl rfl rfl ?_
      refine hp_ic (pc' := 29) (t := 37) (a := y2.toInt) (b := 61) rfl rfl rfl rfl (by decide) (fun (h20 : y2.toInt = 61) => ?_) (fun (h21 : ¬ (y2.toInt = 61)) => ?_)
      ·
        refine hp_s (pc' := 38) (st' := [.ref 66]) rfl rfl rfl ?_
        refine hp_s (pc' := 39) (st' := [.ref 66, .ref 66]) rfl rfl rfl ?_
        refine hp_get (k := 16) (pc' := 42) (v := (rI p1 66 16)) rfl rfl rfl rfl rfl rfl ?_
        refine hp_s (pc' := 43) (st' := [.int 1, .int (rI p1 66 16), .ref 66]) rfl rfl rfl ?_
        refine hp_z (pc' := 44) (e := (rI p1 66 16) + 1) (st' := [.ref 66]) rfl rfl rfl ?_
        intro z2 hz2
        have ez2 := i_add hz2 (show (rI p1 66 16).toInt = (rI p1 66 16).toInt from rfl) (show (1 : Int32).toInt = 1 from by decide)
        refine hp_put (k := 16) (pc' := 47) rfl rfl rfl rfl rfl ?_
        intro p4 wp4 ep4
        have hF : (rI p1 66 18).toInt < 0 := by omega
        have hop : lop 2 (fM p1 ((rI p1 66 16).toInt.toNat)) := by unfold lop; omega
        obtain ⟨qa, qb, qc, qd⟩ := hTp1
        have hTp1 : hMp p1 := ⟨qa, qb, qc, qd⟩
        have hM : Mat p1 p4 := ⟨z2, by omega, ep4⟩
        have hT1 := Mat_p wp hM hTp1 (Or.inr (by omega))
        refine hp_s (pc' := 48) (st' := [.ref 66]) rfl rfl rfl ?_
        refine hp_cv (r := 66) (o := 12) (kd := 1) (as := []) (rest := []) (pc' := 51) rfl rfl rfl rfl rfl rfl rfl rfl rfl (fun d4 => ?_)
        refine rM_su rc (by first | assumption | omega) ?_
        intro y4 p5 h22 h23
        skip
        refine hp_id (st := [.int y4]) ?_
        refine hp_s (pc' := 52) (ls' := [(3, .int y4), (2, .int y2), (1, .int y1), (0, .ref 66)]) (st' := []) rfl rfl rfl ?_
        refine hp_s (pc' := 53) (st' := [.int y2]) rfl rfl rfl ?_
        refine hp_s (pc' := 55) (st' := [.int 60, .int y2]) rfl rfl rfl ?_
        refine hp_ic (pc' := 58) (t := 66) (a := y2.toInt) (b := 60) rfl rfl rfl rfl (by decide) (fun (h24 : y2.toInt ≠ 60) => ?_) (fun (h25 : ¬ (y2.toInt ≠ 60)) => ?_)
        ·
          refine hp_s (pc' := 67) (st' := [.int y2]) rfl rfl rfl ?_
          refine hp_s (pc' := 69) (st' := [.int 61, .int y2]) rfl rfl rfl ?_
          refine hp_ic (pc' := 72) (t := 80) (a := y2.toInt) (b := 61) rfl rfl rfl rfl (by decide) (fun (h26 : y2.toInt ≠ 61) => ?_) (fun (h27 : ¬ (y2.toInt ≠ 61)) => ?_)
          ·
            refine hp_s (pc' := 81) (st' := [.int y1]) rfl rfl rfl ?_
            refine hp_s (pc' := 82) (st' := [.int y4, .int y1]) rfl rfl rfl ?_
            refine hp_ic (pc' := 85) (t := 89) (a := y1.toInt) (b := y4.toInt) rfl rfl rfl rfl rfl (fun (h28 : y1.toInt ≤ y4.toInt) => ?_) (fun (h29 : ¬ (y1.toInt ≤ y4.toInt)) => ?_)
            ·
              refine hp_s (pc' := 90) (st' := [.int 0]) rfl rfl rfl ?_
              refine hp_ri rfl rfl ?_
              have hZ := MC_go (u := (0 : Int32)) wp h2 hF hop hM h23 (by first | exact ljo_1 (x := y1) (y := y4) (by omega) | exact ljo_0 (x := y1) (y := y4) (by omega))
              exact k0 _ _ hZ.1 hZ
            ·
              refine hp_s (pc' := 86) (st' := [.int 1]) rfl rfl rfl ?_
              refine hp_go (pc' := 90) rfl rfl rfl ?_
              refine hp_ri rfl rfl ?_
              have hZ := MC_go (u := (1 : Int32)) wp h2 hF hop hM h23 (by first | exact ljo_1 (x := y1) (y := y4) (by omega) | exact ljo_0 (x := y1) (y := y4) (by omega))
              exact k0 _ _ hZ.1 hZ
          ·
            refine hp_s (pc' := 73) (st' := [.int y1]) rfl rfl rfl ?_
            refine hp_s (pc' := 74) (st' := [.int y4, .int y1]) rfl rfl rfl ?_
            refine hp_ic (pc' := 77) (t := 89) (a := y1.toInt) (b := y4.toInt) rfl rfl rfl rfl rfl (fun (h30 : y1.toInt ≠ y4.toInt) => ?_) (fun (h31 : ¬ (y1.toInt ≠ y4.toInt)) => ?_)
            ·
              refine hp_s (pc' := 90) (st' := [.int 0]) rfl rfl rfl ?_
              refine hp_ri rfl rfl ?_
              have hZ := MC_go (u := (0 : Int32)) wp h2 hF hop hM h23 (by first | exact ljo_1 (x := y1) (y := y4) (by omega) | exact ljo_0 (x := y1) (y := y4) (by omega))
              exact k0 _ _ hZ.1 hZ
            ·
              refine hp_go (pc' := 85) rfl rfl rfl ?_
              refine hp_s (pc' := 86) (st' := [.int 1]) rfl rfl rfl ?_
              refine hp_go (pc' := 90) rfl rfl rfl ?_
              refine hp_ri rfl rfl ?_
              have hZ := MC_go (u := (1 : Int32)) wp h2 hF hop hM h23 (by first | exact ljo_1 (x := y1) (y := y4) (by omega) | exact ljo_0 (x := y1) (y := y4) (by omega))
              exact k0 _ _ hZ.1 hZ
        ·
          refine hp_s (pc' := 59) (st' := [.int y1]) rfl rfl rfl ?_
          refine hp_s (pc' := 60) (st' := [.int y4, .int y1]) rfl rfl rfl ?_
          refine hp_ic (pc' := 63) (t := 89) (a := y1.toInt) (b := y4.toInt) rfl rfl rfl rfl rfl (fun (h32 : y4.toInt ≤ y1.toInt) => ?_) (fun (h33 : ¬ (y4.toInt ≤ y1.toInt)) => ?_)
          ·
            refine hp_s (pc' := 90) (st' := [.int 0]) rfl rfl rfl ?_
            refine hp_ri rfl rfl ?_
            have hZ := MC_go (u := (0 : Int32)) wp h2 hF hop hM h23 (by first | exact ljo_1 (x := y1) (y := y4) (by omega) | exact ljo_0 (x := y1) (y := y4) (by omega))
            exact k0 _ _ hZ.1 hZ
          ·
            refine hp_go (pc' := 85) rfl rfl rfl ?_
            refine hp_s (pc' := 86) (st' := [.int 1]) rfl rfl rfl ?_
            refine hp_go (pc' := 90) rfl rfl rfl ?_
            refine hp_ri rfl rfl ?_
            have hZ := MC_go (u := (1 : Int32)) wp h2 hF hop hM h23 (by first | exact ljo_1 (x := y1) (y := y4) (by omega) | exact ljo_0 (x := y1) (y := y4) (by omega))
            exact k0 _ _ hZ.1 hZ
      ·
        refine hp_s (pc' := 30) (st' := [.int y2]) rfl rfl rfl ?_
        refine hp_s (pc' := 32) (st' := [.int 62, .int y2]) rfl rfl rfl ?_
        refine hp_ic (pc' := 35) (t := 37) (a := y2.toInt) (b := 62) rfl rfl rfl rfl (by decide) (fun (h34 : y2.toInt = 62) => ?_) (fun (h35 : ¬ (y2.toInt = 62)) => ?_)
        ·
          refine hp_s (pc' := 38) (st' := [.ref 66]) rfl rfl rfl ?_
          refine hp_s (pc' := 39) (st' := [.ref 66, .ref 66]) rfl rfl rfl ?_
          refine hp_get (k := 16) (pc' := 42) (v := (rI p1 66 16)) rfl rfl rfl rfl rfl rfl ?_
          refine hp_s (pc' := 43) (st' := [.int 1, .int (rI p1 66 16), .ref 66]) rfl rfl rfl ?_
          refine hp_z (pc' := 44) (e := (rI p1 66 16) + 1) (st' := [.ref 66]) rfl rfl rfl ?_
          intro z3 hz3
          have ez3 := i_add hz3 (show (rI p1 66 16).toInt = (rI p1 66 16).toInt from rfl) (show (1 : Int32).toInt = 1 from by decide)
          refine hp_put (k := 16) (pc' := 47) rfl rfl rfl rfl rfl ?_
          intro p6 wp6 ep6
          have hF : (rI p1 66 18).toInt < 0 := by omega
          have hop : lop 2 (fM p1 ((rI p1 66 16).toInt.toNat)) := by unfold lop; omega
          obtain ⟨qa, qb, qc, qd⟩ := hTp1
          have hTp1 : hMp p1 := ⟨qa, qb, qc, qd⟩
          have hM : Mat p1 p6 := ⟨z3, by omega, ep6⟩
          have hT1 := Mat_p wp hM hTp1 (Or.inr (by omega))
          refine hp_s (pc' := 48) (st' := [.ref 66]) rfl rfl rfl ?_
          refine hp_cv (r := 66) (o := 12) (kd := 1) (as := []) (rest := []) (pc' := 51) rfl rfl rfl rfl rfl rfl rfl rfl rfl (fun d5 => ?_)
          refine rM_su rc (by first | assumption | omega) ?_
          intro y5 p7 h36 h37
          skip
          refine hp_id (st := [.int y5]) ?_
          refine hp_s (pc' := 52) (ls' := [(3, .int y5), (2, .int y2), (1, .int y1), (0, .ref 66)]) (st' := []) rfl rfl rfl ?_
          refine hp_s (pc' := 53) (st' := [.int y2]) rfl rfl rfl ?_
          refine hp_s (pc' := 55) (st' := [.int 60, .int y2]) rfl rfl rfl ?_
          refine hp_ic (pc' := 58) (t := 66) (a := y2.toInt) (b := 60) rfl rfl rfl rfl (by decide) (fun (h38 : y2.toInt ≠ 60) => ?_) (fun (h39 : ¬ (y2.toInt ≠ 60)) => ?_)
          ·
            refine hp_s (pc' := 67) (st' := [.int y2]) rfl rfl rfl ?_
            refine hp_s (pc' := 69) (st' := [.int 61, .int y2]) rfl rfl rfl ?_
            refine hp_ic (pc' := 72) (t := 80) (a := y2.toInt) (b := 61) rfl rfl rfl rfl (by decide) (fun (h40 : y2.toInt ≠ 61) => ?_) (fun (h41 : ¬ (y2.toInt ≠ 61)) => ?_)
            ·
              refine hp_s (pc' := 81) (st' := [.int y1]) rfl rfl rfl ?_
              refine hp_s (pc' := 82) (st' := [.int y5, .int y1]) rfl rfl rfl ?_
              refine hp_ic (pc' := 85) (t := 89) (a := y1.toInt) (b := y5.toInt) rfl rfl rfl rfl rfl (fun (h42 : y1.toInt ≤ y5.toInt) => ?_) (fun (h43 : ¬ (y1.toInt ≤ y5.toInt)) => ?_)
              ·
                refine hp_s (pc' := 90) (st' := [.int 0]) rfl rfl rfl ?_
                refine hp_ri rfl rfl ?_
                have hZ := MC_go (u := (0 : Int32)) wp h2 hF hop hM h37 (by first | exact ljo_1 (x := y1) (y := y5) (by omega) | exact ljo_0 (x := y1) (y := y5) (by omega))
                exact k0 _ _ hZ.1 hZ
              ·
                refine hp_s (pc' := 86) (st' := [.int 1]) rfl rfl rfl ?_
                refine hp_go (pc' := 90) rfl rfl rfl ?_
                refine hp_ri rfl rfl ?_
                have hZ := MC_go (u := (1 : Int32)) wp h2 hF hop hM h37 (by first | exact ljo_1 (x := y1) (y := y5) (by omega) | exact ljo_0 (x := y1) (y := y5) (by omega))
                exact k0 _ _ hZ.1 hZ
            ·
              refine hp_s (pc' := 73) (st' := [.int y1]) rfl rfl rfl ?_
              refine hp_s (pc' := 74) (st' := [.int y5, .int y1]) rfl rfl rfl ?_
              refine hp_ic (pc' := 77) (t := 89) (a := y1.toInt) (b := y5.toInt) rfl rfl rfl rfl rfl (fun (h44 : y1.toInt ≠ y5.toInt) => ?_) (fun (h45 : ¬ (y1.toInt ≠ y5.toInt)) => ?_)
              ·
                refine hp_s (pc' := 90) (st' := [.int 0]) rfl rfl rfl ?_
                refine hp_ri rfl rfl ?_
                have hZ := MC_go (u := (0 : Int32)) wp h2 hF hop hM h37 (by first | exact ljo_1 (x := y1) (y := y5) (by omega) | exact ljo_0 (x := y1) (y := y5) (by omega))
                exact k0 _ _ hZ.1 hZ
              ·
                refine hp_go (pc' := 85) rfl rfl rfl ?_
                refine hp_s (pc' := 86) (st' := [.int 1]) rfl rfl rfl ?_
                refine hp_go (pc' := 90) rfl rfl rfl ?_
                refine hp_ri rfl rfl ?_
                have hZ := MC_go (u := (1 : Int32)) wp h2 hF hop hM h37 (by first | exact ljo_1 (x := y1) (y := y5) (by omega) | exact ljo_0 (x := y1) (y := y5) (by omega))
                exact k0 _ _ hZ.1 hZ
          ·
            refine hp_s (pc' := 59) (st' := [.int y1]) rfl rfl rfl ?_
            refine hp_s (pc' := 60) (st' := [.int y5, .int y1]) rfl rfl rfl ?_
            refine hp_ic (pc' := 63) (t := 89) (a := y1.toInt) (b := y5.toInt) rfl rfl rfl rfl rfl (fun (h46 : y5.toInt ≤ y1.toInt) => ?_) (fun (h47 : ¬ (y5.toInt ≤ y1.toInt)) => ?_)
            ·
              refine hp_s (pc' := 90) (st' := [.int 0]) rfl rfl rfl ?_
              refine hp_ri rfl rfl ?_
              have hZ := MC_go (u := (0 : Int32)) wp h2 hF hop hM h37 (by first | exact ljo_1 (x := y1) (y := y5) (by omega) | exact ljo_0 (x := y1) (y := y5) (by omega))
              exact k0 _ _ hZ.1 hZ
            ·
              refine hp_go (pc' := 85) rfl rfl rfl ?_
              refine hp_s (pc' := 86) (st' := [.int 1]) rfl rfl rfl ?_
              refine hp_go (pc' := 90) rfl rfl rfl ?_
              refine hp_ri rfl rfl ?_
              have hZ := MC_go (u := (1 : Int32)) wp h2 hF hop hM h37 (by first | exact ljo_1 (x := y1) (y := y5) (by omega) | exact ljo_0 (x := y1) (y := y5) (by omega))
              exact k0 _ _ hZ.1 hZ
        ·
          refine hp_s (pc' := 36) (st' := [.int y1]) rfl rfl rfl ?_
          refine hp_ri rfl rfl ?_
          exact k0 _ _ h1 (MC_no h2 (by first | exact Or.inl (by omega) | exact Or.inr (by unfold lop; omega)))
theorem lp_203b {ro : List (List Int32)} {d : Nat} {Q : Option Value → xH → Prop} {p0 : xH} (g0 : hMp p0) (K : ∀ (v : Int32) (p2 : xH), MO 3 p0 p2 v → Q (some (.int v)) p2) : ∀ (n : Nat) (v : Int32) (s : Int32) (t : Int32) (p : xH), (RC_mo ro n) → (ML 3 p0 p v) → hP ro n d (12, 4, 1, 1, k203) 5 [(1, .int v), (3, .int t), (2, .int s), (0, .ref 66)] [] p Q := by
  intro n
  induction n with
  | zero => intros; exact hp_0
  | succ n ih =>
    intro v s t p rc hX
    replace rc := RC_mo_more rc
    refine hp_hw (fun wp => ?_)
    have hTp1 := ML_p g0 hX
    refine hp_s1 (pc' := 6) (st' := [.ref 66]) rfl rfl rfl ?_
    refine hp_get (k := 18) (pc' := 9) (v := (rI p 66 18)) rfl rfl rfl rfl rfl rfl ?_
    refine hp_if (pc' := 12) (t := 77) (a := (rI p 66 18).toInt) rfl rfl rfl rfl (fun (h1 : 0 ≤ (rI p 66 18).toInt) => ?_) (fun (h2 : ¬ (0 ≤ (rI p 66 18).toInt)) => ?_)
    ·
      refine hp_s (pc' := 78) (st' := [.int v]) rfl rfl rfl ?_
      refine hp_ri rfl rfl ?_
      exact K v p (ML_out hX (by first | exact Or.inl (by omega) | exact Or.inr (by unfold lop; omega)))
    ·
      refine hp_s (pc' := 13) (st' := [.ref 66]) rfl rfl rfl ?_
      refine hp_cv (r := 66) (o := 12) (kd := 1) (as := []) (rest := []) (pc' := 16) rfl rfl rfl rfl rfl rfl rfl rfl rfl (fun d1 => ?_)
      refine s_byteAt (by first | assumption | omega) ?_
      intro y1 h3
      have hb1 := h3
      refine hp_id (st := [.int y1]) ?_
      refine hp_s (pc' := 18) (st' := [.int 43, .int y1]) rfl rfl rfl ?_
      refine hp_ic (pc' := 21) (t := 30) (a := y1.toInt) (b := 43) rfl rfl rfl rfl (by decide) (fun (h4 : y1.toInt = 43) => ?_) (fun (h5 : ¬ (y1.toInt = 43)) => ?_)
      ·
        refine hp_s (pc' := 31) (st' := [.ref 66]) rfl rfl rfl ?_
        refine hp_cv (r := 66) (o := 12) (kd := 1) (as := []) (rest := []) (pc' := 34) rfl rfl rfl rfl rfl rfl rfl rfl rfl (fun d2 => ?_)
        refine s_byteAt (by first | assumption | omega) ?_
        intro y2 h6
        have hb3 := h6
        refine hp_id (st := [.int y2]) ?_
        refine hp_s (pc' := 36) (st' := [.int 43, .int y2]) rfl rfl rfl ?_
        refine hp_ic (pc' := 39) (t := 43) (a := y2.toInt) (b := 43) rfl rfl rfl rfl (by decide) (fun (h7 : y2.toInt ≠ 43) => ?_) (fun (h8 : ¬ (y2.toInt ≠ 43)) => ?_)
        ·
          refine hp_s (pc' := 44) (st' := [.int 0]) rfl rfl rfl ?_
          refine hp_s (pc' := 45) (ls' := [(2, .int 0), (1, .int v), (3, .int t), (0, .ref 66)]) (st' := []) rfl rfl rfl ?_
          refine hp_s (pc' := 46) (st' := [.ref 66]) rfl rfl rfl ?_
          refine hp_s (pc' := 47) (st' := [.ref 66, .ref 66]) rfl rfl rfl ?_
          refine hp_get (k := 16) (pc' := 50) (v := (rI p 66 16)) rfl rfl rfl rfl rfl rfl ?_
          refine hp_s (pc' := 51) (st' := [.int 1, .int (rI p 66 16), .ref 66]) rfl rfl rfl ?_
          refine hp_z (pc' := 52) (e := (rI p 66 16) + 1) (st' := [.ref 66]) rfl rfl rfl ?_
          intro z1 hz1
          have ez1 := i_add hz1 (show (rI p 66 16).toInt = (rI p 66 16).toInt from rfl) (show (1 : Int32).toInt = 1 from by decide)
          refine hp_put (k := 16) (pc' := 55) rfl rfl rfl rfl rfl ?_
          intro p1 wp1 ep1
          have hF : (rI p 66 18).toInt < 0 := by omega
          have hop : lop 3 (fM p ((rI p 66 16).toInt.toNat)) := by unfold lop; omega
          obtain ⟨qa, qb, qc, qd⟩ := hTp1
          have hTp1 : hMp p := ⟨qa, qb, qc, qd⟩
          have hM : Mat p p1 := ⟨z1, by omega, ep1⟩
          have hT1 := Mat_p wp hM hTp1 (Or.inr (by omega))
          refine hp_s (pc' := 56) (st' := [.ref 66]) rfl rfl rfl ?_
          refine hp_cv (r := 66) (o := 12) (kd := 1) (as := []) (rest := []) (pc' := 59) rfl rfl rfl rfl rfl rfl rfl rfl rfl (fun d3 => ?_)
          refine rM_pr rc (by first | assumption | omega) ?_
          intro y3 p2 h9 h10
          refine hp_hw (fun wq => ?_)
          have hT2 := MO_p hT1 h10
          refine hp_id (st := [.int y3]) ?_
          refine hp_s (pc' := 60) (ls' := [(3, .int y3), (2, .int 0), (1, .int v), (0, .ref 66)]) (st' := []) rfl rfl rfl ?_
          refine hp_s (pc' := 61) (st' := [.int 0]) rfl rfl rfl ?_
          refine hp_go (pc' := 70) rfl rfl rfl ?_
          refine hp_s (pc' := 71) (st' := [.int v]) rfl rfl rfl ?_
          refine hp_s (pc' := 72) (st' := [.int y3, .int v]) rfl rfl rfl ?_
          refine hp_z (pc' := 73) (e := v - y3) (st' := []) rfl rfl rfl ?_
          intro z2 hz2
          have ez2 := i_sub hz2 (show v.toInt = v.toInt from rfl) (show y3.toInt = y3.toInt from rfl)
          refine hp_s (pc' := 74) (ls' := [(1, .int z2), (3, .int y3), (2, .int 0), (0, .ref 66)]) (st' := []) rfl rfl rfl ?_
          refine hp_go (pc' := 5) rfl rfl rfl ?_
          exact ih z2 (0 : Int32) y3 _ rc (ML_go g0 wp hX hF hop hM h10 (by first | (rw [hz2]; exact ljo_ad (by omega)) | (rw [hz2]; exact ljo_su (by omega))))
        ·
          refine hp_s (pc' := 40) (st' := [.int 1]) rfl rfl rfl ?_
          refine hp_go (pc' := 44) rfl rfl rfl ?_
          refine hp_s (pc' := 45) (ls' := [(2, .int 1), (1, .int v), (3, .int t), (0, .ref 66)]) (st' := []) rfl rfl rfl ?_
          refine hp_s (pc' := 46) (st' := [.ref 66]) rfl rfl rfl ?_
          refine hp_s (pc' := 47) (st' := [.ref 66, .ref 66]) rfl rfl rfl ?_
          refine hp_get (k := 16) (pc' := 50) (v := (rI p 66 16)) rfl rfl rfl rfl rfl rfl ?_
          refine hp_s (pc' := 51) (st' := [.int 1, .int (rI p 66 16), .ref 66]) rfl rfl rfl ?_
          refine hp_z (pc' := 52) (e := (rI p 66 16) + 1) (st' := [.ref 66]) rfl rfl rfl ?_
          intro z3 hz3
          have ez3 := i_add hz3 (show (rI p 66 16).toInt = (rI p 66 16).toInt from rfl) (show (1 : Int32).toInt = 1 from by decide)
          refine hp_put (k := 16) (pc' := 55) rfl rfl rfl rfl rfl ?_
          intro p3 wp3 ep3
          have hF : (rI p 66 18).toInt < 0 := by omega
          have hop : lop 3 (fM p ((rI p 66 16).toInt.toNat)) := by unfold lop; omega
          obtain ⟨qa, qb, qc, qd⟩ := hTp1
          have hTp1 : hMp p := ⟨qa, qb, qc, qd⟩
          have hM : Mat p p3 := ⟨z3, by omega, ep3⟩
          have hT1 := Mat_p wp hM hTp1 (Or.inr (by omega))
          refine hp_s (pc' := 56) (st' := [.ref 66]) rfl rfl rfl ?_
          refine hp_cv (r := 66) (o := 12) (kd := 1) (as := []) (rest := []) (pc' := 59) rfl rfl rfl rfl rfl rfl rfl rfl rfl (fun d4 => ?_)
          refine rM_pr rc (by first | assumption | omega) ?_
          intro y4 p4 h11 h12
          refine hp_hw (fun wq => ?_)
          have hT2 := MO_p hT1 h12
          refine hp_id (st := [.int y4]) ?_
          refine hp_s (pc' := 60) (ls' := [(3, .int y4), (2, .int 1), (1, .int v), (0, .ref 66)]) (st' := []) rfl rfl rfl ?_
          refine hp_s (pc' := 61) (st' := [.int 1]) rfl rfl rfl ?_
          refine hp_go (pc' := 64) rfl rfl rfl ?_
          refine hp_s (pc' := 65) (st' := [.int v]) rfl rfl rfl ?_
          refine hp_s (pc' := 66) (st' := [.int y4, .int v]) rfl rfl rfl ?_
          refine hp_z (pc' := 67) (e := v + y4) (st' := []) rfl rfl rfl ?_
          intro z4 hz4
          have ez4 := i_add hz4 (show v.toInt = v.toInt from rfl) (show y4.toInt = y4.toInt from rfl)
          refine hp_go (pc' := 73) rfl rfl rfl ?_
          refine hp_s (pc' := 74) (ls' := [(1, .int z4), (3, .int y4), (2, .int 1), (0, .ref 66)]) (st' := []) rfl rfl rfl ?_
          refine hp_go (pc' := 5) rfl rfl rfl ?_
          exact ih z4 (1 : Int32) y4 _ rc (ML_go g0 wp hX hF hop hM h12 (by first | (rw [hz4]; exact ljo_ad (by omega)) | (rw [hz4]; exact ljo_su (by omega))))
      ·
        refine hp_s (pc' := 22) (st' := [.ref 66]) rfl rfl rfl ?_
        refine hp_cv (r := 66) (o := 12) (kd := 1) (as := []) (rest := []) (pc' := 25) rfl rfl rfl rfl rfl rfl rfl rfl rfl (fun d5 => ?_)
        refine s_byteAt (by first | assumption | omega) ?_
        intro y5 h13
        have hb2 := h13
        refine hp_id (st := [.int y5]) ?_
        refine hp_s (pc' := 27) (st' := [.int 45, .int y5]) rfl rfl rfl ?_
        refine hp_ic (pc' := 30) (t := 77) (a := y5.toInt) (b := 45) rfl rfl rfl rfl (by decide) (fun (h14 : y5.toInt ≠ 45) => ?_) (fun (h15 : ¬ (y5.toInt ≠ 45)) => ?_)
        ·
          refine hp_s (pc' := 78) (st' := [.int v]) rfl rfl rfl ?_
          refine hp_ri rfl rfl ?_
          exact K v p (ML_out hX (by first | exact Or.inl (by omega) | exact Or.inr (by unfold lop; omega)))
        ·
          refine hp_s (pc' := 31) (st' := [.ref 66]) rfl rfl rfl ?_
          refine hp_cv (r := 66) (o := 12) (kd := 1) (as := []) (rest := []) (pc' := 34) rfl rfl rfl rfl rfl rfl rfl rfl rfl (fun d6 => ?_)
          refine s_byteAt (by first | assumption | omega) ?_
          intro y6 h16
          have hb3 := h16
          refine hp_id (st := [.int y6]) ?_
          refine hp_s (pc' := 36) (st' := [.int 43, .int y6]) rfl rfl rfl ?_
          refine hp_ic (pc' := 39) (t := 43) (a := y6.toInt) (b := 43) rfl rfl rfl rfl (by decide) (fun (h17 : y6.toInt ≠ 43) => ?_) (fun (h18 : ¬ (y6.toInt ≠ 43)) => ?_)
          ·
            refine hp_s (pc' := 44) (st' := [.int 0]) rfl rfl rfl ?_
            refine hp_s (pc' := 45) (ls' := [(2, .int 0), (1, .int v), (3, .int t), (0, .ref 66)]) (st' := []) rfl rfl rfl ?_
            refine hp_s (pc' := 46) (st' := [.ref 66]) rfl rfl rfl ?_
            refine hp_s (pc' := 47) (st' := [.ref 66, .ref 66]) rfl rfl rfl ?_
            refine hp_get (k := 16) (pc' := 50) (v := (rI p 66 16)) rfl rfl rfl rfl rfl rfl ?_
            refine hp_s (pc' := 51) (st' := [.int 1, .int (rI p 66 16), .ref 66]) rfl rfl rfl ?_
            refine hp_z (pc' := 52) (e := (rI p 66 16) + 1) (st' := [.ref 66]) rfl rfl rfl ?_
            intro z5 hz5
            have ez5 := i_add hz5 (show (rI p 66 16).toInt = (rI p 66 16).toInt from rfl) (show (1 : Int32).toInt = 1 from by decide)
            refine hp_put (k := 16) (pc' := 55) rfl rfl rfl rfl rfl ?_
            intro p5 wp5 ep5
            have hF : (rI p 66 18).toInt < 0 := by omega
            have hop : lop 3 (fM p ((rI p 66 16).toInt.toNat)) := by unfold lop; omega
            obtain ⟨qa, qb, qc, qd⟩ := hTp1
            have hTp1 : hMp p := ⟨qa, qb, qc, qd⟩
            have hM : Mat p p5 := ⟨z5, by omega, ep5⟩
            have hT1 := Mat_p wp hM hTp1 (Or.inr (by omega))
            refine hp_s (pc' := 56) (st' := [.ref 66]) rfl rfl rfl ?_
            refine hp_cv (r := 66) (o := 12) (kd := 1) (as := []) (rest := []) (pc' := 59) rfl rfl rfl rfl rfl rfl rfl rfl rfl (fun d7 => ?_)
            refine rM_pr rc (by first | assumption | omega) ?_
            intro y7 p6 h19 h20
            refine hp_hw (fun wq => ?_)
            have hT2 := MO_p hT1 h20
            refine hp_id (st := [.int y7]) ?_
            refine hp_s (pc' := 60) (ls' := [(3, .int y7), (2, .int 0), (1, .int v), (0, .ref 66)]) (st' := []) rfl rfl rfl ?_
            refine hp_s (pc' := 61) (st' := [.int 0]) rfl rfl rfl ?_
            refine hp_go (pc' := 70) rfl rfl rfl ?_
            refine hp_s (pc' := 71) (st' := [.int v]) rfl rfl rfl ?_
            refine hp_s (pc' := 72) (st' := [.int y7, .int v]) rfl rfl rfl ?_
            refine hp_z (pc' := 73) (e := v - y7) (st' := []) rfl rfl rfl ?_
            intro z6 hz6
            have ez6 := i_sub hz6 (show v.toInt = v.toInt from rfl) (show y7.toInt = y7.toInt from rfl)
            refine hp_s (pc' := 74) (ls' := [(1, .int z6), (3, .int y7), (2, .int 0), (0, .ref 66)]) (st' := []) rfl rfl rfl ?_
            refine hp_go (pc' := 5) rfl rfl rfl ?_
            exact ih z6 (0 : Int32) y7 _ rc (ML_go g0 wp hX hF hop hM h20 (by first | (rw [hz6]; exact ljo_ad (by omega)) | (rw [hz6]; exact ljo_su (by omega))))
          ·
            refine hp_s (pc' := 40) (st' := [.int 1]) rfl rfl rfl ?_
            refine hp_go (pc' := 44) rfl rfl rfl ?_
            refine hp_s (pc' := 45) (ls' := [(2, .int 1), (1, .int v), (3, .int t), (0, .ref 66)]) (st' := []) rfl rfl rfl ?_
            refine hp_s (pc' := 46) (st' := [.ref 66]) rfl rfl rfl ?_
            refine hp_s (pc' := 47) (st' := [.ref 66, .ref 66]) rfl rfl rfl ?_
            refine hp_get (k := 16) (pc' := 50) (v := (rI p 66 16)) rfl rfl rfl rfl rfl rfl ?_
            refine hp_s (pc' := 51) (st' := [.int 1, .int (rI p 66 16), .ref 66]) rfl rfl rfl ?_
            refine hp_z (pc' := 52) (e := (rI p 66 16) + 1) (st' := [.ref 66]) rfl rfl rfl ?_
            intro z7 hz7
            have ez7 := i_add hz7 (show (rI p 66 16).toInt = (rI p 66 16).toInt from rfl) (show (1 : Int32).toInt = 1 from by decide)
            refine hp_put (k := 16) (pc' := 55) rfl rfl rfl rfl rfl ?_
            intro p7 wp7 ep7
            have hF : (rI p 66 18).toInt < 0 := by omega
            have hop : lop 3 (fM p ((rI p 66 16).toInt.toNat)) := by unfold lop; omega
            obtain ⟨qa, qb, qc, qd⟩ := hTp1
            have hTp1 : hMp p := ⟨qa, qb, qc, qd⟩
            have hM : Mat p p7 := ⟨z7, by omega, ep7⟩
            have hT1 := Mat_p wp hM hTp1 (Or.inr (by omega))
            refine hp_s (pc' := 56) (st' := [.ref 66]) rfl rfl rfl ?_
            refine hp_cv (r := 66) (o := 12) (kd := 1) (as := []) (rest := []) (pc' := 59) rfl rfl rfl rfl rfl rfl rfl rfl rfl (fun d8 => ?_)
            refine rM_pr rc (by first | assumption | omega) ?_
            intro y8 p8 h21 h22
            refine hp_hw (fun wq => ?_)
            have hT2 := MO_p hT1 h22
            refine hp_id (st := [.int y8]) ?_
            refine hp_s (pc' := 60) (ls' := [(3, .int y8), (2, .int 1), (1, .int v), (0, .ref 66)]) (st' := []) rfl rfl rfl ?_
            refine hp_s (pc' := 61) (st' := [.int 1]) rfl rfl rfl ?_
            refine hp_go (pc' := 64) rfl rfl rfl ?_
            refine hp_s (pc' := 65) (st' := [.int v]) rfl rfl rfl ?_
            refine hp_s (pc' := 66) (st' := [.int y8, .int v]) rfl rfl rfl ?_
            refine hp_z (pc' := 67) (e := v + y8) (st' := []) rfl rfl rfl ?_
            intro z8 hz8
            have ez8 := i_add hz8 (show v.toInt = v.toInt from rfl) (show y8.toInt = y8.toInt from rfl)
            refine hp_go (pc' := 73) rfl rfl rfl ?_
            refine hp_s (pc' := 74) (ls' := [(1, .int z8), (3, .int y8), (2, .int 1), (0, .ref 66)]) (st' := []) rfl rfl rfl ?_
            refine hp_go (pc' := 5) rfl rfl rfl ?_
            exact ih z8 (1 : Int32) y8 _ rc (ML_go g0 wp hX hF hop hM h22 (by first | (rw [hz8]; exact ljo_ad (by omega)) | (rw [hz8]; exact ljo_su (by omega))))
theorem lp_203a {ro : List (List Int32)} {d : Nat} {Q : Option Value → xH → Prop} {p0 : xH} (g0 : hMp p0) (K : ∀ (v : Int32) (p2 : xH), MO 3 p0 p2 v → Q (some (.int v)) p2) : ∀ (n : Nat) (v : Int32) (p : xH), (RC_mo ro n) → (ML 3 p0 p v) → hP ro n d (12, 4, 1, 1, k203) 5 [(1, .int v), (0, .ref 66)] [] p Q := by
  intro n
  intro v p rc hX
  refine hp_hw (fun wp => ?_)
  have hTp1 := ML_p g0 hX
  refine hp_s (pc' := 6) (st' := [.ref 66]) rfl rfl rfl ?_
  refine hp_get (k := 18) (pc' := 9) (v := (rI p 66 18)) rfl rfl rfl rfl rfl rfl ?_
  refine hp_if (pc' := 12) (t := 77) (a := (rI p 66 18).toInt) rfl rfl rfl rfl (fun (h1 : 0 ≤ (rI p 66 18).toInt) => ?_) (fun (h2 : ¬ (0 ≤ (rI p 66 18).toInt)) => ?_)
  ·
    refine hp_s (pc' := 78) (st' := [.int v]) rfl rfl rfl ?_
    refine hp_ri rfl rfl ?_
    exact K v p (ML_out hX (by first | exact Or.inl (by omega) | exact Or.inr (by unfold lop; omega)))
  ·
    refine hp_s (pc' := 13) (st' := [.ref 66]) rfl rfl rfl ?_
    refine hp_cv (r := 66) (o := 12) (kd := 1) (as := []) (rest := []) (pc' := 16) rfl rfl rfl rfl rfl rfl rfl rfl rfl (fun d1 => ?_)
    refine s_byteAt (by first | assumption | omega) ?_
    intro y1 h3
    have hb1 := h3
    refine hp_id (st := [.int y1]) ?_
    refine hp_s (pc' := 18) (st' := [.int 43, .int y1]) rfl rfl rfl ?_
    refine hp_ic (pc' := 21) (t := 30) (a := y1.toInt) (b := 43) rfl rfl rfl rfl (by decide) (fun (h4 : y1.toInt = 43) => ?_) (fun (h5 : ¬ (y1.toInt = 43)) => ?_)
    ·
      refine hp_s (pc' := 31) (st' := [.ref 66]) rfl rfl rfl ?_
      refine hp_cv (r := 66) (o := 12) (kd := 1) (as := []) (rest := []) (pc' := 34) rfl rfl rfl rfl rfl rfl rfl rfl rfl (fun d2 => ?_)
      refine s_byteAt (by first | assumption | omega) ?_
      intro y2 h6
      have hb3 := h6
      refine hp_id (st := [.int y2]) ?_
      refine hp_s (pc' := 36) (st' := [.int 43, .int y2]) rfl rfl rfl ?_
      refine hp_ic (pc' := 39) (t := 43) (a := y2.toInt) (b := 43) rfl rfl rfl rfl (by decide) (fun (h7 : y2.toInt ≠ 43) => ?_) (fun (h8 : ¬ (y2.toInt ≠ 43)) => ?_)
      ·
        refine hp_s (pc' := 44) (st' := [.int 0]) rfl rfl rfl ?_
        refine hp_s (pc' := 45) (ls' := [(2, .int 0), (1, .int v), (0, .ref 66)]) (st' := []) rfl rfl rfl ?_
        refine hp_s (pc' := 46) (st' := [.ref 66]) rfl rfl rfl ?_
        refine hp_s (pc' := 47) (st' := [.ref 66, .ref 66]) rfl rfl rfl ?_
        refine hp_get (k := 16) (pc' := 50) (v := (rI p 66 16)) rfl rfl rfl rfl rfl rfl ?_
        refine hp_s (pc' := 51) (st' := [.int 1, .int (rI p 66 16), .ref 66]) rfl rfl rfl ?_
        refine hp_z (pc' := 52) (e := (rI p 66 16) + 1) (st' := [.ref 66]) rfl rfl rfl ?_
        intro z1 hz1
        have ez1 := i_add hz1 (show (rI p 66 16).toInt = (rI p 66 16).toInt from rfl) (show (1 : Int32).toInt = 1 from by decide)
        refine hp_put (k := 16) (pc' := 55) rfl rfl rfl rfl rfl ?_
        intro p1 wp1 ep1
        have hF : (rI p 66 18).toInt < 0 := by omega
        have hop : lop 3 (fM p ((rI p 66 16).toInt.toNat)) := by unfold lop; omega
        obtain ⟨qa, qb, qc, qd⟩ := hTp1
        have hTp1 : hMp p := ⟨qa, qb, qc, qd⟩
        have hM : Mat p p1 := ⟨z1, by omega, ep1⟩
        have hT1 := Mat_p wp hM hTp1 (Or.inr (by omega))
        refine hp_s (pc' := 56) (st' := [.ref 66]) rfl rfl rfl ?_
        refine hp_cv (r := 66) (o := 12) (kd := 1) (as := []) (rest := []) (pc' := 59) rfl rfl rfl rfl rfl rfl rfl rfl rfl (fun d3 => ?_)
        refine rM_pr rc (by first | assumption | omega) ?_
        intro y3 p2 h9 h10
        refine hp_hw (fun wq => ?_)
        have hT2 := MO_p hT1 h10
        refine hp_id (st := [.int y3]) ?_
        refine hp_s (pc' := 60) (ls' := [(3, .int y3), (2, .int 0), (1, .int v), (0, .ref 66)]) (st' := []) rfl rfl rfl ?_
        refine hp_s (pc' := 61) (st' := [.int 0]) rfl rfl rfl ?_
        refine hp_go (pc' := 70) rfl rfl rfl ?_
        refine hp_s (pc' := 71) (st' := [.int v]) rfl rfl rfl ?_
        refine hp_s (pc' := 72) (st' := [.int y3, .int v]) rfl rfl rfl ?_
        refine hp_z (pc' := 73) (e := v - y3) (st' := []) rfl rfl rfl ?_
        intro z2 hz2
        have ez2 := i_sub hz2 (show v.toInt = v.toInt from rfl) (show y3.toInt = y3.toInt from rfl)
        refine hp_s (pc' := 74) (ls' := [(1, .int z2), (3, .int y3), (2, .int 0), (0, .ref 66)]) (st' := []) rfl rfl rfl ?_
        refine hp_go (pc' := 5) rfl rfl rfl ?_
        exact lp_203b g0 K n z2 (0 : Int32) y3 _ rc (ML_go g0 wp hX hF hop hM h10 (by first | (rw [hz2]; exact ljo_ad (by omega)) | (rw [hz2]; exact ljo_su (by omega))))
      ·
        refine hp_s (pc' := 40) (st' := [.int 1]) rfl rfl rfl ?_
        refine hp_go (pc' := 44) rfl rfl rfl ?_
        refine hp_s (pc' := 45) (ls' := [(2, .int 1), (1, .int v), (0, .ref 66)]) (st' := []) rfl rfl rfl ?_
        refine hp_s (pc' := 46) (st' := [.ref 66]) rfl rfl rfl ?_
        refine hp_s (pc' := 47) (st' := [.ref 66, .ref 66]) rfl rfl rfl ?_
        refine hp_get (k := 16) (pc' := 50) (v := (rI p 66 16)) rfl rfl rfl rfl rfl rfl ?_
        refine hp_s (pc' := 51) (st' := [.int 1, .int (rI p 66 16), .ref 66]) rfl rfl rfl ?_
        refine hp_z (pc' := 52) (e := (rI p 66 16) + 1) (st' := [.ref 66]) rfl rfl rfl ?_
        intro z3 hz3
        have ez3 := i_add hz3 (show (rI p 66 16).toInt = (rI p 66 16).toInt from rfl) (show (1 : Int32).toInt = 1 from by decide)
        refine hp_put (k := 16) (pc' := 55) rfl rfl rfl rfl rfl ?_
        intro p3 wp3 ep3
        have hF : (rI p 66 18).toInt < 0 := by omega
        have hop : lop 3 (fM p ((rI p 66 16).toInt.toNat)) := by unfold lop; omega
        obtain ⟨qa, qb, qc, qd⟩ := hTp1
        have hTp1 : hMp p := ⟨qa, qb, qc, qd⟩
        have hM : Mat p p3 := ⟨z3, by omega, ep3⟩
        have hT1 := Mat_p wp hM hTp1 (Or.inr (by omega))
        refine hp_s (pc' := 56) (st' := [.ref 66]) rfl rfl rfl ?_
        refine hp_cv (r := 66) (o := 12) (kd := 1) (as := []) (rest := []) (pc' := 59) rfl rfl rfl rfl rfl rfl rfl rfl rfl (fun d4 => ?_)
        refine rM_pr rc (by first | assumption | omega) ?_
        intro y4 p4 h11 h12
        refine hp_hw (fun wq => ?_)
        have hT2 := MO_p hT1 h12
        refine hp_id (st := [.int y4]) ?_
        refine hp_s (pc' := 60) (ls' := [(3, .int y4), (2, .int 1), (1, .int v), (0, .ref 66)]) (st' := []) rfl rfl rfl ?_
        refine hp_s (pc' := 61) (st' := [.int 1]) rfl rfl rfl ?_
        refine hp_go (pc' := 64) rfl rfl rfl ?_
        refine hp_s (pc' := 65) (st' := [.int v]) rfl rfl rfl ?_
        refine hp_s (pc' := 66) (st' := [.int y4, .int v]) rfl rfl rfl ?_
        refine hp_z (pc' := 67) (e := v + y4) (st' := []) rfl rfl rfl ?_
        intro z4 hz4
        have ez4 := i_add hz4 (show v.toInt = v.toInt from rfl) (show y4.toInt = y4.toInt from rfl)
        refine hp_go (pc' := 73) rfl rfl rfl ?_
        refine hp_s (pc' := 74) (ls' := [(1, .int z4), (3, .int y4), (2, .int 1), (0, .ref 66)]) (st' := []) rfl rfl rfl ?_
        refine hp_go (pc' := 5) rfl rfl rfl ?_
        exact lp_203b g0 K n z4 (1 : Int32) y4 _ rc (ML_go g0 wp hX hF hop hM h12 (by first | (rw [hz4]; exact ljo_ad (by omega)) | (rw [hz4]; exact ljo_su (by omega))))
    ·
      refine hp_s (pc' := 22) (st' := [.ref 66]) rfl rfl rfl ?_
      refine hp_cv (r := 66) (o := 12) (kd := 1) (as := []) (rest := []) (pc' := 25) rfl rfl rfl rfl rfl rfl rfl rfl rfl (fun d5 => ?_)
      refine s_byteAt (by first | assumption | omega) ?_
      intro y5 h13
      have hb2 := h13
      refine hp_id (st := [.int y5]) ?_
      refine hp_s (pc' := 27) (st' := [.int 45, .int y5]) rfl rfl rfl ?_
      refine hp_ic (pc' := 30) (t := 77) (a := y5.toInt) (b := 45) rfl rfl rfl rfl (by decide) (fun (h14 : y5.toInt ≠ 45) => ?_) (fun (h15 : ¬ (y5.toInt ≠ 45)) => ?_)
      ·
        refine hp_s (pc' := 78) (st' := [.int v]) rfl rfl rfl ?_
        refine hp_ri rfl rfl ?_
        exact K v p (ML_out hX (by first | exact Or.inl (by omega) | exact Or.inr (by unfold lop; omega)))
      ·
        refine hp_s (pc' := 31) (st' := [.ref 66]) rfl rfl rfl ?_
        refine hp_cv (r := 66) (o := 12) (kd := 1) (as := []) (rest := []) (pc' := 34) rfl rfl rfl rfl rfl rfl rfl rfl rfl (fun d6 => ?_)
        refine s_byteAt (by first | assumption | omega) ?_
        intro y6 h16
        have hb3 := h16
        refine hp_id (st := [.int y6]) ?_
        refine hp_s (pc' := 36) (st' := [.int 43, .int y6]) rfl rfl rfl ?_
        refine hp_ic (pc' := 39) (t := 43) (a := y6.toInt) (b := 43) rfl rfl rfl rfl (by decide) (fun (h17 : y6.toInt ≠ 43) => ?_) (fun (h18 : ¬ (y6.toInt ≠ 43)) => ?_)
        ·
          refine hp_s (pc' := 44) (st' := [.int 0]) rfl rfl rfl ?_
          refine hp_s (pc' := 45) (ls' := [(2, .int 0), (1, .int v), (0, .ref 66)]) (st' := []) rfl rfl rfl ?_
          refine hp_s (pc' := 46) (st' := [.ref 66]) rfl rfl rfl ?_
          refine hp_s (pc' := 47) (st' := [.ref 66, .ref 66]) rfl rfl rfl ?_
          refine hp_get (k := 16) (pc' := 50) (v := (rI p 66 16)) rfl rfl rfl rfl rfl rfl ?_
          refine hp_s (pc' := 51) (st' := [.int 1, .int (rI p 66 16), .ref 66]) rfl rfl rfl ?_
          refine hp_z (pc' := 52) (e := (rI p 66 16) + 1) (st' := [.ref 66]) rfl rfl rfl ?_
          intro z5 hz5
          have ez5 := i_add hz5 (show (rI p 66 16).toInt = (rI p 66 16).toInt from rfl) (show (1 : Int32).toInt = 1 from by decide)
          refine hp_put (k := 16) (pc' := 55) rfl rfl rfl rfl rfl ?_
          intro p5 wp5 ep5
          have hF : (rI p 66 18).toInt < 0 := by omega
          have hop : lop 3 (fM p ((rI p 66 16).toInt.toNat)) := by unfold lop; omega
          obtain ⟨qa, qb, qc, qd⟩ := hTp1
          have hTp1 : hMp p := ⟨qa, qb, qc, qd⟩
          have hM : Mat p p5 := ⟨z5, by omega, ep5⟩
          have hT1 := Mat_p wp hM hTp1 (Or.inr (by omega))
          refine hp_s (pc' := 56) (st' := [.ref 66]) rfl rfl rfl ?_
          refine hp_cv (r := 66) (o := 12) (kd := 1) (as := []) (rest := []) (pc' := 59) rfl rfl rfl rfl rfl rfl rfl rfl rfl (fun d7 => ?_)
          refine rM_pr rc (by first | assumption | omega) ?_
          intro y7 p6 h19 h20
          refine hp_hw (fun wq => ?_)
          have hT2 := MO_p hT1 h20
          refine hp_id (st := [.int y7]) ?_
          refine hp_s (pc' := 60) (ls' := [(3, .int y7), (2, .int 0), (1, .int v), (0, .ref 66)]) (st' := []) rfl rfl rfl ?_
          refine hp_s (pc' := 61) (st' := [.int 0]) rfl rfl rfl ?_
          refine hp_go (pc' := 70) rfl rfl rfl ?_
          refine hp_s (pc' := 71) (st' := [.int v]) rfl rfl rfl ?_
          refine hp_s (pc' := 72) (st' := [.int y7, .int v]) rfl rfl rfl ?_
          refine hp_z (pc' := 73) (e := v - y7) (st' := []) rfl rfl rfl ?_
          intro z6 hz6
          have ez6 := i_sub hz6 (show v.toInt = v.toInt from rfl) (show y7.toInt = y7.toInt from rfl)
          refine hp_s (pc' := 74) (ls' := [(1, .int z6), (3, .int y7), (2, .int 0), (0, .ref 66)]) (st' := []) rfl rfl rfl ?_
          refine hp_go (pc' := 5) rfl rfl rfl ?_
          exact lp_203b g0 K n z6 (0 : Int32) y7 _ rc (ML_go g0 wp hX hF hop hM h20 (by first | (rw [hz6]; exact ljo_ad (by omega)) | (rw [hz6]; exact ljo_su (by omega))))
        ·
          refine hp_s (pc' := 40) (st' := [.int 1]) rfl rfl rfl ?_
          refine hp_go (pc' := 44) rfl rfl rfl ?_
          refine hp_s (pc' := 45) (ls' := [(2, .int 1), (1, .int v), (0, .ref 66)]) (st' := []) rfl rfl rfl ?_
          refine hp_s (pc' := 46) (st' := [.ref 66]) rfl rfl rfl ?_
          refine hp_s (pc' := 47) (st' := [.ref 66, .ref 66]) rfl rfl rfl ?_
          refine hp_get (k := 16) (pc' := 50) (v := (rI p 66 16)) rfl rfl rfl rfl rfl rfl ?_
          refine hp_s (pc' := 51) (st' := [.int 1, .int (rI p 66 16), .ref 66]) rfl rfl rfl ?_
          refine hp_z (pc' := 52) (e := (rI p 66 16) + 1) (st' := [.ref 66]) rfl rfl rfl ?_
          intro z7 hz7
          have ez7 := i_add hz7 (show (rI p 66 16).toInt = (rI p 66 16).toInt from rfl) (show (1 : Int32).toInt = 1 from by decide)
          refine hp_put (k := 16) (pc' := 55) rfl rfl rfl rfl rfl ?_
          intro p7 wp7 ep7
          have hF : (rI p 66 18).toInt < 0 := by omega
          have hop : lop 3 (fM p ((rI p 66 16).toInt.toNat)) := by unfold lop; omega
          obtain ⟨qa, qb, qc, qd⟩ := hTp1
          have hTp1 : hMp p := ⟨qa, qb, qc, qd⟩
          have hM : Mat p p7 := ⟨z7, by omega, ep7⟩
          have hT1 := Mat_p wp hM hTp1 (Or.inr (by omega))
          refine hp_s (pc' := 56) (st' := [.ref 66]) rfl rfl rfl ?_
          refine hp_cv (r := 66) (o := 12) (kd := 1) (as := []) (rest := []) (pc' := 59) rfl rfl rfl rfl rfl rfl rfl rfl rfl (fun d8 => ?_)
          refine rM_pr rc (by first | assumption | omega) ?_
          intro y8 p8 h21 h22
          refine hp_hw (fun wq => ?_)
          have hT2 := MO_p hT1 h22
          refine hp_id (st := [.int y8]) ?_
          refine hp_s (pc' := 60) (ls' := [(3, .int y8), (2, .int 1), (1, .int v), (0, .ref 66)]) (st' := []) rfl rfl rfl ?_
          refine hp_s (pc' := 61) (st' := [.int 1]) rfl rfl rfl ?_
          refine hp_go (pc' := 64) rfl rfl rfl ?_
          refine hp_s (pc' := 65) (st' := [.int v]) rfl rfl rfl ?_
          refine hp_s (pc' := 66) (st' := [.int y8, .int v]) rfl rfl rfl ?_
          refine hp_z (pc' := 67) (e := v + y8) (st' := []) rfl rfl rfl ?_
          intro z8 hz8
          have ez8 := i_add hz8 (show v.toInt = v.toInt from rfl) (show y8.toInt = y8.toInt from rfl)
          refine hp_go (pc' := 73) rfl rfl rfl ?_
          refine hp_s (pc' := 74) (ls' := [(1, .int z8), (3, .int y8), (2, .int 1), (0, .ref 66)]) (st' := []) rfl rfl rfl ?_
          refine hp_go (pc' := 5) rfl rfl rfl ?_
          exact lp_203b g0 K n z8 (1 : Int32) y8 _ rc (ML_go g0 wp hX hF hop hM h22 (by first | (rw [hz8]; exact ljo_ad (by omega)) | (rw [hz8]; exact ljo_su (by omega))))
theorem tM_su {ro : List (List Int32)} {n : Nat} (rc : RC_mo ro n) : hM_su ro (n + 1) := by
  intro d p Q pre0 k0
  refine hp_id (ls := [(0, .ref 66)]) ?_
  refine hp_s1 (pc' := 1) (st' := [.ref 66]) rfl rfl rfl ?_
  refine hp_cv (r := 66) (o := 12) (kd := 1) (as := []) (rest := []) (pc' := 4) rfl rfl rfl rfl rfl rfl rfl rfl rfl (fun d1 => ?_)
  refine rM_pr rc (by first | assumption | omega) ?_
  intro y1 p1 h1 h2
  skip
  refine hp_id (st := [.int y1]) ?_
  refine hp_s (pc' := 5) (ls' := [(1, .int y1), (0, .ref 66)]) (st' := []) rfl rfl rfl ?_
  exact lp_203a (p0 := p) pre0 (fun v p2 h => k0 v p2 h.1 h) n _ _ rc (ML_in (by decide) (by decide) h2)
theorem lp_204b {ro : List (List Int32)} {d : Nat} {Q : Option Value → xH → Prop} {p0 : xH} (g0 : hMp p0) (K : ∀ (v : Int32) (p2 : xH), MO 4 p0 p2 v → Q (some (.int v)) p2) : ∀ (n : Nat) (v : Int32) (c : Int32) (t : Int32) (p : xH), (RC_mo ro n) → (ML 4 p0 p v) → (0 ≤ (rI p 66 18).toInt ∨ c.toInt = fM p ((rI p 66 16).toInt.toNat) ∨ (c.toInt = 0 ∧ fM p ((rI p 66 16).toInt.toNat) = -1)) → hP ro n d (12, 4, 1, 1, k204) 10 [(2, .int c), (1, .int v), (3, .int t), (0, .ref 66)] [] p Q := by
  intro n
  induction n with
  | zero => intros; exact hp_0
  | succ n ih =>
    intro v c t p rc hX hby
    replace rc := RC_mo_more rc
    refine hp_hw (fun wp => ?_)
    have hTp1 := ML_p g0 hX
    refine hp_s1 (pc' := 11) (st' := [.ref 66]) rfl rfl rfl ?_
    refine hp_get (k := 18) (pc' := 14) (v := (rI p 66 18)) rfl rfl rfl rfl rfl rfl ?_
    refine hp_if (pc' := 17) (t := 94) (a := (rI p 66 18).toInt) rfl rfl rfl rfl (fun (h1 : 0 ≤ (rI p 66 18).toInt) => ?_) (fun (h2 : ¬ (0 ≤ (rI p 66 18).toInt)) => ?_)
    ·
      refine hp_s (pc' := 95) (st' := [.int v]) rfl rfl rfl ?_
      refine hp_ri rfl rfl ?_
      exact K v p (ML_out hX (by first | exact Or.inl (by omega) | exact Or.inr (by unfold lop; omega)))
    ·
      refine hp_s (pc' := 18) (st' := [.int c]) rfl rfl rfl ?_
      refine hp_s (pc' := 20) (st' := [.int 42, .int c]) rfl rfl rfl ?_
      refine hp_ic (pc' := 23) (t := 35) (a := c.toInt) (b := 42) rfl rfl rfl rfl (by decide) (fun (h3 : c.toInt = 42) => ?_) (fun (h4 : ¬ (c.toInt = 42)) => ?_)
      ·
        refine hp_s (pc' := 36) (st' := [.ref 66]) rfl rfl rfl ?_
        refine hp_s (pc' := 37) (st' := [.ref 66, .ref 66]) rfl rfl rfl ?_
        refine hp_get (k := 16) (pc' := 40) (v := (rI p 66 16)) rfl rfl rfl rfl rfl rfl ?_
        refine hp_s (pc' := 41) (st' := [.int 1, .int (rI p 66 16), .ref 66]) rfl rfl rfl ?_
        refine hp_z (pc' := 42) (e := (rI p 66 16) + 1) (st' := [.ref 66]) rfl rfl rfl ?_
        intro z1 hz1
        have ez1 := i_add hz1 (show (rI p 66 16).toInt = (rI p 66 16).toInt from rfl) (show (1 : Int32).toInt = 1 from by decide)
        refine hp_put (k := 16) (pc' := 45) rfl rfl rfl rfl rfl ?_
        intro p1 wp1 ep1
        have hF : (rI p 66 18).toInt < 0 := by omega
        have hop : lop 4 (fM p ((rI p 66 16).toInt.toNat)) := by unfold lop; omega
        obtain ⟨qa, qb, qc, qd⟩ := hTp1
        have hTp1 : hMp p := ⟨qa, qb, qc, qd⟩
        have hM : Mat p p1 := ⟨z1, by omega, ep1⟩
        have hT1 := Mat_p wp hM hTp1 (Or.inr (by omega))
        refine hp_s (pc' := 46) (st' := [.ref 66]) rfl rfl rfl ?_
        refine hp_cv (r := 66) (o := 12) (kd := 1) (as := []) (rest := []) (pc' := 49) rfl rfl rfl rfl rfl rfl rfl rfl rfl (fun d1 => ?_)
        refine rM_on rc (by first | assumption | omega) ?_
        intro y1 p2 h5 h6
        refine hp_hw (fun wq => ?_)
        have hT2 := MO_p hT1 h6
        refine hp_id (st := [.int y1]) ?_
        refine hp_s (pc' := 50) (ls' := [(3, .int y1), (2, .int c), (1, .int v), (0, .ref 66)]) (st' := []) rfl rfl rfl ?_
        refine hp_s (pc' := 51) (st' := [.int c]) rfl rfl rfl ?_
        refine hp_s (pc' := 53) (st' := [.int 42, .int c]) rfl rfl rfl ?_
        refine hp_ic (pc' := 56) (t := 62) (a := c.toInt) (b := 42) rfl rfl rfl rfl (by decide) (fun (h7 : c.toInt ≠ 42) => ?_) (fun (h8 : ¬ (c.toInt ≠ 42)) => ?_)
        ·
          refine hp_s (pc' := 63) (st' := [.int y1]) rfl rfl rfl ?_
          refine hp_if (pc' := 66) (t := 70) (a := y1.toInt) rfl rfl rfl rfl (fun (h9 : y1.toInt ≠ 0) => ?_) (fun (h10 : ¬ (y1.toInt ≠ 0)) => ?_)
          ·
            refine hp_s (pc' := 71) (st' := [.int c]) rfl rfl rfl ?_
            refine hp_s (pc' := 73) (st' := [.int 47, .int c]) rfl rfl rfl ?_
            refine hp_ic (pc' := 76) (t := 82) (a := c.toInt) (b := 47) rfl rfl rfl rfl (by decide) (fun (h11 : c.toInt ≠ 47) => ?_) (fun (h12 : ¬ (c.toInt ≠ 47)) => ?_)
            ·
              refine hp_s (pc' := 83) (st' := [.int v]) rfl rfl rfl ?_
              refine hp_s (pc' := 84) (st' := [.int y1, .int v]) rfl rfl rfl ?_
              refine hp_rem (pc' := 85) rfl rfl ?_
              intro nz2 z2 hz2
              refine hp_s (pc' := 86) (ls' := [(1, .int z2), (3, .int y1), (2, .int c), (0, .ref 66)]) (st' := []) rfl rfl rfl ?_
              refine hp_s (pc' := 87) (st' := [.ref 66]) rfl rfl rfl ?_
              refine hp_cv (r := 66) (o := 12) (kd := 1) (as := []) (rest := []) (pc' := 90) rfl rfl rfl rfl rfl rfl rfl rfl rfl (fun d2 => ?_)
              refine s_byteAt (by first | assumption | omega) ?_
              intro y2 h13
              have hby2 := h13
              refine hp_id (st := [.int y2]) ?_
              refine hp_s (pc' := 91) (ls' := [(2, .int y2), (1, .int z2), (3, .int y1), (0, .ref 66)]) (st' := []) rfl rfl rfl ?_
              refine hp_go (pc' := 10) rfl rfl rfl ?_
              exact ih z2 y2 y1 _ rc (ML_go g0 wp hX hF hop hM h6 (by first | (rw [hz2]; exact ljo_mu (by omega)) | (rw [hz2]; exact ljo_di (by omega) nz2) | (rw [hz2]; exact ljo_re (by omega) nz2))) hby2
            ·
              refine hp_s (pc' := 77) (st' := [.int v]) rfl rfl rfl ?_
              refine hp_s (pc' := 78) (st' := [.int y1, .int v]) rfl rfl rfl ?_
              refine hp_div (pc' := 79) rfl rfl ?_
              intro nz3 z3 hz3
              refine hp_go (pc' := 85) rfl rfl rfl ?_
              refine hp_s (pc' := 86) (ls' := [(1, .int z3), (3, .int y1), (2, .int c), (0, .ref 66)]) (st' := []) rfl rfl rfl ?_
              refine hp_s (pc' := 87) (st' := [.ref 66]) rfl rfl rfl ?_
              refine hp_cv (r := 66) (o := 12) (kd := 1) (as := []) (rest := []) (pc' := 90) rfl rfl rfl rfl rfl rfl rfl rfl rfl (fun d3 => ?_)
              refine s_byteAt (by first | assumption | omega) ?_
              intro y3 h14
              have hby2 := h14
              refine hp_id (st := [.int y3]) ?_
              refine hp_s (pc' := 91) (ls' := [(2, .int y3), (1, .int z3), (3, .int y1), (0, .ref 66)]) (st' := []) rfl rfl rfl ?_
              refine hp_go (pc' := 10) rfl rfl rfl ?_
              exact ih z3 y3 y1 _ rc (ML_go g0 wp hX hF hop hM h6 (by first | (rw [hz3]; exact ljo_mu (by omega)) | (rw [hz3]; exact ljo_di (by omega) nz3) | (rw [hz3]; exact ljo_re (by omega) nz3))) hby2
          ·
            refine hp_s (pc' := 67) (st' := [.int 0]) rfl rfl rfl ?_
            refine hp_go (pc' := 85) rfl rfl rfl ?_
            refine hp_s (pc' := 86) (ls' := [(1, .int 0), (3, .int y1), (2, .int c), (0, .ref 66)]) (st' := []) rfl rfl rfl ?_
            refine hp_s (pc' := 87) (st' := [.ref 66]) rfl rfl rfl ?_
            refine hp_cv (r := 66) (o := 12) (kd := 1) (as := []) (rest := []) (pc' := 90) rfl rfl rfl rfl rfl rfl rfl rfl rfl (fun d4 => ?_)
            refine s_byteAt (by first | assumption | omega) ?_
            intro y4 h15
            have hby2 := h15
            refine hp_id (st := [.int y4]) ?_
            refine hp_s (pc' := 91) (ls' := [(2, .int y4), (1, .int 0), (3, .int y1), (0, .ref 66)]) (st' := []) rfl rfl rfl ?_
            refine hp_go (pc' := 10) rfl rfl rfl ?_
            exact ih (0 : Int32) y4 y1 _ rc (ML_go g0 wp hX hF hop hM h6 (ljo_dz (by omega) (by omega))) hby2
        ·
          refine hp_s (pc' := 57) (st' := [.int v]) rfl rfl rfl ?_
          refine hp_s (pc' := 58) (st' := [.int y1, .int v]) rfl rfl rfl ?_
          refine hp_z (pc' := 59) (e := v * y1) (st' := []) rfl rfl rfl ?_
          intro z4 hz4
          have ez4 := i_mul hz4 (show v.toInt = v.toInt from rfl) (show y1.toInt = y1.toInt from rfl)
          refine hp_go (pc' := 85) rfl rfl rfl ?_
          refine hp_s (pc' := 86) (ls' := [(1, .int z4), (3, .int y1), (2, .int c), (0, .ref 66)]) (st' := []) rfl rfl rfl ?_
          refine hp_s (pc' := 87) (st' := [.ref 66]) rfl rfl rfl ?_
          refine hp_cv (r := 66) (o := 12) (kd := 1) (as := []) (rest := []) (pc' := 90) rfl rfl rfl rfl rfl rfl rfl rfl rfl (fun d5 => ?_)
          refine s_byteAt (by first | assumption | omega) ?_
          intro y5 h16
          have hby2 := h16
          refine hp_id (st := [.int y5]) ?_
          refine hp_s (pc' := 91) (ls' := [(2, .int y5), (1, .int z4), (3, .int y1), (0, .ref 66)]) (st' := []) rfl rfl rfl ?_
          refine hp_go (pc' := 10) rfl rfl rfl ?_
          exact ih z4 y5 y1 _ rc (ML_go g0 wp hX hF hop hM h6 (by first | (rw [hz4]; exact ljo_mu (by omega)) | (rw [hz4]; exact ljo_di (by omega) nz4) | (rw [hz4]; exact ljo_re (by omega) nz4))) hby2
      ·
        refine hp_s (pc' := 24) (st' := [.int c]) rfl rfl rfl ?_
        refine hp_s (pc' := 26) (st' := [.int 47, .int c]) rfl rfl rfl ?_
        refine hp_ic (pc' := 29) (t := 35) (a := c.toInt) (b := 47) rfl rfl rfl rfl (by decide) (fun (h17 : c.toInt = 47) => ?_) (fun (h18 : ¬ (c.toInt = 47)) => ?_)
        ·
          refine hp_s (pc' := 36) (st' := [.ref 66]) rfl rfl rfl ?_
          refine hp_s (pc' := 37) (st' := [.ref 66, .ref 66]) rfl rfl rfl ?_
          refine hp_get (k := 16) (pc' := 40) (v := (rI p 66 16)) rfl rfl rfl rfl rfl rfl ?_
          refine hp_s (pc' := 41) (st' := [.int 1, .int (rI p 66 16), .ref 66]) rfl rfl rfl ?_
          refine hp_z (pc' := 42) (e := (rI p 66 16) + 1) (st' := [.ref 66]) rfl rfl rfl ?_
          intro z5 hz5
          have ez5 := i_add hz5 (show (rI p 66 16).toInt = (rI p 66 16).toInt from rfl) (show (1 : Int32).toInt = 1 from by decide)
          refine hp_put (k := 16) (pc' := 45) rfl rfl rfl rfl rfl ?_
          intro p3 wp3 ep3
          have hF : (rI p 66 18).toInt < 0 := by omega
          have hop : lop 4 (fM p ((rI p 66 16).toInt.toNat)) := by unfold lop; omega
          obtain ⟨qa, qb, qc, qd⟩ := hTp1
          have hTp1 : hMp p := ⟨qa, qb, qc, qd⟩
          have hM : Mat p p3 := ⟨z5, by omega, ep3⟩
          have hT1 := Mat_p wp hM hTp1 (Or.inr (by omega))
          refine hp_s (pc' := 46) (st' := [.ref 66]) rfl rfl rfl ?_
          refine hp_cv (r := 66) (o := 12) (kd := 1) (as := []) (rest := []) (pc' := 49) rfl rfl rfl rfl rfl rfl rfl rfl rfl (fun d6 => ?_)
          refine rM_on rc (by first | assumption | omega) ?_
          intro y6 p4 h19 h20
          refine hp_hw (fun wq => ?_)
          have hT2 := MO_p hT1 h20
          refine hp_id (st := [.int y6]) ?_
          refine hp_s (pc' := 50) (ls' := [(3, .int y6), (2, .int c), (1, .int v), (0, .ref 66)]) (st' := []) rfl rfl rfl ?_
          refine hp_s (pc' := 51) (st' := [.int c]) rfl rfl rfl ?_
          refine hp_s (pc' := 53) (st' := [.int 42, .int c]) rfl rfl rfl ?_
          refine hp_ic (pc' := 56) (t := 62) (a := c.toInt) (b := 42) rfl rfl rfl rfl (by decide) (fun (h21 : c.toInt ≠ 42) => ?_) (fun (h22 : ¬ (c.toInt ≠ 42)) => ?_)
          ·
            refine hp_s (pc' := 63) (st' := [.int y6]) rfl rfl rfl ?_
            refine hp_if (pc' := 66) (t := 70) (a := y6.toInt) rfl rfl rfl rfl (fun (h23 : y6.toInt ≠ 0) => ?_) (fun (h24 : ¬ (y6.toInt ≠ 0)) => ?_)
            ·
              refine hp_s (pc' := 71) (st' := [.int c]) rfl rfl rfl ?_
              refine hp_s (pc' := 73) (st' := [.int 47, .int c]) rfl rfl rfl ?_
              refine hp_ic (pc' := 76) (t := 82) (a := c.toInt) (b := 47) rfl rfl rfl rfl (by decide) (fun (h25 : c.toInt ≠ 47) => ?_) (fun (h26 : ¬ (c.toInt ≠ 47)) => ?_)
              ·
                refine hp_s (pc' := 83) (st' := [.int v]) rfl rfl rfl ?_
                refine hp_s (pc' := 84) (st' := [.int y6, .int v]) rfl rfl rfl ?_
                refine hp_rem (pc' := 85) rfl rfl ?_
                intro nz6 z6 hz6
                refine hp_s (pc' := 86) (ls' := [(1, .int z6), (3, .int y6), (2, .int c), (0, .ref 66)]) (st' := []) rfl rfl rfl ?_
                refine hp_s (pc' := 87) (st' := [.ref 66]) rfl rfl rfl ?_
                refine hp_cv (r := 66) (o := 12) (kd := 1) (as := []) (rest := []) (pc' := 90) rfl rfl rfl rfl rfl rfl rfl rfl rfl (fun d7 => ?_)
                refine s_byteAt (by first | assumption | omega) ?_
                intro y7 h27
                have hby2 := h27
                refine hp_id (st := [.int y7]) ?_
                refine hp_s (pc' := 91) (ls' := [(2, .int y7), (1, .int z6), (3, .int y6), (0, .ref 66)]) (st' := []) rfl rfl rfl ?_
                refine hp_go (pc' := 10) rfl rfl rfl ?_
                exact ih z6 y7 y6 _ rc (ML_go g0 wp hX hF hop hM h20 (by first | (rw [hz6]; exact ljo_mu (by omega)) | (rw [hz6]; exact ljo_di (by omega) nz6) | (rw [hz6]; exact ljo_re (by omega) nz6))) hby2
              ·
                refine hp_s (pc' := 77) (st' := [.int v]) rfl rfl rfl ?_
                refine hp_s (pc' := 78) (st' := [.int y6, .int v]) rfl rfl rfl ?_
                refine hp_div (pc' := 79) rfl rfl ?_
                intro nz7 z7 hz7
                refine hp_go (pc' := 85) rfl rfl rfl ?_
                refine hp_s (pc' := 86) (ls' := [(1, .int z7), (3, .int y6), (2, .int c), (0, .ref 66)]) (st' := []) rfl rfl rfl ?_
                refine hp_s (pc' := 87) (st' := [.ref 66]) rfl rfl rfl ?_
                refine hp_cv (r := 66) (o := 12) (kd := 1) (as := []) (rest := []) (pc' := 90) rfl rfl rfl rfl rfl rfl rfl rfl rfl (fun d8 => ?_)
                refine s_byteAt (by first | assumption | omega) ?_
                intro y8 h28
                have hby2 := h28
                refine hp_id (st := [.int y8]) ?_
                refine hp_s (pc' := 91) (ls' := [(2, .int y8), (1, .int z7), (3, .int y6), (0, .ref 66)]) (st' := []) rfl rfl rfl ?_
                refine hp_go (pc' := 10) rfl rfl rfl ?_
                exact ih z7 y8 y6 _ rc (ML_go g0 wp hX hF hop hM h20 (by first | (rw [hz7]; exact ljo_mu (by omega)) | (rw [hz7]; exact ljo_di (by omega) nz7) | (rw [hz7]; exact ljo_re (by omega) nz7))) hby2
            ·
              refine hp_s (pc' := 67) (st' := [.int 0]) rfl rfl rfl ?_
              refine hp_go (pc' := 85) rfl rfl rfl ?_
              refine hp_s (pc' := 86) (ls' := [(1, .int 0), (3, .int y6), (2, .int c), (0, .ref 66)]) (st' := []) rfl rfl rfl ?_
              refine hp_s (pc' := 87) (st' := [.ref 66]) rfl rfl rfl ?_
              refine hp_cv (r := 66) (o := 12) (kd := 1) (as := []) (rest := []) (pc' := 90) rfl rfl rfl rfl rfl rfl rfl rfl rfl (fun d9 => ?_)
              refine s_byteAt (by first | assumption | omega) ?_
              intro y9 h29
              have hby2 := h29
              refine hp_id (st := [.int y9]) ?_
              refine hp_s (pc' := 91) (ls' := [(2, .int y9), (1, .int 0), (3, .int y6), (0, .ref 66)]) (st' := []) rfl rfl rfl ?_
              refine hp_go (pc' := 10) rfl rfl rfl ?_
              exact ih (0 : Int32) y9 y6 _ rc (ML_go g0 wp hX hF hop hM h20 (ljo_dz (by omega) (by omega))) hby2
          ·
            refine hp_s (pc' := 57) (st' := [.int v]) rfl rfl rfl ?_
            refine hp_s (pc' := 58) (st' := [.int y6, .int v]) rfl rfl rfl ?_
            refine hp_z (pc' := 59) (e := v * y6) (st' := []) rfl rfl rfl ?_
            intro z8 hz8
            have ez8 := i_mul hz8 (show v.toInt = v.toInt from rfl) (show y6.toInt = y6.toInt from rfl)
            refine hp_go (pc' := 85) rfl rfl rfl ?_
            refine hp_s (pc' := 86) (ls' := [(1, .int z8), (3, .int y6), (2, .int c), (0, .ref 66)]) (st' := []) rfl rfl rfl ?_
            refine hp_s (pc' := 87) (st' := [.ref 66]) rfl rfl rfl ?_
            refine hp_cv (r := 66) (o := 12) (kd := 1) (as := []) (rest := []) (pc' := 90) rfl rfl rfl rfl rfl rfl rfl rfl rfl (fun d10 => ?_)
            refine s_byteAt (by first | assumption | omega) ?_
            intro y10 h30
            have hby2 := h30
            refine hp_id (st := [.int y10]) ?_
            refine hp_s (pc' := 91) (ls' := [(2, .int y10), (1, .int z8), (3, .int y6), (0, .ref 66)]) (st' := []) rfl rfl rfl ?_
            refine hp_go (pc' := 10) rfl rfl rfl ?_
            exact ih z8 y10 y6 _ rc (ML_go g0 wp hX hF hop hM h20 (by first | (rw [hz8]; exact ljo_mu (by omega)) | (rw [hz8]; exact ljo_di (by omega) nz8) | (rw [hz8]; exact ljo_re (by omega) nz8))) hby2
        ·
          refine hp_s (pc' := 30) (st' := [.int c]) rfl rfl rfl ?_
          refine hp_s (pc' := 32) (st' := [.int 37, .int c]) rfl rfl rfl ?_
          refine hp_ic (pc' := 35) (t := 94) (a := c.toInt) (b := 37) rfl rfl rfl rfl (by decide) (fun (h31 : c.toInt ≠ 37) => ?_) (fun (h32 : ¬ (c.toInt ≠ 37)) => ?_)
          ·
            refine hp_s (pc' := 95) (st' := [.int v]) rfl rfl rfl ?_
            refine hp_ri rfl rfl ?_
            exact K v p (ML_out hX (by first | exact Or.inl (by omega) | exact Or.inr (by unfold lop; omega)))
          ·
            refine hp_s (pc' := 36) (st' := [.ref 66]) rfl rfl rfl ?_
            refine hp_s (pc' := 37) (st' := [.ref 66, .ref 66]) rfl rfl rfl ?_
            refine hp_get (k := 16) (pc' := 40) (v := (rI p 66 16)) rfl rfl rfl rfl rfl rfl ?_
            refine hp_s (pc' := 41) (st' := [.int 1, .int (rI p 66 16), .ref 66]) rfl rfl rfl ?_
            refine hp_z (pc' := 42) (e := (rI p 66 16) + 1) (st' := [.ref 66]) rfl rfl rfl ?_
            intro z9 hz9
            have ez9 := i_add hz9 (show (rI p 66 16).toInt = (rI p 66 16).toInt from rfl) (show (1 : Int32).toInt = 1 from by decide)
            refine hp_put (k := 16) (pc' := 45) rfl rfl rfl rfl rfl ?_
            intro p5 wp5 ep5
            have hF : (rI p 66 18).toInt < 0 := by omega
            have hop : lop 4 (fM p ((rI p 66 16).toInt.toNat)) := by unfold lop; omega
            obtain ⟨qa, qb, qc, qd⟩ := hTp1
            have hTp1 : hMp p := ⟨qa, qb, qc, qd⟩
            have hM : Mat p p5 := ⟨z9, by omega, ep5⟩
            have hT1 := Mat_p wp hM hTp1 (Or.inr (by omega))
            refine hp_s (pc' := 46) (st' := [.ref 66]) rfl rfl rfl ?_
            refine hp_cv (r := 66) (o := 12) (kd := 1) (as := []) (rest := []) (pc' := 49) rfl rfl rfl rfl rfl rfl rfl rfl rfl (fun d11 => ?_)
            refine rM_on rc (by first | assumption | omega) ?_
            intro y11 p6 h33 h34
            refine hp_hw (fun wq => ?_)
            have hT2 := MO_p hT1 h34
            refine hp_id (st := [.int y11]) ?_
            refine hp_s (pc' := 50) (ls' := [(3, .int y11), (2, .int c), (1, .int v), (0, .ref 66)]) (st' := []) rfl rfl rfl ?_
            refine hp_s (pc' := 51) (st' := [.int c]) rfl rfl rfl ?_
            refine hp_s (pc' := 53) (st' := [.int 42, .int c]) rfl rfl rfl ?_
            refine hp_ic (pc' := 56) (t := 62) (a := c.toInt) (b := 42) rfl rfl rfl rfl (by decide) (fun (h35 : c.toInt ≠ 42) => ?_) (fun (h36 : ¬ (c.toInt ≠ 42)) => ?_)
            ·
              refine hp_s (pc' := 63) (st' := [.int y11]) rfl rfl rfl ?_
              refine hp_if (pc' := 66) (t := 70) (a := y11.toInt) rfl rfl rfl rfl (fun (h37 : y11.toInt ≠ 0) => ?_) (fun (h38 : ¬ (y11.toInt ≠ 0)) => ?_)
              ·
                refine hp_s (pc' := 71) (st' := [.int c]) rfl rfl rfl ?_
                refine hp_s (pc' := 73) (st' := [.int 47, .int c]) rfl rfl rfl ?_
                refine hp_ic (pc' := 76) (t := 82) (a := c.toInt) (b := 47) rfl rfl rfl rfl (by decide) (fun (h39 : c.toInt ≠ 47) => ?_) (fun (h40 : ¬ (c.toInt ≠ 47)) => ?_)
                ·
                  refine hp_s (pc' := 83) (st' := [.int v]) rfl rfl rfl ?_
                  refine hp_s (pc' := 84) (st' := [.int y11, .int v]) rfl rfl rfl ?_
                  refine hp_rem (pc' := 85) rfl rfl ?_
                  intro nz10 z10 hz10
                  refine hp_s (pc' := 86) (ls' := [(1, .int z10), (3, .int y11), (2, .int c), (0, .ref 66)]) (st' := []) rfl rfl rfl ?_
                  refine hp_s (pc' := 87) (st' := [.ref 66]) rfl rfl rfl ?_
                  refine hp_cv (r := 66) (o := 12) (kd := 1) (as := []) (rest := []) (pc' := 90) rfl rfl rfl rfl rfl rfl rfl rfl rfl (fun d12 => ?_)
                  refine s_byteAt (by first | assumption | omega) ?_
                  intro y12 h41
                  have hby2 := h41
                  refine hp_id (st := [.int y12]) ?_
                  refine hp_s (pc' := 91) (ls' := [(2, .int y12), (1, .int z10), (3, .int y11), (0, .ref 66)]) (st' := []) rfl rfl rfl ?_
                  refine hp_go (pc' := 10) rfl rfl rfl ?_
                  exact ih z10 y12 y11 _ rc (ML_go g0 wp hX hF hop hM h34 (by first | (rw [hz10]; exact ljo_mu (by omega)) | (rw [hz10]; exact ljo_di (by omega) nz10) | (rw [hz10]; exact ljo_re (by omega) nz10))) hby2
                ·
                  refine hp_s (pc' := 77) (st' := [.int v]) rfl rfl rfl ?_
                  refine hp_s (pc' := 78) (st' := [.int y11, .int v]) rfl rfl rfl ?_
                  refine hp_div (pc' := 79) rfl rfl ?_
                  intro nz11 z11 hz11
                  refine hp_go (pc' := 85) rfl rfl rfl ?_
                  refine hp_s (pc' := 86) (ls' := [(1, .int z11), (3, .int y11), (2, .int c), (0, .ref 66)]) (st' := []) rfl rfl rfl ?_
                  refine hp_s (pc' := 87) (st' := [.ref 66]) rfl rfl rfl ?_
                  refine hp_cv (r := 66) (o := 12) (kd := 1) (as := []) (rest := []) (pc' := 90) rfl rfl rfl rfl rfl rfl rfl rfl rfl (fun d13 => ?_)
                  refine s_byteAt (by first | assumption | omega) ?_
                  intro y13 h42
                  have hby2 := h42
                  refine hp_id (st := [.int y13]) ?_
                  refine hp_s (pc' := 91) (ls' := [(2, .int y13), (1, .int z11), (3, .int y11), (0, .ref 66)]) (st' := []) rfl rfl rfl ?_
                  refine hp_go (pc' := 10) rfl rfl rfl ?_
                  exact ih z11 y13 y11 _ rc (ML_go g0 wp hX hF hop hM h34 (by first | (rw [hz11]; exact ljo_mu (by omega)) | (rw [hz11]; exact ljo_di (by omega) nz11) | (rw [hz11]; exact ljo_re (by omega) nz11))) hby2
              ·
                refine hp_s (pc' := 67) (st' := [.int 0]) rfl rfl rfl ?_
                refine hp_go (pc' := 85) rfl rfl rfl ?_
                refine hp_s (pc' := 86) (ls' := [(1, .int 0), (3, .int y11), (2, .int c), (0, .ref 66)]) (st' := []) rfl rfl rfl ?_
                refine hp_s (pc' := 87) (st' := [.ref 66]) rfl rfl rfl ?_
                refine hp_cv (r := 66) (o := 12) (kd := 1) (as := []) (rest := []) (pc' := 90) rfl rfl rfl rfl rfl rfl rfl rfl rfl (fun d14 => ?_)
                refine s_byteAt (by first | assumption | omega) ?_
                intro y14 h43
                have hby2 := h43
                refine hp_id (st := [.int y14]) ?_
                refine hp_s (pc' := 91) (ls' := [(2, .int y14), (1, .int 0), (3, .int y11), (0, .ref 66)]) (st' := []) rfl rfl rfl ?_
                refine hp_go (pc' := 10) rfl rfl rfl ?_
                exact ih (0 : Int32) y14 y11 _ rc (ML_go g0 wp hX hF hop hM h34 (ljo_dz (by omega) (by omega))) hby2
            ·
              refine hp_s (pc' := 57) (st' := [.int v]) rfl rfl rfl ?_
              refine hp_s (pc' := 58) (st' := [.int y11, .int v]) rfl rfl rfl ?_
              refine hp_z (pc' := 59) (e := v * y11) (st' := []) rfl rfl rfl ?_
              intro z12 hz12
              have ez12 := i_mul hz12 (show v.toInt = v.toInt from rfl) (show y11.toInt = y11.toInt from rfl)
              refine hp_go (pc' := 85) rfl rfl rfl ?_
              refine hp_s (pc' := 86) (ls' := [(1, .int z12), (3, .int y11), (2, .int c), (0, .ref 66)]) (st' := []) rfl rfl rfl ?_
              refine hp_s (pc' := 87) (st' := [.ref 66]) rfl rfl rfl ?_
              refine hp_cv (r := 66) (o := 12) (kd := 1) (as := []) (rest := []) (pc' := 90) rfl rfl rfl rfl rfl rfl rfl rfl rfl (fun d15 => ?_)
              refine s_byteAt (by first | assumption | omega) ?_
              intro y15 h44
              have hby2 := h44
              refine hp_id (st := [.int y15]) ?_
              refine hp_s (pc' := 91) (ls' := [(2, .int y15), (1, .int z12), (3, .int y11), (0, .ref 66)]) (st' := []) rfl rfl rfl ?_
              refine hp_go (pc' := 10) rfl rfl rfl ?_
              exact ih z12 y15 y11 _ rc (ML_go g0 wp hX hF hop hM h34 (by first | (rw [hz12]; exact ljo_mu (by omega)) | (rw [hz12]; exact ljo_di (by omega) nz12) | (rw [hz12]; exact ljo_re (by omega) nz12))) hby2
theorem lp_204a {ro : List (List Int32)} {d : Nat} {Q : Option Value → xH → Prop} {p0 : xH} (g0 : hMp p0) (K : ∀ (v : Int32) (p2 : xH), MO 4 p0 p2 v → Q (some (.int v)) p2) : ∀ (n : Nat) (v : Int32) (c : Int32) (p : xH), (RC_mo ro n) → (ML 4 p0 p v) → (0 ≤ (rI p 66 18).toInt ∨ c.toInt = fM p ((rI p 66 16).toInt.toNat) ∨ (c.toInt = 0 ∧ fM p ((rI p 66 16).toInt.toNat) = -1)) → hP ro n d (12, 4, 1, 1, k204) 10 [(2, .int c), (1, .int v), (0, .ref 66)] [] p Q := by
  intro n
  intro v c p rc hX hby
  refine hp_hw (fun wp => ?_)
  have hTp1 := ML_p g0 hX
  refine hp_s (pc' := 11) (st' := [.ref 66]) rfl rfl rfl ?_
  refine hp_get (k := 18) (pc' := 14) (v := (rI p 66 18)) rfl rfl rfl rfl rfl rfl ?_
  refine hp_if (pc' := 17) (t := 94) (a := (rI p 66 18).toInt) rfl rfl rfl rfl (fun (h1 : 0 ≤ (rI p 66 18).toInt) => ?_) (fun (h2 : ¬ (0 ≤ (rI p 66 18).toInt)) => ?_)
  ·
    refine hp_s (pc' := 95) (st' := [.int v]) rfl rfl rfl ?_
    refine hp_ri rfl rfl ?_
    exact K v p (ML_out hX (by first | exact Or.inl (by omega) | exact Or.inr (by unfold lop; omega)))
  ·
    refine hp_s (pc' := 18) (st' := [.int c]) rfl rfl rfl ?_
    refine hp_s (pc' := 20) (st' := [.int 42, .int c]) rfl rfl rfl ?_
    refine hp_ic (pc' := 23) (t := 35) (a := c.toInt) (b := 42) rfl rfl rfl rfl (by decide) (fun (h3 : c.toInt = 42) => ?_) (fun (h4 : ¬ (c.toInt = 42)) => ?_)
    ·
      refine hp_s (pc' := 36) (st' := [.ref 66]) rfl rfl rfl ?_
      refine hp_s (pc' := 37) (st' := [.ref 66, .ref 66]) rfl rfl rfl ?_
      refine hp_get (k := 16) (pc' := 40) (v := (rI p 66 16)) rfl rfl rfl rfl rfl rfl ?_
      refine hp_s (pc' := 41) (st' := [.int 1, .int (rI p 66 16), .ref 66]) rfl rfl rfl ?_
      refine hp_z (pc' := 42) (e := (rI p 66 16) + 1) (st' := [.ref 66]) rfl rfl rfl ?_
      intro z1 hz1
      have ez1 := i_add hz1 (show (rI p 66 16).toInt = (rI p 66 16).toInt from rfl) (show (1 : Int32).toInt = 1 from by decide)
      refine hp_put (k := 16) (pc' := 45) rfl rfl rfl rfl rfl ?_
      intro p1 wp1 ep1
      have hF : (rI p 66 18).toInt < 0 := by omega
      have hop : lop 4 (fM p ((rI p 66 16).toInt.toNat)) := by unfold lop; omega
      obtain ⟨qa, qb, qc, qd⟩ := hTp1
      have hTp1 : hMp p := ⟨qa, qb, qc, qd⟩
      have hM : Mat p p1 := ⟨z1, by omega, ep1⟩
      have hT1 := Mat_p wp hM hTp1 (Or.inr (by omega))
      refine hp_s (pc' := 46) (st' := [.ref 66]) rfl rfl rfl ?_
      refine hp_cv (r := 66) (o := 12) (kd := 1) (as := []) (rest := []) (pc' := 49) rfl rfl rfl rfl rfl rfl rfl rfl rfl (fun d1 => ?_)
      refine rM_on rc (by first | assumption | omega) ?_
      intro y1 p2 h5 h6
      refine hp_hw (fun wq => ?_)
      have hT2 := MO_p hT1 h6
      refine hp_id (st := [.int y1]) ?_
      refine hp_s (pc' := 50) (ls' := [(3, .int y1), (2, .int c), (1, .int v), (0, .ref 66)]) (st' := []) rfl rfl rfl ?_
      refine hp_s (pc' := 51) (st' := [.int c]) rfl rfl rfl ?_
      refine hp_s (pc' := 53) (st' := [.int 42, .int c]) rfl rfl rfl ?_
      refine hp_ic (pc' := 56) (t := 62) (a := c.toInt) (b := 42) rfl rfl rfl rfl (by decide) (fun (h7 : c.toInt ≠ 42) => ?_) (fun (h8 : ¬ (c.toInt ≠ 42)) => ?_)
      ·
        refine hp_s (pc' := 63) (st' := [.int y1]) rfl rfl rfl ?_
        refine hp_if (pc' := 66) (t := 70) (a := y1.toInt) rfl rfl rfl rfl (fun (h9 : y1.toInt ≠ 0) => ?_) (fun (h10 : ¬ (y1.toInt ≠ 0)) => ?_)
        ·
          refine hp_s (pc' := 71) (st' := [.int c]) rfl rfl rfl ?_
          refine hp_s (pc' := 73) (st' := [.int 47, .int c]) rfl rfl rfl ?_
          refine hp_ic (pc' := 76) (t := 82) (a := c.toInt) (b := 47) rfl rfl rfl rfl (by decide) (fun (h11 : c.toInt ≠ 47) => ?_) (fun (h12 : ¬ (c.toInt ≠ 47)) => ?_)
          ·
            refine hp_s (pc' := 83) (st' := [.int v]) rfl rfl rfl ?_
            refine hp_s (pc' := 84) (st' := [.int y1, .int v]) rfl rfl rfl ?_
            refine hp_rem (pc' := 85) rfl rfl ?_
            intro nz2 z2 hz2
            refine hp_s (pc' := 86) (ls' := [(1, .int z2), (3, .int y1), (2, .int c), (0, .ref 66)]) (st' := []) rfl rfl rfl ?_
            refine hp_s (pc' := 87) (st' := [.ref 66]) rfl rfl rfl ?_
            refine hp_cv (r := 66) (o := 12) (kd := 1) (as := []) (rest := []) (pc' := 90) rfl rfl rfl rfl rfl rfl rfl rfl rfl (fun d2 => ?_)
            refine s_byteAt (by first | assumption | omega) ?_
            intro y2 h13
            have hby2 := h13
            refine hp_id (st := [.int y2]) ?_
            refine hp_s (pc' := 91) (ls' := [(2, .int y2), (1, .int z2), (3, .int y1), (0, .ref 66)]) (st' := []) rfl rfl rfl ?_
            refine hp_go (pc' := 10) rfl rfl rfl ?_
            exact lp_204b g0 K n z2 y2 y1 _ rc (ML_go g0 wp hX hF hop hM h6 (by first | (rw [hz2]; exact ljo_mu (by omega)) | (rw [hz2]; exact ljo_di (by omega) nz2) | (rw [hz2]; exact ljo_re (by omega) nz2))) hby2
          ·
            refine hp_s (pc' := 77) (st' := [.int v]) rfl rfl rfl ?_
            refine hp_s (pc' := 78) (st' := [.int y1, .int v]) rfl rfl rfl ?_
            refine hp_div (pc' := 79) rfl rfl ?_
            intro nz3 z3 hz3
            refine hp_go (pc' := 85) rfl rfl rfl ?_
            refine hp_s (pc' := 86) (ls' := [(1, .int z3), (3, .int y1), (2, .int c), (0, .ref 66)]) (st' := []) rfl rfl rfl ?_
            refine hp_s (pc' := 87) (st' := [.ref 66]) rfl rfl rfl ?_
            refine hp_cv (r := 66) (o := 12) (kd := 1) (as := []) (rest := []) (pc' := 90) rfl rfl rfl rfl rfl rfl rfl rfl rfl (fun d3 => ?_)
            refine s_byteAt (by first | assumption | omega) ?_
            intro y3 h14
            have hby2 := h14
            refine hp_id (st := [.int y3]) ?_
            refine hp_s (pc' := 91) (ls' := [(2, .int y3), (1, .int z3), (3, .int y1), (0, .ref 66)]) (st' := []) rfl rfl rfl ?_
            refine hp_go (pc' := 10) rfl rfl rfl ?_
            exact lp_204b g0 K n z3 y3 y1 _ rc (ML_go g0 wp hX hF hop hM h6 (by first | (rw [hz3]; exact ljo_mu (by omega)) | (rw [hz3]; exact ljo_di (by omega) nz3) | (rw [hz3]; exact ljo_re (by omega) nz3))) hby2
        ·
          refine hp_s (pc' := 67) (st' := [.int 0]) rfl rfl rfl ?_
          refine hp_go (pc' := 85) rfl rfl rfl ?_
          refine hp_s (pc' := 86) (ls' := [(1, .int 0), (3, .int y1), (2, .int c), (0, .ref 66)]) (st' := []) rfl rfl rfl ?_
          refine hp_s (pc' := 87) (st' := [.ref 66]) rfl rfl rfl ?_
          refine hp_cv (r := 66) (o := 12) (kd := 1) (as := []) (rest := []) (pc' := 90) rfl rfl rfl rfl rfl rfl rfl rfl rfl (fun d4 => ?_)
          refine s_byteAt (by first | assumption | omega) ?_
          intro y4 h15
          have hby2 := h15
          refine hp_id (st := [.int y4]) ?_
          refine hp_s (pc' := 91) (ls' := [(2, .int y4), (1, .int 0), (3, .int y1), (0, .ref 66)]) (st' := []) rfl rfl rfl ?_
          refine hp_go (pc' := 10) rfl rfl rfl ?_
          exact lp_204b g0 K n (0 : Int32) y4 y1 _ rc (ML_go g0 wp hX hF hop hM h6 (ljo_dz (by omega) (by omega))) hby2
      ·
        refine hp_s (pc' := 57) (st' := [.int v]) rfl rfl rfl ?_
        refine hp_s (pc' := 58) (st' := [.int y1, .int v]) rfl rfl rfl ?_
        refine hp_z (pc' := 59) (e := v * y1) (st' := []) rfl rfl rfl ?_
        intro z4 hz4
        have ez4 := i_mul hz4 (show v.toInt = v.toInt from rfl) (show y1.toInt = y1.toInt from rfl)
        refine hp_go (pc' := 85) rfl rfl rfl ?_
        refine hp_s (pc' := 86) (ls' := [(1, .int z4), (3, .int y1), (2, .int c), (0, .ref 66)]) (st' := []) rfl rfl rfl ?_
        refine hp_s (pc' := 87) (st' := [.ref 66]) rfl rfl rfl ?_
        refine hp_cv (r := 66) (o := 12) (kd := 1) (as := []) (rest := []) (pc' := 90) rfl rfl rfl rfl rfl rfl rfl rfl rfl (fun d5 => ?_)
        refine s_byteAt (by first | assumption | omega) ?_
        intro y5 h16
        have hby2 := h16
        refine hp_id (st := [.int y5]) ?_
        refine hp_s (pc' := 91) (ls' := [(2, .int y5), (1, .int z4), (3, .int y1), (0, .ref 66)]) (st' := []) rfl rfl rfl ?_
        refine hp_go (pc' := 10) rfl rfl rfl ?_
        exact lp_204b g0 K n z4 y5 y1 _ rc (ML_go g0 wp hX hF hop hM h6 (by first | (rw [hz4]; exact ljo_mu (by omega)) | (rw [hz4]; exact ljo_di (by omega) nz4) | (rw [hz4]; exact ljo_re (by omega) nz4))) hby2
    ·
      refine hp_s (pc' := 24) (st' := [.int c]) rfl rfl rfl ?_
      refine hp_s (pc' := 26) (st' := [.int 47, .int c]) rfl rfl rfl ?_
      refine hp_ic (pc' := 29) (t := 35) (a := c.toInt) (b := 47) rfl rfl rfl rfl (by decide) (fun (h17 : c.toInt = 47) => ?_) (fun (h18 : ¬ (c.toInt = 47)) => ?_)
      ·
        refine hp_s (pc' := 36) (st' := [.ref 66]) rfl rfl rfl ?_
        refine hp_s (pc' := 37) (st' := [.ref 66, .ref 66]) rfl rfl rfl ?_
        refine hp_get (k := 16) (pc' := 40) (v := (rI p 66 16)) rfl rfl rfl rfl rfl rfl ?_
        refine hp_s (pc' := 41) (st' := [.int 1, .int (rI p 66 16), .ref 66]) rfl rfl rfl ?_
        refine hp_z (pc' := 42) (e := (rI p 66 16) + 1) (st' := [.ref 66]) rfl rfl rfl ?_
        intro z5 hz5
        have ez5 := i_add hz5 (show (rI p 66 16).toInt = (rI p 66 16).toInt from rfl) (show (1 : Int32).toInt = 1 from by decide)
        refine hp_put (k := 16) (pc' := 45) rfl rfl rfl rfl rfl ?_
        intro p3 wp3 ep3
        have hF : (rI p 66 18).toInt < 0 := by omega
        have hop : lop 4 (fM p ((rI p 66 16).toInt.toNat)) := by unfold lop; omega
        obtain ⟨qa, qb, qc, qd⟩ := hTp1
        have hTp1 : hMp p := ⟨qa, qb, qc, qd⟩
        have hM : Mat p p3 := ⟨z5, by omega, ep3⟩
        have hT1 := Mat_p wp hM hTp1 (Or.inr (by omega))
        refine hp_s (pc' := 46) (st' := [.ref 66]) rfl rfl rfl ?_
        refine hp_cv (r := 66) (o := 12) (kd := 1) (as := []) (rest := []) (pc' := 49) rfl rfl rfl rfl rfl rfl rfl rfl rfl (fun d6 => ?_)
        refine rM_on rc (by first | assumption | omega) ?_
        intro y6 p4 h19 h20
        refine hp_hw (fun wq => ?_)
        have hT2 := MO_p hT1 h20
        refine hp_id (st := [.int y6]) ?_
        refine hp_s (pc' := 50) (ls' := [(3, .int y6), (2, .int c), (1, .int v), (0, .ref 66)]) (st' := []) rfl rfl rfl ?_
        refine hp_s (pc' := 51) (st' := [.int c]) rfl rfl rfl ?_
        refine hp_s (pc' := 53) (st' := [.int 42, .int c]) rfl rfl rfl ?_
        refine hp_ic (pc' := 56) (t := 62) (a := c.toInt) (b := 42) rfl rfl rfl rfl (by decide) (fun (h21 : c.toInt ≠ 42) => ?_) (fun (h22 : ¬ (c.toInt ≠ 42)) => ?_)
        ·
          refine hp_s (pc' := 63) (st' := [.int y6]) rfl rfl rfl ?_
          refine hp_if (pc' := 66) (t := 70) (a := y6.toInt) rfl rfl rfl rfl (fun (h23 : y6.toInt ≠ 0) => ?_) (fun (h24 : ¬ (y6.toInt ≠ 0)) => ?_)
          ·
            refine hp_s (pc' := 71) (st' := [.int c]) rfl rfl rfl ?_
            refine hp_s (pc' := 73) (st' := [.int 47, .int c]) rfl rfl rfl ?_
            refine hp_ic (pc' := 76) (t := 82) (a := c.toInt) (b := 47) rfl rfl rfl rfl (by decide) (fun (h25 : c.toInt ≠ 47) => ?_) (fun (h26 : ¬ (c.toInt ≠ 47)) => ?_)
            ·
              refine hp_s (pc' := 83) (st' := [.int v]) rfl rfl rfl ?_
              refine hp_s (pc' := 84) (st' := [.int y6, .int v]) rfl rfl rfl ?_
              refine hp_rem (pc' := 85) rfl rfl ?_
              intro nz6 z6 hz6
              refine hp_s (pc' := 86) (ls' := [(1, .int z6), (3, .int y6), (2, .int c), (0, .ref 66)]) (st' := []) rfl rfl rfl ?_
              refine hp_s (pc' := 87) (st' := [.ref 66]) rfl rfl rfl ?_
              refine hp_cv (r := 66) (o := 12) (kd := 1) (as := []) (rest := []) (pc' := 90) rfl rfl rfl rfl rfl rfl rfl rfl rfl (fun d7 => ?_)
              refine s_byteAt (by first | assumption | omega) ?_
              intro y7 h27
              have hby2 := h27
              refine hp_id (st := [.int y7]) ?_
              refine hp_s (pc' := 91) (ls' := [(2, .int y7), (1, .int z6), (3, .int y6), (0, .ref 66)]) (st' := []) rfl rfl rfl ?_
              refine hp_go (pc' := 10) rfl rfl rfl ?_
              exact lp_204b g0 K n z6 y7 y6 _ rc (ML_go g0 wp hX hF hop hM h20 (by first | (rw [hz6]; exact ljo_mu (by omega)) | (rw [hz6]; exact ljo_di (by omega) nz6) | (rw [hz6]; exact ljo_re (by omega) nz6))) hby2
            ·
              refine hp_s (pc' := 77) (st' := [.int v]) rfl rfl rfl ?_
              refine hp_s (pc' := 78) (st' := [.int y6, .int v]) rfl rfl rfl ?_
              refine hp_div (pc' := 79) rfl rfl ?_
              intro nz7 z7 hz7
              refine hp_go (pc' := 85) rfl rfl rfl ?_
              refine hp_s (pc' := 86) (ls' := [(1, .int z7), (3, .int y6), (2, .int c), (0, .ref 66)]) (st' := []) rfl rfl rfl ?_
              refine hp_s (pc' := 87) (st' := [.ref 66]) rfl rfl rfl ?_
              refine hp_cv (r := 66) (o := 12) (kd := 1) (as := []) (rest := []) (pc' := 90) rfl rfl rfl rfl rfl rfl rfl rfl rfl (fun d8 => ?_)
              refine s_byteAt (by first | assumption | omega) ?_
              intro y8 h28
              have hby2 := h28
              refine hp_id (st := [.int y8]) ?_
              refine hp_s (pc' := 91) (ls' := [(2, .int y8), (1, .int z7), (3, .int y6), (0, .ref 66)]) (st' := []) rfl rfl rfl ?_
              refine hp_go (pc' := 10) rfl rfl rfl ?_
              exact lp_204b g0 K n z7 y8 y6 _ rc (ML_go g0 wp hX hF hop hM h20 (by first | (rw [hz7]; exact ljo_mu (by omega)) | (rw [hz7]; exact ljo_di (by omega) nz7) | (rw [hz7]; exact ljo_re (by omega) nz7))) hby2
          ·
            refine hp_s (pc' := 67) (st' := [.int 0]) rfl rfl rfl ?_
            refine hp_go (pc' := 85) rfl rfl rfl ?_
            refine hp_s (pc' := 86) (ls' := [(1, .int 0), (3, .int y6), (2, .int c), (0, .ref 66)]) (st' := []) rfl rfl rfl ?_
            refine hp_s (pc' := 87) (st' := [.ref 66]) rfl rfl rfl ?_
            refine hp_cv (r := 66) (o := 12) (kd := 1) (as := []) (rest := []) (pc' := 90) rfl rfl rfl rfl rfl rfl rfl rfl rfl (fun d9 => ?_)
            refine s_byteAt (by first | assumption | omega) ?_
            intro y9 h29
            have hby2 := h29
            refine hp_id (st := [.int y9]) ?_
            refine hp_s (pc' := 91) (ls' := [(2, .int y9), (1, .int 0), (3, .int y6), (0, .ref 66)]) (st' := []) rfl rfl rfl ?_
            refine hp_go (pc' := 10) rfl rfl rfl ?_
            exact lp_204b g0 K n (0 : Int32) y9 y6 _ rc (ML_go g0 wp hX hF hop hM h20 (ljo_dz (by omega) (by omega))) hby2
        ·
          refine hp_s (pc' := 57) (st' := [.int v]) rfl rfl rfl ?_
          refine hp_s (pc' := 58) (st' := [.int y6, .int v]) rfl rfl rfl ?_
          refine hp_z (pc' := 59) (e := v * y6) (st' := []) rfl rfl rfl ?_
          intro z8 hz8
          have ez8 := i_mul hz8 (show v.toInt = v.toInt from rfl) (show y6.toInt = y6.toInt from rfl)
          refine hp_go (pc' := 85) rfl rfl rfl ?_
          refine hp_s (pc' := 86) (ls' := [(1, .int z8), (3, .int y6), (2, .int c), (0, .ref 66)]) (st' := []) rfl rfl rfl ?_
          refine hp_s (pc' := 87) (st' := [.ref 66]) rfl rfl rfl ?_
          refine hp_cv (r := 66) (o := 12) (kd := 1) (as := []) (rest := []) (pc' := 90) rfl rfl rfl rfl rfl rfl rfl rfl rfl (fun d10 => ?_)
          refine s_byteAt (by first | assumption | omega) ?_
          intro y10 h30
          have hby2 := h30
          refine hp_id (st := [.int y10]) ?_
          refine hp_s (pc' := 91) (ls' := [(2, .int y10), (1, .int z8), (3, .int y6), (0, .ref 66)]) (st' := []) rfl rfl rfl ?_
          refine hp_go (pc' := 10) rfl rfl rfl ?_
          exact lp_204b g0 K n z8 y10 y6 _ rc (ML_go g0 wp hX hF hop hM h20 (by first | (rw [hz8]; exact ljo_mu (by omega)) | (rw [hz8]; exact ljo_di (by omega) nz8) | (rw [hz8]; exact ljo_re (by omega) nz8))) hby2
      ·
        refine hp_s (pc' := 30) (st' := [.int c]) rfl rfl rfl ?_
        refine hp_s (pc' := 32) (st' := [.int 37, .int c]) rfl rfl rfl ?_
        refine hp_ic (pc' := 35) (t := 94) (a := c.toInt) (b := 37) rfl rfl rfl rfl (by decide) (fun (h31 : c.toInt ≠ 37) => ?_) (fun (h32 : ¬ (c.toInt ≠ 37)) => ?_)
        ·
          refine hp_s (pc' := 95) (st' := [.int v]) rfl rfl rfl ?_
          refine hp_ri rfl rfl ?_
          exact K v p (ML_out hX (by first | exact Or.inl (by omega) | exact Or.inr (by unfold lop; omega)))
        ·
          refine hp_s (pc' := 36) (st' := [.ref 66]) rfl rfl rfl ?_
          refine hp_s (pc' := 37) (st' := [.ref 66, .ref 66]) rfl rfl rfl ?_
          refine hp_get (k := 16) (pc' := 40) (v := (rI p 66 16)) rfl rfl rfl rfl rfl rfl ?_
          refine hp_s (pc' := 41) (st' := [.int 1, .int (rI p 66 16), .ref 66]) rfl rfl rfl ?_
          refine hp_z (pc' := 42) (e := (rI p 66 16) + 1) (st' := [.ref 66]) rfl rfl rfl ?_
          intro z9 hz9
          have ez9 := i_add hz9 (show (rI p 66 16).toInt = (rI p 66 16).toInt from rfl) (show (1 : Int32).toInt = 1 from by decide)
          refine hp_put (k := 16) (pc' := 45) rfl rfl rfl rfl rfl ?_
          intro p5 wp5 ep5
          have hF : (rI p 66 18).toInt < 0 := by omega
          have hop : lop 4 (fM p ((rI p 66 16).toInt.toNat)) := by unfold lop; omega
          obtain ⟨qa, qb, qc, qd⟩ := hTp1
          have hTp1 : hMp p := ⟨qa, qb, qc, qd⟩
          have hM : Mat p p5 := ⟨z9, by omega, ep5⟩
          have hT1 := Mat_p wp hM hTp1 (Or.inr (by omega))
          refine hp_s (pc' := 46) (st' := [.ref 66]) rfl rfl rfl ?_
          refine hp_cv (r := 66) (o := 12) (kd := 1) (as := []) (rest := []) (pc' := 49) rfl rfl rfl rfl rfl rfl rfl rfl rfl (fun d11 => ?_)
          refine rM_on rc (by first | assumption | omega) ?_
          intro y11 p6 h33 h34
          refine hp_hw (fun wq => ?_)
          have hT2 := MO_p hT1 h34
          refine hp_id (st := [.int y11]) ?_
          refine hp_s (pc' := 50) (ls' := [(3, .int y11), (2, .int c), (1, .int v), (0, .ref 66)]) (st' := []) rfl rfl rfl ?_
          refine hp_s (pc' := 51) (st' := [.int c]) rfl rfl rfl ?_
          refine hp_s (pc' := 53) (st' := [.int 42, .int c]) rfl rfl rfl ?_
          refine hp_ic (pc' := 56) (t := 62) (a := c.toInt) (b := 42) rfl rfl rfl rfl (by decide) (fun (h35 : c.toInt ≠ 42) => ?_) (fun (h36 : ¬ (c.toInt ≠ 42)) => ?_)
          ·
            refine hp_s (pc' := 63) (st' := [.int y11]) rfl rfl rfl ?_
            refine hp_if (pc' := 66) (t := 70) (a := y11.toInt) rfl rfl rfl rfl (fun (h37 : y11.toInt ≠ 0) => ?_) (fun (h38 : ¬ (y11.toInt ≠ 0)) => ?_)
            ·
              refine hp_s (pc' := 71) (st' := [.int c]) rfl rfl rfl ?_
              refine hp_s (pc' := 73) (st' := [.int 47, .int c]) rfl rfl rfl ?_
              refine hp_ic (pc' := 76) (t := 82) (a := c.toInt) (b := 47) rfl rfl rfl rfl (by decide) (fun (h39 : c.toInt ≠ 47) => ?_) (fun (h40 : ¬ (c.toInt ≠ 47)) => ?_)
              ·
                refine hp_s (pc' := 83) (st' := [.int v]) rfl rfl rfl ?_
                refine hp_s (pc' := 84) (st' := [.int y11, .int v]) rfl rfl rfl ?_
                refine hp_rem (pc' := 85) rfl rfl ?_
                intro nz10 z10 hz10
                refine hp_s (pc' := 86) (ls' := [(1, .int z10), (3, .int y11), (2, .int c), (0, .ref 66)]) (st' := []) rfl rfl rfl ?_
                refine hp_s (pc' := 87) (st' := [.ref 66]) rfl rfl rfl ?_
                refine hp_cv (r := 66) (o := 12) (kd := 1) (as := []) (rest := []) (pc' := 90) rfl rfl rfl rfl rfl rfl rfl rfl rfl (fun d12 => ?_)
                refine s_byteAt (by first | assumption | omega) ?_
                intro y12 h41
                have hby2 := h41
                refine hp_id (st := [.int y12]) ?_
                refine hp_s (pc' := 91) (ls' := [(2, .int y12), (1, .int z10), (3, .int y11), (0, .ref 66)]) (st' := []) rfl rfl rfl ?_
                refine hp_go (pc' := 10) rfl rfl rfl ?_
                exact lp_204b g0 K n z10 y12 y11 _ rc (ML_go g0 wp hX hF hop hM h34 (by first | (rw [hz10]; exact ljo_mu (by omega)) | (rw [hz10]; exact ljo_di (by omega) nz10) | (rw [hz10]; exact ljo_re (by omega) nz10))) hby2
              ·
                refine hp_s (pc' := 77) (st' := [.int v]) rfl rfl rfl ?_
                refine hp_s (pc' := 78) (st' := [.int y11, .int v]) rfl rfl rfl ?_
                refine hp_div (pc' := 79) rfl rfl ?_
                intro nz11 z11 hz11
                refine hp_go (pc' := 85) rfl rfl rfl ?_
                refine hp_s (pc' := 86) (ls' := [(1, .int z11), (3, .int y11), (2, .int c), (0, .ref 66)]) (st' := []) rfl rfl rfl ?_
                refine hp_s (pc' := 87) (st' := [.ref 66]) rfl rfl rfl ?_
                refine hp_cv (r := 66) (o := 12) (kd := 1) (as := []) (rest := []) (pc' := 90) rfl rfl rfl rfl rfl rfl rfl rfl rfl (fun d13 => ?_)
                refine s_byteAt (by first | assumption | omega) ?_
                intro y13 h42
                have hby2 := h42
                refine hp_id (st := [.int y13]) ?_
                refine hp_s (pc' := 91) (ls' := [(2, .int y13), (1, .int z11), (3, .int y11), (0, .ref 66)]) (st' := []) rfl rfl rfl ?_
                refine hp_go (pc' := 10) rfl rfl rfl ?_
                exact lp_204b g0 K n z11 y13 y11 _ rc (ML_go g0 wp hX hF hop hM h34 (by first | (rw [hz11]; exact ljo_mu (by omega)) | (rw [hz11]; exact ljo_di (by omega) nz11) | (rw [hz11]; exact ljo_re (by omega) nz11))) hby2
            ·
              refine hp_s (pc' := 67) (st' := [.int 0]) rfl rfl rfl ?_
              refine hp_go (pc' := 85) rfl rfl rfl ?_
              refine hp_s (pc' := 86) (ls' := [(1, .int 0), (3, .int y11), (2, .int c), (0, .ref 66)]) (st' := []) rfl rfl rfl ?_
              refine hp_s (pc' := 87) (st' := [.ref 66]) rfl rfl rfl ?_
              refine hp_cv (r := 66) (o := 12) (kd := 1) (as := []) (rest := []) (pc' := 90) rfl rfl rfl rfl rfl rfl rfl rfl rfl (fun d14 => ?_)
              refine s_byteAt (by first | assumption | omega) ?_
              intro y14 h43
              have hby2 := h43
              refine hp_id (st := [.int y14]) ?_
              refine hp_s (pc' := 91) (ls' := [(2, .int y14), (1, .int 0), (3, .int y11), (0, .ref 66)]) (st' := []) rfl rfl rfl ?_
              refine hp_go (pc' := 10) rfl rfl rfl ?_
              exact lp_204b g0 K n (0 : Int32) y14 y11 _ rc (ML_go g0 wp hX hF hop hM h34 (ljo_dz (by omega) (by omega))) hby2
          ·
            refine hp_s (pc' := 57) (st' := [.int v]) rfl rfl rfl ?_
            refine hp_s (pc' := 58) (st' := [.int y11, .int v]) rfl rfl rfl ?_
            refine hp_z (pc' := 59) (e := v * y11) (st' := []) rfl rfl rfl ?_
            intro z12 hz12
            have ez12 := i_mul hz12 (show v.toInt = v.toInt from rfl) (show y11.toInt = y11.toInt from rfl)
            refine hp_go (pc' := 85) rfl rfl rfl ?_
            refine hp_s (pc' := 86) (ls' := [(1, .int z12), (3, .int y11), (2, .int c), (0, .ref 66)]) (st' := []) rfl rfl rfl ?_
            refine hp_s (pc' := 87) (st' := [.ref 66]) rfl rfl rfl ?_
            refine hp_cv (r := 66) (o := 12) (kd := 1) (as := []) (rest := []) (pc' := 90) rfl rfl rfl rfl rfl rfl rfl rfl rfl (fun d15 => ?_)
            refine s_byteAt (by first | assumption | omega) ?_
            intro y15 h44
            have hby2 := h44
            refine hp_id (st := [.int y15]) ?_
            refine hp_s (pc' := 91) (ls' := [(2, .int y15), (1, .int z12), (3, .int y11), (0, .ref 66)]) (st' := []) rfl rfl rfl ?_
            refine hp_go (pc' := 10) rfl rfl rfl ?_
            exact lp_204b g0 K n z12 y15 y11 _ rc (ML_go g0 wp hX hF hop hM h34 (by first | (rw [hz12]; exact ljo_mu (by omega)) | (rw [hz12]; exact ljo_di (by omega) nz12) | (rw [hz12]; exact ljo_re (by omega) nz12))) hby2
theorem tM_pr {ro : List (List Int32)} {n : Nat} (rc : RC_mo ro n) : hM_pr ro (n + 1) := by
  intro d p Q pre0 k0
  refine hp_id (ls := [(0, .ref 66)]) ?_
  refine hp_s1 (pc' := 1) (st' := [.ref 66]) rfl rfl rfl ?_
  refine hp_cv (r := 66) (o := 12) (kd := 1) (as := []) (rest := []) (pc' := 4) rfl rfl rfl rfl rfl rfl rfl rfl rfl (fun d1 => ?_)
  refine rM_on rc (by first | assumption | omega) ?_
  intro y1 p1 h1 h2
  have hT1 := MO_p pre0 h2
  refine hp_id (st := [.int y1]) ?_
  refine hp_s (pc' := 5) (ls' := [(1, .int y1), (0, .ref 66)]) (st' := []) rfl rfl rfl ?_
  refine hp_s (pc' := 6) (st' := [.ref 66]) rfl rfl rfl ?_
  refine hp_cv (r := 66) (o := 12) (kd := 1) (as := []) (rest := []) (pc' := 9) rfl rfl rfl rfl rfl rfl rfl rfl rfl (fun d2 => ?_)
  refine s_byteAt (by first | assumption | omega) ?_
  intro y2 h3
  have hby := h3
  refine hp_id (st := [.int y2]) ?_
  refine hp_s (pc' := 10) (ls' := [(2, .int y2), (1, .int y1), (0, .ref 66)]) (st' := []) rfl rfl rfl ?_
  exact lp_204a (p0 := p) pre0 (fun v p2 h => k0 v p2 h.1 h) n _ _ _ rc (ML_in (by decide) (by decide) h2) hby
theorem lp_206 {ro : List (List Int32)} {d : Nat} {Q : Option Value → xH → Prop} {c s : Int32} {p0 : xH} {a : Nat} (gm : -1 ≤ (rI p0 66 15).toInt ∧ (rI p0 66 15).toInt ≤ 0 ∧ (rI p0 66 17).toInt ≤ 120) (gF : (rI p0 66 18).toInt = -1) (ga : (rI p0 66 16).toInt = a) (gO : 0 ≤ (rI p0 66 19).toInt ∧ (rI p0 66 19).toInt ≤ 6) (gE : (rI p0 66 16).toInt ≤ (rI p0 66 17).toInt) (gn : lnm (fM p0 a) < 0) (gl : ¬ lon (fM p0 a)) (K : ∀ (v : Int32) (p2 : xH), MO 5 p0 p2 v → Q (some (.int v)) p2) : ∀ (n : Nat) (k : Int32) (v : Int32) (p : xH) (kk : Nat), (k.toInt = kk) → (kk ≤ 4) → (∀ j, j < kk → ldg (fM p0 (a + j))) → (v.toInt = lvl (fM p0) a kk) → (hNt [(66, 16)] p0 p) → ((rI p 66 16).toInt = ((a + kk : Nat) : Int)) → hP ro n d (12, 5, 1, 1, k206) 176 [(4, .int k), (3, .int v), (2, .int s), (1, .int c), (0, .ref 66)] [] p Q := by
  intro n
  induction n with
  | zero => intros; exact hp_0
  | succ n ih =>
    intro k v p kk hkk h4 hd hv hN x2
    refine hp_hw (fun wp => ?_)
    have hf : fM p = fM p0 := fM_nt (hN.up (by decide))
    have hF : (rI p 66 18).toInt = -1 := by rw [hN.int (r := 66) (k := 18) rfl]; exact gF
    have hO : (rI p 66 19).toInt = (rI p0 66 19).toInt := by rw [hN.int (r := 66) (k := 19) rfl]
    have hb := lvl_b hd
    have hi : (∀ j, j < kk → ldg (fM p0 (a + j))) → ((a + kk : Nat) : Int) ≤ (rI p0 66 17).toInt ∨ kk = 0 := fun hd => by rcases Nat.eq_zero_or_pos kk with z | z; exact Or.inr z; left; have q := fM_in (p := p0) (j := a + (kk - 1)) (by have := (hd (kk - 1) (by omega)).1; omega); omega
    have hi2 := hi hd
    have hT : 0 ≤ (rI p 66 18).toInt ∨ (rI p 66 16).toInt ≤ (rI p 66 17).toInt → hMp p := fun q => by unfold hMp; rw [hN.int (r := 66) (k := 15) rfl, hN.int (r := 66) (k := 17) rfl, hN.int (r := 66) (k := 19) rfl]; rw [hN.int (r := 66) (k := 17) rfl] at q; exact ⟨gm.1, gm.2.1, by omega, Or.inr ⟨by omega, by omega, gm.2.2, gO.1, gO.2⟩⟩
    have e17 : (rI p 66 17).toInt = (rI p0 66 17).toInt := by rw [hN.int (r := 66) (k := 17) rfl]
    have hT1 : hMp p := hT (Or.inr (by rcases hi2 with z | z; omega; omega))
    refine hp_s1 (pc' := 178) (st' := [.int k]) rfl rfl rfl ?_
    refine hp_s (pc' := 179) (st' := [.int 4, .int k]) rfl rfl rfl ?_
    refine hp_ic (pc' := 182) (t := 229) (a := k.toInt) (b := 4) rfl rfl rfl rfl (by decide) (fun (h1 : 4 ≤ k.toInt) => ?_) (fun (h2 : ¬ (4 ≤ k.toInt)) => ?_)
    ·
      have hne : kk = 4 ∨ ¬ ldg (fM p0 (a + kk)) := by omega
      refine hp_s (pc' := 231) (st' := [.int k]) rfl rfl rfl ?_
      refine hp_if (pc' := 234) (t := 241) (a := k.toInt) rfl rfl rfl rfl (fun (h3 : k.toInt ≠ 0) => ?_) (fun (h4 : ¬ (k.toInt ≠ 0)) => ?_)
      ·
        refine hp_s (pc' := 242) (st' := [.int v]) rfl rfl rfl ?_
        refine hp_ri rfl rfl ?_
        have hk1 : 1 ≤ kk := by omega
        have hin : ((a + kk : Nat) : Int) ≤ (rI p0 66 17).toInt := by have q := fM_in (p := p0) (j := a + (kk - 1)) (by have := (hd (kk - 1) (by omega)).1; omega); omega
        exact K v p (MO_ok gF (hN.up (by decide)) (by rw [i_to ga]; exact yP_num hk1 h4 hd (by first | exact Or.inl (by omega) | exact Or.inr (by omega)) hv) hF hO x2 (by omega) hin lV_num)
      ·
        refine hp_s (pc' := 235) (st' := [.ref 66]) rfl rfl rfl ?_
        refine hp_cv (r := 66) (o := 12) (kd := 1) (as := []) (rest := []) (pc' := 238) rfl rfl rfl rfl rfl rfl rfl rfl rfl (fun d1 => ?_)
        refine s_wrong ?_ ?_
        ·
          intro p1 ep1 h5
          refine hp_id (st := [.int 0]) ?_
          refine hp_go (pc' := 242) rfl rfl rfl ?_
          refine hp_ri rfl rfl ?_
          have hk0 : kk = 0 := by omega
          subst hk0
          exact K 0 _ (MO_bad (b := a) gF (by rw [ep1]; exact (hN.up (by decide)).w rfl) (by rw [i_to ga]; exact yP_oth (by rcases hne with q | q; (exfalso; omega); exact q) gn gl) (by rw [ep1, rI_eq wp (by decide)]; exact x2))
        ·
          intro p2 ep2 h6
          refine hp_id (st := [.int 0]) ?_
          refine hp_go (pc' := 242) rfl rfl rfl ?_
          refine hp_ri rfl rfl ?_
          exfalso; omega
    ·
      refine hp_s (pc' := 183) (st' := [.ref 66]) rfl rfl rfl ?_
      refine hp_cv (r := 66) (o := 12) (kd := 1) (as := []) (rest := []) (pc' := 186) rfl rfl rfl rfl rfl rfl rfl rfl rfl (fun d2 => ?_)
      refine s_byteAt (by first | assumption | omega) ?_
      intro y1 h7
      have hb1 : y1.toInt = fM p0 (a + kk) ∨ (y1.toInt = 0 ∧ fM p0 (a + kk) = -1) := by have q := h7; rw [hf, i_to x2] at q; omega
      refine hp_id (st := [.int y1]) ?_
      refine hp_s (pc' := 188) (st' := [.int 48, .int y1]) rfl rfl rfl ?_
      refine hp_ic (pc' := 191) (t := 229) (a := y1.toInt) (b := 48) rfl rfl rfl rfl (by decide) (fun (h8 : y1.toInt < 48) => ?_) (fun (h9 : ¬ (y1.toInt < 48)) => ?_)
      ·
        have hne : kk = 4 ∨ ¬ ldg (fM p0 (a + kk)) := by omega
        refine hp_s (pc' := 231) (st' := [.int k]) rfl rfl rfl ?_
        refine hp_if (pc' := 234) (t := 241) (a := k.toInt) rfl rfl rfl rfl (fun (h10 : k.toInt ≠ 0) => ?_) (fun (h11 : ¬ (k.toInt ≠ 0)) => ?_)
        ·
          refine hp_s (pc' := 242) (st' := [.int v]) rfl rfl rfl ?_
          refine hp_ri rfl rfl ?_
          have hk1 : 1 ≤ kk := by omega
          have hin : ((a + kk : Nat) : Int) ≤ (rI p0 66 17).toInt := by have q := fM_in (p := p0) (j := a + (kk - 1)) (by have := (hd (kk - 1) (by omega)).1; omega); omega
          exact K v p (MO_ok gF (hN.up (by decide)) (by rw [i_to ga]; exact yP_num hk1 h4 hd (by first | exact Or.inl (by omega) | exact Or.inr (by omega)) hv) hF hO x2 (by omega) hin lV_num)
        ·
          refine hp_s (pc' := 235) (st' := [.ref 66]) rfl rfl rfl ?_
          refine hp_cv (r := 66) (o := 12) (kd := 1) (as := []) (rest := []) (pc' := 238) rfl rfl rfl rfl rfl rfl rfl rfl rfl (fun d3 => ?_)
          refine s_wrong ?_ ?_
          ·
            intro p3 ep3 h12
            refine hp_id (st := [.int 0]) ?_
            refine hp_go (pc' := 242) rfl rfl rfl ?_
            refine hp_ri rfl rfl ?_
            have hk0 : kk = 0 := by omega
            subst hk0
            exact K 0 _ (MO_bad (b := a) gF (by rw [ep3]; exact (hN.up (by decide)).w rfl) (by rw [i_to ga]; exact yP_oth (by rcases hne with q | q; (exfalso; omega); exact q) gn gl) (by rw [ep3, rI_eq wp (by decide)]; exact x2))
          ·
            intro p4 ep4 h13
            refine hp_id (st := [.int 0]) ?_
            refine hp_go (pc' := 242) rfl rfl rfl ?_
            refine hp_ri rfl rfl ?_
            exfalso; omega
      ·
        refine hp_s (pc' := 192) (st' := [.ref 66]) rfl rfl rfl ?_
        refine hp_cv (r := 66) (o := 12) (kd := 1) (as := []) (rest := []) (pc' := 195) rfl rfl rfl rfl rfl rfl rfl rfl rfl (fun d4 => ?_)
        refine s_byteAt (by first | assumption | omega) ?_
        intro y2 h14
        have hb2 : y2.toInt = fM p0 (a + kk) ∨ (y2.toInt = 0 ∧ fM p0 (a + kk) = -1) := by have q := h14; rw [hf, i_to x2] at q; omega
        refine hp_id (st := [.int y2]) ?_
        refine hp_s (pc' := 197) (st' := [.int 57, .int y2]) rfl rfl rfl ?_
        refine hp_ic (pc' := 200) (t := 229) (a := y2.toInt) (b := 57) rfl rfl rfl rfl (by decide) (fun (h15 : 57 < y2.toInt) => ?_) (fun (h16 : ¬ (57 < y2.toInt)) => ?_)
        ·
          have hne : kk = 4 ∨ ¬ ldg (fM p0 (a + kk)) := by omega
          refine hp_s (pc' := 231) (st' := [.int k]) rfl rfl rfl ?_
          refine hp_if (pc' := 234) (t := 241) (a := k.toInt) rfl rfl rfl rfl (fun (h17 : k.toInt ≠ 0) => ?_) (fun (h18 : ¬ (k.toInt ≠ 0)) => ?_)
          ·
            refine hp_s (pc' := 242) (st' := [.int v]) rfl rfl rfl ?_
            refine hp_ri rfl rfl ?_
            have hk1 : 1 ≤ kk := by omega
            have hin : ((a + kk : Nat) : Int) ≤ (rI p0 66 17).toInt := by have q := fM_in (p := p0) (j := a + (kk - 1)) (by have := (hd (kk - 1) (by omega)).1; omega); omega
            exact K v p (MO_ok gF (hN.up (by decide)) (by rw [i_to ga]; exact yP_num hk1 h4 hd (by first | exact Or.inl (by omega) | exact Or.inr (by omega)) hv) hF hO x2 (by omega) hin lV_num)
          ·
            refine hp_s (pc' := 235) (st' := [.ref 66]) rfl rfl rfl ?_
            refine hp_cv (r := 66) (o := 12) (kd := 1) (as := []) (rest := []) (pc' := 238) rfl rfl rfl rfl rfl rfl rfl rfl rfl (fun d5 => ?_)
            refine s_wrong ?_ ?_
            ·
              intro p5 ep5 h19
              refine hp_id (st := [.int 0]) ?_
              refine hp_go (pc' := 242) rfl rfl rfl ?_
              refine hp_ri rfl rfl ?_
              have hk0 : kk = 0 := by omega
              subst hk0
              exact K 0 _ (MO_bad (b := a) gF (by rw [ep5]; exact (hN.up (by decide)).w rfl) (by rw [i_to ga]; exact yP_oth (by rcases hne with q | q; (exfalso; omega); exact q) gn gl) (by rw [ep5, rI_eq wp (by decide)]; exact x2))
            ·
              intro p6 ep6 h20
              refine hp_id (st := [.int 0]) ?_
              refine hp_go (pc' := 242) rfl rfl rfl ?_
              refine hp_ri rfl rfl ?_
              exfalso; omega
        ·
          have hdg : ldg (fM p0 (a + kk)) := by omega
          have hin := fM_in (p := p0) (j := a + kk) (by omega)
          refine hp_s (pc' := 202) (st' := [.int 10]) rfl rfl rfl ?_
          refine hp_s (pc' := 203) (st' := [.int v, .int 10]) rfl rfl rfl ?_
          refine hp_z (pc' := 204) (e := 10 * v) (st' := []) rfl rfl rfl ?_
          intro z1 hz1
          have ez1 := i_mul hz1 (show (10 : Int32).toInt = 10 from by decide) (show v.toInt = v.toInt from rfl)
          refine hp_s (pc' := 205) (st' := [.ref 66, .int z1]) rfl rfl rfl ?_
          refine hp_cv (r := 66) (o := 12) (kd := 1) (as := []) (rest := [.int z1]) (pc' := 208) rfl rfl rfl rfl rfl rfl rfl rfl rfl (fun d6 => ?_)
          refine s_byteAt (by first | assumption | omega) ?_
          intro y3 h21
          have hb3 : y3.toInt = fM p0 (a + kk) ∨ (y3.toInt = 0 ∧ fM p0 (a + kk) = -1) := by have q := h21; rw [hf, i_to x2] at q; omega
          refine hp_id (st := [.int y3, .int z1]) ?_
          refine hp_z (pc' := 209) (e := z1 + y3) (st' := []) rfl rfl rfl ?_
          intro z2 hz2
          have ez2 := i_add hz2 (show z1.toInt = z1.toInt from rfl) (show y3.toInt = y3.toInt from rfl)
          refine hp_s (pc' := 211) (st' := [.int 48, .int z2]) rfl rfl rfl ?_
          refine hp_z (pc' := 212) (e := z2 - 48) (st' := []) rfl rfl rfl ?_
          intro z3 hz3
          have ez3 := i_sub hz3 (show z2.toInt = z2.toInt from rfl) (show (48 : Int32).toInt = 48 from by decide)
          refine hp_s (pc' := 213) (ls' := [(3, .int z3), (4, .int k), (2, .int s), (1, .int c), (0, .ref 66)]) (st' := []) rfl rfl rfl ?_
          refine hp_inc (L := fun z => [(4, .int z), (3, .int z3), (2, .int s), (1, .int c), (0, .ref 66)]) (pc' := 216) rfl rfl rfl (fun _ => rfl) rfl ?_
          intro z4 hz4
          have ez4 := i_add hz4 (show k.toInt = k.toInt from rfl) (show (Int32.ofInt 1).toInt = 1 from by decide)
          refine hp_s (pc' := 217) (st' := [.ref 66]) rfl rfl rfl ?_
          refine hp_s (pc' := 218) (st' := [.ref 66, .ref 66]) rfl rfl rfl ?_
          refine hp_get (k := 16) (pc' := 221) (v := (rI p 66 16)) rfl rfl rfl rfl rfl rfl ?_
          refine hp_s (pc' := 222) (st' := [.int 1, .int (rI p 66 16), .ref 66]) rfl rfl rfl ?_
          refine hp_z (pc' := 223) (e := (rI p 66 16) + 1) (st' := [.ref 66]) rfl rfl rfl ?_
          intro z5 hz5
          have ez5 := i_add hz5 (show (rI p 66 16).toInt = (rI p 66 16).toInt from rfl) (show (1 : Int32).toInt = 1 from by decide)
          refine hp_put (k := 16) (pc' := 226) rfl rfl rfl rfl rfl ?_
          intro p7 wp7 ep7
          refine hp_go (pc' := 176) rfl rfl rfl ?_
          refine ih z4 z3 _ (kk + 1) (by push_cast; omega) (by omega) (fun j hj => ?_) ?_ (by rw [ep7]; exact hN.w rfl) (by rw [ep7, rI_eq wp (by decide)]; push_cast; omega)
          · by_cases g : j < kk
            · exact hd j g
            · rw [show j = kk by omega]; exact hdg
          · show z3.toInt = 10 * lvl (fM p0) a kk + fM p0 (a + kk) - 48
            have hb3 : lvl (fM p0) a kk < 1000 := Int.lt_of_lt_of_le hb.2 (hpw kk (by omega))
            have hb0 := hb.1
            clear hb hN gl gn
            omega
theorem tM_on {ro : List (List Int32)} {n : Nat} (rc : RC_mo ro n) : hM_on ro (n + 1) := by
  intro d p Q pre0 k0
  refine hp_id (ls := [(0, .ref 66)]) ?_
  refine hp_hw (fun wp => ?_)
  obtain ⟨m1, m2, m3, m4⟩ := pre0
  have pre0 : hMp p := ⟨m1, m2, m3, m4⟩
  refine hp_s1 (pc' := 1) (st' := [.ref 66]) rfl rfl rfl ?_
  refine hp_get (k := 18) (pc' := 4) (v := (rI p 66 18)) rfl rfl rfl rfl rfl rfl ?_
  refine hp_if (pc' := 7) (t := 9) (a := (rI p 66 18).toInt) rfl rfl rfl rfl (fun (h1 : (rI p 66 18).toInt < 0) => ?_) (fun (h2 : ¬ ((rI p 66 18).toInt < 0)) => ?_)
  ·
    refine hp_s (pc' := 10) (st' := [.ref 66]) rfl rfl rfl ?_
    refine hp_cv (r := 66) (o := 12) (kd := 1) (as := []) (rest := []) (pc' := 13) rfl rfl rfl rfl rfl rfl rfl rfl rfl (fun d1 => ?_)
    refine s_byteAt (by first | assumption | omega) ?_
    intro y1 h3
    have hby := h3
    refine hp_id (st := [.int y1]) ?_
    refine hp_s (pc' := 14) (ls' := [(1, .int y1), (0, .ref 66)]) (st' := []) rfl rfl rfl ?_
    refine hp_s (pc' := 15) (st' := [.int y1]) rfl rfl rfl ?_
    refine hp_s (pc' := 17) (st' := [.int 33, .int y1]) rfl rfl rfl ?_
    refine hp_ic (pc' := 20) (t := 32) (a := y1.toInt) (b := 33) rfl rfl rfl rfl (by decide) (fun (h4 : y1.toInt = 33) => ?_) (fun (h5 : ¬ (y1.toInt = 33)) => ?_)
    ·
      refine hp_s (pc' := 33) (st' := [.ref 66]) rfl rfl rfl ?_
      refine hp_get (k := 19) (pc' := 36) (v := (rI p 66 19)) rfl rfl rfl rfl rfl rfl ?_
      refine hp_s (pc' := 38) (st' := [.int 6, .int (rI p 66 19)]) rfl rfl rfl ?_
      refine hp_ic (pc' := 41) (t := 46) (a := (rI p 66 19).toInt) (b := 6) rfl rfl rfl rfl (by decide) (fun (h6 : (rI p 66 19).toInt ≠ 6) => ?_) (fun (h7 : ¬ ((rI p 66 19).toInt ≠ 6)) => ?_)
      ·
        refine hp_s (pc' := 47) (st' := [.ref 66]) rfl rfl rfl ?_
        refine hp_s (pc' := 48) (st' := [.ref 66, .ref 66]) rfl rfl rfl ?_
        refine hp_get (k := 19) (pc' := 51) (v := (rI p 66 19)) rfl rfl rfl rfl rfl rfl ?_
        refine hp_s (pc' := 52) (st' := [.int 1, .int (rI p 66 19), .ref 66]) rfl rfl rfl ?_
        refine hp_z (pc' := 53) (e := (rI p 66 19) + 1) (st' := [.ref 66]) rfl rfl rfl ?_
        intro z1 hz1
        have ez1 := i_add hz1 (show (rI p 66 19).toInt = (rI p 66 19).toInt from rfl) (show (1 : Int32).toInt = 1 from by decide)
        refine hp_put (k := 19) (pc' := 56) rfl rfl rfl rfl rfl ?_
        intro p1 wp1 ep1
        refine hp_s (pc' := 57) (st' := [.ref 66]) rfl rfl rfl ?_
        refine hp_s (pc' := 58) (st' := [.ref 66, .ref 66]) rfl rfl rfl ?_
        refine hp_get (k := 16) (pc' := 61) (v := (rI p 66 16)) rfl rfl rfl rfl rfl (by rw [ep1, rI_ne (fun _ => by decide)]) ?_
        refine hp_s (pc' := 62) (st' := [.int 1, .int (rI p 66 16), .ref 66]) rfl rfl rfl ?_
        refine hp_z (pc' := 63) (e := (rI p 66 16) + 1) (st' := [.ref 66]) rfl rfl rfl ?_
        intro z2 hz2
        have ez2 := i_add hz2 (show (rI p 66 16).toInt = (rI p 66 16).toInt from rfl) (show (1 : Int32).toInt = 1 from by decide)
        refine hp_put (k := 16) (pc' := 66) rfl rfl rfl rfl rfl ?_
        intro p2 wp2 ep2
        obtain ⟨hT2, hN2, f18, f19, f16⟩ := Mop (p2 := p2) (z := z1) (y := z2) wp pre0 (by omega) (by omega) (by omega) (by omega) (by omega) (by rw [ep2, ep1])
        refine hp_s (pc' := 67) (st' := [.int y1]) rfl rfl rfl ?_
        refine hp_s (pc' := 69) (st' := [.int 40, .int y1]) rfl rfl rfl ?_
        refine hp_ic (pc' := 72) (t := 79) (a := y1.toInt) (b := 40) rfl rfl rfl rfl (by decide) (fun (h8 : y1.toInt ≠ 40) => ?_) (fun (h9 : ¬ (y1.toInt ≠ 40)) => ?_)
        ·
          refine hp_s (pc' := 80) (st' := [.ref 66]) rfl rfl rfl ?_
          refine hp_cv (r := 66) (o := 12) (kd := 1) (as := []) (rest := []) (pc' := 83) rfl rfl rfl rfl rfl rfl rfl rfl rfl (fun d2 => ?_)
          refine rM_on rc (by first | assumption | omega) ?_
          intro y2 p3 h10 h11
          refine hp_hw (fun w3 => ?_)
          obtain ⟨hI1, hI2⟩ := MO_in1 hN2 f18 f19 f16 (by omega) (by omega) h11
          have hT3 := MO_p hT2 h11
          refine hp_id (st := [.int y2]) ?_
          refine hp_s (pc' := 84) (ls' := [(2, .int y2), (1, .int y1), (0, .ref 66)]) (st' := []) rfl rfl rfl ?_
          refine hp_s (pc' := 85) (st' := [.int y1]) rfl rfl rfl ?_
          refine hp_s (pc' := 87) (st' := [.int 40, .int y1]) rfl rfl rfl ?_
          refine hp_ic (pc' := 90) (t := 104) (a := y1.toInt) (b := 40) rfl rfl rfl rfl (by decide) (fun (h12 : y1.toInt ≠ 40) => ?_) (fun (h13 : ¬ (y1.toInt ≠ 40)) => ?_)
          ·
            refine hp_s (pc' := 105) (st' := [.ref 66]) rfl rfl rfl ?_
            refine hp_s (pc' := 106) (st' := [.ref 66, .ref 66]) rfl rfl rfl ?_
            refine hp_get (k := 19) (pc' := 109) (v := (rI p3 66 19)) rfl rfl rfl rfl rfl rfl ?_
            refine hp_s (pc' := 110) (st' := [.int 1, .int (rI p3 66 19), .ref 66]) rfl rfl rfl ?_
            refine hp_z (pc' := 111) (e := (rI p3 66 19) - 1) (st' := [.ref 66]) rfl rfl rfl ?_
            intro z3 hz3
            have ez3 := i_sub hz3 (show (rI p3 66 19).toInt = (rI p3 66 19).toInt from rfl) (show (1 : Int32).toInt = 1 from by decide)
            refine hp_put (k := 19) (pc' := 114) rfl rfl rfl rfl rfl ?_
            intro p4 wp4 ep4
            refine hp_s (pc' := 115) (st' := [.int y1]) rfl rfl rfl ?_
            refine hp_s (pc' := 117) (st' := [.int 40, .int y1]) rfl rfl rfl ?_
            refine hp_ic (pc' := 120) (t := 124) (a := y1.toInt) (b := 40) rfl rfl rfl rfl (by decide) (fun (h14 : y1.toInt ≠ 40) => ?_) (fun (h15 : ¬ (y1.toInt ≠ 40)) => ?_)
            ·
              refine hp_s (pc' := 125) (st' := [.int y1]) rfl rfl rfl ?_
              refine hp_s (pc' := 127) (st' := [.int 45, .int y1]) rfl rfl rfl ?_
              refine hp_ic (pc' := 130) (t := 135) (a := y1.toInt) (b := 45) rfl rfl rfl rfl (by decide) (fun (h16 : y1.toInt ≠ 45) => ?_) (fun (h17 : ¬ (y1.toInt ≠ 45)) => ?_)
              ·
                refine hp_s (pc' := 136) (st' := [.int y2]) rfl rfl rfl ?_
                refine hp_if (pc' := 139) (t := 143) (a := y2.toInt) rfl rfl rfl rfl (fun (h18 : y2.toInt ≠ 0) => ?_) (fun (h19 : ¬ (y2.toInt ≠ 0)) => ?_)
                ·
                  refine hp_s (pc' := 144) (st' := [.int 0]) rfl rfl rfl ?_
                  refine hp_ri rfl rfl ?_
                  first
                  | exfalso; (try clear hI2); omega
                  | have g16 : (rI p4 66 16).toInt = (rI p3 66 16).toInt := by rw [ep4, rI_ne (fun _ => by decide)]
                    have g18 : (rI p4 66 18).toInt = (rI p3 66 18).toInt := by rw [ep4, rI_ne (fun _ => by decide)]
                    have g19 : (rI p4 66 19).toInt = z3.toInt := by rw [ep4, rI_eq w3 (by decide)]
                    rcases hI2 with ⟨c1, c2, e, b, c3, c4, c5, c6, c7⟩ | ⟨b, c1, c2⟩
                    · have hZ := MO_ok (l := 5) (v := (0 : Int32)) (p := p) (p2 := p4) (b := b) (by omega) (by rw [ep4]; exact hI1.w rfl) (yP_uo (by omega) (by omega) c3) (by omega) (by omega) (by omega) (by omega) (by omega) (lV_not (by omega) c7 (by rw [if_neg (i_nz (by omega))]))
                      exact k0 _ _ hZ.1 hZ
                    · have hZ := MO_bad (l := 5) (v := (0 : Int32)) (p := p) (p2 := p4) (b := b) (by omega) (by rw [ep4]; exact hI1.w rfl) (yP_ub (by omega) (by omega) c1) (by omega)
                      exact k0 _ _ hZ.1 hZ
                ·
                  refine hp_s (pc' := 140) (st' := [.int 1]) rfl rfl rfl ?_
                  refine hp_go (pc' := 144) rfl rfl rfl ?_
                  refine hp_ri rfl rfl ?_
                  first
                  | exfalso; (try clear hI2); omega
                  | have g16 : (rI p4 66 16).toInt = (rI p3 66 16).toInt := by rw [ep4, rI_ne (fun _ => by decide)]
                    have g18 : (rI p4 66 18).toInt = (rI p3 66 18).toInt := by rw [ep4, rI_ne (fun _ => by decide)]
                    have g19 : (rI p4 66 19).toInt = z3.toInt := by rw [ep4, rI_eq w3 (by decide)]
                    rcases hI2 with ⟨c1, c2, e, b, c3, c4, c5, c6, c7⟩ | ⟨b, c1, c2⟩
                    · have hZ := MO_ok (l := 5) (v := (1 : Int32)) (p := p) (p2 := p4) (b := b) (by omega) (by rw [ep4]; exact hI1.w rfl) (yP_uo (by omega) (by omega) c3) (by omega) (by omega) (by omega) (by omega) (by omega) (lV_not (by omega) c7 (by rw [if_pos (i_z (by omega))]))
                      exact k0 _ _ hZ.1 hZ
                    · have hZ := MO_bad (l := 5) (v := (1 : Int32)) (p := p) (p2 := p4) (b := b) (by omega) (by rw [ep4]; exact hI1.w rfl) (yP_ub (by omega) (by omega) c1) (by omega)
                      exact k0 _ _ hZ.1 hZ
              ·
                refine hp_s (pc' := 131) (st' := [.int y2]) rfl rfl rfl ?_
                refine hp_z (pc' := 132) (e := -y2) (st' := []) rfl rfl rfl ?_
                intro z4 hz4
                have ez4 := i_neg hz4 (show y2.toInt = y2.toInt from rfl)
                refine hp_go (pc' := 144) rfl rfl rfl ?_
                refine hp_ri rfl rfl ?_
                first
                | exfalso; (try clear hI2); omega
                | have g16 : (rI p4 66 16).toInt = (rI p3 66 16).toInt := by rw [ep4, rI_ne (fun _ => by decide)]
                  have g18 : (rI p4 66 18).toInt = (rI p3 66 18).toInt := by rw [ep4, rI_ne (fun _ => by decide)]
                  have g19 : (rI p4 66 19).toInt = z3.toInt := by rw [ep4, rI_eq w3 (by decide)]
                  rcases hI2 with ⟨c1, c2, e, b, c3, c4, c5, c6, c7⟩ | ⟨b, c1, c2⟩
                  · have hZ := MO_ok (l := 5) (v := z4) (p := p) (p2 := p4) (b := b) (by omega) (by rw [ep4]; exact hI1.w rfl) (yP_uo (by omega) (by omega) c3) (by omega) (by omega) (by omega) (by omega) (by omega) (lV_neg (by omega) c7 hz4)
                    exact k0 _ _ hZ.1 hZ
                  · have hZ := MO_bad (l := 5) (v := z4) (p := p) (p2 := p4) (b := b) (by omega) (by rw [ep4]; exact hI1.w rfl) (yP_ub (by omega) (by omega) c1) (by omega)
                    exact k0 _ _ hZ.1 hZ
            ·
              refine hp_s (pc' := 121) (st' := [.int y2]) rfl rfl rfl ?_
              refine hp_go (pc' := 144) rfl rfl rfl ?_
              refine hp_ri rfl rfl ?_
              first
              | exfalso; (try clear hI2); omega
              | have g16 : (rI p4 66 16).toInt = (rI p3 66 16).toInt := by rw [ep4, rI_ne (fun _ => by decide)]
                have g18 : (rI p4 66 18).toInt = (rI p3 66 18).toInt := by rw [ep4, rI_ne (fun _ => by decide)]
                have g19 : (rI p4 66 19).toInt = z3.toInt := by rw [ep4, rI_eq w3 (by decide)]
                rcases hI2 with ⟨c1, c2, e, b, c3, c4, c5, c6, c7⟩ | ⟨b, c1, c2⟩
                · have hZ := MO_ok (l := 5) (v := y2) (p := p) (p2 := p4) (b := b) (by omega) (by rw [ep4]; exact hI1.w rfl) (yP_uo (by omega) (by omega) c3) (by omega) (by omega) (by omega) (by omega) (by omega) (lV_neg (by omega) c7 hy2)
                  exact k0 _ _ hZ.1 hZ
                · have hZ := MO_bad (l := 5) (v := y2) (p := p) (p2 := p4) (b := b) (by omega) (by rw [ep4]; exact hI1.w rfl) (yP_ub (by omega) (by omega) c1) (by omega)
                  exact k0 _ _ hZ.1 hZ
          ·
            refine hp_s (pc' := 91) (st' := [.ref 66]) rfl rfl rfl ?_
            refine hp_s (pc' := 93) (st' := [.int 41, .ref 66]) rfl rfl rfl ?_
            refine hp_cv (r := 66) (o := 12) (kd := 1) (as := [.int 41]) (rest := []) (pc' := 96) rfl rfl rfl rfl rfl rfl rfl rfl rfl (fun d3 => ?_)
            refine s_takes (ci := 41) (by decide) (by first | assumption | omega) (by first | assumption | omega) ?_ ?_
            ·
              intro p5 h20 h21 h22 h23
              have htk := h22
              have hMt := h23
              obtain ⟨t1, t2, t3⟩ := Mat_r w3 hMt
              refine hp_hw (fun w4 => ?_)
              refine hp_id (st := [.int 1]) ?_
              refine hp_go (pc' := 104) rfl rfl rfl ?_
              refine hp_s (pc' := 105) (st' := [.ref 66]) rfl rfl rfl ?_
              refine hp_s (pc' := 106) (st' := [.ref 66, .ref 66]) rfl rfl rfl ?_
              refine hp_get (k := 19) (pc' := 109) (v := (rI p3 66 19)) rfl rfl rfl rfl rfl (by rw [h20.int (r := 66) (k := 19) rfl]) ?_
              refine hp_s (pc' := 110) (st' := [.int 1, .int (rI p3 66 19), .ref 66]) rfl rfl rfl ?_
              refine hp_z (pc' := 111) (e := (rI p3 66 19) - 1) (st' := [.ref 66]) rfl rfl rfl ?_
              intro z5 hz5
              have ez5 := i_sub hz5 (show (rI p3 66 19).toInt = (rI p3 66 19).toInt from rfl) (show (1 : Int32).toInt = 1 from by decide)
              refine hp_put (k := 19) (pc' := 114) rfl rfl rfl rfl rfl ?_
              intro p6 wp6 ep6
              refine hp_s (pc' := 115) (st' := [.int y1]) rfl rfl rfl ?_
              refine hp_s (pc' := 117) (st' := [.int 40, .int y1]) rfl rfl rfl ?_
              refine hp_ic (pc' := 120) (t := 124) (a := y1.toInt) (b := 40) rfl rfl rfl rfl (by decide) (fun (h24 : y1.toInt ≠ 40) => ?_) (fun (h25 : ¬ (y1.toInt ≠ 40)) => ?_)
              ·
                refine hp_s (pc' := 125) (st' := [.int y1]) rfl rfl rfl ?_
                refine hp_s (pc' := 127) (st' := [.int 45, .int y1]) rfl rfl rfl ?_
                refine hp_ic (pc' := 130) (t := 135) (a := y1.toInt) (b := 45) rfl rfl rfl rfl (by decide) (fun (h26 : y1.toInt ≠ 45) => ?_) (fun (h27 : ¬ (y1.toInt ≠ 45)) => ?_)
                ·
                  refine hp_s (pc' := 136) (st' := [.int y2]) rfl rfl rfl ?_
                  refine hp_if (pc' := 139) (t := 143) (a := y2.toInt) rfl rfl rfl rfl (fun (h28 : y2.toInt ≠ 0) => ?_) (fun (h29 : ¬ (y2.toInt ≠ 0)) => ?_)
                  ·
                    refine hp_s (pc' := 144) (st' := [.int 0]) rfl rfl rfl ?_
                    refine hp_ri rfl rfl ?_
                    first
                    | exfalso; (try clear hI2); omega
                    | have g16 : (rI p6 66 16).toInt = (rI p5 66 16).toInt := by rw [ep6, rI_ne (fun _ => by decide)]
                      have g18 : (rI p6 66 18).toInt = (rI p5 66 18).toInt := by rw [ep6, rI_ne (fun _ => by decide)]
                      have g19 : (rI p6 66 19).toInt = z5.toInt := by rw [ep6, rI_eq w4 (by decide)]
                      rcases hI2 with ⟨c1, c2, e, b, c3, c4, c5, c6, c7⟩ | ⟨b, c1, c2⟩
                      · have hin := fM_in (p := p) (j := b) (by have q := htk; rw [fM_nt hI1, i_to c4] at q; omega)
                        have hZ := MO_ok (l := 5) (v := 0) (p := p) (p2 := p6) (b := b + 1) (by omega) (by rw [ep6]; exact ((hI1.trans (Mat_nt hMt)).w rfl)) (yP_po (by omega) (by omega) c3 (by have q := htk; rw [fM_nt hI1, i_to c4] at q; omega)) (by omega) (by omega) (by push_cast; omega) (by omega) (by push_cast; omega) c7
                        exact k0 _ _ hZ.1 hZ
                      · exfalso; omega
                  ·
                    refine hp_s (pc' := 140) (st' := [.int 1]) rfl rfl rfl ?_
                    refine hp_go (pc' := 144) rfl rfl rfl ?_
                    refine hp_ri rfl rfl ?_
                    first
                    | exfalso; (try clear hI2); omega
                    | have g16 : (rI p6 66 16).toInt = (rI p5 66 16).toInt := by rw [ep6, rI_ne (fun _ => by decide)]
                      have g18 : (rI p6 66 18).toInt = (rI p5 66 18).toInt := by rw [ep6, rI_ne (fun _ => by decide)]
                      have g19 : (rI p6 66 19).toInt = z5.toInt := by rw [ep6, rI_eq w4 (by decide)]
                      rcases hI2 with ⟨c1, c2, e, b, c3, c4, c5, c6, c7⟩ | ⟨b, c1, c2⟩
                      · have hin := fM_in (p := p) (j := b) (by have q := htk; rw [fM_nt hI1, i_to c4] at q; omega)
                        have hZ := MO_ok (l := 5) (v := 1) (p := p) (p2 := p6) (b := b + 1) (by omega) (by rw [ep6]; exact ((hI1.trans (Mat_nt hMt)).w rfl)) (yP_po (by omega) (by omega) c3 (by have q := htk; rw [fM_nt hI1, i_to c4] at q; omega)) (by omega) (by omega) (by push_cast; omega) (by omega) (by push_cast; omega) c7
                        exact k0 _ _ hZ.1 hZ
                      · exfalso; omega
                ·
                  refine hp_s (pc' := 131) (st' := [.int y2]) rfl rfl rfl ?_
                  refine hp_z (pc' := 132) (e := -y2) (st' := []) rfl rfl rfl ?_
                  intro z6 hz6
                  have ez6 := i_neg hz6 (show y2.toInt = y2.toInt from rfl)
                  refine hp_go (pc' := 144) rfl rfl rfl ?_
                  refine hp_ri rfl rfl ?_
                  first
                  | exfalso; (try clear hI2); omega
                  | have g16 : (rI p6 66 16).toInt = (rI p5 66 16).toInt := by rw [ep6, rI_ne (fun _ => by decide)]
                    have g18 : (rI p6 66 18).toInt = (rI p5 66 18).toInt := by rw [ep6, rI_ne (fun _ => by decide)]
                    have g19 : (rI p6 66 19).toInt = z5.toInt := by rw [ep6, rI_eq w4 (by decide)]
                    rcases hI2 with ⟨c1, c2, e, b, c3, c4, c5, c6, c7⟩ | ⟨b, c1, c2⟩
                    · have hin := fM_in (p := p) (j := b) (by have q := htk; rw [fM_nt hI1, i_to c4] at q; omega)
                      have hZ := MO_ok (l := 5) (v := z6) (p := p) (p2 := p6) (b := b + 1) (by omega) (by rw [ep6]; exact ((hI1.trans (Mat_nt hMt)).w rfl)) (yP_po (by omega) (by omega) c3 (by have q := htk; rw [fM_nt hI1, i_to c4] at q; omega)) (by omega) (by omega) (by push_cast; omega) (by omega) (by push_cast; omega) c7
                      exact k0 _ _ hZ.1 hZ
                    · exfalso; omega
              ·
                refine hp_s (pc' := 121) (st' := [.int y2]) rfl rfl rfl ?_
                refine hp_go (pc' := 144) rfl rfl rfl ?_
                refine hp_ri rfl rfl ?_
                first
                | exfalso; (try clear hI2); omega
                | have g16 : (rI p6 66 16).toInt = (rI p5 66 16).toInt := by rw [ep6, rI_ne (fun _ => by decide)]
                  have g18 : (rI p6 66 18).toInt = (rI p5 66 18).toInt := by rw [ep6, rI_ne (fun _ => by decide)]
                  have g19 : (rI p6 66 19).toInt = z5.toInt := by rw [ep6, rI_eq w4 (by decide)]
                  rcases hI2 with ⟨c1, c2, e, b, c3, c4, c5, c6, c7⟩ | ⟨b, c1, c2⟩
                  · have hin := fM_in (p := p) (j := b) (by have q := htk; rw [fM_nt hI1, i_to c4] at q; omega)
                    have hZ := MO_ok (l := 5) (v := y2) (p := p) (p2 := p6) (b := b + 1) (by omega) (by rw [ep6]; exact ((hI1.trans (Mat_nt hMt)).w rfl)) (yP_po (by omega) (by omega) c3 (by have q := htk; rw [fM_nt hI1, i_to c4] at q; omega)) (by omega) (by omega) (by push_cast; omega) (by omega) (by push_cast; omega) c7
                    exact k0 _ _ hZ.1 hZ
                  · exfalso; omega
            ·
              intro h30
              have htk := h30
              refine hp_id (st := [.int 0]) ?_
              refine hp_go (pc' := 99) rfl rfl rfl ?_
              refine hp_s (pc' := 100) (st' := [.ref 66]) rfl rfl rfl ?_
              refine hp_cv (r := 66) (o := 12) (kd := 1) (as := []) (rest := []) (pc' := 103) rfl rfl rfl rfl rfl rfl rfl rfl rfl (fun d4 => ?_)
              refine s_wrong ?_ ?_
              ·
                intro p7 ep7 h31
                refine hp_id (st := [.int 0]) ?_
                refine hp_ri rfl rfl ?_
                first
                | exfalso; (try clear hI2); omega
                | rcases hI2 with ⟨c1, c2, e, b, c3, c4, c5, c6, c7⟩ | ⟨b, c1, c2⟩
                  · have hZ := MO_bad (l := 5) (v := 0) (b := b) (p := p) (p2 := p7) (by omega) (by rw [ep7]; exact hI1.w rfl) (yP_pn (by omega) (by omega) c3 (by have q := htk; rw [fM_nt hI1, i_to c4] at q; omega)) (by rw [ep7, rI_eq w3 (by decide)]; exact c4)
                    exact k0 _ _ hZ.1 hZ
                  · exfalso; omega
              ·
                intro p8 ep8 h32
                refine hp_id (st := [.int 0]) ?_
                refine hp_ri rfl rfl ?_
                first
                | exfalso; (try clear hI2); omega
                | rcases hI2 with ⟨c1, c2, e, b, c3, c4, c5, c6, c7⟩ | ⟨b, c1, c2⟩
                  · exfalso; omega
                  · have hZ := MO_bad (l := 5) (v := 0) (b := b) (p := p) (p2 := p8) (by omega) (by rw [ep8]; exact hI1.w rfl) (yP_pb (by omega) (by omega) c1) (by rw [ep8, rI_eq w3 (by decide)]; exact c2)
                    exact k0 _ _ hZ.1 hZ
        ·
          refine hp_s (pc' := 73) (st' := [.ref 66]) rfl rfl rfl ?_
          refine hp_cv (r := 66) (o := 12) (kd := 1) (as := []) (rest := []) (pc' := 76) rfl rfl rfl rfl rfl rfl rfl rfl rfl (fun d5 => ?_)
          refine rM_ei rc (by first | assumption | omega) ?_
          intro y3 p9 h33 h34
          refine hp_hw (fun w3 => ?_)
          obtain ⟨hI1, hI2⟩ := MO_in1 hN2 f18 f19 f16 (by omega) (by omega) h34
          have hT3 := MO_p hT2 h34
          refine hp_id (st := [.int y3]) ?_
          refine hp_go (pc' := 83) rfl rfl rfl ?_
          refine hp_s (pc' := 84) (ls' := [(2, .int y3), (1, .int y1), (0, .ref 66)]) (st' := []) rfl rfl rfl ?_
          refine hp_s (pc' := 85) (st' := [.int y1]) rfl rfl rfl ?_
          refine hp_s (pc' := 87) (st' := [.int 40, .int y1]) rfl rfl rfl ?_
          refine hp_ic (pc' := 90) (t := 104) (a := y1.toInt) (b := 40) rfl rfl rfl rfl (by decide) (fun (h35 : y1.toInt ≠ 40) => ?_) (fun (h36 : ¬ (y1.toInt ≠ 40)) => ?_)
          ·
            refine hp_s (pc' := 105) (st' := [.ref 66]) rfl rfl rfl ?_
            refine hp_s (pc' := 106) (st' := [.ref 66, .ref 66]) rfl rfl rfl ?_
            refine hp_get (k := 19) (pc' := 109) (v := (rI p9 66 19)) rfl rfl rfl rfl rfl rfl ?_
            refine hp_s (pc' := 110) (st' := [.int 1, .int (rI p9 66 19), .ref 66]) rfl rfl rfl ?_
            refine hp_z (pc' := 111) (e := (rI p9 66 19) - 1) (st' := [.ref 66]) rfl rfl rfl ?_
            intro z7 hz7
            have ez7 := i_sub hz7 (show (rI p9 66 19).toInt = (rI p9 66 19).toInt from rfl) (show (1 : Int32).toInt = 1 from by decide)
            refine hp_put (k := 19) (pc' := 114) rfl rfl rfl rfl rfl ?_
            intro p10 wp10 ep10
            refine hp_s (pc' := 115) (st' := [.int y1]) rfl rfl rfl ?_
            refine hp_s (pc' := 117) (st' := [.int 40, .int y1]) rfl rfl rfl ?_
            refine hp_ic (pc' := 120) (t := 124) (a := y1.toInt) (b := 40) rfl rfl rfl rfl (by decide) (fun (h37 : y1.toInt ≠ 40) => ?_) (fun (h38 : ¬ (y1.toInt ≠ 40)) => ?_)
            ·
              refine hp_s (pc' := 125) (st' := [.int y1]) rfl rfl rfl ?_
              refine hp_s (pc' := 127) (st' := [.int 45, .int y1]) rfl rfl rfl ?_
              refine hp_ic (pc' := 130) (t := 135) (a := y1.toInt) (b := 45) rfl rfl rfl rfl (by decide) (fun (h39 : y1.toInt ≠ 45) => ?_) (fun (h40 : ¬ (y1.toInt ≠ 45)) => ?_)
              ·
                refine hp_s (pc' := 136) (st' := [.int y3]) rfl rfl rfl ?_
                refine hp_if (pc' := 139) (t := 143) (a := y3.toInt) rfl rfl rfl rfl (fun (h41 : y3.toInt ≠ 0) => ?_) (fun (h42 : ¬ (y3.toInt ≠ 0)) => ?_)
                ·
                  refine hp_s (pc' := 144) (st' := [.int 0]) rfl rfl rfl ?_
                  refine hp_ri rfl rfl ?_
                  first
                  | exfalso; (try clear hI2); omega
                  | have g16 : (rI p10 66 16).toInt = (rI p9 66 16).toInt := by rw [ep10, rI_ne (fun _ => by decide)]
                    have g18 : (rI p10 66 18).toInt = (rI p9 66 18).toInt := by rw [ep10, rI_ne (fun _ => by decide)]
                    have g19 : (rI p10 66 19).toInt = z7.toInt := by rw [ep10, rI_eq w3 (by decide)]
                    rcases hI2 with ⟨c1, c2, e, b, c3, c4, c5, c6, c7⟩ | ⟨b, c1, c2⟩
                    · have hZ := MO_ok (l := 5) (v := (0 : Int32)) (p := p) (p2 := p10) (b := b) (by omega) (by rw [ep10]; exact hI1.w rfl) (yP_uo (by omega) (by omega) c3) (by omega) (by omega) (by omega) (by omega) (by omega) (lV_not (by omega) c7 (by rw [if_neg (i_nz (by omega))]))
                      exact k0 _ _ hZ.1 hZ
                    · have hZ := MO_bad (l := 5) (v := (0 : Int32)) (p := p) (p2 := p10) (b := b) (by omega) (by rw [ep10]; exact hI1.w rfl) (yP_ub (by omega) (by omega) c1) (by omega)
                      exact k0 _ _ hZ.1 hZ
                ·
                  refine hp_s (pc' := 140) (st' := [.int 1]) rfl rfl rfl ?_
                  refine hp_go (pc' := 144) rfl rfl rfl ?_
                  refine hp_ri rfl rfl ?_
                  first
                  | exfalso; (try clear hI2); omega
                  | have g16 : (rI p10 66 16).toInt = (rI p9 66 16).toInt := by rw [ep10, rI_ne (fun _ => by decide)]
                    have g18 : (rI p10 66 18).toInt = (rI p9 66 18).toInt := by rw [ep10, rI_ne (fun _ => by decide)]
                    have g19 : (rI p10 66 19).toInt = z7.toInt := by rw [ep10, rI_eq w3 (by decide)]
                    rcases hI2 with ⟨c1, c2, e, b, c3, c4, c5, c6, c7⟩ | ⟨b, c1, c2⟩
                    · have hZ := MO_ok (l := 5) (v := (1 : Int32)) (p := p) (p2 := p10) (b := b) (by omega) (by rw [ep10]; exact hI1.w rfl) (yP_uo (by omega) (by omega) c3) (by omega) (by omega) (by omega) (by omega) (by omega) (lV_not (by omega) c7 (by rw [if_pos (i_z (by omega))]))
                      exact k0 _ _ hZ.1 hZ
                    · have hZ := MO_bad (l := 5) (v := (1 : Int32)) (p := p) (p2 := p10) (b := b) (by omega) (by rw [ep10]; exact hI1.w rfl) (yP_ub (by omega) (by omega) c1) (by omega)
                      exact k0 _ _ hZ.1 hZ
              ·
                refine hp_s (pc' := 131) (st' := [.int y3]) rfl rfl rfl ?_
                refine hp_z (pc' := 132) (e := -y3) (st' := []) rfl rfl rfl ?_
                intro z8 hz8
                have ez8 := i_neg hz8 (show y3.toInt = y3.toInt from rfl)
                refine hp_go (pc' := 144) rfl rfl rfl ?_
                refine hp_ri rfl rfl ?_
                first
                | exfalso; (try clear hI2); omega
                | have g16 : (rI p10 66 16).toInt = (rI p9 66 16).toInt := by rw [ep10, rI_ne (fun _ => by decide)]
                  have g18 : (rI p10 66 18).toInt = (rI p9 66 18).toInt := by rw [ep10, rI_ne (fun _ => by decide)]
                  have g19 : (rI p10 66 19).toInt = z7.toInt := by rw [ep10, rI_eq w3 (by decide)]
                  rcases hI2 with ⟨c1, c2, e, b, c3, c4, c5, c6, c7⟩ | ⟨b, c1, c2⟩
                  · have hZ := MO_ok (l := 5) (v := z8) (p := p) (p2 := p10) (b := b) (by omega) (by rw [ep10]; exact hI1.w rfl) (yP_uo (by omega) (by omega) c3) (by omega) (by omega) (by omega) (by omega) (by omega) (lV_neg (by omega) c7 hz8)
                    exact k0 _ _ hZ.1 hZ
                  · have hZ := MO_bad (l := 5) (v := z8) (p := p) (p2 := p10) (b := b) (by omega) (by rw [ep10]; exact hI1.w rfl) (yP_ub (by omega) (by omega) c1) (by omega)
                    exact k0 _ _ hZ.1 hZ
            ·
              refine hp_s (pc' := 121) (st' := [.int y3]) rfl rfl rfl ?_
              refine hp_go (pc' := 144) rfl rfl rfl ?_
              refine hp_ri rfl rfl ?_
              first
              | exfalso; (try clear hI2); omega
              | have g16 : (rI p10 66 16).toInt = (rI p9 66 16).toInt := by rw [ep10, rI_ne (fun _ => by decide)]
                have g18 : (rI p10 66 18).toInt = (rI p9 66 18).toInt := by rw [ep10, rI_ne (fun _ => by decide)]
                have g19 : (rI p10 66 19).toInt = z7.toInt := by rw [ep10, rI_eq w3 (by decide)]
                rcases hI2 with ⟨c1, c2, e, b, c3, c4, c5, c6, c7⟩ | ⟨b, c1, c2⟩
                · have hZ := MO_ok (l := 5) (v := y3) (p := p) (p2 := p10) (b := b) (by omega) (by rw [ep10]; exact hI1.w rfl) (yP_uo (by omega) (by omega) c3) (by omega) (by omega) (by omega) (by omega) (by omega) (lV_neg (by omega) c7 hy3)
                  exact k0 _ _ hZ.1 hZ
                · have hZ := MO_bad (l := 5) (v := y3) (p := p) (p2 := p10) (b := b) (by omega) (by rw [ep10]; exact hI1.w rfl) (yP_ub (by omega) (by omega) c1) (by omega)
                  exact k0 _ _ hZ.1 hZ
          ·
            refine hp_s (pc' := 91) (st' := [.ref 66]) rfl rfl rfl ?_
            refine hp_s (pc' := 93) (st' := [.int 41, .ref 66]) rfl rfl rfl ?_
            refine hp_cv (r := 66) (o := 12) (kd := 1) (as := [.int 41]) (rest := []) (pc' := 96) rfl rfl rfl rfl rfl rfl rfl rfl rfl (fun d6 => ?_)
            refine s_takes (ci := 41) (by decide) (by first | assumption | omega) (by first | assumption | omega) ?_ ?_
            ·
              intro p11 h43 h44 h45 h46
              have htk := h45
              have hMt := h46
              obtain ⟨t1, t2, t3⟩ := Mat_r w3 hMt
              refine hp_hw (fun w4 => ?_)
              refine hp_id (st := [.int 1]) ?_
              refine hp_go (pc' := 104) rfl rfl rfl ?_
              refine hp_s (pc' := 105) (st' := [.ref 66]) rfl rfl rfl ?_
              refine hp_s (pc' := 106) (st' := [.ref 66, .ref 66]) rfl rfl rfl ?_
              refine hp_get (k := 19) (pc' := 109) (v := (rI p9 66 19)) rfl rfl rfl rfl rfl (by rw [h43.int (r := 66) (k := 19) rfl]) ?_
              refine hp_s (pc' := 110) (st' := [.int 1, .int (rI p9 66 19), .ref 66]) rfl rfl rfl ?_
              refine hp_z (pc' := 111) (e := (rI p9 66 19) - 1) (st' := [.ref 66]) rfl rfl rfl ?_
              intro z9 hz9
              have ez9 := i_sub hz9 (show (rI p9 66 19).toInt = (rI p9 66 19).toInt from rfl) (show (1 : Int32).toInt = 1 from by decide)
              refine hp_put (k := 19) (pc' := 114) rfl rfl rfl rfl rfl ?_
              intro p12 wp12 ep12
              refine hp_s (pc' := 115) (st' := [.int y1]) rfl rfl rfl ?_
              refine hp_s (pc' := 117) (st' := [.int 40, .int y1]) rfl rfl rfl ?_
              refine hp_ic (pc' := 120) (t := 124) (a := y1.toInt) (b := 40) rfl rfl rfl rfl (by decide) (fun (h47 : y1.toInt ≠ 40) => ?_) (fun (h48 : ¬ (y1.toInt ≠ 40)) => ?_)
              ·
                refine hp_s (pc' := 125) (st' := [.int y1]) rfl rfl rfl ?_
                refine hp_s (pc' := 127) (st' := [.int 45, .int y1]) rfl rfl rfl ?_
                refine hp_ic (pc' := 130) (t := 135) (a := y1.toInt) (b := 45) rfl rfl rfl rfl (by decide) (fun (h49 : y1.toInt ≠ 45) => ?_) (fun (h50 : ¬ (y1.toInt ≠ 45)) => ?_)
                ·
                  refine hp_s (pc' := 136) (st' := [.int y3]) rfl rfl rfl ?_
                  refine hp_if (pc' := 139) (t := 143) (a := y3.toInt) rfl rfl rfl rfl (fun (h51 : y3.toInt ≠ 0) => ?_) (fun (h52 : ¬ (y3.toInt ≠ 0)) => ?_)
                  ·
                    refine hp_s (pc' := 144) (st' := [.int 0]) rfl rfl rfl ?_
                    refine hp_ri rfl rfl ?_
                    first
                    | exfalso; (try clear hI2); omega
                    | have g16 : (rI p12 66 16).toInt = (rI p11 66 16).toInt := by rw [ep12, rI_ne (fun _ => by decide)]
                      have g18 : (rI p12 66 18).toInt = (rI p11 66 18).toInt := by rw [ep12, rI_ne (fun _ => by decide)]
                      have g19 : (rI p12 66 19).toInt = z9.toInt := by rw [ep12, rI_eq w4 (by decide)]
                      rcases hI2 with ⟨c1, c2, e, b, c3, c4, c5, c6, c7⟩ | ⟨b, c1, c2⟩
                      · have hin := fM_in (p := p) (j := b) (by have q := htk; rw [fM_nt hI1, i_to c4] at q; omega)
                        have hZ := MO_ok (l := 5) (v := 0) (p := p) (p2 := p12) (b := b + 1) (by omega) (by rw [ep12]; exact ((hI1.trans (Mat_nt hMt)).w rfl)) (yP_po (by omega) (by omega) c3 (by have q := htk; rw [fM_nt hI1, i_to c4] at q; omega)) (by omega) (by omega) (by push_cast; omega) (by omega) (by push_cast; omega) c7
                        exact k0 _ _ hZ.1 hZ
                      · exfalso; omega
                  ·
                    refine hp_s (pc' := 140) (st' := [.int 1]) rfl rfl rfl ?_
                    refine hp_go (pc' := 144) rfl rfl rfl ?_
                    refine hp_ri rfl rfl ?_
                    first
                    | exfalso; (try clear hI2); omega
                    | have g16 : (rI p12 66 16).toInt = (rI p11 66 16).toInt := by rw [ep12, rI_ne (fun _ => by decide)]
                      have g18 : (rI p12 66 18).toInt = (rI p11 66 18).toInt := by rw [ep12, rI_ne (fun _ => by decide)]
                      have g19 : (rI p12 66 19).toInt = z9.toInt := by rw [ep12, rI_eq w4 (by decide)]
                      rcases hI2 with ⟨c1, c2, e, b, c3, c4, c5, c6, c7⟩ | ⟨b, c1, c2⟩
                      · have hin := fM_in (p := p) (j := b) (by have q := htk; rw [fM_nt hI1, i_to c4] at q; omega)
                        have hZ := MO_ok (l := 5) (v := 1) (p := p) (p2 := p12) (b := b + 1) (by omega) (by rw [ep12]; exact ((hI1.trans (Mat_nt hMt)).w rfl)) (yP_po (by omega) (by omega) c3 (by have q := htk; rw [fM_nt hI1, i_to c4] at q; omega)) (by omega) (by omega) (by push_cast; omega) (by omega) (by push_cast; omega) c7
                        exact k0 _ _ hZ.1 hZ
                      · exfalso; omega
                ·
                  refine hp_s (pc' := 131) (st' := [.int y3]) rfl rfl rfl ?_
                  refine hp_z (pc' := 132) (e := -y3) (st' := []) rfl rfl rfl ?_
                  intro z10 hz10
                  have ez10 := i_neg hz10 (show y3.toInt = y3.toInt from rfl)
                  refine hp_go (pc' := 144) rfl rfl rfl ?_
                  refine hp_ri rfl rfl ?_
                  first
                  | exfalso; (try clear hI2); omega
                  | have g16 : (rI p12 66 16).toInt = (rI p11 66 16).toInt := by rw [ep12, rI_ne (fun _ => by decide)]
                    have g18 : (rI p12 66 18).toInt = (rI p11 66 18).toInt := by rw [ep12, rI_ne (fun _ => by decide)]
                    have g19 : (rI p12 66 19).toInt = z9.toInt := by rw [ep12, rI_eq w4 (by decide)]
                    rcases hI2 with ⟨c1, c2, e, b, c3, c4, c5, c6, c7⟩ | ⟨b, c1, c2⟩
                    · have hin := fM_in (p := p) (j := b) (by have q := htk; rw [fM_nt hI1, i_to c4] at q; omega)
                      have hZ := MO_ok (l := 5) (v := z10) (p := p) (p2 := p12) (b := b + 1) (by omega) (by rw [ep12]; exact ((hI1.trans (Mat_nt hMt)).w rfl)) (yP_po (by omega) (by omega) c3 (by have q := htk; rw [fM_nt hI1, i_to c4] at q; omega)) (by omega) (by omega) (by push_cast; omega) (by omega) (by push_cast; omega) c7
                      exact k0 _ _ hZ.1 hZ
                    · exfalso; omega
              ·
                refine hp_s (pc' := 121) (st' := [.int y3]) rfl rfl rfl ?_
                refine hp_go (pc' := 144) rfl rfl rfl ?_
                refine hp_ri rfl rfl ?_
                first
                | exfalso; (try clear hI2); omega
                | have g16 : (rI p12 66 16).toInt = (rI p11 66 16).toInt := by rw [ep12, rI_ne (fun _ => by decide)]
                  have g18 : (rI p12 66 18).toInt = (rI p11 66 18).toInt := by rw [ep12, rI_ne (fun _ => by decide)]
                  have g19 : (rI p12 66 19).toInt = z9.toInt := by rw [ep12, rI_eq w4 (by decide)]
                  rcases hI2 with ⟨c1, c2, e, b, c3, c4, c5, c6, c7⟩ | ⟨b, c1, c2⟩
                  · have hin := fM_in (p := p) (j := b) (by have q := htk; rw [fM_nt hI1, i_to c4] at q; omega)
                    have hZ := MO_ok (l := 5) (v := y3) (p := p) (p2 := p12) (b := b + 1) (by omega) (by rw [ep12]; exact ((hI1.trans (Mat_nt hMt)).w rfl)) (yP_po (by omega) (by omega) c3 (by have q := htk; rw [fM_nt hI1, i_to c4] at q; omega)) (by omega) (by omega) (by push_cast; omega) (by omega) (by push_cast; omega) c7
                    exact k0 _ _ hZ.1 hZ
                  · exfalso; omega
            ·
              intro h53
              have htk := h53
              refine hp_id (st := [.int 0]) ?_
              refine hp_go (pc' := 99) rfl rfl rfl ?_
              refine hp_s (pc' := 100) (st' := [.ref 66]) rfl rfl rfl ?_
              refine hp_cv (r := 66) (o := 12) (kd := 1) (as := []) (rest := []) (pc' := 103) rfl rfl rfl rfl rfl rfl rfl rfl rfl (fun d7 => ?_)
              refine s_wrong ?_ ?_
              ·
                intro p13 ep13 h54
                refine hp_id (st := [.int 0]) ?_
                refine hp_ri rfl rfl ?_
                first
                | exfalso; (try clear hI2); omega
                | rcases hI2 with ⟨c1, c2, e, b, c3, c4, c5, c6, c7⟩ | ⟨b, c1, c2⟩
                  · have hZ := MO_bad (l := 5) (v := 0) (b := b) (p := p) (p2 := p13) (by omega) (by rw [ep13]; exact hI1.w rfl) (yP_pn (by omega) (by omega) c3 (by have q := htk; rw [fM_nt hI1, i_to c4] at q; omega)) (by rw [ep13, rI_eq w3 (by decide)]; exact c4)
                    exact k0 _ _ hZ.1 hZ
                  · exfalso; omega
              ·
                intro p14 ep14 h55
                refine hp_id (st := [.int 0]) ?_
                refine hp_ri rfl rfl ?_
                first
                | exfalso; (try clear hI2); omega
                | rcases hI2 with ⟨c1, c2, e, b, c3, c4, c5, c6, c7⟩ | ⟨b, c1, c2⟩
                  · exfalso; omega
                  · have hZ := MO_bad (l := 5) (v := 0) (b := b) (p := p) (p2 := p14) (by omega) (by rw [ep14]; exact hI1.w rfl) (yP_pb (by omega) (by omega) c1) (by rw [ep14, rI_eq w3 (by decide)]; exact c2)
                    exact k0 _ _ hZ.1 hZ
      ·
        refine hp_s (pc' := 42) (st' := [.ref 66]) rfl rfl rfl ?_
        refine hp_cv (r := 66) (o := 12) (kd := 1) (as := []) (rest := []) (pc' := 45) rfl rfl rfl rfl rfl rfl rfl rfl rfl (fun d8 => ?_)
        refine s_wrong ?_ ?_
        ·
          intro p15 ep15 h56
          refine hp_id (st := [.int 0]) ?_
          refine hp_ri rfl rfl ?_
          have hZ := MO_bad (l := 5) (v := 0) (b := (rI p 66 16).toInt.toNat) (p := p) (p2 := p15) (by omega) (by rw [ep15]; exact (hNt.refl _ _).w rfl) (yP_full (by omega) (by omega)) (by rw [ep15, rI_eq wp (by decide)]; omega)
          exact k0 _ _ hZ.1 hZ
        ·
          intro p16 ep16 h57
          refine hp_id (st := [.int 0]) ?_
          refine hp_ri rfl rfl ?_
          exfalso; omega
    ·
      refine hp_s (pc' := 21) (st' := [.int y1]) rfl rfl rfl ?_
      refine hp_s (pc' := 23) (st' := [.int 45, .int y1]) rfl rfl rfl ?_
      refine hp_ic (pc' := 26) (t := 32) (a := y1.toInt) (b := 45) rfl rfl rfl rfl (by decide) (fun (h58 : y1.toInt = 45) => ?_) (fun (h59 : ¬ (y1.toInt = 45)) => ?_)
      ·
        refine hp_s (pc' := 33) (st' := [.ref 66]) rfl rfl rfl ?_
        refine hp_get (k := 19) (pc' := 36) (v := (rI p 66 19)) rfl rfl rfl rfl rfl rfl ?_
        refine hp_s (pc' := 38) (st' := [.int 6, .int (rI p 66 19)]) rfl rfl rfl ?_
        refine hp_ic (pc' := 41) (t := 46) (a := (rI p 66 19).toInt) (b := 6) rfl rfl rfl rfl (by decide) (fun (h60 : (rI p 66 19).toInt ≠ 6) => ?_) (fun (h61 : ¬ ((rI p 66 19).toInt ≠ 6)) => ?_)
        ·
          refine hp_s (pc' := 47) (st' := [.ref 66]) rfl rfl rfl ?_
          refine hp_s (pc' := 48) (st' := [.ref 66, .ref 66]) rfl rfl rfl ?_
          refine hp_get (k := 19) (pc' := 51) (v := (rI p 66 19)) rfl rfl rfl rfl rfl rfl ?_
          refine hp_s (pc' := 52) (st' := [.int 1, .int (rI p 66 19), .ref 66]) rfl rfl rfl ?_
          refine hp_z (pc' := 53) (e := (rI p 66 19) + 1) (st' := [.ref 66]) rfl rfl rfl ?_
          intro z11 hz11
          have ez11 := i_add hz11 (show (rI p 66 19).toInt = (rI p 66 19).toInt from rfl) (show (1 : Int32).toInt = 1 from by decide)
          refine hp_put (k := 19) (pc' := 56) rfl rfl rfl rfl rfl ?_
          intro p17 wp17 ep17
          refine hp_s (pc' := 57) (st' := [.ref 66]) rfl rfl rfl ?_
          refine hp_s (pc' := 58) (st' := [.ref 66, .ref 66]) rfl rfl rfl ?_
          refine hp_get (k := 16) (pc' := 61) (v := (rI p 66 16)) rfl rfl rfl rfl rfl (by rw [ep17, rI_ne (fun _ => by decide)]) ?_
          refine hp_s (pc' := 62) (st' := [.int 1, .int (rI p 66 16), .ref 66]) rfl rfl rfl ?_
          refine hp_z (pc' := 63) (e := (rI p 66 16) + 1) (st' := [.ref 66]) rfl rfl rfl ?_
          intro z12 hz12
          have ez12 := i_add hz12 (show (rI p 66 16).toInt = (rI p 66 16).toInt from rfl) (show (1 : Int32).toInt = 1 from by decide)
          refine hp_put (k := 16) (pc' := 66) rfl rfl rfl rfl rfl ?_
          intro p18 wp18 ep18
          obtain ⟨hT2, hN2, f18, f19, f16⟩ := Mop (p2 := p18) (z := z11) (y := z12) wp pre0 (by omega) (by omega) (by omega) (by omega) (by omega) (by rw [ep18, ep17])
          refine hp_s (pc' := 67) (st' := [.int y1]) rfl rfl rfl ?_
          refine hp_s (pc' := 69) (st' := [.int 40, .int y1]) rfl rfl rfl ?_
          refine hp_ic (pc' := 72) (t := 79) (a := y1.toInt) (b := 40) rfl rfl rfl rfl (by decide) (fun (h62 : y1.toInt ≠ 40) => ?_) (fun (h63 : ¬ (y1.toInt ≠ 40)) => ?_)
          ·
            refine hp_s (pc' := 80) (st' := [.ref 66]) rfl rfl rfl ?_
            refine hp_cv (r := 66) (o := 12) (kd := 1) (as := []) (rest := []) (pc' := 83) rfl rfl rfl rfl rfl rfl rfl rfl rfl (fun d9 => ?_)
            refine rM_on rc (by first | assumption | omega) ?_
            intro y4 p19 h64 h65
            refine hp_hw (fun w3 => ?_)
            obtain ⟨hI1, hI2⟩ := MO_in1 hN2 f18 f19 f16 (by omega) (by omega) h65
            have hT3 := MO_p hT2 h65
            refine hp_id (st := [.int y4]) ?_
            refine hp_s (pc' := 84) (ls' := [(2, .int y4), (1, .int y1), (0, .ref 66)]) (st' := []) rfl rfl rfl ?_
            refine hp_s (pc' := 85) (st' := [.int y1]) rfl rfl rfl ?_
            refine hp_s (pc' := 87) (st' := [.int 40, .int y1]) rfl rfl rfl ?_
            refine hp_ic (pc' := 90) (t := 104) (a := y1.toInt) (b := 40) rfl rfl rfl rfl (by decide) (fun (h66 : y1.toInt ≠ 40) => ?_) (fun (h67 : ¬ (y1.toInt ≠ 40)) => ?_)
            ·
              refine hp_s (pc' := 105) (st' := [.ref 66]) rfl rfl rfl ?_
              refine hp_s (pc' := 106) (st' := [.ref 66, .ref 66]) rfl rfl rfl ?_
              refine hp_get (k := 19) (pc' := 109) (v := (rI p19 66 19)) rfl rfl rfl rfl rfl rfl ?_
              refine hp_s (pc' := 110) (st' := [.int 1, .int (rI p19 66 19), .ref 66]) rfl rfl rfl ?_
              refine hp_z (pc' := 111) (e := (rI p19 66 19) - 1) (st' := [.ref 66]) rfl rfl rfl ?_
              intro z13 hz13
              have ez13 := i_sub hz13 (show (rI p19 66 19).toInt = (rI p19 66 19).toInt from rfl) (show (1 : Int32).toInt = 1 from by decide)
              refine hp_put (k := 19) (pc' := 114) rfl rfl rfl rfl rfl ?_
              intro p20 wp20 ep20
              refine hp_s (pc' := 115) (st' := [.int y1]) rfl rfl rfl ?_
              refine hp_s (pc' := 117) (st' := [.int 40, .int y1]) rfl rfl rfl ?_
              refine hp_ic (pc' := 120) (t := 124) (a := y1.toInt) (b := 40) rfl rfl rfl rfl (by decide) (fun (h68 : y1.toInt ≠ 40) => ?_) (fun (h69 : ¬ (y1.toInt ≠ 40)) => ?_)
              ·
                refine hp_s (pc' := 125) (st' := [.int y1]) rfl rfl rfl ?_
                refine hp_s (pc' := 127) (st' := [.int 45, .int y1]) rfl rfl rfl ?_
                refine hp_ic (pc' := 130) (t := 135) (a := y1.toInt) (b := 45) rfl rfl rfl rfl (by decide) (fun (h70 : y1.toInt ≠ 45) => ?_) (fun (h71 : ¬ (y1.toInt ≠ 45)) => ?_)
                ·
                  refine hp_s (pc' := 136) (st' := [.int y4]) rfl rfl rfl ?_
                  refine hp_if (pc' := 139) (t := 143) (a := y4.toInt) rfl rfl rfl rfl (fun (h72 : y4.toInt ≠ 0) => ?_) (fun (h73 : ¬ (y4.toInt ≠ 0)) => ?_)
                  ·
                    refine hp_s (pc' := 144) (st' := [.int 0]) rfl rfl rfl ?_
                    refine hp_ri rfl rfl ?_
                    first
                    | exfalso; (try clear hI2); omega
                    | have g16 : (rI p20 66 16).toInt = (rI p19 66 16).toInt := by rw [ep20, rI_ne (fun _ => by decide)]
                      have g18 : (rI p20 66 18).toInt = (rI p19 66 18).toInt := by rw [ep20, rI_ne (fun _ => by decide)]
                      have g19 : (rI p20 66 19).toInt = z13.toInt := by rw [ep20, rI_eq w3 (by decide)]
                      rcases hI2 with ⟨c1, c2, e, b, c3, c4, c5, c6, c7⟩ | ⟨b, c1, c2⟩
                      · have hZ := MO_ok (l := 5) (v := (0 : Int32)) (p := p) (p2 := p20) (b := b) (by omega) (by rw [ep20]; exact hI1.w rfl) (yP_uo (by omega) (by omega) c3) (by omega) (by omega) (by omega) (by omega) (by omega) (lV_not (by omega) c7 (by rw [if_neg (i_nz (by omega))]))
                        exact k0 _ _ hZ.1 hZ
                      · have hZ := MO_bad (l := 5) (v := (0 : Int32)) (p := p) (p2 := p20) (b := b) (by omega) (by rw [ep20]; exact hI1.w rfl) (yP_ub (by omega) (by omega) c1) (by omega)
                        exact k0 _ _ hZ.1 hZ
                  ·
                    refine hp_s (pc' := 140) (st' := [.int 1]) rfl rfl rfl ?_
                    refine hp_go (pc' := 144) rfl rfl rfl ?_
                    refine hp_ri rfl rfl ?_
                    first
                    | exfalso; (try clear hI2); omega
                    | have g16 : (rI p20 66 16).toInt = (rI p19 66 16).toInt := by rw [ep20, rI_ne (fun _ => by decide)]
                      have g18 : (rI p20 66 18).toInt = (rI p19 66 18).toInt := by rw [ep20, rI_ne (fun _ => by decide)]
                      have g19 : (rI p20 66 19).toInt = z13.toInt := by rw [ep20, rI_eq w3 (by decide)]
                      rcases hI2 with ⟨c1, c2, e, b, c3, c4, c5, c6, c7⟩ | ⟨b, c1, c2⟩
                      · have hZ := MO_ok (l := 5) (v := (1 : Int32)) (p := p) (p2 := p20) (b := b) (by omega) (by rw [ep20]; exact hI1.w rfl) (yP_uo (by omega) (by omega) c3) (by omega) (by omega) (by omega) (by omega) (by omega) (lV_not (by omega) c7 (by rw [if_pos (i_z (by omega))]))
                        exact k0 _ _ hZ.1 hZ
                      · have hZ := MO_bad (l := 5) (v := (1 : Int32)) (p := p) (p2 := p20) (b := b) (by omega) (by rw [ep20]; exact hI1.w rfl) (yP_ub (by omega) (by omega) c1) (by omega)
                        exact k0 _ _ hZ.1 hZ
                ·
                  refine hp_s (pc' := 131) (st' := [.int y4]) rfl rfl rfl ?_
                  refine hp_z (pc' := 132) (e := -y4) (st' := []) rfl rfl rfl ?_
                  intro z14 hz14
                  have ez14 := i_neg hz14 (show y4.toInt = y4.toInt from rfl)
                  refine hp_go (pc' := 144) rfl rfl rfl ?_
                  refine hp_ri rfl rfl ?_
                  first
                  | exfalso; (try clear hI2); omega
                  | have g16 : (rI p20 66 16).toInt = (rI p19 66 16).toInt := by rw [ep20, rI_ne (fun _ => by decide)]
                    have g18 : (rI p20 66 18).toInt = (rI p19 66 18).toInt := by rw [ep20, rI_ne (fun _ => by decide)]
                    have g19 : (rI p20 66 19).toInt = z13.toInt := by rw [ep20, rI_eq w3 (by decide)]
                    rcases hI2 with ⟨c1, c2, e, b, c3, c4, c5, c6, c7⟩ | ⟨b, c1, c2⟩
                    · have hZ := MO_ok (l := 5) (v := z14) (p := p) (p2 := p20) (b := b) (by omega) (by rw [ep20]; exact hI1.w rfl) (yP_uo (by omega) (by omega) c3) (by omega) (by omega) (by omega) (by omega) (by omega) (lV_neg (by omega) c7 hz14)
                      exact k0 _ _ hZ.1 hZ
                    · have hZ := MO_bad (l := 5) (v := z14) (p := p) (p2 := p20) (b := b) (by omega) (by rw [ep20]; exact hI1.w rfl) (yP_ub (by omega) (by omega) c1) (by omega)
                      exact k0 _ _ hZ.1 hZ
              ·
                refine hp_s (pc' := 121) (st' := [.int y4]) rfl rfl rfl ?_
                refine hp_go (pc' := 144) rfl rfl rfl ?_
                refine hp_ri rfl rfl ?_
                first
                | exfalso; (try clear hI2); omega
                | have g16 : (rI p20 66 16).toInt = (rI p19 66 16).toInt := by rw [ep20, rI_ne (fun _ => by decide)]
                  have g18 : (rI p20 66 18).toInt = (rI p19 66 18).toInt := by rw [ep20, rI_ne (fun _ => by decide)]
                  have g19 : (rI p20 66 19).toInt = z13.toInt := by rw [ep20, rI_eq w3 (by decide)]
                  rcases hI2 with ⟨c1, c2, e, b, c3, c4, c5, c6, c7⟩ | ⟨b, c1, c2⟩
                  · have hZ := MO_ok (l := 5) (v := y4) (p := p) (p2 := p20) (b := b) (by omega) (by rw [ep20]; exact hI1.w rfl) (yP_uo (by omega) (by omega) c3) (by omega) (by omega) (by omega) (by omega) (by omega) (lV_neg (by omega) c7 hy4)
                    exact k0 _ _ hZ.1 hZ
                  · have hZ := MO_bad (l := 5) (v := y4) (p := p) (p2 := p20) (b := b) (by omega) (by rw [ep20]; exact hI1.w rfl) (yP_ub (by omega) (by omega) c1) (by omega)
                    exact k0 _ _ hZ.1 hZ
            ·
              refine hp_s (pc' := 91) (st' := [.ref 66]) rfl rfl rfl ?_
              refine hp_s (pc' := 93) (st' := [.int 41, .ref 66]) rfl rfl rfl ?_
              refine hp_cv (r := 66) (o := 12) (kd := 1) (as := [.int 41]) (rest := []) (pc' := 96) rfl rfl rfl rfl rfl rfl rfl rfl rfl (fun d10 => ?_)
              refine s_takes (ci := 41) (by decide) (by first | assumption | omega) (by first | assumption | omega) ?_ ?_
              ·
                intro p21 h74 h75 h76 h77
                have htk := h76
                have hMt := h77
                obtain ⟨t1, t2, t3⟩ := Mat_r w3 hMt
                refine hp_hw (fun w4 => ?_)
                refine hp_id (st := [.int 1]) ?_
                refine hp_go (pc' := 104) rfl rfl rfl ?_
                refine hp_s (pc' := 105) (st' := [.ref 66]) rfl rfl rfl ?_
                refine hp_s (pc' := 106) (st' := [.ref 66, .ref 66]) rfl rfl rfl ?_
                refine hp_get (k := 19) (pc' := 109) (v := (rI p19 66 19)) rfl rfl rfl rfl rfl (by rw [h74.int (r := 66) (k := 19) rfl]) ?_
                refine hp_s (pc' := 110) (st' := [.int 1, .int (rI p19 66 19), .ref 66]) rfl rfl rfl ?_
                refine hp_z (pc' := 111) (e := (rI p19 66 19) - 1) (st' := [.ref 66]) rfl rfl rfl ?_
                intro z15 hz15
                have ez15 := i_sub hz15 (show (rI p19 66 19).toInt = (rI p19 66 19).toInt from rfl) (show (1 : Int32).toInt = 1 from by decide)
                refine hp_put (k := 19) (pc' := 114) rfl rfl rfl rfl rfl ?_
                intro p22 wp22 ep22
                refine hp_s (pc' := 115) (st' := [.int y1]) rfl rfl rfl ?_
                refine hp_s (pc' := 117) (st' := [.int 40, .int y1]) rfl rfl rfl ?_
                refine hp_ic (pc' := 120) (t := 124) (a := y1.toInt) (b := 40) rfl rfl rfl rfl (by decide) (fun (h78 : y1.toInt ≠ 40) => ?_) (fun (h79 : ¬ (y1.toInt ≠ 40)) => ?_)
                ·
                  refine hp_s (pc' := 125) (st' := [.int y1]) rfl rfl rfl ?_
                  refine hp_s (pc' := 127) (st' := [.int 45, .int y1]) rfl rfl rfl ?_
                  refine hp_ic (pc' := 130) (t := 135) (a := y1.toInt) (b := 45) rfl rfl rfl rfl (by decide) (fun (h80 : y1.toInt ≠ 45) => ?_) (fun (h81 : ¬ (y1.toInt ≠ 45)) => ?_)
                  ·
                    refine hp_s (pc' := 136) (st' := [.int y4]) rfl rfl rfl ?_
                    refine hp_if (pc' := 139) (t := 143) (a := y4.toInt) rfl rfl rfl rfl (fun (h82 : y4.toInt ≠ 0) => ?_) (fun (h83 : ¬ (y4.toInt ≠ 0)) => ?_)
                    ·
                      refine hp_s (pc' := 144) (st' := [.int 0]) rfl rfl rfl ?_
                      refine hp_ri rfl rfl ?_
                      first
                      | exfalso; (try clear hI2); omega
                      | have g16 : (rI p22 66 16).toInt = (rI p21 66 16).toInt := by rw [ep22, rI_ne (fun _ => by decide)]
                        have g18 : (rI p22 66 18).toInt = (rI p21 66 18).toInt := by rw [ep22, rI_ne (fun _ => by decide)]
                        have g19 : (rI p22 66 19).toInt = z15.toInt := by rw [ep22, rI_eq w4 (by decide)]
                        rcases hI2 with ⟨c1, c2, e, b, c3, c4, c5, c6, c7⟩ | ⟨b, c1, c2⟩
                        · have hin := fM_in (p := p) (j := b) (by have q := htk; rw [fM_nt hI1, i_to c4] at q; omega)
                          have hZ := MO_ok (l := 5) (v := 0) (p := p) (p2 := p22) (b := b + 1) (by omega) (by rw [ep22]; exact ((hI1.trans (Mat_nt hMt)).w rfl)) (yP_po (by omega) (by omega) c3 (by have q := htk; rw [fM_nt hI1, i_to c4] at q; omega)) (by omega) (by omega) (by push_cast; omega) (by omega) (by push_cast; omega) c7
                          exact k0 _ _ hZ.1 hZ
                        · exfalso; omega
                    ·
                      refine hp_s (pc' := 140) (st' := [.int 1]) rfl rfl rfl ?_
                      refine hp_go (pc' := 144) rfl rfl rfl ?_
                      refine hp_ri rfl rfl ?_
                      first
                      | exfalso; (try clear hI2); omega
                      | have g16 : (rI p22 66 16).toInt = (rI p21 66 16).toInt := by rw [ep22, rI_ne (fun _ => by decide)]
                        have g18 : (rI p22 66 18).toInt = (rI p21 66 18).toInt := by rw [ep22, rI_ne (fun _ => by decide)]
                        have g19 : (rI p22 66 19).toInt = z15.toInt := by rw [ep22, rI_eq w4 (by decide)]
                        rcases hI2 with ⟨c1, c2, e, b, c3, c4, c5, c6, c7⟩ | ⟨b, c1, c2⟩
                        · have hin := fM_in (p := p) (j := b) (by have q := htk; rw [fM_nt hI1, i_to c4] at q; omega)
                          have hZ := MO_ok (l := 5) (v := 1) (p := p) (p2 := p22) (b := b + 1) (by omega) (by rw [ep22]; exact ((hI1.trans (Mat_nt hMt)).w rfl)) (yP_po (by omega) (by omega) c3 (by have q := htk; rw [fM_nt hI1, i_to c4] at q; omega)) (by omega) (by omega) (by push_cast; omega) (by omega) (by push_cast; omega) c7
                          exact k0 _ _ hZ.1 hZ
                        · exfalso; omega
                  ·
                    refine hp_s (pc' := 131) (st' := [.int y4]) rfl rfl rfl ?_
                    refine hp_z (pc' := 132) (e := -y4) (st' := []) rfl rfl rfl ?_
                    intro z16 hz16
                    have ez16 := i_neg hz16 (show y4.toInt = y4.toInt from rfl)
                    refine hp_go (pc' := 144) rfl rfl rfl ?_
                    refine hp_ri rfl rfl ?_
                    first
                    | exfalso; (try clear hI2); omega
                    | have g16 : (rI p22 66 16).toInt = (rI p21 66 16).toInt := by rw [ep22, rI_ne (fun _ => by decide)]
                      have g18 : (rI p22 66 18).toInt = (rI p21 66 18).toInt := by rw [ep22, rI_ne (fun _ => by decide)]
                      have g19 : (rI p22 66 19).toInt = z15.toInt := by rw [ep22, rI_eq w4 (by decide)]
                      rcases hI2 with ⟨c1, c2, e, b, c3, c4, c5, c6, c7⟩ | ⟨b, c1, c2⟩
                      · have hin := fM_in (p := p) (j := b) (by have q := htk; rw [fM_nt hI1, i_to c4] at q; omega)
                        have hZ := MO_ok (l := 5) (v := z16) (p := p) (p2 := p22) (b := b + 1) (by omega) (by rw [ep22]; exact ((hI1.trans (Mat_nt hMt)).w rfl)) (yP_po (by omega) (by omega) c3 (by have q := htk; rw [fM_nt hI1, i_to c4] at q; omega)) (by omega) (by omega) (by push_cast; omega) (by omega) (by push_cast; omega) c7
                        exact k0 _ _ hZ.1 hZ
                      · exfalso; omega
                ·
                  refine hp_s (pc' := 121) (st' := [.int y4]) rfl rfl rfl ?_
                  refine hp_go (pc' := 144) rfl rfl rfl ?_
                  refine hp_ri rfl rfl ?_
                  first
                  | exfalso; (try clear hI2); omega
                  | have g16 : (rI p22 66 16).toInt = (rI p21 66 16).toInt := by rw [ep22, rI_ne (fun _ => by decide)]
                    have g18 : (rI p22 66 18).toInt = (rI p21 66 18).toInt := by rw [ep22, rI_ne (fun _ => by decide)]
                    have g19 : (rI p22 66 19).toInt = z15.toInt := by rw [ep22, rI_eq w4 (by decide)]
                    rcases hI2 with ⟨c1, c2, e, b, c3, c4, c5, c6, c7⟩ | ⟨b, c1, c2⟩
                    · have hin := fM_in (p := p) (j := b) (by have q := htk; rw [fM_nt hI1, i_to c4] at q; omega)
                      have hZ := MO_ok (l := 5) (v := y4) (p := p) (p2 := p22) (b := b + 1) (by omega) (by rw [ep22]; exact ((hI1.trans (Mat_nt hMt)).w rfl)) (yP_po (by omega) (by omega) c3 (by have q := htk; rw [fM_nt hI1, i_to c4] at q; omega)) (by omega) (by omega) (by push_cast; omega) (by omega) (by push_cast; omega) c7
                      exact k0 _ _ hZ.1 hZ
                    · exfalso; omega
              ·
                intro h84
                have htk := h84
                refine hp_id (st := [.int 0]) ?_
                refine hp_go (pc' := 99) rfl rfl rfl ?_
                refine hp_s (pc' := 100) (st' := [.ref 66]) rfl rfl rfl ?_
                refine hp_cv (r := 66) (o := 12) (kd := 1) (as := []) (rest := []) (pc' := 103) rfl rfl rfl rfl rfl rfl rfl rfl rfl (fun d11 => ?_)
                refine s_wrong ?_ ?_
                ·
                  intro p23 ep23 h85
                  refine hp_id (st := [.int 0]) ?_
                  refine hp_ri rfl rfl ?_
                  first
                  | exfalso; (try clear hI2); omega
                  | rcases hI2 with ⟨c1, c2, e, b, c3, c4, c5, c6, c7⟩ | ⟨b, c1, c2⟩
                    · have hZ := MO_bad (l := 5) (v := 0) (b := b) (p := p) (p2 := p23) (by omega) (by rw [ep23]; exact hI1.w rfl) (yP_pn (by omega) (by omega) c3 (by have q := htk; rw [fM_nt hI1, i_to c4] at q; omega)) (by rw [ep23, rI_eq w3 (by decide)]; exact c4)
                      exact k0 _ _ hZ.1 hZ
                    · exfalso; omega
                ·
                  intro p24 ep24 h86
                  refine hp_id (st := [.int 0]) ?_
                  refine hp_ri rfl rfl ?_
                  first
                  | exfalso; (try clear hI2); omega
                  | rcases hI2 with ⟨c1, c2, e, b, c3, c4, c5, c6, c7⟩ | ⟨b, c1, c2⟩
                    · exfalso; omega
                    · have hZ := MO_bad (l := 5) (v := 0) (b := b) (p := p) (p2 := p24) (by omega) (by rw [ep24]; exact hI1.w rfl) (yP_pb (by omega) (by omega) c1) (by rw [ep24, rI_eq w3 (by decide)]; exact c2)
                      exact k0 _ _ hZ.1 hZ
          ·
            refine hp_s (pc' := 73) (st' := [.ref 66]) rfl rfl rfl ?_
            refine hp_cv (r := 66) (o := 12) (kd := 1) (as := []) (rest := []) (pc' := 76) rfl rfl rfl rfl rfl rfl rfl rfl rfl (fun d12 => ?_)
            refine rM_ei rc (by first | assumption | omega) ?_
            intro y5 p25 h87 h88
            refine hp_hw (fun w3 => ?_)
            obtain ⟨hI1, hI2⟩ := MO_in1 hN2 f18 f19 f16 (by omega) (by omega) h88
            have hT3 := MO_p hT2 h88
            refine hp_id (st := [.int y5]) ?_
            refine hp_go (pc' := 83) rfl rfl rfl ?_
            refine hp_s (pc' := 84) (ls' := [(2, .int y5), (1, .int y1), (0, .ref 66)]) (st' := []) rfl rfl rfl ?_
            refine hp_s (pc' := 85) (st' := [.int y1]) rfl rfl rfl ?_
            refine hp_s (pc' := 87) (st' := [.int 40, .int y1]) rfl rfl rfl ?_
            refine hp_ic (pc' := 90) (t := 104) (a := y1.toInt) (b := 40) rfl rfl rfl rfl (by decide) (fun (h89 : y1.toInt ≠ 40) => ?_) (fun (h90 : ¬ (y1.toInt ≠ 40)) => ?_)
            ·
              refine hp_s (pc' := 105) (st' := [.ref 66]) rfl rfl rfl ?_
              refine hp_s (pc' := 106) (st' := [.ref 66, .ref 66]) rfl rfl rfl ?_
              refine hp_get (k := 19) (pc' := 109) (v := (rI p25 66 19)) rfl rfl rfl rfl rfl rfl ?_
              refine hp_s (pc' := 110) (st' := [.int 1, .int (rI p25 66 19), .ref 66]) rfl rfl rfl ?_
              refine hp_z (pc' := 111) (e := (rI p25 66 19) - 1) (st' := [.ref 66]) rfl rfl rfl ?_
              intro z17 hz17
              have ez17 := i_sub hz17 (show (rI p25 66 19).toInt = (rI p25 66 19).toInt from rfl) (show (1 : Int32).toInt = 1 from by decide)
              refine hp_put (k := 19) (pc' := 114) rfl rfl rfl rfl rfl ?_
              intro p26 wp26 ep26
              refine hp_s (pc' := 115) (st' := [.int y1]) rfl rfl rfl ?_
              refine hp_s (pc' := 117) (st' := [.int 40, .int y1]) rfl rfl rfl ?_
              refine hp_ic (pc' := 120) (t := 124) (a := y1.toInt) (b := 40) rfl rfl rfl rfl (by decide) (fun (h91 : y1.toInt ≠ 40) => ?_) (fun (h92 : ¬ (y1.toInt ≠ 40)) => ?_)
              ·
                refine hp_s (pc' := 125) (st' := [.int y1]) rfl rfl rfl ?_
                refine hp_s (pc' := 127) (st' := [.int 45, .int y1]) rfl rfl rfl ?_
                refine hp_ic (pc' := 130) (t := 135) (a := y1.toInt) (b := 45) rfl rfl rfl rfl (by decide) (fun (h93 : y1.toInt ≠ 45) => ?_) (fun (h94 : ¬ (y1.toInt ≠ 45)) => ?_)
                ·
                  refine hp_s (pc' := 136) (st' := [.int y5]) rfl rfl rfl ?_
                  refine hp_if (pc' := 139) (t := 143) (a := y5.toInt) rfl rfl rfl rfl (fun (h95 : y5.toInt ≠ 0) => ?_) (fun (h96 : ¬ (y5.toInt ≠ 0)) => ?_)
                  ·
                    refine hp_s (pc' := 144) (st' := [.int 0]) rfl rfl rfl ?_
                    refine hp_ri rfl rfl ?_
                    first
                    | exfalso; (try clear hI2); omega
                    | have g16 : (rI p26 66 16).toInt = (rI p25 66 16).toInt := by rw [ep26, rI_ne (fun _ => by decide)]
                      have g18 : (rI p26 66 18).toInt = (rI p25 66 18).toInt := by rw [ep26, rI_ne (fun _ => by decide)]
                      have g19 : (rI p26 66 19).toInt = z17.toInt := by rw [ep26, rI_eq w3 (by decide)]
                      rcases hI2 with ⟨c1, c2, e, b, c3, c4, c5, c6, c7⟩ | ⟨b, c1, c2⟩
                      · have hZ := MO_ok (l := 5) (v := (0 : Int32)) (p := p) (p2 := p26) (b := b) (by omega) (by rw [ep26]; exact hI1.w rfl) (yP_uo (by omega) (by omega) c3) (by omega) (by omega) (by omega) (by omega) (by omega) (lV_not (by omega) c7 (by rw [if_neg (i_nz (by omega))]))
                        exact k0 _ _ hZ.1 hZ
                      · have hZ := MO_bad (l := 5) (v := (0 : Int32)) (p := p) (p2 := p26) (b := b) (by omega) (by rw [ep26]; exact hI1.w rfl) (yP_ub (by omega) (by omega) c1) (by omega)
                        exact k0 _ _ hZ.1 hZ
                  ·
                    refine hp_s (pc' := 140) (st' := [.int 1]) rfl rfl rfl ?_
                    refine hp_go (pc' := 144) rfl rfl rfl ?_
                    refine hp_ri rfl rfl ?_
                    first
                    | exfalso; (try clear hI2); omega
                    | have g16 : (rI p26 66 16).toInt = (rI p25 66 16).toInt := by rw [ep26, rI_ne (fun _ => by decide)]
                      have g18 : (rI p26 66 18).toInt = (rI p25 66 18).toInt := by rw [ep26, rI_ne (fun _ => by decide)]
                      have g19 : (rI p26 66 19).toInt = z17.toInt := by rw [ep26, rI_eq w3 (by decide)]
                      rcases hI2 with ⟨c1, c2, e, b, c3, c4, c5, c6, c7⟩ | ⟨b, c1, c2⟩
                      · have hZ := MO_ok (l := 5) (v := (1 : Int32)) (p := p) (p2 := p26) (b := b) (by omega) (by rw [ep26]; exact hI1.w rfl) (yP_uo (by omega) (by omega) c3) (by omega) (by omega) (by omega) (by omega) (by omega) (lV_not (by omega) c7 (by rw [if_pos (i_z (by omega))]))
                        exact k0 _ _ hZ.1 hZ
                      · have hZ := MO_bad (l := 5) (v := (1 : Int32)) (p := p) (p2 := p26) (b := b) (by omega) (by rw [ep26]; exact hI1.w rfl) (yP_ub (by omega) (by omega) c1) (by omega)
                        exact k0 _ _ hZ.1 hZ
                ·
                  refine hp_s (pc' := 131) (st' := [.int y5]) rfl rfl rfl ?_
                  refine hp_z (pc' := 132) (e := -y5) (st' := []) rfl rfl rfl ?_
                  intro z18 hz18
                  have ez18 := i_neg hz18 (show y5.toInt = y5.toInt from rfl)
                  refine hp_go (pc' := 144) rfl rfl rfl ?_
                  refine hp_ri rfl rfl ?_
                  first
                  | exfalso; (try clear hI2); omega
                  | have g16 : (rI p26 66 16).toInt = (rI p25 66 16).toInt := by rw [ep26, rI_ne (fun _ => by decide)]
                    have g18 : (rI p26 66 18).toInt = (rI p25 66 18).toInt := by rw [ep26, rI_ne (fun _ => by decide)]
                    have g19 : (rI p26 66 19).toInt = z17.toInt := by rw [ep26, rI_eq w3 (by decide)]
                    rcases hI2 with ⟨c1, c2, e, b, c3, c4, c5, c6, c7⟩ | ⟨b, c1, c2⟩
                    · have hZ := MO_ok (l := 5) (v := z18) (p := p) (p2 := p26) (b := b) (by omega) (by rw [ep26]; exact hI1.w rfl) (yP_uo (by omega) (by omega) c3) (by omega) (by omega) (by omega) (by omega) (by omega) (lV_neg (by omega) c7 hz18)
                      exact k0 _ _ hZ.1 hZ
                    · have hZ := MO_bad (l := 5) (v := z18) (p := p) (p2 := p26) (b := b) (by omega) (by rw [ep26]; exact hI1.w rfl) (yP_ub (by omega) (by omega) c1) (by omega)
                      exact k0 _ _ hZ.1 hZ
              ·
                refine hp_s (pc' := 121) (st' := [.int y5]) rfl rfl rfl ?_
                refine hp_go (pc' := 144) rfl rfl rfl ?_
                refine hp_ri rfl rfl ?_
                first
                | exfalso; (try clear hI2); omega
                | have g16 : (rI p26 66 16).toInt = (rI p25 66 16).toInt := by rw [ep26, rI_ne (fun _ => by decide)]
                  have g18 : (rI p26 66 18).toInt = (rI p25 66 18).toInt := by rw [ep26, rI_ne (fun _ => by decide)]
                  have g19 : (rI p26 66 19).toInt = z17.toInt := by rw [ep26, rI_eq w3 (by decide)]
                  rcases hI2 with ⟨c1, c2, e, b, c3, c4, c5, c6, c7⟩ | ⟨b, c1, c2⟩
                  · have hZ := MO_ok (l := 5) (v := y5) (p := p) (p2 := p26) (b := b) (by omega) (by rw [ep26]; exact hI1.w rfl) (yP_uo (by omega) (by omega) c3) (by omega) (by omega) (by omega) (by omega) (by omega) (lV_neg (by omega) c7 hy5)
                    exact k0 _ _ hZ.1 hZ
                  · have hZ := MO_bad (l := 5) (v := y5) (p := p) (p2 := p26) (b := b) (by omega) (by rw [ep26]; exact hI1.w rfl) (yP_ub (by omega) (by omega) c1) (by omega)
                    exact k0 _ _ hZ.1 hZ
            ·
              refine hp_s (pc' := 91) (st' := [.ref 66]) rfl rfl rfl ?_
              refine hp_s (pc' := 93) (st' := [.int 41, .ref 66]) rfl rfl rfl ?_
              refine hp_cv (r := 66) (o := 12) (kd := 1) (as := [.int 41]) (rest := []) (pc' := 96) rfl rfl rfl rfl rfl rfl rfl rfl rfl (fun d13 => ?_)
              refine s_takes (ci := 41) (by decide) (by first | assumption | omega) (by first | assumption | omega) ?_ ?_
              ·
                intro p27 h97 h98 h99 h100
                have htk := h99
                have hMt := h100
                obtain ⟨t1, t2, t3⟩ := Mat_r w3 hMt
                refine hp_hw (fun w4 => ?_)
                refine hp_id (st := [.int 1]) ?_
                refine hp_go (pc' := 104) rfl rfl rfl ?_
                refine hp_s (pc' := 105) (st' := [.ref 66]) rfl rfl rfl ?_
                refine hp_s (pc' := 106) (st' := [.ref 66, .ref 66]) rfl rfl rfl ?_
                refine hp_get (k := 19) (pc' := 109) (v := (rI p25 66 19)) rfl rfl rfl rfl rfl (by rw [h97.int (r := 66) (k := 19) rfl]) ?_
                refine hp_s (pc' := 110) (st' := [.int 1, .int (rI p25 66 19), .ref 66]) rfl rfl rfl ?_
                refine hp_z (pc' := 111) (e := (rI p25 66 19) - 1) (st' := [.ref 66]) rfl rfl rfl ?_
                intro z19 hz19
                have ez19 := i_sub hz19 (show (rI p25 66 19).toInt = (rI p25 66 19).toInt from rfl) (show (1 : Int32).toInt = 1 from by decide)
                refine hp_put (k := 19) (pc' := 114) rfl rfl rfl rfl rfl ?_
                intro p28 wp28 ep28
                refine hp_s (pc' := 115) (st' := [.int y1]) rfl rfl rfl ?_
                refine hp_s (pc' := 117) (st' := [.int 40, .int y1]) rfl rfl rfl ?_
                refine hp_ic (pc' := 120) (t := 124) (a := y1.toInt) (b := 40) rfl rfl rfl rfl (by decide) (fun (h101 : y1.toInt ≠ 40) => ?_) (fun (h102 : ¬ (y1.toInt ≠ 40)) => ?_)
                ·
                  refine hp_s (pc' := 125) (st' := [.int y1]) rfl rfl rfl ?_
                  refine hp_s (pc' := 127) (st' := [.int 45, .int y1]) rfl rfl rfl ?_
                  refine hp_ic (pc' := 130) (t := 135) (a := y1.toInt) (b := 45) rfl rfl rfl rfl (by decide) (fun (h103 : y1.toInt ≠ 45) => ?_) (fun (h104 : ¬ (y1.toInt ≠ 45)) => ?_)
                  ·
                    refine hp_s (pc' := 136) (st' := [.int y5]) rfl rfl rfl ?_
                    refine hp_if (pc' := 139) (t := 143) (a := y5.toInt) rfl rfl rfl rfl (fun (h105 : y5.toInt ≠ 0) => ?_) (fun (h106 : ¬ (y5.toInt ≠ 0)) => ?_)
                    ·
                      refine hp_s (pc' := 144) (st' := [.int 0]) rfl rfl rfl ?_
                      refine hp_ri rfl rfl ?_
                      first
                      | exfalso; (try clear hI2); omega
                      | have g16 : (rI p28 66 16).toInt = (rI p27 66 16).toInt := by rw [ep28, rI_ne (fun _ => by decide)]
                        have g18 : (rI p28 66 18).toInt = (rI p27 66 18).toInt := by rw [ep28, rI_ne (fun _ => by decide)]
                        have g19 : (rI p28 66 19).toInt = z19.toInt := by rw [ep28, rI_eq w4 (by decide)]
                        rcases hI2 with ⟨c1, c2, e, b, c3, c4, c5, c6, c7⟩ | ⟨b, c1, c2⟩
                        · have hin := fM_in (p := p) (j := b) (by have q := htk; rw [fM_nt hI1, i_to c4] at q; omega)
                          have hZ := MO_ok (l := 5) (v := 0) (p := p) (p2 := p28) (b := b + 1) (by omega) (by rw [ep28]; exact ((hI1.trans (Mat_nt hMt)).w rfl)) (yP_po (by omega) (by omega) c3 (by have q := htk; rw [fM_nt hI1, i_to c4] at q; omega)) (by omega) (by omega) (by push_cast; omega) (by omega) (by push_cast; omega) c7
                          exact k0 _ _ hZ.1 hZ
                        · exfalso; omega
                    ·
                      refine hp_s (pc' := 140) (st' := [.int 1]) rfl rfl rfl ?_
                      refine hp_go (pc' := 144) rfl rfl rfl ?_
                      refine hp_ri rfl rfl ?_
                      first
                      | exfalso; (try clear hI2); omega
                      | have g16 : (rI p28 66 16).toInt = (rI p27 66 16).toInt := by rw [ep28, rI_ne (fun _ => by decide)]
                        have g18 : (rI p28 66 18).toInt = (rI p27 66 18).toInt := by rw [ep28, rI_ne (fun _ => by decide)]
                        have g19 : (rI p28 66 19).toInt = z19.toInt := by rw [ep28, rI_eq w4 (by decide)]
                        rcases hI2 with ⟨c1, c2, e, b, c3, c4, c5, c6, c7⟩ | ⟨b, c1, c2⟩
                        · have hin := fM_in (p := p) (j := b) (by have q := htk; rw [fM_nt hI1, i_to c4] at q; omega)
                          have hZ := MO_ok (l := 5) (v := 1) (p := p) (p2 := p28) (b := b + 1) (by omega) (by rw [ep28]; exact ((hI1.trans (Mat_nt hMt)).w rfl)) (yP_po (by omega) (by omega) c3 (by have q := htk; rw [fM_nt hI1, i_to c4] at q; omega)) (by omega) (by omega) (by push_cast; omega) (by omega) (by push_cast; omega) c7
                          exact k0 _ _ hZ.1 hZ
                        · exfalso; omega
                  ·
                    refine hp_s (pc' := 131) (st' := [.int y5]) rfl rfl rfl ?_
                    refine hp_z (pc' := 132) (e := -y5) (st' := []) rfl rfl rfl ?_
                    intro z20 hz20
                    have ez20 := i_neg hz20 (show y5.toInt = y5.toInt from rfl)
                    refine hp_go (pc' := 144) rfl rfl rfl ?_
                    refine hp_ri rfl rfl ?_
                    first
                    | exfalso; (try clear hI2); omega
                    | have g16 : (rI p28 66 16).toInt = (rI p27 66 16).toInt := by rw [ep28, rI_ne (fun _ => by decide)]
                      have g18 : (rI p28 66 18).toInt = (rI p27 66 18).toInt := by rw [ep28, rI_ne (fun _ => by decide)]
                      have g19 : (rI p28 66 19).toInt = z19.toInt := by rw [ep28, rI_eq w4 (by decide)]
                      rcases hI2 with ⟨c1, c2, e, b, c3, c4, c5, c6, c7⟩ | ⟨b, c1, c2⟩
                      · have hin := fM_in (p := p) (j := b) (by have q := htk; rw [fM_nt hI1, i_to c4] at q; omega)
                        have hZ := MO_ok (l := 5) (v := z20) (p := p) (p2 := p28) (b := b + 1) (by omega) (by rw [ep28]; exact ((hI1.trans (Mat_nt hMt)).w rfl)) (yP_po (by omega) (by omega) c3 (by have q := htk; rw [fM_nt hI1, i_to c4] at q; omega)) (by omega) (by omega) (by push_cast; omega) (by omega) (by push_cast; omega) c7
                        exact k0 _ _ hZ.1 hZ
                      · exfalso; omega
                ·
                  refine hp_s (pc' := 121) (st' := [.int y5]) rfl rfl rfl ?_
                  refine hp_go (pc' := 144) rfl rfl rfl ?_
                  refine hp_ri rfl rfl ?_
                  first
                  | exfalso; (try clear hI2); omega
                  | have g16 : (rI p28 66 16).toInt = (rI p27 66 16).toInt := by rw [ep28, rI_ne (fun _ => by decide)]
                    have g18 : (rI p28 66 18).toInt = (rI p27 66 18).toInt := by rw [ep28, rI_ne (fun _ => by decide)]
                    have g19 : (rI p28 66 19).toInt = z19.toInt := by rw [ep28, rI_eq w4 (by decide)]
                    rcases hI2 with ⟨c1, c2, e, b, c3, c4, c5, c6, c7⟩ | ⟨b, c1, c2⟩
                    · have hin := fM_in (p := p) (j := b) (by have q := htk; rw [fM_nt hI1, i_to c4] at q; omega)
                      have hZ := MO_ok (l := 5) (v := y5) (p := p) (p2 := p28) (b := b + 1) (by omega) (by rw [ep28]; exact ((hI1.trans (Mat_nt hMt)).w rfl)) (yP_po (by omega) (by omega) c3 (by have q := htk; rw [fM_nt hI1, i_to c4] at q; omega)) (by omega) (by omega) (by push_cast; omega) (by omega) (by push_cast; omega) c7
                      exact k0 _ _ hZ.1 hZ
                    · exfalso; omega
              ·
                intro h107
                have htk := h107
                refine hp_id (st := [.int 0]) ?_
                refine hp_go (pc' := 99) rfl rfl rfl ?_
                refine hp_s (pc' := 100) (st' := [.ref 66]) rfl rfl rfl ?_
                refine hp_cv (r := 66) (o := 12) (kd := 1) (as := []) (rest := []) (pc' := 103) rfl rfl rfl rfl rfl rfl rfl rfl rfl (fun d14 => ?_)
                refine s_wrong ?_ ?_
                ·
                  intro p29 ep29 h108
                  refine hp_id (st := [.int 0]) ?_
                  refine hp_ri rfl rfl ?_
                  first
                  | exfalso; (try clear hI2); omega
                  | rcases hI2 with ⟨c1, c2, e, b, c3, c4, c5, c6, c7⟩ | ⟨b, c1, c2⟩
                    · have hZ := MO_bad (l := 5) (v := 0) (b := b) (p := p) (p2 := p29) (by omega) (by rw [ep29]; exact hI1.w rfl) (yP_pn (by omega) (by omega) c3 (by have q := htk; rw [fM_nt hI1, i_to c4] at q; omega)) (by rw [ep29, rI_eq w3 (by decide)]; exact c4)
                      exact k0 _ _ hZ.1 hZ
                    · exfalso; omega
                ·
                  intro p30 ep30 h109
                  refine hp_id (st := [.int 0]) ?_
                  refine hp_ri rfl rfl ?_
                  first
                  | exfalso; (try clear hI2); omega
                  | rcases hI2 with ⟨c1, c2, e, b, c3, c4, c5, c6, c7⟩ | ⟨b, c1, c2⟩
                    · exfalso; omega
                    · have hZ := MO_bad (l := 5) (v := 0) (b := b) (p := p) (p2 := p30) (by omega) (by rw [ep30]; exact hI1.w rfl) (yP_pb (by omega) (by omega) c1) (by rw [ep30, rI_eq w3 (by decide)]; exact c2)
                      exact k0 _ _ hZ.1 hZ
        ·
          refine hp_s (pc' := 42) (st' := [.ref 66]) rfl rfl rfl ?_
          refine hp_cv (r := 66) (o := 12) (kd := 1) (as := []) (rest := []) (pc' := 45) rfl rfl rfl rfl rfl rfl rfl rfl rfl (fun d15 => ?_)
          refine s_wrong ?_ ?_
          ·
            intro p31 ep31 h110
            refine hp_id (st := [.int 0]) ?_
            refine hp_ri rfl rfl ?_
            have hZ := MO_bad (l := 5) (v := 0) (b := (rI p 66 16).toInt.toNat) (p := p) (p2 := p31) (by omega) (by rw [ep31]; exact (hNt.refl _ _).w rfl) (yP_full (by omega) (by omega)) (by rw [ep31, rI_eq wp (by decide)]; omega)
            exact k0 _ _ hZ.1 hZ
          ·
            intro p32 ep32 h111
            refine hp_id (st := [.int 0]) ?_
            refine hp_ri rfl rfl ?_
            exfalso; omega
      ·
        refine hp_s (pc' := 27) (st' := [.int y1]) rfl rfl rfl ?_
        refine hp_s (pc' := 29) (st' := [.int 40, .int y1]) rfl rfl rfl ?_
        refine hp_ic (pc' := 32) (t := 145) (a := y1.toInt) (b := 40) rfl rfl rfl rfl (by decide) (fun (h112 : y1.toInt ≠ 40) => ?_) (fun (h113 : ¬ (y1.toInt ≠ 40)) => ?_)
        ·
          refine hp_s (pc' := 146) (st' := [.int y1]) rfl rfl rfl ?_
          refine hp_cs (kd := 0) (as := [.int y1]) (rest := []) (pc' := 149) rfl rfl rfl rfl rfl rfl rfl (fun d16 => ?_)
          refine s_nameOfM (ci := y1.toInt) rfl ?_
          intro y6 h114
          have hn : y6.toInt = lnm (fM p ((rI p 66 16).toInt.toNat)) := by have q := hby; rcases q with q | q | q; exfalso; omega; rw [h114, q]; rw [h114, q.1, q.2]; decide
          refine hp_id (st := [.int y6]) ?_
          refine hp_s (pc' := 150) (ls' := [(2, .int y6), (1, .int y1), (0, .ref 66)]) (st' := []) rfl rfl rfl ?_
          refine hp_s (pc' := 151) (st' := [.int y6]) rfl rfl rfl ?_
          refine hp_if (pc' := 154) (t := 171) (a := y6.toInt) rfl rfl rfl rfl (fun (h115 : y6.toInt < 0) => ?_) (fun (h116 : ¬ (y6.toInt < 0)) => ?_)
          ·
            have hn0 : lnm (fM p ((rI p 66 16).toInt.toNat)) < 0 := by omega
            refine hp_s (pc' := 172) (st' := [.int 0]) rfl rfl rfl ?_
            refine hp_s (pc' := 173) (ls' := [(3, .int 0), (2, .int y6), (1, .int y1), (0, .ref 66)]) (st' := []) rfl rfl rfl ?_
            refine hp_s (pc' := 174) (st' := [.int 0]) rfl rfl rfl ?_
            refine hp_s (pc' := 176) (ls' := [(4, .int 0), (3, .int 0), (2, .int y6), (1, .int y1), (0, .ref 66)]) (st' := []) rfl rfl rfl ?_
            exact lp_206 (p0 := p) (a := (rI p 66 16).toInt.toNat) ⟨m1, m2, by omega⟩ (by omega) (by omega) (by omega) (by omega) (by omega) (by omega) (fun v p2 h => k0 v p2 h.1 h) n 0 0 p 0 rfl (by decide) (fun j hj => absurd hj (by omega)) (by show (0 : Int32).toInt = 0; decide) (hNt.refl _ _) (by omega)
          ·
            refine hp_s (pc' := 155) (st' := [.ref 66]) rfl rfl rfl ?_
            refine hp_s (pc' := 156) (st' := [.ref 66, .ref 66]) rfl rfl rfl ?_
            refine hp_get (k := 16) (pc' := 159) (v := (rI p 66 16)) rfl rfl rfl rfl rfl rfl ?_
            refine hp_s (pc' := 160) (st' := [.int 1, .int (rI p 66 16), .ref 66]) rfl rfl rfl ?_
            refine hp_z (pc' := 161) (e := (rI p 66 16) + 1) (st' := [.ref 66]) rfl rfl rfl ?_
            intro z21 hz21
            have ez21 := i_add hz21 (show (rI p 66 16).toInt = (rI p 66 16).toInt from rfl) (show (1 : Int32).toInt = 1 from by decide)
            refine hp_put (k := 16) (pc' := 164) rfl rfl rfl rfl rfl ?_
            intro p33 wp33 ep33
            refine hp_s (pc' := 165) (st' := [.ref 66]) rfl rfl rfl ?_
            refine hp_getr (k := 20) (w := .ref 77) (pc' := 168) rfl rfl rfl rfl rfl ?_
            refine hp_s (pc' := 169) (st' := [.int y6, .ref 77]) rfl rfl rfl ?_
            refine hp_ld (t := 100) (v := (rI p 77 y6.toInt.toNat)) rfl (.inl rfl) rfl rfl (by rw [ep33, rI_o (by decide)]) ?_
            intro (g1a : 0 ≤ y6.toInt) (g1b : y6.toInt < 6)
            refine hp_ri rfl rfl ?_
            have g16 : (rI p33 66 16).toInt = (rI p 66 16).toInt + 1 := by rw [ep33, rI_eq wp (by decide)]; omega
            have g18 : (rI p33 66 18).toInt = (rI p 66 18).toInt := by rw [ep33, rI_ne (fun _ => by decide)]
            have g19 : (rI p33 66 19).toInt = (rI p 66 19).toInt := by rw [ep33, rI_ne (fun _ => by decide)]
            have hin := fM_in (p := p) (j := (rI p 66 16).toInt.toNat) (fun hc => by have q5 := lnm_no hc; omega)
            have q6 := lnm_5 (fM p ((rI p 66 16).toInt.toNat))
            have hZ := MO_ok (l := 5) (v := (rI p 77 y6.toInt.toNat)) (p := p) (p2 := p33) (b := (rI p 66 16).toInt.toNat + 1) (by omega) (by rw [ep33]; exact (hNt.refl _ _).w rfl) (yP_nam (by omega)) (by omega) (by omega) (by omega) (by omega) (by omega) (lV_nam (by rw [Int32.toInt_ofInt_of_le (by omega) (by omega)]; unfold nM; congr 1; omega))
            exact k0 _ _ hZ.1 hZ
        ·
          refine hp_s (pc' := 33) (st' := [.ref 66]) rfl rfl rfl ?_
          refine hp_get (k := 19) (pc' := 36) (v := (rI p 66 19)) rfl rfl rfl rfl rfl rfl ?_
          refine hp_s (pc' := 38) (st' := [.int 6, .int (rI p 66 19)]) rfl rfl rfl ?_
          refine hp_ic (pc' := 41) (t := 46) (a := (rI p 66 19).toInt) (b := 6) rfl rfl rfl rfl (by decide) (fun (h117 : (rI p 66 19).toInt ≠ 6) => ?_) (fun (h118 : ¬ ((rI p 66 19).toInt ≠ 6)) => ?_)
          ·
            refine hp_s (pc' := 47) (st' := [.ref 66]) rfl rfl rfl ?_
            refine hp_s (pc' := 48) (st' := [.ref 66, .ref 66]) rfl rfl rfl ?_
            refine hp_get (k := 19) (pc' := 51) (v := (rI p 66 19)) rfl rfl rfl rfl rfl rfl ?_
            refine hp_s (pc' := 52) (st' := [.int 1, .int (rI p 66 19), .ref 66]) rfl rfl rfl ?_
            refine hp_z (pc' := 53) (e := (rI p 66 19) + 1) (st' := [.ref 66]) rfl rfl rfl ?_
            intro z22 hz22
            have ez22 := i_add hz22 (show (rI p 66 19).toInt = (rI p 66 19).toInt from rfl) (show (1 : Int32).toInt = 1 from by decide)
            refine hp_put (k := 19) (pc' := 56) rfl rfl rfl rfl rfl ?_
            intro p34 wp34 ep34
            refine hp_s (pc' := 57) (st' := [.ref 66]) rfl rfl rfl ?_
            refine hp_s (pc' := 58) (st' := [.ref 66, .ref 66]) rfl rfl rfl ?_
            refine hp_get (k := 16) (pc' := 61) (v := (rI p 66 16)) rfl rfl rfl rfl rfl (by rw [ep34, rI_ne (fun _ => by decide)]) ?_
            refine hp_s (pc' := 62) (st' := [.int 1, .int (rI p 66 16), .ref 66]) rfl rfl rfl ?_
            refine hp_z (pc' := 63) (e := (rI p 66 16) + 1) (st' := [.ref 66]) rfl rfl rfl ?_
            intro z23 hz23
            have ez23 := i_add hz23 (show (rI p 66 16).toInt = (rI p 66 16).toInt from rfl) (show (1 : Int32).toInt = 1 from by decide)
            refine hp_put (k := 16) (pc' := 66) rfl rfl rfl rfl rfl ?_
            intro p35 wp35 ep35
            obtain ⟨hT2, hN2, f18, f19, f16⟩ := Mop (p2 := p35) (z := z22) (y := z23) wp pre0 (by omega) (by omega) (by omega) (by omega) (by omega) (by rw [ep35, ep34])
            refine hp_s (pc' := 67) (st' := [.int y1]) rfl rfl rfl ?_
            refine hp_s (pc' := 69) (st' := [.int 40, .int y1]) rfl rfl rfl ?_
            refine hp_ic (pc' := 72) (t := 79) (a := y1.toInt) (b := 40) rfl rfl rfl rfl (by decide) (fun (h119 : y1.toInt ≠ 40) => ?_) (fun (h120 : ¬ (y1.toInt ≠ 40)) => ?_)
            ·
              refine hp_s (pc' := 80) (st' := [.ref 66]) rfl rfl rfl ?_
              refine hp_cv (r := 66) (o := 12) (kd := 1) (as := []) (rest := []) (pc' := 83) rfl rfl rfl rfl rfl rfl rfl rfl rfl (fun d17 => ?_)
              refine rM_on rc (by first | assumption | omega) ?_
              intro y7 p36 h121 h122
              refine hp_hw (fun w3 => ?_)
              obtain ⟨hI1, hI2⟩ := MO_in1 hN2 f18 f19 f16 (by omega) (by omega) h122
              have hT3 := MO_p hT2 h122
              refine hp_id (st := [.int y7]) ?_
              refine hp_s (pc' := 84) (ls' := [(2, .int y7), (1, .int y1), (0, .ref 66)]) (st' := []) rfl rfl rfl ?_
              refine hp_s (pc' := 85) (st' := [.int y1]) rfl rfl rfl ?_
              refine hp_s (pc' := 87) (st' := [.int 40, .int y1]) rfl rfl rfl ?_
              refine hp_ic (pc' := 90) (t := 104) (a := y1.toInt) (b := 40) rfl rfl rfl rfl (by decide) (fun (h123 : y1.toInt ≠ 40) => ?_) (fun (h124 : ¬ (y1.toInt ≠ 40)) => ?_)
              ·
                refine hp_s (pc' := 105) (st' := [.ref 66]) rfl rfl rfl ?_
                refine hp_s (pc' := 106) (st' := [.ref 66, .ref 66]) rfl rfl rfl ?_
                refine hp_get (k := 19) (pc' := 109) (v := (rI p36 66 19)) rfl rfl rfl rfl rfl rfl ?_
                refine hp_s (pc' := 110) (st' := [.int 1, .int (rI p36 66 19), .ref 66]) rfl rfl rfl ?_
                refine hp_z (pc' := 111) (e := (rI p36 66 19) - 1) (st' := [.ref 66]) rfl rfl rfl ?_
                intro z24 hz24
                have ez24 := i_sub hz24 (show (rI p36 66 19).toInt = (rI p36 66 19).toInt from rfl) (show (1 : Int32).toInt = 1 from by decide)
                refine hp_put (k := 19) (pc' := 114) rfl rfl rfl rfl rfl ?_
                intro p37 wp37 ep37
                refine hp_s (pc' := 115) (st' := [.int y1]) rfl rfl rfl ?_
                refine hp_s (pc' := 117) (st' := [.int 40, .int y1]) rfl rfl rfl ?_
                refine hp_ic (pc' := 120) (t := 124) (a := y1.toInt) (b := 40) rfl rfl rfl rfl (by decide) (fun (h125 : y1.toInt ≠ 40) => ?_) (fun (h126 : ¬ (y1.toInt ≠ 40)) => ?_)
                ·
                  refine hp_s (pc' := 125) (st' := [.int y1]) rfl rfl rfl ?_
                  refine hp_s (pc' := 127) (st' := [.int 45, .int y1]) rfl rfl rfl ?_
                  refine hp_ic (pc' := 130) (t := 135) (a := y1.toInt) (b := 45) rfl rfl rfl rfl (by decide) (fun (h127 : y1.toInt ≠ 45) => ?_) (fun (h128 : ¬ (y1.toInt ≠ 45)) => ?_)
                  ·
                    refine hp_s (pc' := 136) (st' := [.int y7]) rfl rfl rfl ?_
                    refine hp_if (pc' := 139) (t := 143) (a := y7.toInt) rfl rfl rfl rfl (fun (h129 : y7.toInt ≠ 0) => ?_) (fun (h130 : ¬ (y7.toInt ≠ 0)) => ?_)
                    ·
                      refine hp_s (pc' := 144) (st' := [.int 0]) rfl rfl rfl ?_
                      refine hp_ri rfl rfl ?_
                      first
                      | exfalso; (try clear hI2); omega
                      | have g16 : (rI p37 66 16).toInt = (rI p36 66 16).toInt := by rw [ep37, rI_ne (fun _ => by decide)]
                        have g18 : (rI p37 66 18).toInt = (rI p36 66 18).toInt := by rw [ep37, rI_ne (fun _ => by decide)]
                        have g19 : (rI p37 66 19).toInt = z24.toInt := by rw [ep37, rI_eq w3 (by decide)]
                        rcases hI2 with ⟨c1, c2, e, b, c3, c4, c5, c6, c7⟩ | ⟨b, c1, c2⟩
                        · have hZ := MO_ok (l := 5) (v := (0 : Int32)) (p := p) (p2 := p37) (b := b) (by omega) (by rw [ep37]; exact hI1.w rfl) (yP_uo (by omega) (by omega) c3) (by omega) (by omega) (by omega) (by omega) (by omega) (lV_not (by omega) c7 (by rw [if_neg (i_nz (by omega))]))
                          exact k0 _ _ hZ.1 hZ
                        · have hZ := MO_bad (l := 5) (v := (0 : Int32)) (p := p) (p2 := p37) (b := b) (by omega) (by rw [ep37]; exact hI1.w rfl) (yP_ub (by omega) (by omega) c1) (by omega)
                          exact k0 _ _ hZ.1 hZ
                    ·
                      refine hp_s (pc' := 140) (st' := [.int 1]) rfl rfl rfl ?_
                      refine hp_go (pc' := 144) rfl rfl rfl ?_
                      refine hp_ri rfl rfl ?_
                      first
                      | exfalso; (try clear hI2); omega
                      | have g16 : (rI p37 66 16).toInt = (rI p36 66 16).toInt := by rw [ep37, rI_ne (fun _ => by decide)]
                        have g18 : (rI p37 66 18).toInt = (rI p36 66 18).toInt := by rw [ep37, rI_ne (fun _ => by decide)]
                        have g19 : (rI p37 66 19).toInt = z24.toInt := by rw [ep37, rI_eq w3 (by decide)]
                        rcases hI2 with ⟨c1, c2, e, b, c3, c4, c5, c6, c7⟩ | ⟨b, c1, c2⟩
                        · have hZ := MO_ok (l := 5) (v := (1 : Int32)) (p := p) (p2 := p37) (b := b) (by omega) (by rw [ep37]; exact hI1.w rfl) (yP_uo (by omega) (by omega) c3) (by omega) (by omega) (by omega) (by omega) (by omega) (lV_not (by omega) c7 (by rw [if_pos (i_z (by omega))]))
                          exact k0 _ _ hZ.1 hZ
                        · have hZ := MO_bad (l := 5) (v := (1 : Int32)) (p := p) (p2 := p37) (b := b) (by omega) (by rw [ep37]; exact hI1.w rfl) (yP_ub (by omega) (by omega) c1) (by omega)
                          exact k0 _ _ hZ.1 hZ
                  ·
                    refine hp_s (pc' := 131) (st' := [.int y7]) rfl rfl rfl ?_
                    refine hp_z (pc' := 132) (e := -y7) (st' := []) rfl rfl rfl ?_
                    intro z25 hz25
                    have ez25 := i_neg hz25 (show y7.toInt = y7.toInt from rfl)
                    refine hp_go (pc' := 144) rfl rfl rfl ?_
                    refine hp_ri rfl rfl ?_
                    first
                    | exfalso; (try clear hI2); omega
                    | have g16 : (rI p37 66 16).toInt = (rI p36 66 16).toInt := by rw [ep37, rI_ne (fun _ => by decide)]
                      have g18 : (rI p37 66 18).toInt = (rI p36 66 18).toInt := by rw [ep37, rI_ne (fun _ => by decide)]
                      have g19 : (rI p37 66 19).toInt = z24.toInt := by rw [ep37, rI_eq w3 (by decide)]
                      rcases hI2 with ⟨c1, c2, e, b, c3, c4, c5, c6, c7⟩ | ⟨b, c1, c2⟩
                      · have hZ := MO_ok (l := 5) (v := z25) (p := p) (p2 := p37) (b := b) (by omega) (by rw [ep37]; exact hI1.w rfl) (yP_uo (by omega) (by omega) c3) (by omega) (by omega) (by omega) (by omega) (by omega) (lV_neg (by omega) c7 hz25)
                        exact k0 _ _ hZ.1 hZ
                      · have hZ := MO_bad (l := 5) (v := z25) (p := p) (p2 := p37) (b := b) (by omega) (by rw [ep37]; exact hI1.w rfl) (yP_ub (by omega) (by omega) c1) (by omega)
                        exact k0 _ _ hZ.1 hZ
                ·
                  refine hp_s (pc' := 121) (st' := [.int y7]) rfl rfl rfl ?_
                  refine hp_go (pc' := 144) rfl rfl rfl ?_
                  refine hp_ri rfl rfl ?_
                  first
                  | exfalso; (try clear hI2); omega
                  | have g16 : (rI p37 66 16).toInt = (rI p36 66 16).toInt := by rw [ep37, rI_ne (fun _ => by decide)]
                    have g18 : (rI p37 66 18).toInt = (rI p36 66 18).toInt := by rw [ep37, rI_ne (fun _ => by decide)]
                    have g19 : (rI p37 66 19).toInt = z24.toInt := by rw [ep37, rI_eq w3 (by decide)]
                    rcases hI2 with ⟨c1, c2, e, b, c3, c4, c5, c6, c7⟩ | ⟨b, c1, c2⟩
                    · have hZ := MO_ok (l := 5) (v := y7) (p := p) (p2 := p37) (b := b) (by omega) (by rw [ep37]; exact hI1.w rfl) (yP_uo (by omega) (by omega) c3) (by omega) (by omega) (by omega) (by omega) (by omega) (lV_neg (by omega) c7 hy7)
                      exact k0 _ _ hZ.1 hZ
                    · have hZ := MO_bad (l := 5) (v := y7) (p := p) (p2 := p37) (b := b) (by omega) (by rw [ep37]; exact hI1.w rfl) (yP_ub (by omega) (by omega) c1) (by omega)
                      exact k0 _ _ hZ.1 hZ
              ·
                refine hp_s (pc' := 91) (st' := [.ref 66]) rfl rfl rfl ?_
                refine hp_s (pc' := 93) (st' := [.int 41, .ref 66]) rfl rfl rfl ?_
                refine hp_cv (r := 66) (o := 12) (kd := 1) (as := [.int 41]) (rest := []) (pc' := 96) rfl rfl rfl rfl rfl rfl rfl rfl rfl (fun d18 => ?_)
                refine s_takes (ci := 41) (by decide) (by first | assumption | omega) (by first | assumption | omega) ?_ ?_
                ·
                  intro p38 h131 h132 h133 h134
                  have htk := h133
                  have hMt := h134
                  obtain ⟨t1, t2, t3⟩ := Mat_r w3 hMt
                  refine hp_hw (fun w4 => ?_)
                  refine hp_id (st := [.int 1]) ?_
                  refine hp_go (pc' := 104) rfl rfl rfl ?_
                  refine hp_s (pc' := 105) (st' := [.ref 66]) rfl rfl rfl ?_
                  refine hp_s (pc' := 106) (st' := [.ref 66, .ref 66]) rfl rfl rfl ?_
                  refine hp_get (k := 19) (pc' := 109) (v := (rI p36 66 19)) rfl rfl rfl rfl rfl (by rw [h131.int (r := 66) (k := 19) rfl]) ?_
                  refine hp_s (pc' := 110) (st' := [.int 1, .int (rI p36 66 19), .ref 66]) rfl rfl rfl ?_
                  refine hp_z (pc' := 111) (e := (rI p36 66 19) - 1) (st' := [.ref 66]) rfl rfl rfl ?_
                  intro z26 hz26
                  have ez26 := i_sub hz26 (show (rI p36 66 19).toInt = (rI p36 66 19).toInt from rfl) (show (1 : Int32).toInt = 1 from by decide)
                  refine hp_put (k := 19) (pc' := 114) rfl rfl rfl rfl rfl ?_
                  intro p39 wp39 ep39
                  refine hp_s (pc' := 115) (st' := [.int y1]) rfl rfl rfl ?_
                  refine hp_s (pc' := 117) (st' := [.int 40, .int y1]) rfl rfl rfl ?_
                  refine hp_ic (pc' := 120) (t := 124) (a := y1.toInt) (b := 40) rfl rfl rfl rfl (by decide) (fun (h135 : y1.toInt ≠ 40) => ?_) (fun (h136 : ¬ (y1.toInt ≠ 40)) => ?_)
                  ·
                    refine hp_s (pc' := 125) (st' := [.int y1]) rfl rfl rfl ?_
                    refine hp_s (pc' := 127) (st' := [.int 45, .int y1]) rfl rfl rfl ?_
                    refine hp_ic (pc' := 130) (t := 135) (a := y1.toInt) (b := 45) rfl rfl rfl rfl (by decide) (fun (h137 : y1.toInt ≠ 45) => ?_) (fun (h138 : ¬ (y1.toInt ≠ 45)) => ?_)
                    ·
                      refine hp_s (pc' := 136) (st' := [.int y7]) rfl rfl rfl ?_
                      refine hp_if (pc' := 139) (t := 143) (a := y7.toInt) rfl rfl rfl rfl (fun (h139 : y7.toInt ≠ 0) => ?_) (fun (h140 : ¬ (y7.toInt ≠ 0)) => ?_)
                      ·
                        refine hp_s (pc' := 144) (st' := [.int 0]) rfl rfl rfl ?_
                        refine hp_ri rfl rfl ?_
                        first
                        | exfalso; (try clear hI2); omega
                        | have g16 : (rI p39 66 16).toInt = (rI p38 66 16).toInt := by rw [ep39, rI_ne (fun _ => by decide)]
                          have g18 : (rI p39 66 18).toInt = (rI p38 66 18).toInt := by rw [ep39, rI_ne (fun _ => by decide)]
                          have g19 : (rI p39 66 19).toInt = z26.toInt := by rw [ep39, rI_eq w4 (by decide)]
                          rcases hI2 with ⟨c1, c2, e, b, c3, c4, c5, c6, c7⟩ | ⟨b, c1, c2⟩
                          · have hin := fM_in (p := p) (j := b) (by have q := htk; rw [fM_nt hI1, i_to c4] at q; omega)
                            have hZ := MO_ok (l := 5) (v := 0) (p := p) (p2 := p39) (b := b + 1) (by omega) (by rw [ep39]; exact ((hI1.trans (Mat_nt hMt)).w rfl)) (yP_po (by omega) (by omega) c3 (by have q := htk; rw [fM_nt hI1, i_to c4] at q; omega)) (by omega) (by omega) (by push_cast; omega) (by omega) (by push_cast; omega) c7
                            exact k0 _ _ hZ.1 hZ
                          · exfalso; omega
                      ·
                        refine hp_s (pc' := 140) (st' := [.int 1]) rfl rfl rfl ?_
                        refine hp_go (pc' := 144) rfl rfl rfl ?_
                        refine hp_ri rfl rfl ?_
                        first
                        | exfalso; (try clear hI2); omega
                        | have g16 : (rI p39 66 16).toInt = (rI p38 66 16).toInt := by rw [ep39, rI_ne (fun _ => by decide)]
                          have g18 : (rI p39 66 18).toInt = (rI p38 66 18).toInt := by rw [ep39, rI_ne (fun _ => by decide)]
                          have g19 : (rI p39 66 19).toInt = z26.toInt := by rw [ep39, rI_eq w4 (by decide)]
                          rcases hI2 with ⟨c1, c2, e, b, c3, c4, c5, c6, c7⟩ | ⟨b, c1, c2⟩
                          · have hin := fM_in (p := p) (j := b) (by have q := htk; rw [fM_nt hI1, i_to c4] at q; omega)
                            have hZ := MO_ok (l := 5) (v := 1) (p := p) (p2 := p39) (b := b + 1) (by omega) (by rw [ep39]; exact ((hI1.trans (Mat_nt hMt)).w rfl)) (yP_po (by omega) (by omega) c3 (by have q := htk; rw [fM_nt hI1, i_to c4] at q; omega)) (by omega) (by omega) (by push_cast; omega) (by omega) (by push_cast; omega) c7
                            exact k0 _ _ hZ.1 hZ
                          · exfalso; omega
                    ·
                      refine hp_s (pc' := 131) (st' := [.int y7]) rfl rfl rfl ?_
                      refine hp_z (pc' := 132) (e := -y7) (st' := []) rfl rfl rfl ?_
                      intro z27 hz27
                      have ez27 := i_neg hz27 (show y7.toInt = y7.toInt from rfl)
                      refine hp_go (pc' := 144) rfl rfl rfl ?_
                      refine hp_ri rfl rfl ?_
                      first
                      | exfalso; (try clear hI2); omega
                      | have g16 : (rI p39 66 16).toInt = (rI p38 66 16).toInt := by rw [ep39, rI_ne (fun _ => by decide)]
                        have g18 : (rI p39 66 18).toInt = (rI p38 66 18).toInt := by rw [ep39, rI_ne (fun _ => by decide)]
                        have g19 : (rI p39 66 19).toInt = z26.toInt := by rw [ep39, rI_eq w4 (by decide)]
                        rcases hI2 with ⟨c1, c2, e, b, c3, c4, c5, c6, c7⟩ | ⟨b, c1, c2⟩
                        · have hin := fM_in (p := p) (j := b) (by have q := htk; rw [fM_nt hI1, i_to c4] at q; omega)
                          have hZ := MO_ok (l := 5) (v := z27) (p := p) (p2 := p39) (b := b + 1) (by omega) (by rw [ep39]; exact ((hI1.trans (Mat_nt hMt)).w rfl)) (yP_po (by omega) (by omega) c3 (by have q := htk; rw [fM_nt hI1, i_to c4] at q; omega)) (by omega) (by omega) (by push_cast; omega) (by omega) (by push_cast; omega) c7
                          exact k0 _ _ hZ.1 hZ
                        · exfalso; omega
                  ·
                    refine hp_s (pc' := 121) (st' := [.int y7]) rfl rfl rfl ?_
                    refine hp_go (pc' := 144) rfl rfl rfl ?_
                    refine hp_ri rfl rfl ?_
                    first
                    | exfalso; (try clear hI2); omega
                    | have g16 : (rI p39 66 16).toInt = (rI p38 66 16).toInt := by rw [ep39, rI_ne (fun _ => by decide)]
                      have g18 : (rI p39 66 18).toInt = (rI p38 66 18).toInt := by rw [ep39, rI_ne (fun _ => by decide)]
                      have g19 : (rI p39 66 19).toInt = z26.toInt := by rw [ep39, rI_eq w4 (by decide)]
                      rcases hI2 with ⟨c1, c2, e, b, c3, c4, c5, c6, c7⟩ | ⟨b, c1, c2⟩
                      · have hin := fM_in (p := p) (j := b) (by have q := htk; rw [fM_nt hI1, i_to c4] at q; omega)
                        have hZ := MO_ok (l := 5) (v := y7) (p := p) (p2 := p39) (b := b + 1) (by omega) (by rw [ep39]; exact ((hI1.trans (Mat_nt hMt)).w rfl)) (yP_po (by omega) (by omega) c3 (by have q := htk; rw [fM_nt hI1, i_to c4] at q; omega)) (by omega) (by omega) (by push_cast; omega) (by omega) (by push_cast; omega) c7
                        exact k0 _ _ hZ.1 hZ
                      · exfalso; omega
                ·
                  intro h141
                  have htk := h141
                  refine hp_id (st := [.int 0]) ?_
                  refine hp_go (pc' := 99) rfl rfl rfl ?_
                  refine hp_s (pc' := 100) (st' := [.ref 66]) rfl rfl rfl ?_
                  refine hp_cv (r := 66) (o := 12) (kd := 1) (as := []) (rest := []) (pc' := 103) rfl rfl rfl rfl rfl rfl rfl rfl rfl (fun d19 => ?_)
                  refine s_wrong ?_ ?_
                  ·
                    intro p40 ep40 h142
                    refine hp_id (st := [.int 0]) ?_
                    refine hp_ri rfl rfl ?_
                    first
                    | exfalso; (try clear hI2); omega
                    | rcases hI2 with ⟨c1, c2, e, b, c3, c4, c5, c6, c7⟩ | ⟨b, c1, c2⟩
                      · have hZ := MO_bad (l := 5) (v := 0) (b := b) (p := p) (p2 := p40) (by omega) (by rw [ep40]; exact hI1.w rfl) (yP_pn (by omega) (by omega) c3 (by have q := htk; rw [fM_nt hI1, i_to c4] at q; omega)) (by rw [ep40, rI_eq w3 (by decide)]; exact c4)
                        exact k0 _ _ hZ.1 hZ
                      · exfalso; omega
                  ·
                    intro p41 ep41 h143
                    refine hp_id (st := [.int 0]) ?_
                    refine hp_ri rfl rfl ?_
                    first
                    | exfalso; (try clear hI2); omega
                    | rcases hI2 with ⟨c1, c2, e, b, c3, c4, c5, c6, c7⟩ | ⟨b, c1, c2⟩
                      · exfalso; omega
                      · have hZ := MO_bad (l := 5) (v := 0) (b := b) (p := p) (p2 := p41) (by omega) (by rw [ep41]; exact hI1.w rfl) (yP_pb (by omega) (by omega) c1) (by rw [ep41, rI_eq w3 (by decide)]; exact c2)
                        exact k0 _ _ hZ.1 hZ
            ·
              refine hp_s (pc' := 73) (st' := [.ref 66]) rfl rfl rfl ?_
              refine hp_cv (r := 66) (o := 12) (kd := 1) (as := []) (rest := []) (pc' := 76) rfl rfl rfl rfl rfl rfl rfl rfl rfl (fun d20 => ?_)
              refine rM_ei rc (by first | assumption | omega) ?_
              intro y8 p42 h144 h145
              refine hp_hw (fun w3 => ?_)
              obtain ⟨hI1, hI2⟩ := MO_in1 hN2 f18 f19 f16 (by omega) (by omega) h145
              have hT3 := MO_p hT2 h145
              refine hp_id (st := [.int y8]) ?_
              refine hp_go (pc' := 83) rfl rfl rfl ?_
              refine hp_s (pc' := 84) (ls' := [(2, .int y8), (1, .int y1), (0, .ref 66)]) (st' := []) rfl rfl rfl ?_
              refine hp_s (pc' := 85) (st' := [.int y1]) rfl rfl rfl ?_
              refine hp_s (pc' := 87) (st' := [.int 40, .int y1]) rfl rfl rfl ?_
              refine hp_ic (pc' := 90) (t := 104) (a := y1.toInt) (b := 40) rfl rfl rfl rfl (by decide) (fun (h146 : y1.toInt ≠ 40) => ?_) (fun (h147 : ¬ (y1.toInt ≠ 40)) => ?_)
              ·
                refine hp_s (pc' := 105) (st' := [.ref 66]) rfl rfl rfl ?_
                refine hp_s (pc' := 106) (st' := [.ref 66, .ref 66]) rfl rfl rfl ?_
                refine hp_get (k := 19) (pc' := 109) (v := (rI p42 66 19)) rfl rfl rfl rfl rfl rfl ?_
                refine hp_s (pc' := 110) (st' := [.int 1, .int (rI p42 66 19), .ref 66]) rfl rfl rfl ?_
                refine hp_z (pc' := 111) (e := (rI p42 66 19) - 1) (st' := [.ref 66]) rfl rfl rfl ?_
                intro z28 hz28
                have ez28 := i_sub hz28 (show (rI p42 66 19).toInt = (rI p42 66 19).toInt from rfl) (show (1 : Int32).toInt = 1 from by decide)
                refine hp_put (k := 19) (pc' := 114) rfl rfl rfl rfl rfl ?_
                intro p43 wp43 ep43
                refine hp_s (pc' := 115) (st' := [.int y1]) rfl rfl rfl ?_
                refine hp_s (pc' := 117) (st' := [.int 40, .int y1]) rfl rfl rfl ?_
                refine hp_ic (pc' := 120) (t := 124) (a := y1.toInt) (b := 40) rfl rfl rfl rfl (by decide) (fun (h148 : y1.toInt ≠ 40) => ?_) (fun (h149 : ¬ (y1.toInt ≠ 40)) => ?_)
                ·
                  refine hp_s (pc' := 125) (st' := [.int y1]) rfl rfl rfl ?_
                  refine hp_s (pc' := 127) (st' := [.int 45, .int y1]) rfl rfl rfl ?_
                  refine hp_ic (pc' := 130) (t := 135) (a := y1.toInt) (b := 45) rfl rfl rfl rfl (by decide) (fun (h150 : y1.toInt ≠ 45) => ?_) (fun (h151 : ¬ (y1.toInt ≠ 45)) => ?_)
                  ·
                    refine hp_s (pc' := 136) (st' := [.int y8]) rfl rfl rfl ?_
                    refine hp_if (pc' := 139) (t := 143) (a := y8.toInt) rfl rfl rfl rfl (fun (h152 : y8.toInt ≠ 0) => ?_) (fun (h153 : ¬ (y8.toInt ≠ 0)) => ?_)
                    ·
                      refine hp_s (pc' := 144) (st' := [.int 0]) rfl rfl rfl ?_
                      refine hp_ri rfl rfl ?_
                      first
                      | exfalso; (try clear hI2); omega
                      | have g16 : (rI p43 66 16).toInt = (rI p42 66 16).toInt := by rw [ep43, rI_ne (fun _ => by decide)]
                        have g18 : (rI p43 66 18).toInt = (rI p42 66 18).toInt := by rw [ep43, rI_ne (fun _ => by decide)]
                        have g19 : (rI p43 66 19).toInt = z28.toInt := by rw [ep43, rI_eq w3 (by decide)]
                        rcases hI2 with ⟨c1, c2, e, b, c3, c4, c5, c6, c7⟩ | ⟨b, c1, c2⟩
                        · have hZ := MO_ok (l := 5) (v := (0 : Int32)) (p := p) (p2 := p43) (b := b) (by omega) (by rw [ep43]; exact hI1.w rfl) (yP_uo (by omega) (by omega) c3) (by omega) (by omega) (by omega) (by omega) (by omega) (lV_not (by omega) c7 (by rw [if_neg (i_nz (by omega))]))
                          exact k0 _ _ hZ.1 hZ
                        · have hZ := MO_bad (l := 5) (v := (0 : Int32)) (p := p) (p2 := p43) (b := b) (by omega) (by rw [ep43]; exact hI1.w rfl) (yP_ub (by omega) (by omega) c1) (by omega)
                          exact k0 _ _ hZ.1 hZ
                    ·
                      refine hp_s (pc' := 140) (st' := [.int 1]) rfl rfl rfl ?_
                      refine hp_go (pc' := 144) rfl rfl rfl ?_
                      refine hp_ri rfl rfl ?_
                      first
                      | exfalso; (try clear hI2); omega
                      | have g16 : (rI p43 66 16).toInt = (rI p42 66 16).toInt := by rw [ep43, rI_ne (fun _ => by decide)]
                        have g18 : (rI p43 66 18).toInt = (rI p42 66 18).toInt := by rw [ep43, rI_ne (fun _ => by decide)]
                        have g19 : (rI p43 66 19).toInt = z28.toInt := by rw [ep43, rI_eq w3 (by decide)]
                        rcases hI2 with ⟨c1, c2, e, b, c3, c4, c5, c6, c7⟩ | ⟨b, c1, c2⟩
                        · have hZ := MO_ok (l := 5) (v := (1 : Int32)) (p := p) (p2 := p43) (b := b) (by omega) (by rw [ep43]; exact hI1.w rfl) (yP_uo (by omega) (by omega) c3) (by omega) (by omega) (by omega) (by omega) (by omega) (lV_not (by omega) c7 (by rw [if_pos (i_z (by omega))]))
                          exact k0 _ _ hZ.1 hZ
                        · have hZ := MO_bad (l := 5) (v := (1 : Int32)) (p := p) (p2 := p43) (b := b) (by omega) (by rw [ep43]; exact hI1.w rfl) (yP_ub (by omega) (by omega) c1) (by omega)
                          exact k0 _ _ hZ.1 hZ
                  ·
                    refine hp_s (pc' := 131) (st' := [.int y8]) rfl rfl rfl ?_
                    refine hp_z (pc' := 132) (e := -y8) (st' := []) rfl rfl rfl ?_
                    intro z29 hz29
                    have ez29 := i_neg hz29 (show y8.toInt = y8.toInt from rfl)
                    refine hp_go (pc' := 144) rfl rfl rfl ?_
                    refine hp_ri rfl rfl ?_
                    first
                    | exfalso; (try clear hI2); omega
                    | have g16 : (rI p43 66 16).toInt = (rI p42 66 16).toInt := by rw [ep43, rI_ne (fun _ => by decide)]
                      have g18 : (rI p43 66 18).toInt = (rI p42 66 18).toInt := by rw [ep43, rI_ne (fun _ => by decide)]
                      have g19 : (rI p43 66 19).toInt = z28.toInt := by rw [ep43, rI_eq w3 (by decide)]
                      rcases hI2 with ⟨c1, c2, e, b, c3, c4, c5, c6, c7⟩ | ⟨b, c1, c2⟩
                      · have hZ := MO_ok (l := 5) (v := z29) (p := p) (p2 := p43) (b := b) (by omega) (by rw [ep43]; exact hI1.w rfl) (yP_uo (by omega) (by omega) c3) (by omega) (by omega) (by omega) (by omega) (by omega) (lV_neg (by omega) c7 hz29)
                        exact k0 _ _ hZ.1 hZ
                      · have hZ := MO_bad (l := 5) (v := z29) (p := p) (p2 := p43) (b := b) (by omega) (by rw [ep43]; exact hI1.w rfl) (yP_ub (by omega) (by omega) c1) (by omega)
                        exact k0 _ _ hZ.1 hZ
                ·
                  refine hp_s (pc' := 121) (st' := [.int y8]) rfl rfl rfl ?_
                  refine hp_go (pc' := 144) rfl rfl rfl ?_
                  refine hp_ri rfl rfl ?_
                  first
                  | exfalso; (try clear hI2); omega
                  | have g16 : (rI p43 66 16).toInt = (rI p42 66 16).toInt := by rw [ep43, rI_ne (fun _ => by decide)]
                    have g18 : (rI p43 66 18).toInt = (rI p42 66 18).toInt := by rw [ep43, rI_ne (fun _ => by decide)]
                    have g19 : (rI p43 66 19).toInt = z28.toInt := by rw [ep43, rI_eq w3 (by decide)]
                    rcases hI2 with ⟨c1, c2, e, b, c3, c4, c5, c6, c7⟩ | ⟨b, c1, c2⟩
                    · have hZ := MO_ok (l := 5) (v := y8) (p := p) (p2 := p43) (b := b) (by omega) (by rw [ep43]; exact hI1.w rfl) (yP_uo (by omega) (by omega) c3) (by omega) (by omega) (by omega) (by omega) (by omega) (lV_neg (by omega) c7 hy8)
                      exact k0 _ _ hZ.1 hZ
                    · have hZ := MO_bad (l := 5) (v := y8) (p := p) (p2 := p43) (b := b) (by omega) (by rw [ep43]; exact hI1.w rfl) (yP_ub (by omega) (by omega) c1) (by omega)
                      exact k0 _ _ hZ.1 hZ
              ·
                refine hp_s (pc' := 91) (st' := [.ref 66]) rfl rfl rfl ?_
                refine hp_s (pc' := 93) (st' := [.int 41, .ref 66]) rfl rfl rfl ?_
                refine hp_cv (r := 66) (o := 12) (kd := 1) (as := [.int 41]) (rest := []) (pc' := 96) rfl rfl rfl rfl rfl rfl rfl rfl rfl (fun d21 => ?_)
                refine s_takes (ci := 41) (by decide) (by first | assumption | omega) (by first | assumption | omega) ?_ ?_
                ·
                  intro p44 h154 h155 h156 h157
                  have htk := h156
                  have hMt := h157
                  obtain ⟨t1, t2, t3⟩ := Mat_r w3 hMt
                  refine hp_hw (fun w4 => ?_)
                  refine hp_id (st := [.int 1]) ?_
                  refine hp_go (pc' := 104) rfl rfl rfl ?_
                  refine hp_s (pc' := 105) (st' := [.ref 66]) rfl rfl rfl ?_
                  refine hp_s (pc' := 106) (st' := [.ref 66, .ref 66]) rfl rfl rfl ?_
                  refine hp_get (k := 19) (pc' := 109) (v := (rI p42 66 19)) rfl rfl rfl rfl rfl (by rw [h154.int (r := 66) (k := 19) rfl]) ?_
                  refine hp_s (pc' := 110) (st' := [.int 1, .int (rI p42 66 19), .ref 66]) rfl rfl rfl ?_
                  refine hp_z (pc' := 111) (e := (rI p42 66 19) - 1) (st' := [.ref 66]) rfl rfl rfl ?_
                  intro z30 hz30
                  have ez30 := i_sub hz30 (show (rI p42 66 19).toInt = (rI p42 66 19).toInt from rfl) (show (1 : Int32).toInt = 1 from by decide)
                  refine hp_put (k := 19) (pc' := 114) rfl rfl rfl rfl rfl ?_
                  intro p45 wp45 ep45
                  refine hp_s (pc' := 115) (st' := [.int y1]) rfl rfl rfl ?_
                  refine hp_s (pc' := 117) (st' := [.int 40, .int y1]) rfl rfl rfl ?_
                  refine hp_ic (pc' := 120) (t := 124) (a := y1.toInt) (b := 40) rfl rfl rfl rfl (by decide) (fun (h158 : y1.toInt ≠ 40) => ?_) (fun (h159 : ¬ (y1.toInt ≠ 40)) => ?_)
                  ·
                    refine hp_s (pc' := 125) (st' := [.int y1]) rfl rfl rfl ?_
                    refine hp_s (pc' := 127) (st' := [.int 45, .int y1]) rfl rfl rfl ?_
                    refine hp_ic (pc' := 130) (t := 135) (a := y1.toInt) (b := 45) rfl rfl rfl rfl (by decide) (fun (h160 : y1.toInt ≠ 45) => ?_) (fun (h161 : ¬ (y1.toInt ≠ 45)) => ?_)
                    ·
                      refine hp_s (pc' := 136) (st' := [.int y8]) rfl rfl rfl ?_
                      refine hp_if (pc' := 139) (t := 143) (a := y8.toInt) rfl rfl rfl rfl (fun (h162 : y8.toInt ≠ 0) => ?_) (fun (h163 : ¬ (y8.toInt ≠ 0)) => ?_)
                      ·
                        refine hp_s (pc' := 144) (st' := [.int 0]) rfl rfl rfl ?_
                        refine hp_ri rfl rfl ?_
                        first
                        | exfalso; (try clear hI2); omega
                        | have g16 : (rI p45 66 16).toInt = (rI p44 66 16).toInt := by rw [ep45, rI_ne (fun _ => by decide)]
                          have g18 : (rI p45 66 18).toInt = (rI p44 66 18).toInt := by rw [ep45, rI_ne (fun _ => by decide)]
                          have g19 : (rI p45 66 19).toInt = z30.toInt := by rw [ep45, rI_eq w4 (by decide)]
                          rcases hI2 with ⟨c1, c2, e, b, c3, c4, c5, c6, c7⟩ | ⟨b, c1, c2⟩
                          · have hin := fM_in (p := p) (j := b) (by have q := htk; rw [fM_nt hI1, i_to c4] at q; omega)
                            have hZ := MO_ok (l := 5) (v := 0) (p := p) (p2 := p45) (b := b + 1) (by omega) (by rw [ep45]; exact ((hI1.trans (Mat_nt hMt)).w rfl)) (yP_po (by omega) (by omega) c3 (by have q := htk; rw [fM_nt hI1, i_to c4] at q; omega)) (by omega) (by omega) (by push_cast; omega) (by omega) (by push_cast; omega) c7
                            exact k0 _ _ hZ.1 hZ
                          · exfalso; omega
                      ·
                        refine hp_s (pc' := 140) (st' := [.int 1]) rfl rfl rfl ?_
                        refine hp_go (pc' := 144) rfl rfl rfl ?_
                        refine hp_ri rfl rfl ?_
                        first
                        | exfalso; (try clear hI2); omega
                        | have g16 : (rI p45 66 16).toInt = (rI p44 66 16).toInt := by rw [ep45, rI_ne (fun _ => by decide)]
                          have g18 : (rI p45 66 18).toInt = (rI p44 66 18).toInt := by rw [ep45, rI_ne (fun _ => by decide)]
                          have g19 : (rI p45 66 19).toInt = z30.toInt := by rw [ep45, rI_eq w4 (by decide)]
                          rcases hI2 with ⟨c1, c2, e, b, c3, c4, c5, c6, c7⟩ | ⟨b, c1, c2⟩
                          · have hin := fM_in (p := p) (j := b) (by have q := htk; rw [fM_nt hI1, i_to c4] at q; omega)
                            have hZ := MO_ok (l := 5) (v := 1) (p := p) (p2 := p45) (b := b + 1) (by omega) (by rw [ep45]; exact ((hI1.trans (Mat_nt hMt)).w rfl)) (yP_po (by omega) (by omega) c3 (by have q := htk; rw [fM_nt hI1, i_to c4] at q; omega)) (by omega) (by omega) (by push_cast; omega) (by omega) (by push_cast; omega) c7
                            exact k0 _ _ hZ.1 hZ
                          · exfalso; omega
                    ·
                      refine hp_s (pc' := 131) (st' := [.int y8]) rfl rfl rfl ?_
                      refine hp_z (pc' := 132) (e := -y8) (st' := []) rfl rfl rfl ?_
                      intro z31 hz31
                      have ez31 := i_neg hz31 (show y8.toInt = y8.toInt from rfl)
                      refine hp_go (pc' := 144) rfl rfl rfl ?_
                      refine hp_ri rfl rfl ?_
                      first
                      | exfalso; (try clear hI2); omega
                      | have g16 : (rI p45 66 16).toInt = (rI p44 66 16).toInt := by rw [ep45, rI_ne (fun _ => by decide)]
                        have g18 : (rI p45 66 18).toInt = (rI p44 66 18).toInt := by rw [ep45, rI_ne (fun _ => by decide)]
                        have g19 : (rI p45 66 19).toInt = z30.toInt := by rw [ep45, rI_eq w4 (by decide)]
                        rcases hI2 with ⟨c1, c2, e, b, c3, c4, c5, c6, c7⟩ | ⟨b, c1, c2⟩
                        · have hin := fM_in (p := p) (j := b) (by have q := htk; rw [fM_nt hI1, i_to c4] at q; omega)
                          have hZ := MO_ok (l := 5) (v := z31) (p := p) (p2 := p45) (b := b + 1) (by omega) (by rw [ep45]; exact ((hI1.trans (Mat_nt hMt)).w rfl)) (yP_po (by omega) (by omega) c3 (by have q := htk; rw [fM_nt hI1, i_to c4] at q; omega)) (by omega) (by omega) (by push_cast; omega) (by omega) (by push_cast; omega) c7
                          exact k0 _ _ hZ.1 hZ
                        · exfalso; omega
                  ·
                    refine hp_s (pc' := 121) (st' := [.int y8]) rfl rfl rfl ?_
                    refine hp_go (pc' := 144) rfl rfl rfl ?_
                    refine hp_ri rfl rfl ?_
                    first
                    | exfalso; (try clear hI2); omega
                    | have g16 : (rI p45 66 16).toInt = (rI p44 66 16).toInt := by rw [ep45, rI_ne (fun _ => by decide)]
                      have g18 : (rI p45 66 18).toInt = (rI p44 66 18).toInt := by rw [ep45, rI_ne (fun _ => by decide)]
                      have g19 : (rI p45 66 19).toInt = z30.toInt := by rw [ep45, rI_eq w4 (by decide)]
                      rcases hI2 with ⟨c1, c2, e, b, c3, c4, c5, c6, c7⟩ | ⟨b, c1, c2⟩
                      · have hin := fM_in (p := p) (j := b) (by have q := htk; rw [fM_nt hI1, i_to c4] at q; omega)
                        have hZ := MO_ok (l := 5) (v := y8) (p := p) (p2 := p45) (b := b + 1) (by omega) (by rw [ep45]; exact ((hI1.trans (Mat_nt hMt)).w rfl)) (yP_po (by omega) (by omega) c3 (by have q := htk; rw [fM_nt hI1, i_to c4] at q; omega)) (by omega) (by omega) (by push_cast; omega) (by omega) (by push_cast; omega) c7
                        exact k0 _ _ hZ.1 hZ
                      · exfalso; omega
                ·
                  intro h164
                  have htk := h164
                  refine hp_id (st := [.int 0]) ?_
                  refine hp_go (pc' := 99) rfl rfl rfl ?_
                  refine hp_s (pc' := 100) (st' := [.ref 66]) rfl rfl rfl ?_
                  refine hp_cv (r := 66) (o := 12) (kd := 1) (as := []) (rest := []) (pc' := 103) rfl rfl rfl rfl rfl rfl rfl rfl rfl (fun d22 => ?_)
                  refine s_wrong ?_ ?_
                  ·
                    intro p46 ep46 h165
                    refine hp_id (st := [.int 0]) ?_
                    refine hp_ri rfl rfl ?_
                    first
                    | exfalso; (try clear hI2); omega
                    | rcases hI2 with ⟨c1, c2, e, b, c3, c4, c5, c6, c7⟩ | ⟨b, c1, c2⟩
                      · have hZ := MO_bad (l := 5) (v := 0) (b := b) (p := p) (p2 := p46) (by omega) (by rw [ep46]; exact hI1.w rfl) (yP_pn (by omega) (by omega) c3 (by have q := htk; rw [fM_nt hI1, i_to c4] at q; omega)) (by rw [ep46, rI_eq w3 (by decide)]; exact c4)
                        exact k0 _ _ hZ.1 hZ
                      · exfalso; omega
                  ·
                    intro p47 ep47 h166
                    refine hp_id (st := [.int 0]) ?_
                    refine hp_ri rfl rfl ?_
                    first
                    | exfalso; (try clear hI2); omega
                    | rcases hI2 with ⟨c1, c2, e, b, c3, c4, c5, c6, c7⟩ | ⟨b, c1, c2⟩
                      · exfalso; omega
                      · have hZ := MO_bad (l := 5) (v := 0) (b := b) (p := p) (p2 := p47) (by omega) (by rw [ep47]; exact hI1.w rfl) (yP_pb (by omega) (by omega) c1) (by rw [ep47, rI_eq w3 (by decide)]; exact c2)
                        exact k0 _ _ hZ.1 hZ
          ·
            refine hp_s (pc' := 42) (st' := [.ref 66]) rfl rfl rfl ?_
            refine hp_cv (r := 66) (o := 12) (kd := 1) (as := []) (rest := []) (pc' := 45) rfl rfl rfl rfl rfl rfl rfl rfl rfl (fun d23 => ?_)
            refine s_wrong ?_ ?_
            ·
              intro p48 ep48 h167
              refine hp_id (st := [.int 0]) ?_
              refine hp_ri rfl rfl ?_
              have hZ := MO_bad (l := 5) (v := 0) (b := (rI p 66 16).toInt.toNat) (p := p) (p2 := p48) (by omega) (by rw [ep48]; exact (hNt.refl _ _).w rfl) (yP_full (by omega) (by omega)) (by rw [ep48, rI_eq wp (by decide)]; omega)
              exact k0 _ _ hZ.1 hZ
            ·
              intro p49 ep49 h168
              refine hp_id (st := [.int 0]) ?_
              refine hp_ri rfl rfl ?_
              exfalso; omega
  ·
    refine hp_s (pc' := 8) (st' := [.int 0]) rfl rfl rfl ?_
    refine hp_ri rfl rfl ?_
    exact k0 _ _ (hNt.refl _ _) ⟨hNt.refl _ _, Or.inl ⟨by omega, rfl⟩⟩
theorem RC_mo_all {ro : List (List Int32)} : ∀ n : Nat, RC_mo ro n
  | 0 => ⟨fun _ _ => hp_0, fun _ _ => hp_0, fun _ _ => hp_0, fun _ _ => hp_0, fun _ _ => hp_0, fun _ _ => hp_0⟩
  | n + 1 => ⟨tM_ei (RC_mo_all n), tM_bo (RC_mo_all n), tM_co (RC_mo_all n), tM_su (RC_mo_all n), tM_pr (RC_mo_all n), tM_on (RC_mo_all n)⟩
theorem M_ei {ro : List (List Int32)} {n : Nat} {d : Nat} {p : xH} {Q : Option Value → xH → Prop}  (pre0 : hMp p) (k0 : ∀ z : Int32, ∀ p2 : xH, (hNt T_m p p2) → (MO 0 p p2 z) → Q (some (.int z)) p2) : hP ro n d (12, 3, 1, 1, k200) 0 (lv_args 0 [.ref 66]) [] p Q := rM_ei (RC_mo_all n) pre0 k0
theorem M_bo {ro : List (List Int32)} {n : Nat} {d : Nat} {p : xH} {Q : Option Value → xH → Prop}  (pre0 : hMp p) (k0 : ∀ z : Int32, ∀ p2 : xH, (hNt T_m p p2) → (MO 1 p p2 z) → Q (some (.int z)) p2) : hP ro n d (12, 3, 1, 1, k201) 0 (lv_args 0 [.ref 66]) [] p Q := rM_bo (RC_mo_all n) pre0 k0
theorem M_co {ro : List (List Int32)} {n : Nat} {d : Nat} {p : xH} {Q : Option Value → xH → Prop}  (pre0 : hMp p) (k0 : ∀ z : Int32, ∀ p2 : xH, (hNt T_m p p2) → (MO 2 p p2 z) → Q (some (.int z)) p2) : hP ro n d (12, 4, 1, 1, k202) 0 (lv_args 0 [.ref 66]) [] p Q := rM_co (RC_mo_all n) pre0 k0
theorem M_su {ro : List (List Int32)} {n : Nat} {d : Nat} {p : xH} {Q : Option Value → xH → Prop}  (pre0 : hMp p) (k0 : ∀ z : Int32, ∀ p2 : xH, (hNt T_m p p2) → (MO 3 p p2 z) → Q (some (.int z)) p2) : hP ro n d (12, 4, 1, 1, k203) 0 (lv_args 0 [.ref 66]) [] p Q := rM_su (RC_mo_all n) pre0 k0
theorem M_pr {ro : List (List Int32)} {n : Nat} {d : Nat} {p : xH} {Q : Option Value → xH → Prop}  (pre0 : hMp p) (k0 : ∀ z : Int32, ∀ p2 : xH, (hNt T_m p p2) → (MO 4 p p2 z) → Q (some (.int z)) p2) : hP ro n d (12, 4, 1, 1, k204) 0 (lv_args 0 [.ref 66]) [] p Q := rM_pr (RC_mo_all n) pre0 k0
theorem M_on {ro : List (List Int32)} {n : Nat} {d : Nat} {p : xH} {Q : Option Value → xH → Prop}  (pre0 : hMp p) (k0 : ∀ z : Int32, ∀ p2 : xH, (hNt T_m p p2) → (MO 5 p p2 z) → Q (some (.int z)) p2) : hP ro n d (12, 5, 1, 1, k206) 0 (lv_args 0 [.ref 66]) [] p Q := rM_on (RC_mo_all n) pre0 k0
