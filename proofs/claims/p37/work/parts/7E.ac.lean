/-! the relation of the acts; act, trace -/
abbrev F_ac : List (Nat × Nat) := [(57, 3), (66, 47), (59, 9999), (96, 9999)]
def C_ac (p : xH) : Prop := rI p 57 3 = rI p 66 47 ∧ ∀ k, rV p 59 k = rV p 96 k
theorem C_ac_fr {p p1 : xH} (h : hSm F_ac p p1) (c : C_ac p) : C_ac p1 := ⟨by rw [h.int (r := 57) (k := 3) rfl, h.int (r := 66) (k := 47) rfl]; exact c.1, fun k => by rw [h 59 k rfl, h 96 k rfl]; exact c.2 k⟩
def hEq (q q' : xH) : Prop := rI q 57 3 = rI q' 66 47 ∧ ∀ k, rV q 59 k = rV q' 96 k
theorem hEq_1 {q q' : xH} {v : Int32} (w : hW q) (w' : hW q') (h : hEq q q') : hEq (hB1 q v) (hM1 q' v) := by
  obtain ⟨h1, h2⟩ := h
  unfold hB1 hM1
  rw [← h1]
  by_cases z : (rI q 57 3).toInt < 24
  · rw [if_pos z, if_pos z]
    have w1 : hW (wV q 59 (rI q 57 3).toInt.toNat (.int v)) := hW_wV w rfl
    have w2 : hW (wV q' 96 (rI q 57 3).toInt.toNat (.int v)) := hW_wV w' rfl
    refine ⟨by rw [rI_eq w1 (by decide), rI_eq w2 (by decide)], fun k => ?_⟩
    rw [rV_ne (fun e => absurd e (by decide)), rV_ne (r' := 96) (r := 66) (fun e => absurd e (by decide)), rV_w w (show _ < 24 by omega), rV_w w' (show _ < 24 by omega), h2 k]
  · rw [if_neg z, if_neg z]
    refine ⟨by rw [rI_eq w (by decide), rI_eq w' (by decide)], fun k => ?_⟩
    rw [rV_ne (fun e => absurd e (by decide)), rV_ne (r' := 96) (r := 66) (fun e => absurd e (by decide)), h2 k]
theorem hEq_l : ∀ {l : List Int32} {q q' : xH}, hW q → hW q' → hEq q q' → hEq (hBg q l) (hMg q' l)
  | [], _, _, _, _, h => h
  | _ :: l, _, _, w, w', h => hEq_l (l := l) (hB1_w w) (hM1_w w') (hEq_1 w w' h)
theorem hBg_w : ∀ {l : List Int32} {q : xH}, hW q → hW (hBg q l)
  | [], _, h => h
  | _ :: l, _, h => hBg_w (l := l) (hB1_w h)
abbrev T_act : List (Nat × Nat) := [(57, 3), (57, 4), (59, 9999), (66, 47), (66, 48), (66, 49), (96, 9999)]
theorem hNt_B1 {p q : xH} {v : Int32} (h : hNt T_act p q) : hNt T_act p (hB1 q v) := by
  unfold hB1
  by_cases z : (rI q 57 3).toInt < 24
  · rw [if_pos z]; exact (h.w rfl).w rfl
  · rw [if_neg z]; exact h.w rfl
theorem hNt_M1 {p q : xH} {v : Int32} (h : hNt T_act p q) : hNt T_act p (hM1 q v) := by
  unfold hM1
  by_cases z : (rI q 66 47).toInt < 24
  · rw [if_pos z]; exact (h.w rfl).w rfl
  · rw [if_neg z]; exact h.w rfl
theorem hNt_B {p : xH} : ∀ {l : List Int32} {q : xH}, hNt T_act p q → hNt T_act p (hBg q l)
  | [], _, h => h
  | _ :: l, _, h => hNt_B (l := l) (hNt_B1 h)
theorem hNt_M {p : xH} : ∀ {l : List Int32} {q : xH}, hNt T_act p q → hNt T_act p (hMg q l)
  | [], _, h => h
  | _ :: l, _, h => hNt_M (l := l) (hNt_M1 h)
theorem gA_P {p : xH} {t : Int32} (w : hW p) : gA (wV (wV p 57 3 (.int 0)) 57 4 (.int t)) = t := by
  have w1 : hW (wV p 57 3 (.int 0)) := hW_wV w rfl
  unfold gA; rw [rI_eq w1 (by decide)]
theorem gO_P {p : xH} {t : Int32} (w : hW p) : gO (wV (wV p 57 3 (.int 0)) 57 4 (.int t)) = (rI p 58 t.toInt.toNat).toInt := by
  have w1 : hW (wV p 57 3 (.int 0)) := hW_wV w rfl
  unfold gO; rw [rI_eq w1 (by decide), rI_o (by decide), rI_o (by decide)]
theorem mA_Q {q : xH} {k t : Int32} (w : hW q) : mA (wV (wV (wV q 66 47 (.int 0)) 66 48 (.int k)) 66 49 (.int t)) = t := by
  have w1 : hW (wV q 66 47 (.int 0)) := hW_wV w rfl
  have w2 : hW (wV (wV q 66 47 (.int 0)) 66 48 (.int k)) := hW_wV w1 rfl
  unfold mA; rw [rI_eq w2 (by decide)]
theorem mO_Q {q : xH} {k t : Int32} (w : hW q) : mO (wV (wV (wV q 66 47 (.int 0)) 66 48 (.int k)) 66 49 (.int t)) = k.toInt := by
  have w1 : hW (wV q 66 47 (.int 0)) := hW_wV w rfl
  unfold mO; rw [rI_ne (fun _ => by decide), rI_eq w1 (by decide)]
theorem ac_fin {p p1 p2 : xH} {t k : Int32} {L : List Int32} (w : hW p) (hA : C_ac p) (hp : p1 = hBg (wV (wV p 57 3 (.int 0)) 57 4 (.int t)) L) (gp : p2 = hMg (wV (wV (wV p1 66 47 (.int 0)) 66 48 (.int k)) 66 49 (.int t)) L) : hNt T_act p p2 ∧ C_ac p2 := by
  have w1 : hW (wV p 57 3 (.int 0)) := hW_wV w rfl
  have w2 : hW (wV (wV p 57 3 (.int 0)) 57 4 (.int t)) := hW_wV w1 rfl
  have wp1 : hW p1 := by rw [hp]; exact hBg_w w2
  have v1 : hW (wV p1 66 47 (.int 0)) := hW_wV wp1 rfl
  have v2 : hW (wV (wV p1 66 47 (.int 0)) 66 48 (.int k)) := hW_wV v1 rfl
  have v3 : hW (wV (wV (wV p1 66 47 (.int 0)) 66 48 (.int k)) 66 49 (.int t)) := hW_wV v2 rfl
  have n1 : hNt T_act p p1 := by rw [hp]; exact hNt_B (((hNt.refl _ _).w rfl).w rfl)
  have e : hEq (wV (wV p 57 3 (.int 0)) 57 4 (.int t)) (wV (wV (wV p1 66 47 (.int 0)) 66 48 (.int k)) 66 49 (.int t)) := by
    refine ⟨by rw [rI_ne (fun _ => by decide), rI_eq w (by decide), rI_ne (fun _ => by decide), rI_ne (fun _ => by decide), rI_eq wp1 (by decide)], fun j => ?_⟩
    rw [rV_ne (fun e => absurd e (by decide)), rV_ne (fun e => absurd e (by decide)), rV_ne (fun e => absurd e (by decide)), rV_ne (fun e => absurd e (by decide)), rV_ne (fun e => absurd e (by decide)), hp, hBg_o (fun e => absurd e (by decide)) (by decide), rV_ne (fun e => absurd e (by decide)), rV_ne (fun e => absurd e (by decide))]
    exact hA.2 j
  have f := hEq_l (l := L) w2 v3 e
  rw [← hp, ← gp] at f
  have dn : ∀ r j, r ≠ 66 → r ≠ 96 → rV p2 r j = rV p1 r j := fun r j x1 x2 => by rw [gp, hMg_o (fun e => absurd e x1) x2, rV_ne (fun e => absurd e x1), rV_ne (fun e => absurd e x1), rV_ne (fun e => absurd e x1)]
  refine ⟨by rw [gp]; exact hNt_M (((n1.w rfl).w rfl).w rfl), ?_, fun j => ?_⟩
  · rw [show rI p2 57 3 = rI p1 57 3 from rI_same (dn 57 3 (by decide) (by decide))]; exact f.1
  · rw [dn 59 j (by decide) (by decide)]; exact f.2 j
theorem ac_bad {p p1 p2 : xH} (w : hW p) (hA : C_ac p) (e1 : p1 = wV p 57 3 (.int 0)) (e2 : p2 = wV p1 66 47 (.int 0)) : hNt T_act p p2 ∧ C_ac p2 := by
  have w1 : hW p1 := by rw [e1]; exact hW_wV w rfl
  refine ⟨by rw [e2, e1]; exact ((hNt.refl _ _).w rfl).w rfl, ?_, fun j => ?_⟩
  · rw [e2, rI_o (by decide), rI_eq w1 (by decide), e1, rI_eq w (by decide)]
  · rw [e2, rV_ne (fun e => absurd e (by decide)), rV_ne (fun e => absurd e (by decide)), e1, rV_ne (fun e => absurd e (by decide)), rV_ne (fun e => absurd e (by decide))]; exact hA.2 j
theorem t_act {ro : List (List Int32)} (hro : jro ro) {p : xH} (hG : GH jGG p) (hT : C_tw p) (hA : C_ac p) (a0 a1 a2 : Int32) {n m d d' : Nat} :
    hP ro n d (11, 4, 1, 1, k163) 0 (lv_args 0 [.ref 0, .int a0, .int a1, .int a2]) [] p (fun v1 p1 => hP ro m d' (12, 4, 1, 1, k261) 0 (lv_args 0 [.ref 66, .int a0, .int a1, .int a2]) [] p1 (fun v2 p2 => v1 = v2 ∧ hNt T_act p p2 ∧ C_ac p2)) := by
  have hw := hW_of hG
  have b44 := gh_bodies hG
  obtain ⟨hc, hr⟩ := hT
  have hk : hKi p := fun j => gh_58 hG j
  have h5 : a1 = 0 ∨ a1 = 1 ∨ a1 = 2 ∨ a1 = 3 ∨ (a1.toInt < 0 ∨ 3 < a1.toInt) := by
    rcases (show a1.toInt = 0 ∨ a1.toInt = 1 ∨ a1.toInt = 2 ∨ a1.toInt = 3 ∨ (a1.toInt < 0 ∨ 3 < a1.toInt) by omega) with e | e | e | e | e
    · exact Or.inl (Int32.toInt_inj.mp (e.trans (by decide)))
    · exact Or.inr (Or.inl (Int32.toInt_inj.mp (e.trans (by decide))))
    · exact Or.inr (Or.inr (Or.inl (Int32.toInt_inj.mp (e.trans (by decide)))))
    · exact Or.inr (Or.inr (Or.inr (Or.inl (Int32.toInt_inj.mp (e.trans (by decide))))))
    · exact Or.inr (Or.inr (Or.inr (Or.inr e)))
  rcases h5 with e | e | e | e | e
  · subst e
    refine X_act0 hro (ti := a0.toInt) rfl (xi := a2.toInt) rfl hk ?_ ?_
    · intro p1 e1 h1
      have f44 : (rI p1 66 44).toInt = (rI p 57 1).toInt := by rw [e1, rI_o (by decide), hc]
      refine M_act0 (ti := a0.toInt) rfl (xi := a2.toInt) rfl (by rw [f44, hc]; exact b44.1) ?_ ?_
      · intro p2 e2 h2; exact ⟨rfl, ac_bad hw hA e1 e2⟩
      · intros; exfalso; omega
    · intro z p1 h1 h2 hz hp
      have n1 : hNt T_act p p1 := by rw [hp]; exact hNt_B (((hNt.refl _ _).w rfl).w rfl)
      have w1 : hW p1 := by
        have u1 : hW (wV p 57 3 (.int 0)) := hW_wV hw rfl
        have u2 : hW (wV (wV p 57 3 (.int 0)) 57 4 (.int a0)) := hW_wV u1 rfl
        rw [hp]; exact hBg_w u2
      have f44 : (rI p1 66 44).toInt = (rI p 57 1).toInt := by rw [n1.int (r := 66) (k := 44) rfl, hc]
      have f95 : rI p1 95 a0.toInt.toNat = rI p 58 a0.toInt.toNat := rI_same ((n1 95 _ rfl).trans (hr _).symm)
      refine M_act0 (ti := a0.toInt) rfl (xi := a2.toInt) rfl (by rw [f44, hc]; exact b44.1) ?_ ?_
      · intros; exfalso; omega
      · intro z2 p2 g1 g2 gz gp
        simp only [gA_P hw, gO_P hw] at hz hp
        simp only [mA_Q w1, mO_Q w1, f95] at gz
        have gp2 := gp
        try simp only [mO_Q w1] at gp2
        rw [show (rI p1 95 a0.toInt.toNat).toInt = (rI p 58 a0.toInt.toNat).toInt by rw [f95]] at gp2
        exact ⟨by rw [hz, gz], ac_fin hw hA hp gp2⟩
  · subst e
    refine X_act1 hro (ti := a0.toInt) rfl (xi := a2.toInt) rfl hk ?_ ?_
    · intro p1 e1 h1
      have f44 : (rI p1 66 44).toInt = (rI p 57 1).toInt := by rw [e1, rI_o (by decide), hc]
      refine M_act1 (ti := a0.toInt) rfl (xi := a2.toInt) rfl (by rw [f44, hc]; exact b44.1) ?_ ?_
      · intro p2 e2 h2; exact ⟨rfl, ac_bad hw hA e1 e2⟩
      · intros; exfalso; omega
    · intro z p1 h1 h2 hz hp
      have n1 : hNt T_act p p1 := by rw [hp]; exact hNt_B (((hNt.refl _ _).w rfl).w rfl)
      have w1 : hW p1 := by
        have u1 : hW (wV p 57 3 (.int 0)) := hW_wV hw rfl
        have u2 : hW (wV (wV p 57 3 (.int 0)) 57 4 (.int a0)) := hW_wV u1 rfl
        rw [hp]; exact hBg_w u2
      have f44 : (rI p1 66 44).toInt = (rI p 57 1).toInt := by rw [n1.int (r := 66) (k := 44) rfl, hc]
      have f95 : rI p1 95 a0.toInt.toNat = rI p 58 a0.toInt.toNat := rI_same ((n1 95 _ rfl).trans (hr _).symm)
      refine M_act1 (ti := a0.toInt) rfl (xi := a2.toInt) rfl (by rw [f44, hc]; exact b44.1) ?_ ?_
      · intros; exfalso; omega
      · intro z2 p2 g1 g2 gz gp
        simp only [gA_P hw, gO_P hw] at hz hp
        simp only [mA_Q w1, mO_Q w1, f95] at gz
        have gp2 := gp
        try simp only [mO_Q w1] at gp2
        rw [show (rI p1 95 a0.toInt.toNat).toInt = (rI p 58 a0.toInt.toNat).toInt by rw [f95]] at gp2
        exact ⟨by rw [hz, gz], ac_fin hw hA hp gp2⟩
  · subst e
    refine X_act2 hro (ti := a0.toInt) rfl (xi := a2.toInt) rfl hk ?_ ?_
    · intro p1 e1 h1
      have f44 : (rI p1 66 44).toInt = (rI p 57 1).toInt := by rw [e1, rI_o (by decide), hc]
      refine M_act2 (ti := a0.toInt) rfl (xi := a2.toInt) rfl (by rw [f44, hc]; exact b44.1) ?_ ?_
      · intro p2 e2 h2; exact ⟨rfl, ac_bad hw hA e1 e2⟩
      · intros; exfalso; omega
    · intro z p1 h1 h2 hz hp
      have n1 : hNt T_act p p1 := by rw [hp]; exact hNt_B (((hNt.refl _ _).w rfl).w rfl)
      have w1 : hW p1 := by
        have u1 : hW (wV p 57 3 (.int 0)) := hW_wV hw rfl
        have u2 : hW (wV (wV p 57 3 (.int 0)) 57 4 (.int a0)) := hW_wV u1 rfl
        rw [hp]; exact hBg_w u2
      have f44 : (rI p1 66 44).toInt = (rI p 57 1).toInt := by rw [n1.int (r := 66) (k := 44) rfl, hc]
      have f95 : rI p1 95 a0.toInt.toNat = rI p 58 a0.toInt.toNat := rI_same ((n1 95 _ rfl).trans (hr _).symm)
      refine M_act2 (ti := a0.toInt) rfl (xi := a2.toInt) rfl (by rw [f44, hc]; exact b44.1) ?_ ?_
      · intros; exfalso; omega
      · intro z2 p2 g1 g2 gz gp
        simp only [gA_P hw, gO_P hw] at hz hp
        simp only [mA_Q w1, mO_Q w1, f95] at gz
        have gp2 := gp
        try simp only [mO_Q w1] at gp2
        rw [show (rI p1 95 a0.toInt.toNat).toInt = (rI p 58 a0.toInt.toNat).toInt by rw [f95]] at gp2
        exact ⟨by rw [hz, gz], ac_fin hw hA hp gp2⟩
  · subst e
    refine X_act3 hro (ti := a0.toInt) rfl (xi := a2.toInt) rfl hk ?_ ?_
    · intro p1 e1 h1
      have f44 : (rI p1 66 44).toInt = (rI p 57 1).toInt := by rw [e1, rI_o (by decide), hc]
      refine M_act3 (ti := a0.toInt) rfl (xi := a2.toInt) rfl (by rw [f44, hc]; exact b44.1) ?_ ?_
      · intro p2 e2 h2; exact ⟨rfl, ac_bad hw hA e1 e2⟩
      · intros; exfalso; omega
    · intro z p1 h1 h2 hz hp
      have n1 : hNt T_act p p1 := by rw [hp]; exact hNt_B (((hNt.refl _ _).w rfl).w rfl)
      have w1 : hW p1 := by
        have u1 : hW (wV p 57 3 (.int 0)) := hW_wV hw rfl
        have u2 : hW (wV (wV p 57 3 (.int 0)) 57 4 (.int a0)) := hW_wV u1 rfl
        rw [hp]; exact hBg_w u2
      have f44 : (rI p1 66 44).toInt = (rI p 57 1).toInt := by rw [n1.int (r := 66) (k := 44) rfl, hc]
      have f95 : rI p1 95 a0.toInt.toNat = rI p 58 a0.toInt.toNat := rI_same ((n1 95 _ rfl).trans (hr _).symm)
      refine M_act3 (ti := a0.toInt) rfl (xi := a2.toInt) rfl (by rw [f44, hc]; exact b44.1) ?_ ?_
      · intros; exfalso; omega
      · intro z2 p2 g1 g2 gz gp
        simp only [gA_P hw, gO_P hw] at hz hp
        simp only [mA_Q w1, mO_Q w1, f95] at gz
        have gp2 := gp
        try simp only [mO_Q w1] at gp2
        rw [show (rI p1 95 a0.toInt.toNat).toInt = (rI p 58 a0.toInt.toNat).toInt by rw [f95]] at gp2
        exact ⟨by rw [hz, gz], ac_fin hw hA hp gp2⟩
  · refine X_actB (ti := a0.toInt) rfl (wi := a1.toInt) rfl (xi := a2.toInt) rfl e ?_
    intro p1 e1
    have f44 : (rI p1 66 44).toInt = (rI p 66 44).toInt := by rw [e1, rI_o (by decide)]
    have w1 : hW p1 := by rw [e1]; exact hW_wV hw rfl
    refine M_actB (ti := a0.toInt) rfl (wi := a1.toInt) rfl (xi := a2.toInt) rfl (by rw [f44]; exact b44.1) e ?_ ?_
    · intro p2 e2 h2; exact ⟨rfl, ac_bad hw hA e1 e2⟩
    · intro p2 e2 h2 h3
      obtain ⟨b1, b2⟩ := ac_bad hw hA e1 (p2 := wV p1 66 47 (.int 0)) rfl
      exact ⟨rfl, by rw [e2]; exact (b1.w rfl).w rfl, by rw [e2, rI_o (by decide), rI_o (by decide), rI_ne (r' := 66) (k' := 47) (fun _ => by decide), rI_ne (r' := 66) (k' := 47) (fun _ => by decide)]; exact b2.1, fun j => by rw [e2, rV_ne (fun e => absurd e (by decide)), rV_ne (fun e => absurd e (by decide)), rV_ne (r' := 96) (fun e => absurd e (by decide)), rV_ne (r' := 96) (fun e => absurd e (by decide))]; exact b2.2 j⟩
theorem t_trace {ro : List (List Int32)} {p : xH} (hA : C_ac p) (a0 : Int32) {n m d d' : Nat} :
    hP ro n d (11, 2, 1, 1, k164) 0 (lv_args 0 [.ref 0, .int a0]) [] p (fun v1 p1 => hP ro m d' (12, 2, 1, 1, k262) 0 (lv_args 0 [.ref 66, .int a0]) [] p1 (fun v2 p2 => v1 = v2 ∧ hNt [] p p2)) := by
  obtain ⟨c1, c2⟩ := hA
  refine X_trace (xi := a0.toInt) rfl ?_ ?_
  · intro h1
    rw [c1] at h1
    refine M_trace (xi := a0.toInt) rfl ?_ ?_
    · intros; exact ⟨rfl, hNt.refl _ _⟩
    · intros; exfalso; omega
  · intro h1 h2 h3
    rw [c1] at h3
    refine M_trace (xi := a0.toInt) rfl ?_ ?_
    · intros; exfalso; omega
    · intros; exact ⟨by rw [rI_row c2], hNt.refl _ _⟩
