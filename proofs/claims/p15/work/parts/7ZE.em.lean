/-! an errand takes a minute at least -/
abbrev F_em : List (Nat × Nat) := [(17, 9999), (19, 9999)]
def C_em (p : xH) : Prop := ∀ n, n < 7 → ∀ k, k < (rI p 17 n).toInt.toNat → 1 ≤ (rI p 19 (4 * n + k)).toInt
theorem C_em_fr {p p1 : xH} (h : hSm F_em p p1) (c : C_em p) : C_em p1 := fun n hn k hk => by
  rw [h.int (r := 17) rfl] at hk
  rw [h.int (r := 19) rfl]
  exact c n hn k hk
theorem x_errand_em {ro : List (List Int32)} {p : xH} (hG : GH jGG p) (hc : C_em p) (a0 a1 : Int32) {n d : Nat} :
    hP ro n d (11, 5, 1, 1, k128) 0 (lv_args 0 [.ref 0, .int a0, .int a1]) [] p (fun _ p1 => C_em p1 ∧ rI p1 66 6 = rI p 66 6 ∧ ∀ k, rI p1 72 k = rI p 72 k) := by
  have hw := hW_of hG
  have hb := gh_sz hG
  have b17 := gh_17 hG a0.toInt.toNat
  refine X_errand (xi := a0.toInt) (fi := a1.toInt) rfl rfl hb.2 b17.1 ?_ ?_ ?_
  · intros; exact ⟨hc, rfl, fun _ => rfl⟩
  · intros; exact ⟨hc, rfl, fun _ => rfl⟩
  · intro z p1 e1 h1 h2 h3 h4 h5 h6 h7 hz
    have i1 : (4 * a0.toInt + (rI p 17 a0.toInt.toNat).toInt).toNat < 28 := by omega
    have i2 : a0.toInt.toNat < 7 := by omega
    have w1 : hW (wV p 18 (4 * a0.toInt + (rI p 17 a0.toInt.toNat).toInt).toNat (.int (a1 / 10))) := hW_wV hw rfl
    have w2 : hW (wV (wV p 18 (4 * a0.toInt + (rI p 17 a0.toInt.toNat).toInt).toNat (.int (a1 / 10))) 19 (4 * a0.toInt + (rI p 17 a0.toInt.toNat).toInt).toNat (.int (a1 - a1 / 10 * 10))) := hW_wV w1 rfl
    have r17 : ∀ k, rI p1 17 k = if k = a0.toInt.toNat then rI p 17 a0.toInt.toNat + 1 else rI p 17 k := fun k => by
      rw [e1, rI_w w2 (show _ < 7 from i2), rI_o (by decide), rI_o (by decide)]
    have r19 : ∀ k, rI p1 19 k = if k = (4 * a0.toInt + (rI p 17 a0.toInt.toNat).toInt).toNat then a1 - a1 / 10 * 10 else rI p 19 k := fun k => by
      rw [e1, rI_o (by decide), rI_w w1 (show _ < 28 from i1), rI_o (by decide)]
    have hv := i_rem (z := a1 - a1 / 10 * 10) rfl (show a1.toInt = a1.toInt from rfl) (show (10 : Int32).toInt = 10 from by decide) (by decide)
    have hq := i_add (z := rI p 17 a0.toInt.toNat + 1) rfl rfl (show (1 : Int32).toInt = 1 from by decide)
    refine ⟨fun x hx k hk => ?_, by rw [e1, rI_o (by decide), rI_o (by decide), rI_o (by decide)], fun k => by rw [e1, rI_o (by decide), rI_o (by decide), rI_o (by decide)]⟩
    rw [r17] at hk
    rw [r19]
    have bx := gh_17 hG x
    by_cases g : x = a0.toInt.toNat
    · rw [if_pos g] at hk
      by_cases g2 : k = (rI p 17 a0.toInt.toNat).toInt.toNat
      · rw [if_pos (by omega)]; omega
      · rw [if_neg (by omega)]
        exact hc x hx k (by rw [g]; omega)
    · rw [if_neg g] at hk
      rw [if_neg (by omega)]
      exact hc x hx k hk
theorem t_errand2 {ro : List (List Int32)} {p : xH} (hG : GH jGG p) (hZ : C_sz p) (hE : C_er p) (hM : C_em p) (a0 a1 : Int32) {n m d d' : Nat} :
    hP ro n d (11, 5, 1, 1, k128) 0 (lv_args 0 [.ref 0, .int a0, .int a1]) [] p (fun v1 p1 => hP ro m d' (12, 3, 1, 1, k187) 0 (lv_args 0 [.ref 66, .int a0, .int a1]) [] p1 (fun v2 p2 => v1 = v2 ∧ hNt T_err p p2 ∧ C_er p2 ∧ C_em p2)) := by
  have hb := gh_sz hG
  have hZ0 : rI p 13 7 = rI p 66 6 := hZ
  have b17 := gh_17 hG a0.toInt.toNat
  have e17 : rI p 17 a0.toInt.toNat = rI p 72 a0.toInt.toNat := rI_same (hE.1 _)
  refine hp_imp (hp_and (t_errand (m := m) (d' := d') hG hZ hE a0 a1) (x_errand_em hG hM a0 a1)) (fun v1 p1 _ h => ?_)
  obtain ⟨ha, hm, f6, f72⟩ := h
  have key : hP ro m d' (12, 3, 1, 1, k187) 0 (lv_args 0 [.ref 66, .int a0, .int a1]) [] p1 (fun _ p2 => C_em p2) := by
    refine M_errand (xi := a0.toInt) (fi := a1.toInt) rfl rfl (by rw [f6, ← hZ0]; exact hb.1) (by rw [f6, ← hZ0]; exact hb.2) (by rw [f72, ← e17]; exact b17.1) (by rw [f72, ← e17]; exact b17.2) ?_ ?_ ?_
    · intros; exact hm
    · intros; exact hm
    · intro z p2 e2 _ _ _ _ _ _ _ _
      exact C_em_fr ((show hNt [(72, 9999), (73, 9999), (74, 9999)] p1 p2 from by rw [e2]; exact (((hNt.refl _ _).w rfl).w rfl).w rfl).sm (by decide)) hm
  exact hp_imp (hp_and ha key) (fun v2 p2 _ k => ⟨k.1.1, k.1.2.1, k.1.2.2, k.2⟩)
theorem x_clear_em {ro : List (List Int32)} {p : xH} (hG : GH jGG p) (hc : C_em p) (a0 : Int32) {n d : Nat} :
    hP ro n d (11, 2, 1, 1, k129) 0 (lv_args 0 [.ref 0, .int a0]) [] p (fun _ p1 => C_em p1 ∧ rI p1 66 6 = rI p 66 6) := by
  have hw := hW_of hG
  have hb := gh_sz hG
  refine X_clear (xi := a0.toInt) rfl ?_ ?_
  · intros; exact ⟨hc, rfl⟩
  · intro p1 e1 h1 h2
    refine ⟨fun x hx k hk => ?_, by rw [e1, rI_o (by decide)]⟩
    rw [e1, rI_w hw (show _ < 7 by omega)] at hk
    rw [e1, rI_o (by decide)]
    by_cases g : x = a0.toInt.toNat
    · rw [if_pos g] at hk
      have h00 : (0 : Int32).toInt = 0 := by decide
      omega
    · rw [if_neg g] at hk
      exact hc x hx k hk
theorem t_clear2 {ro : List (List Int32)} {p : xH} (hG : GH jGG p) (hZ : C_sz p) (hE : C_er p) (hM : C_em p) (a0 : Int32) {n m d d' : Nat} :
    hP ro n d (11, 2, 1, 1, k129) 0 (lv_args 0 [.ref 0, .int a0]) [] p (fun v1 p1 => hP ro m d' (12, 3, 1, 1, k188) 0 (lv_args 0 [.ref 66, .int a0]) [] p1 (fun v2 p2 => v1 = v2 ∧ hNt T_err p p2 ∧ C_er p2 ∧ C_em p2)) := by
  have hb := gh_sz hG
  have hZ0 : rI p 13 7 = rI p 66 6 := hZ
  refine hp_imp (hp_and (t_clear (m := m) (d' := d') hG hZ hE a0) (x_clear_em hG hM a0)) (fun v1 p1 _ h => ?_)
  obtain ⟨ha, hm, f6⟩ := h
  have key : hP ro m d' (12, 3, 1, 1, k188) 0 (lv_args 0 [.ref 66, .int a0]) [] p1 (fun _ p2 => C_em p2) := by
    refine M_clear (xi := a0.toInt) rfl (by rw [f6, ← hZ0]; exact hb.1) ?_ ?_
    · intros; exact hm
    · intro p2 e2 _ _
      exact C_em_fr ((show hNt [(72, 9999)] p1 p2 from by rw [e2]; exact (hNt.refl _ _).w rfl).sm (by decide)) hm
  exact hp_imp (hp_and ha key) (fun v2 p2 _ k => ⟨k.1.1, k.1.2.1, k.1.2.2, k.2⟩)
