/-! contracts of methods, walked -/
theorem fW_e {A A' : Int → Prop} : ∀ {n : Nat} {b : Int}, (∀ j : Int, b ≤ j → j < b + n → (A j ↔ A' j)) → fW A n b = fW A' n b
  | 0, _, _ => rfl
  | n + 1, b, h => by
    show iP (A b) b (fW A n (b + 1)) = iP (A' b) b (fW A' n (b + 1))
    rw [iP_e (h b (by omega) (by push_cast; omega)), fW_e (n := n) (b := b + 1) (fun j h1 h2 => h j (by omega) (by push_cast; omega))]
theorem gW_e {A A' : Int → Prop} {N b : Int} (h : ∀ j : Int, b ≤ j → j < N → (A j ↔ A' j)) : gW A N b = gW A' N b := by
  unfold gW
  rcases Int.lt_or_le b N with g | g
  · exact fW_e (fun j h1 h2 => h j h1 (by omega))
  · rw [show (N - b).toNat = 0 by omega]; rfl
theorem ff_ok {Sh : Int → Int → Prop} {z : Int32} {s t f : Int} (h : ∀ m : Nat, m < 30 → (bI z m = true ↔ Sh s m)) (hf : 0 ≤ f) : gW (dF z t) (31 - t) f = dB Sh s t f := by
  unfold dB
  refine gW_e (fun b h1 h2 => ?_)
  constructor
  · intro g j j1 j2 q
    refine g j j1 j2 ((h _ (by omega)).mpr ?_)
    rw [show (((b + j).toNat : Nat) : Int) = b + j by omega]
    exact q
  · intro g j j1 j2 q
    refine g j j1 j2 ?_
    have := (h _ (by omega)).mp q
    rw [show (((b + j).toNat : Nat) : Int) = b + j by omega] at this
    exact this
theorem sh_ok {p0 p : xH} {A : Nat → Nat → Prop} {S X s : Nat} {W : Nat → dS} {l : List Nat} {a lk c z : Int32} (hO : hOt p0 p X) (hR : hLk A S X lk) (ha : ∀ j, j < 32 → (bI a j = true ↔ j ∈ l)) (hWl : ∀ j, j ∈ l → j < S → hDb p0 j (dw (W j))) (hc : c = lk &&& a) (hS : S ≤ 7) (hs : s < 5) (h : ∀ m, m < 32 → (bI z m = true ↔ ∃ j, j < S ∧ bI c j = true ∧ bI (rI p 35 (5 * j + s)) m = true)) : ∀ m : Nat, m < 30 → (bI z m = true ↔ dSh A S W l X (s : Int) m) := fun m hm => by
  rw [h m (by omega)]
  constructor
  · rintro ⟨j, a1, a2, a3⟩
    rw [hc, bI_and, Bool.and_eq_true] at a2
    obtain ⟨-, b2, b3⟩ := (hR j (by omega)).mp a2.1
    have b4 := (ha j (by omega)).mp a2.2
    rw [(hO j (Ne.symm b2)).1 s hs] at a3
    exact ⟨j, b4, a1, b2, b3, (hWl j b4 a1 s hs m hm).mp a3⟩
  · rintro ⟨j, a1, a2, a3, a4, a5⟩
    refine ⟨j, a2, ?_, ?_⟩
    · rw [hc, bI_and, Bool.and_eq_true]
      exact ⟨(hR j (by omega)).mpr ⟨a2, a3, a4⟩, (ha j (by omega)).mpr a1⟩
    · rw [(hO j (Ne.symm a3)).1 s hs]
      exact (hWl j a1 a2 s hs m hm).mpr a5
theorem db_s {p p2 : xH} {X s b t : Nat} {w : Int → Int} {f : Int} {v m B L : Int32} (hD : hDb p X w) (hf : ∀ u, f ≤ u → w u = -1) (hfb : f ≤ b) (hbt : b + t ≤ 30) (ht : t ≤ 6) (hB : B.toInt = b) (hL : L.toInt = t) (hm : m = ((1 : Int32) <<< (L &&& 31)) - 1) (hv : v = rI p 35 (5 * X + s) ||| (m <<< (B &&& 31)))
    (hr : ∀ u, u < 5 → rI p2 35 (5 * X + u) = if u = s then v else rI p 35 (5 * X + u)) : hDb p2 X (fun u => iP ((b : Int) ≤ u ∧ u < (b : Int) + t) (s : Int) (w u)) := fun u hu i hi => by
  show _ ↔ iP ((b : Int) ≤ i ∧ (i : Int) < (b : Int) + t) (s : Int) (w i) = u
  have hw : bI (m <<< (B &&& 31)) i = true ↔ (b : Int) ≤ i ∧ (i : Int) < (b : Int) + t := by
    rw [bI_shl m hB (by omega) (by omega)]
    by_cases g : i < b
    · rw [decide_eq_true g]
      exact ⟨fun a => (by cases a), fun a => absurd a.1 (by omega)⟩
    · rw [decide_eq_false g, Bool.not_false, Bool.true_and]
      have e := evb_k (q := L) (by omega) (by omega) hm (show i - b < 32 by omega)
      rw [e]
      exact ⟨fun a => ⟨by omega, by omega⟩, fun a => by omega⟩
  rw [hr u hu]
  by_cases g : u = s
  · rw [if_pos g, hv, bI_or, Bool.or_eq_true, hw, ← g, hD u hu i hi]
    by_cases g2 : (b : Int) ≤ i ∧ (i : Int) < (b : Int) + t
    · rw [iP_y g2]; exact ⟨fun _ => rfl, fun _ => Or.inr g2⟩
    · rw [iP_n g2]; exact ⟨fun a => a.elim id (fun a => absurd a g2), Or.inl⟩
  · rw [if_neg g, hD u hu i hi]
    by_cases g2 : (b : Int) ≤ i ∧ (i : Int) < (b : Int) + t
    · rw [iP_y g2, hf i (by omega)]
      exact ⟨fun a => absurd a (by omega), fun a => absurd a (by omega)⟩
    · rw [iP_n g2]
theorem hOt_w {p p2 : xH} {X r : Nat} {v : Int32} (hw : hW p) (hr : r = 36 ∨ r = 37 ∨ r = 38 ∨ r = 39) (hX : X < 7) (e : p2 = wV p r X (.int v)) : hOt p p2 X := fun j hj => by
  have hL7 : hL r = 7 := by rcases hr with rfl | rfl | rfl | rfl <;> rfl
  have o : ∀ r' i, r' ≠ r ∨ i ≠ X → rI p2 r' i = rI p r' i := fun r' i h => by
    rw [e]
    exact rI_ne (fun e1 e2 => by rcases h with h | h; exact h e1; exact h e2)
  exact ⟨fun s _ => o 35 _ (Or.inl (by omega)), o 36 j (Or.inr hj), o 37 j (Or.inr hj), o 38 j (Or.inr hj), o 39 j (Or.inr hj)⟩
theorem hOt_35 {p p2 : xH} {X i s : Nat} {v : Int32} (hi : i = 5 * X + s) (hs : s < 5) (e : p2 = wV p 35 i (.int v)) : hOt p p2 X := fun j hj => by
  have o : ∀ r' k, r' ≠ 35 ∨ k ≠ i → rI p2 r' k = rI p r' k := fun r' k h => by
    rw [e]
    exact rI_ne (fun e1 e2 => by rcases h with h | h; exact h e1; exact h e2)
  exact ⟨fun u _ => o 35 _ (Or.inr (by omega)), o 36 j (Or.inl (by decide)), o 37 j (Or.inl (by decide)), o 38 j (Or.inl (by decide)), o 39 j (Or.inl (by decide))⟩
theorem lp_26 {ro : List (List Int32)} {d : Nat} {Q : Option Value → xH → Prop} {p0 : xH} {S : Nat} {A : Nat → Nat → Prop} {W : Nat → dS} {l : List Nat} {x a : Int32} (hS : (rI p0 13 7).toInt = (S : Int)) (hS7 : S ≤ 7) (x0 : 0 ≤ x.toInt) (x7 : x.toInt < 7) (hR : hLk A S x.toInt.toNat (rI p0 33 x.toInt.toNat)) (ha : ∀ j, j < 32 → (bI a j = true ↔ j ∈ l)) (hWl : ∀ j, j ∈ l → j < S → hDb p0 j (dw (W j))) (he : 0 ≤ (rI p0 17 x.toInt.toNat).toInt ∧ (rI p0 17 x.toInt.toNat).toInt ≤ 4) (hs : ∀ k, k < dre p0 17 x.toInt.toNat → 0 ≤ drs p0 18 x.toInt.toNat k ∧ drs p0 18 x.toInt.toNat k ≤ 4) (ht : ∀ k, k < dre p0 17 x.toInt.toNat → 1 ≤ drs p0 19 x.toInt.toNat k ∧ drs p0 19 x.toInt.toNat k ≤ 6) (K : ∀ (z : Int32) (p2 : xH), hNt T_dx p0 p2 → hOt p0 p2 x.toInt.toNat → hDr p2 x.toInt.toNat (dK (dSh A S W l x.toInt.toNat) (drs p0 18 x.toInt.toNat) (drs p0 19 x.toInt.toNat) (dre p0 17 x.toInt.toNat)) (drt p0 17 19 x.toInt.toNat) → z = dCt (drt p0 17 19 x.toInt.toNat) (dK (dSh A S W l x.toInt.toNat) (drs p0 18 x.toInt.toNat) (drs p0 19 x.toInt.toNat) (dre p0 17 x.toInt.toNat)) → Q (some (.int z)) p2) : ∀ (n : Nat) (k : Int32) (f : Int32) (c5 : Int32) (c6 : Int32) (c7 : Int32) (p : xH) (q : Int × Int × (Int → Int)), (0 ≤ k.toInt) → (k.toInt ≤ (rI p0 17 x.toInt.toNat).toInt) → (hNt T_dx p0 p) → (hOt p0 p x.toInt.toNat) → (dK (dSh A S W l x.toInt.toNat) (drs p0 18 x.toInt.toNat) (drs p0 19 x.toInt.toNat) k.toInt.toNat = some q) → (f.toInt = q.2.1) → (hDb p x.toInt.toNat q.2.2) → ((rI p 36 x.toInt.toNat).toInt = q.1) → (rI p 39 x.toInt.toNat = 0) → hP ro n d (2, 8, 1, 1, k26) 10 [(4, .int k), (3, .int f), (5, .int c5), (6, .int c6), (7, .int c7), (0, .ref 34), (1, .int x), (2, .int a)] [] p Q := by
  intro n
  induction n with
  | zero => intros; exact hp_0
  | succ n ih =>
    intro k f c5 c6 c7 p q hk1 hk2 hN hO hq hf hD h36 h39
    refine hp_hw (fun wp => ?_)
    obtain ⟨i1, i2, i3, i4, i5⟩ := dK_inv hs ht (k := k.toInt.toNat) (by unfold dre; omega) hq
    have e17 : rI p 17 x.toInt.toNat = rI p0 17 x.toInt.toNat := hN.int (r := 17) rfl
    have e33 : rI p 33 x.toInt.toNat = rI p0 33 x.toInt.toNat := hN.int (r := 33) rfl
    have e7 : rI p 13 7 = rI p0 13 7 := hN.int (r := 13) (k := 7) rfl
    obtain ⟨he1, he2⟩ := he
    have t17 : (rI p 17 x.toInt.toNat).toInt = (rI p0 17 x.toInt.toNat).toInt := by rw [e17]
    have t7 : (rI p 13 7).toInt = (S : Int) := by rw [e7]; exact hS
    have hde : dre p0 17 x.toInt.toNat = (rI p0 17 x.toInt.toNat).toInt.toNat := rfl
    have hk3 : k.toInt.toNat < dre p0 17 x.toInt.toNat ∨ k.toInt.toNat = dre p0 17 x.toInt.toNat := by unfold dre; omega
    refine hp_s1 (pc' := 12) (st' := [.int k]) rfl rfl rfl ?_
    refine hp_s (pc' := 13) (st' := [.ref 34, .int k]) rfl rfl rfl ?_
    refine hp_getr (k := 0) (w := .ref 13) (pc' := 16) rfl rfl rfl rfl rfl ?_
    refine hp_getr (k := 4) (w := .ref 17) (pc' := 19) rfl rfl rfl rfl rfl ?_
    refine hp_s (pc' := 20) (st' := [.int x, .ref 17, .int k]) rfl rfl rfl ?_
    refine hp_ld (t := 100) (v := (rI p 17 x.toInt.toNat)) rfl (.inl rfl) rfl rfl rfl ?_
    intro (g1a : 0 ≤ x.toInt) (g1b : x.toInt < 7)
    refine hp_ic (pc' := 24) (t := 149) (a := k.toInt) (b := (rI p 17 x.toInt.toNat).toInt) rfl rfl rfl rfl rfl (fun (h1 : (rI p 17 x.toInt.toNat).toInt ≤ k.toInt) => ?_) (fun (h2 : ¬ ((rI p 17 x.toInt.toNat).toInt ≤ k.toInt)) => ?_)
    ·
      refine hp_s (pc' := 150) (st' := [.ref 34]) rfl rfl rfl ?_
      refine hp_getr (k := 4) (w := .ref 37) (pc' := 153) rfl rfl rfl rfl rfl ?_
      refine hp_s (pc' := 154) (st' := [.int x, .ref 37]) rfl rfl rfl ?_
      refine hp_s (pc' := 155) (st' := [.int f, .int x, .ref 37]) rfl rfl rfl ?_
      refine hp_s (pc' := 156) (st' := [.int 1, .int f, .int x, .ref 37]) rfl rfl rfl ?_
      refine hp_z (pc' := 157) (e := f - 1) (st' := [.int x, .ref 37]) rfl rfl rfl ?_
      intro z1 hz1
      have ez1 := i_sub hz1 (show f.toInt = f.toInt from rfl) (show (1 : Int32).toInt = 1 from by decide)
      refine hp_st (t := 100) rfl (.inl rfl) rfl rfl ?_
      intro p1 wp1 (p1a : 0 ≤ x.toInt) (p1b : x.toInt < 7) ep1
      refine hp_s (pc' := 159) (st' := [.ref 34]) rfl rfl rfl ?_
      refine hp_getr (k := 5) (w := .ref 38) (pc' := 162) rfl rfl rfl rfl rfl ?_
      refine hp_s (pc' := 163) (st' := [.int x, .ref 38]) rfl rfl rfl ?_
      refine hp_s (pc' := 164) (st' := [.int f, .int x, .ref 38]) rfl rfl rfl ?_
      refine hp_s (pc' := 165) (st' := [.ref 34, .int f, .int x, .ref 38]) rfl rfl rfl ?_
      refine hp_getr (k := 0) (w := .ref 13) (pc' := 168) rfl rfl rfl rfl rfl ?_
      refine hp_s (pc' := 169) (st' := [.int x, .ref 13, .int f, .int x, .ref 38]) rfl rfl rfl ?_
      have t17b : (rI p1 17 x.toInt.toNat).toInt = (rI p0 17 x.toInt.toNat).toInt := by rw [ep1, rI_o (by decide), e17]
      refine hp_cv (r := 13) (o := 1) (kd := 1) (as := [.int x]) (rest := [.int f, .int x, .ref 38]) (pc' := 172) rfl rfl rfl rfl rfl rfl rfl rfl rfl (fun d1 => ?_)
      refine s_minutesOf (xi := x.toInt) rfl (by first | assumption | omega) (by first | assumption | omega) (by first | assumption | omega) (by first | assumption | omega) ?_
      refine hp_id (st := [.int (((hSum (fun j => rI p1 19 ((4 * x.toInt).toNat + j)) (rI p1 17 x.toInt.toNat).toInt.toNat))), .int f, .int x, .ref 38]) ?_
      refine hp_z (pc' := 173) (e := f - (((hSum (fun j => rI p1 19 ((4 * x.toInt).toNat + j)) (rI p1 17 x.toInt.toNat).toInt.toNat)))) (st' := [.int x, .ref 38]) rfl rfl rfl ?_
      intro z2 hz2
      have ez2 := i_sub hz2 (show f.toInt = f.toInt from rfl) (show (((hSum (fun j => rI p1 19 ((4 * x.toInt).toNat + j)) (rI p1 17 x.toInt.toNat).toInt.toNat))).toInt = (((hSum (fun j => rI p1 19 ((4 * x.toInt).toNat + j)) (rI p1 17 x.toInt.toNat).toInt.toNat))).toInt from rfl)
      refine hp_st (t := 100) rfl (.inl rfl) rfl rfl ?_
      intro p2 wp2 (p2a : 0 ≤ x.toInt) (p2b : x.toInt < 7) ep2
      refine hp_s (pc' := 175) (st' := [.ref 34]) rfl rfl rfl ?_
      refine hp_getr (k := 5) (w := .ref 38) (pc' := 178) rfl rfl rfl rfl rfl ?_
      refine hp_s (pc' := 179) (st' := [.int x, .ref 38]) rfl rfl rfl ?_
      refine hp_ld (t := 100) (v := z2) rfl (.inl rfl) rfl rfl (by rw [ep2, rI_eq wp2 (by show _ < 7; omega)]) ?_
      intro (g2a : 0 ≤ x.toInt) (g2b : x.toInt < 7)
      refine hp_ri rfl rfl ?_
      have hke : k.toInt.toNat = dre p0 17 x.toInt.toNat := by unfold dre; omega
      rw [hke] at hq
      have hfq : f = Int32.ofInt q.2.1 := by rw [← hf, Int32.ofInt_toInt]
      have hz : z2 = Int32.ofInt q.2.1 - (drt p0 17 19 x.toInt.toNat) := by
        rw [hz2, hfq]
        congr 1
        unfold drt
        rw [show ((x.toInt.toNat : Nat) : Int) = x.toInt by omega, ep1, rI_o (by decide), e17]
        refine hSum_eq (fun j _ => ?_)
        rw [rI_o (by decide), hN.int (r := 19) rfl]
      have hx7 : x.toInt.toNat < 7 := by omega
      have o : ∀ r j, r ≠ 37 → r ≠ 38 → rI p2 r j = rI p r j := fun r j a b => by rw [ep2, rI_o b, ep1, rI_o a]
      refine K _ p2 (by rw [ep2]; exact (hNt.w (by rw [ep1]; exact (hNt.w hN rfl)) rfl)) (hOt_tr hO (hOt_tr (hOt_w wp1 (by omega) hx7 ep1) (hOt_w wp2 (by omega) hx7 ep2))) ?_ (by rw [hq]; exact hz)
      rw [hq]
      refine ⟨fun s hs m hm => by rw [o 35 _ (by decide) (by decide)]; exact hD s hs m hm, by rw [o 36 _ (by decide) (by decide)]; exact h36, ?_, ?_, by rw [o 39 _ (by decide) (by decide), h39]; rfl⟩
      · rw [ep2, rI_o (by decide), ep1, rI_eq wp1 hx7]; show _ = q.2.1 - 1; omega
      · rw [ep2, rI_eq wp2 hx7]; exact hz
    ·
      refine hp_s (pc' := 25) (st' := [.ref 34]) rfl rfl rfl ?_
      refine hp_getr (k := 0) (w := .ref 13) (pc' := 28) rfl rfl rfl rfl rfl ?_
      refine hp_getr (k := 5) (w := .ref 18) (pc' := 31) rfl rfl rfl rfl rfl ?_
      refine hp_s (pc' := 32) (st' := [.int x, .ref 18]) rfl rfl rfl ?_
      refine hp_s (pc' := 33) (st' := [.int 4, .int x, .ref 18]) rfl rfl rfl ?_
      refine hp_z (pc' := 34) (e := x * 4) (st' := [.ref 18]) rfl rfl rfl ?_
      intro z3 hz3
      have ez3 := i_mul hz3 (show x.toInt = x.toInt from rfl) (show (4 : Int32).toInt = 4 from by decide)
      refine hp_s (pc' := 36) (st' := [.int k, .int z3, .ref 18]) rfl rfl rfl ?_
      refine hp_z (pc' := 37) (e := z3 + k) (st' := [.ref 18]) rfl rfl rfl ?_
      intro z4 hz4
      have ez4 := i_add hz4 (show z3.toInt = z3.toInt from rfl) (show k.toInt = k.toInt from rfl)
      refine hp_ld (t := 100) (v := (rI p 18 z4.toInt.toNat)) rfl (.inl rfl) rfl rfl rfl ?_
      intro (g3a : 0 ≤ z4.toInt) (g3b : z4.toInt < 28)
      have hk4 : k.toInt.toNat < dre p0 17 x.toInt.toNat := by unfold dre; omega
      have bs := hs k.toInt.toNat hk4
      have bt := ht k.toInt.toNat hk4
      have q18 : (rI p 18 z4.toInt.toNat).toInt = drs p0 18 x.toInt.toNat k.toInt.toNat := by unfold drs; rw [hN.int (r := 18) rfl]; congr 2; omega
      refine hp_s (pc' := 40) (ls' := [(5, .int (rI p 18 z4.toInt.toNat)), (4, .int k), (3, .int f), (6, .int c6), (7, .int c7), (0, .ref 34), (1, .int x), (2, .int a)]) (st' := []) rfl rfl rfl ?_
      refine hp_s (pc' := 41) (st' := [.ref 34]) rfl rfl rfl ?_
      refine hp_getr (k := 0) (w := .ref 13) (pc' := 44) rfl rfl rfl rfl rfl ?_
      refine hp_getr (k := 6) (w := .ref 19) (pc' := 47) rfl rfl rfl rfl rfl ?_
      refine hp_s (pc' := 48) (st' := [.int x, .ref 19]) rfl rfl rfl ?_
      refine hp_s (pc' := 49) (st' := [.int 4, .int x, .ref 19]) rfl rfl rfl ?_
      refine hp_z (pc' := 50) (e := x * 4) (st' := [.ref 19]) rfl rfl rfl ?_
      intro z5 hz5
      have ez5 := i_mul hz5 (show x.toInt = x.toInt from rfl) (show (4 : Int32).toInt = 4 from by decide)
      refine hp_s (pc' := 52) (st' := [.int k, .int z5, .ref 19]) rfl rfl rfl ?_
      refine hp_z (pc' := 53) (e := z5 + k) (st' := [.ref 19]) rfl rfl rfl ?_
      intro z6 hz6
      have ez6 := i_add hz6 (show z5.toInt = z5.toInt from rfl) (show k.toInt = k.toInt from rfl)
      refine hp_ld (t := 100) (v := (rI p 19 z6.toInt.toNat)) rfl (.inl rfl) rfl rfl rfl ?_
      intro (g4a : 0 ≤ z6.toInt) (g4b : z6.toInt < 28)
      have q19 : (rI p 19 z6.toInt.toNat).toInt = drs p0 19 x.toInt.toNat k.toInt.toNat := by unfold drs; rw [hN.int (r := 19) rfl]; congr 2; omega
      refine hp_s (pc' := 56) (ls' := [(6, .int (rI p 19 z6.toInt.toNat)), (5, .int (rI p 18 z4.toInt.toNat)), (4, .int k), (3, .int f), (7, .int c7), (0, .ref 34), (1, .int x), (2, .int a)]) (st' := []) rfl rfl rfl ?_
      refine hp_s (pc' := 57) (st' := [.ref 34]) rfl rfl rfl ?_
      refine hp_s (pc' := 58) (st' := [.ref 34, .ref 34]) rfl rfl rfl ?_
      refine hp_getr (k := 1) (w := .ref 32) (pc' := 61) rfl rfl rfl rfl rfl ?_
      refine hp_getr (k := 2) (w := .ref 33) (pc' := 64) rfl rfl rfl rfl rfl ?_
      refine hp_s (pc' := 65) (st' := [.int x, .ref 33, .ref 34]) rfl rfl rfl ?_
      refine hp_ld (t := 100) (v := (rI p 33 x.toInt.toNat)) rfl (.inl rfl) rfl rfl rfl ?_
      intro (g5a : 0 ≤ x.toInt) (g5b : x.toInt < 7)
      refine hp_s (pc' := 67) (st' := [.int a, .int (rI p 33 x.toInt.toNat), .ref 34]) rfl rfl rfl ?_
      refine hp_z (pc' := 68) (e := (rI p 33 x.toInt.toNat) &&& a) (st' := [.ref 34]) rfl rfl rfl ?_
      intro z7 hz7
      refine hp_s (pc' := 70) (st' := [.int (rI p 18 z4.toInt.toNat), .int z7, .ref 34]) rfl rfl rfl ?_
      refine hp_cv (r := 34) (o := 2) (kd := 1) (as := [.int z7, .int (rI p 18 z4.toInt.toNat)]) (rest := []) (pc' := 73) rfl rfl rfl rfl rfl rfl rfl rfl rfl (fun d2 => ?_)
      refine s_shutMinutes (ai := z7.toInt) rfl (si := (rI p 18 z4.toInt.toNat).toInt) rfl (by first | assumption | omega) (by first | assumption | omega) (by first | assumption | omega) (by first | assumption | omega) ?_
      intro y1 h3
      have hsh : ∀ m : Nat, m < 30 → (bI y1 m = true ↔ (dSh A S W l x.toInt.toNat) (drs p0 18 x.toInt.toNat k.toInt.toNat) m) := by
        have q := sh_ok (c := z7) (s := (rI p 18 z4.toInt.toNat).toInt.toNat) hO hR ha hWl (by rw [hz7, e33]) hS7 (by omega) (by rw [show (rI p 13 7).toInt.toNat = S by omega] at h3; exact h3)
        rw [show (((rI p 18 z4.toInt.toNat).toInt.toNat : Nat) : Int) = drs p0 18 x.toInt.toNat k.toInt.toNat by omega] at q
        exact q
      refine hp_id (st := [.int y1]) ?_
      refine hp_s (pc' := 74) (st' := [.int f, .int y1]) rfl rfl rfl ?_
      refine hp_s (pc' := 76) (st' := [.int (rI p 19 z6.toInt.toNat), .int f, .int y1]) rfl rfl rfl ?_
      refine hp_cs (kd := 0) (as := [.int y1, .int f, .int (rI p 19 z6.toInt.toNat)]) (rest := []) (pc' := 79) rfl rfl rfl rfl rfl rfl rfl (fun d3 => ?_)
      refine s_firstFree (zi := y1.toInt) rfl (fi := f.toInt) rfl (ti := (rI p 19 z6.toInt.toNat).toInt) rfl (by first | assumption | omega) (by first | assumption | omega) (by first | assumption | omega) (by first | assumption | omega) ?_
      intro y2 h4
      have hdb : dB (dSh A S W l x.toInt.toNat) (drs p0 18 x.toInt.toNat k.toInt.toNat) (drs p0 19 x.toInt.toNat k.toInt.toNat) q.2.1 = y2.toInt := by
        rw [← ff_ok hsh i1, h4, hf, q19]
      refine hp_id (st := [.int y2]) ?_
      refine hp_s (pc' := 81) (ls' := [(7, .int y2), (6, .int (rI p 19 z6.toInt.toNat)), (5, .int (rI p 18 z4.toInt.toNat)), (4, .int k), (3, .int f), (0, .ref 34), (1, .int x), (2, .int a)]) (st' := []) rfl rfl rfl ?_
      refine hp_s (pc' := 83) (st' := [.int y2]) rfl rfl rfl ?_
      refine hp_if (pc' := 86) (t := 101) (a := y2.toInt) rfl rfl rfl rfl (fun (h5 : 0 ≤ y2.toInt) => ?_) (fun (h6 : ¬ (0 ≤ y2.toInt)) => ?_)
      ·
        refine hp_s (pc' := 103) (st' := [.int k]) rfl rfl rfl ?_
        refine hp_if (pc' := 106) (t := 114) (a := k.toInt) rfl rfl rfl rfl (fun (h7 : k.toInt ≠ 0) => ?_) (fun (h8 : ¬ (k.toInt ≠ 0)) => ?_)
        ·
          refine hp_s (pc' := 115) (st' := [.ref 34]) rfl rfl rfl ?_
          refine hp_getr (k := 2) (w := .ref 35) (pc' := 118) rfl rfl rfl rfl rfl ?_
          refine hp_s (pc' := 119) (st' := [.int x, .ref 35]) rfl rfl rfl ?_
          refine hp_s (pc' := 120) (st' := [.int 5, .int x, .ref 35]) rfl rfl rfl ?_
          refine hp_z (pc' := 121) (e := x * 5) (st' := [.ref 35]) rfl rfl rfl ?_
          intro z8 hz8
          have ez8 := i_mul hz8 (show x.toInt = x.toInt from rfl) (show (5 : Int32).toInt = 5 from by decide)
          refine hp_s (pc' := 123) (st' := [.int (rI p 18 z4.toInt.toNat), .int z8, .ref 35]) rfl rfl rfl ?_
          refine hp_z (pc' := 124) (e := z8 + (rI p 18 z4.toInt.toNat)) (st' := [.ref 35]) rfl rfl rfl ?_
          intro z9 hz9
          have ez9 := i_add hz9 (show z8.toInt = z8.toInt from rfl) (show (rI p 18 z4.toInt.toNat).toInt = (rI p 18 z4.toInt.toNat).toInt from rfl)
          refine hp_s (pc' := 125) (st' := [.int z9, .ref 35, .int z9, .ref 35]) rfl rfl rfl ?_
          refine hp_ld (t := 100) (v := (rI p 35 z9.toInt.toNat)) rfl (.inl rfl) rfl rfl rfl ?_
          intro (g6a : 0 ≤ z9.toInt) (g6b : z9.toInt < 35)
          refine hp_s (pc' := 127) (st' := [.int 1, .int (rI p 35 z9.toInt.toNat), .int z9, .ref 35]) rfl rfl rfl ?_
          refine hp_s (pc' := 129) (st' := [.int (rI p 19 z6.toInt.toNat), .int 1, .int (rI p 35 z9.toInt.toNat), .int z9, .ref 35]) rfl rfl rfl ?_
          refine hp_z (pc' := 130) (e := 1 <<< ((rI p 19 z6.toInt.toNat) &&& 31)) (st' := [.int (rI p 35 z9.toInt.toNat), .int z9, .ref 35]) rfl rfl rfl ?_
          intro z10 hz10
          refine hp_s (pc' := 131) (st' := [.int 1, .int z10, .int (rI p 35 z9.toInt.toNat), .int z9, .ref 35]) rfl rfl rfl ?_
          refine hp_z (pc' := 132) (e := z10 - 1) (st' := [.int (rI p 35 z9.toInt.toNat), .int z9, .ref 35]) rfl rfl rfl ?_
          intro z11 hz11
          have ez11 := i_sub hz11 (show z10.toInt = z10.toInt from rfl) (show (1 : Int32).toInt = 1 from by decide)
          refine hp_s (pc' := 134) (st' := [.int y2, .int z11, .int (rI p 35 z9.toInt.toNat), .int z9, .ref 35]) rfl rfl rfl ?_
          refine hp_z (pc' := 135) (e := z11 <<< (y2 &&& 31)) (st' := [.int (rI p 35 z9.toInt.toNat), .int z9, .ref 35]) rfl rfl rfl ?_
          intro z12 hz12
          refine hp_z (pc' := 136) (e := (rI p 35 z9.toInt.toNat) ||| z12) (st' := [.int z9, .ref 35]) rfl rfl rfl ?_
          intro z13 hz13
          refine hp_st (t := 100) rfl (.inl rfl) rfl rfl ?_
          intro p3 wp3 (p3a : 0 ≤ z9.toInt) (p3b : z9.toInt < 35) ep3
          refine hp_s (pc' := 139) (st' := [.int y2]) rfl rfl rfl ?_
          refine hp_s (pc' := 141) (st' := [.int (rI p 19 z6.toInt.toNat), .int y2]) rfl rfl rfl ?_
          refine hp_z (pc' := 142) (e := y2 + (rI p 19 z6.toInt.toNat)) (st' := []) rfl rfl rfl ?_
          intro z14 hz14
          have ez14 := i_add hz14 (show y2.toInt = y2.toInt from rfl) (show (rI p 19 z6.toInt.toNat).toInt = (rI p 19 z6.toInt.toNat).toInt from rfl)
          refine hp_s (pc' := 143) (ls' := [(3, .int z14), (7, .int y2), (6, .int (rI p 19 z6.toInt.toNat)), (5, .int (rI p 18 z4.toInt.toNat)), (4, .int k), (0, .ref 34), (1, .int x), (2, .int a)]) (st' := []) rfl rfl rfl ?_
          refine hp_inc (L := fun z_ => [(4, .int z_), (3, .int z14), (7, .int y2), (6, .int (rI p 19 z6.toInt.toNat)), (5, .int (rI p 18 z4.toInt.toNat)), (0, .ref 34), (1, .int x), (2, .int a)]) (pc' := 146) rfl rfl rfl (fun _ => rfl) rfl ?_
          intro z15 hz15
          have ez15 := i_add hz15 (show k.toInt = k.toInt from rfl) (show (Int32.ofInt 1).toInt = 1 from by decide)
          refine hp_go (pc' := 10) rfl rfl rfl ?_
          refine hp_ls (ls' := [(4, .int z15), (3, .int z14), (5, .int (rI p 18 z4.toInt.toNat)), (6, .int (rI p 19 z6.toInt.toNat)), (7, .int y2), (0, .ref 34), (1, .int x), (2, .int a)]) rfl rfl ⟨rfl, rfl, rfl, rfl, rfl, rfl, rfl, rfl, trivial⟩ ?_
          obtain ⟨hfb, hbt, hI2⟩ := dI_s (dK_inv hs ht (k := k.toInt.toNat) (by omega) hq) hdb (by omega) bs bt
          have hx7 : x.toInt.toNat < 7 := by omega
          have hix : z9.toInt.toNat = 5 * x.toInt.toNat + (rI p 18 z4.toInt.toNat).toInt.toNat := by omega
          have hot1 : hOt p p x.toInt.toNat := hOt_0
          refine ih z15 z14 (rI p 18 z4.toInt.toNat) (rI p 19 z6.toInt.toNat) y2 p3 _ (by omega) (by unfold dre at hk4; omega) (by rw [ep3]; exact (hNt.w hN rfl)) (hOt_tr hO (hOt_tr hot1 (hOt_35 hix (by omega) ep3))) (by rw [show z15.toInt.toNat = k.toInt.toNat + 1 by omega]; exact dK_yes hq hdb (by omega)) (by show z14.toInt = y2.toInt + _; omega) ?_ ?_ ?_
          · have q := db_s (p := p) (p2 := p3) (X := x.toInt.toNat) (s := (rI p 18 z4.toInt.toNat).toInt.toNat) (b := y2.toInt.toNat) (t := (rI p 19 z6.toInt.toNat).toInt.toNat) (B := y2) (L := (rI p 19 z6.toInt.toNat)) (v := z13) (m := z11) hD i3 (by omega) (by omega) (by omega) (by omega) (by omega) (by rw [hz11, hz10]) (by rw [hz13, hz12, ← hix]) (fun u hu => ?_)
            · rw [show ((y2.toInt.toNat : Nat) : Int) = y2.toInt by omega, show (((rI p 19 z6.toInt.toNat).toInt.toNat : Nat) : Int) = drs p0 19 x.toInt.toNat k.toInt.toNat by omega, show (((rI p 18 z4.toInt.toNat).toInt.toNat : Nat) : Int) = drs p0 18 x.toInt.toNat k.toInt.toNat by omega] at q; exact q
            · rw [ep3, rI_w wp3 (by show _ < 35; omega), hix]
              by_cases g : u = (rI p 18 z4.toInt.toNat).toInt.toNat
              · rw [if_pos g, if_pos (by omega)]
              · rw [if_neg g, if_neg (by omega)]
          · rw [ep3, rI_o (by decide)]; exact h36.trans (iP_n (by omega)).symm
          · rw [ep3, rI_o (by decide)]; exact h39
        ·
          refine hp_s (pc' := 107) (st' := [.ref 34]) rfl rfl rfl ?_
          refine hp_getr (k := 3) (w := .ref 36) (pc' := 110) rfl rfl rfl rfl rfl ?_
          refine hp_s (pc' := 111) (st' := [.int x, .ref 36]) rfl rfl rfl ?_
          refine hp_s (pc' := 113) (st' := [.int y2, .int x, .ref 36]) rfl rfl rfl ?_
          refine hp_st (t := 100) rfl (.inl rfl) rfl rfl ?_
          intro p4 wp4 (p4a : 0 ≤ x.toInt) (p4b : x.toInt < 7) ep4
          refine hp_s (pc' := 115) (st' := [.ref 34]) rfl rfl rfl ?_
          refine hp_getr (k := 2) (w := .ref 35) (pc' := 118) rfl rfl rfl rfl rfl ?_
          refine hp_s (pc' := 119) (st' := [.int x, .ref 35]) rfl rfl rfl ?_
          refine hp_s (pc' := 120) (st' := [.int 5, .int x, .ref 35]) rfl rfl rfl ?_
          refine hp_z (pc' := 121) (e := x * 5) (st' := [.ref 35]) rfl rfl rfl ?_
          intro z16 hz16
          have ez16 := i_mul hz16 (show x.toInt = x.toInt from rfl) (show (5 : Int32).toInt = 5 from by decide)
          refine hp_s (pc' := 123) (st' := [.int (rI p 18 z4.toInt.toNat), .int z16, .ref 35]) rfl rfl rfl ?_
          refine hp_z (pc' := 124) (e := z16 + (rI p 18 z4.toInt.toNat)) (st' := [.ref 35]) rfl rfl rfl ?_
          intro z17 hz17
          have ez17 := i_add hz17 (show z16.toInt = z16.toInt from rfl) (show (rI p 18 z4.toInt.toNat).toInt = (rI p 18 z4.toInt.toNat).toInt from rfl)
          refine hp_s (pc' := 125) (st' := [.int z17, .ref 35, .int z17, .ref 35]) rfl rfl rfl ?_
          refine hp_ld (t := 100) (v := (rI p 35 z17.toInt.toNat)) rfl (.inl rfl) rfl rfl (by rw [ep4, rI_o (by decide)]) ?_
          intro (g7a : 0 ≤ z17.toInt) (g7b : z17.toInt < 35)
          refine hp_s (pc' := 127) (st' := [.int 1, .int (rI p 35 z17.toInt.toNat), .int z17, .ref 35]) rfl rfl rfl ?_
          refine hp_s (pc' := 129) (st' := [.int (rI p 19 z6.toInt.toNat), .int 1, .int (rI p 35 z17.toInt.toNat), .int z17, .ref 35]) rfl rfl rfl ?_
          refine hp_z (pc' := 130) (e := 1 <<< ((rI p 19 z6.toInt.toNat) &&& 31)) (st' := [.int (rI p 35 z17.toInt.toNat), .int z17, .ref 35]) rfl rfl rfl ?_
          intro z18 hz18
          refine hp_s (pc' := 131) (st' := [.int 1, .int z18, .int (rI p 35 z17.toInt.toNat), .int z17, .ref 35]) rfl rfl rfl ?_
          refine hp_z (pc' := 132) (e := z18 - 1) (st' := [.int (rI p 35 z17.toInt.toNat), .int z17, .ref 35]) rfl rfl rfl ?_
          intro z19 hz19
          have ez19 := i_sub hz19 (show z18.toInt = z18.toInt from rfl) (show (1 : Int32).toInt = 1 from by decide)
          refine hp_s (pc' := 134) (st' := [.int y2, .int z19, .int (rI p 35 z17.toInt.toNat), .int z17, .ref 35]) rfl rfl rfl ?_
          refine hp_z (pc' := 135) (e := z19 <<< (y2 &&& 31)) (st' := [.int (rI p 35 z17.toInt.toNat), .int z17, .ref 35]) rfl rfl rfl ?_
          intro z20 hz20
          refine hp_z (pc' := 136) (e := (rI p 35 z17.toInt.toNat) ||| z20) (st' := [.int z17, .ref 35]) rfl rfl rfl ?_
          intro z21 hz21
          refine hp_st (t := 100) rfl (.inl rfl) rfl rfl ?_
          intro p5 wp5 (p5a : 0 ≤ z17.toInt) (p5b : z17.toInt < 35) ep5
          refine hp_s (pc' := 139) (st' := [.int y2]) rfl rfl rfl ?_
          refine hp_s (pc' := 141) (st' := [.int (rI p 19 z6.toInt.toNat), .int y2]) rfl rfl rfl ?_
          refine hp_z (pc' := 142) (e := y2 + (rI p 19 z6.toInt.toNat)) (st' := []) rfl rfl rfl ?_
          intro z22 hz22
          have ez22 := i_add hz22 (show y2.toInt = y2.toInt from rfl) (show (rI p 19 z6.toInt.toNat).toInt = (rI p 19 z6.toInt.toNat).toInt from rfl)
          refine hp_s (pc' := 143) (ls' := [(3, .int z22), (7, .int y2), (6, .int (rI p 19 z6.toInt.toNat)), (5, .int (rI p 18 z4.toInt.toNat)), (4, .int k), (0, .ref 34), (1, .int x), (2, .int a)]) (st' := []) rfl rfl rfl ?_
          refine hp_inc (L := fun z_ => [(4, .int z_), (3, .int z22), (7, .int y2), (6, .int (rI p 19 z6.toInt.toNat)), (5, .int (rI p 18 z4.toInt.toNat)), (0, .ref 34), (1, .int x), (2, .int a)]) (pc' := 146) rfl rfl rfl (fun _ => rfl) rfl ?_
          intro z23 hz23
          have ez23 := i_add hz23 (show k.toInt = k.toInt from rfl) (show (Int32.ofInt 1).toInt = 1 from by decide)
          refine hp_go (pc' := 10) rfl rfl rfl ?_
          refine hp_ls (ls' := [(4, .int z23), (3, .int z22), (5, .int (rI p 18 z4.toInt.toNat)), (6, .int (rI p 19 z6.toInt.toNat)), (7, .int y2), (0, .ref 34), (1, .int x), (2, .int a)]) rfl rfl ⟨rfl, rfl, rfl, rfl, rfl, rfl, rfl, rfl, trivial⟩ ?_
          obtain ⟨hfb, hbt, hI2⟩ := dI_s (dK_inv hs ht (k := k.toInt.toNat) (by omega) hq) hdb (by omega) bs bt
          have hx7 : x.toInt.toNat < 7 := by omega
          have hix : z17.toInt.toNat = 5 * x.toInt.toNat + (rI p 18 z4.toInt.toNat).toInt.toNat := by omega
          have hot1 : hOt p p4 x.toInt.toNat := hOt_w wp4 (by omega) hx7 ep4
          refine ih z23 z22 (rI p 18 z4.toInt.toNat) (rI p 19 z6.toInt.toNat) y2 p5 _ (by omega) (by unfold dre at hk4; omega) (by rw [ep5]; exact (hNt.w (by rw [ep4]; exact (hNt.w hN rfl)) rfl)) (hOt_tr hO (hOt_tr hot1 (hOt_35 hix (by omega) ep5))) (by rw [show z23.toInt.toNat = k.toInt.toNat + 1 by omega]; exact dK_yes hq hdb (by omega)) (by show z22.toInt = y2.toInt + _; omega) ?_ ?_ ?_
          · have q := db_s (p := p) (p2 := p5) (X := x.toInt.toNat) (s := (rI p 18 z4.toInt.toNat).toInt.toNat) (b := y2.toInt.toNat) (t := (rI p 19 z6.toInt.toNat).toInt.toNat) (B := y2) (L := (rI p 19 z6.toInt.toNat)) (v := z21) (m := z19) hD i3 (by omega) (by omega) (by omega) (by omega) (by omega) (by rw [hz19, hz18]) (by rw [hz21, hz20, ← hix]) (fun u hu => ?_)
            · rw [show ((y2.toInt.toNat : Nat) : Int) = y2.toInt by omega, show (((rI p 19 z6.toInt.toNat).toInt.toNat : Nat) : Int) = drs p0 19 x.toInt.toNat k.toInt.toNat by omega, show (((rI p 18 z4.toInt.toNat).toInt.toNat : Nat) : Int) = drs p0 18 x.toInt.toNat k.toInt.toNat by omega] at q; exact q
            · rw [ep5, rI_w wp5 (by show _ < 35; omega), hix, ep4, rI_o (by decide)]
              by_cases g : u = (rI p 18 z4.toInt.toNat).toInt.toNat
              · rw [if_pos g, if_pos (by omega)]
              · rw [if_neg g, if_neg (by omega)]
          · rw [ep5, rI_o (by decide), ep4, rI_eq wp4 hx7]; exact (iP_y (by omega)).symm
          · rw [ep5, rI_o (by decide), ep4, rI_o (by decide)]; exact h39
      ·
        refine hp_s (pc' := 87) (st' := [.ref 34]) rfl rfl rfl ?_
        refine hp_s (pc' := 88) (st' := [.int x, .ref 34]) rfl rfl rfl ?_
        refine hp_cv (r := 34) (o := 2) (kd := 1) (as := [.int x]) (rest := []) (pc' := 91) rfl rfl rfl rfl rfl rfl rfl rfl rfl (fun d4 => ?_)
        refine s_stayAtHome (xi := x.toInt) rfl (by first | assumption | omega) (by first | assumption | omega) ?_
        intro p6 h9 h10
        refine hp_id (st := []) ?_
        refine hp_s (pc' := 92) (st' := [.ref 34]) rfl rfl rfl ?_
        refine hp_getr (k := 6) (w := .ref 39) (pc' := 95) rfl rfl rfl rfl rfl ?_
        refine hp_s (pc' := 96) (st' := [.int x, .ref 39]) rfl rfl rfl ?_
        refine hp_s (pc' := 97) (st' := [.int 1, .int x, .ref 39]) rfl rfl rfl ?_
        refine hp_st (t := 101) rfl (.inr rfl) rfl rfl ?_
        intro p7 wp7 (p7a : 0 ≤ x.toInt) (p7b : x.toInt < 7) ep7
        refine hp_s (pc' := 100) (st' := [.int 30]) rfl rfl rfl ?_
        refine hp_ri rfl rfl ?_
        have hr : (dK (dSh A S W l x.toInt.toNat) (drs p0 18 x.toInt.toNat) (drs p0 19 x.toInt.toNat) (dre p0 17 x.toInt.toNat)) = none := dK_none (dK_no hq hdb (by omega)) (e := dre p0 17 x.toInt.toNat) (by omega)
        have hx7 : x.toInt.toNat < 7 := by omega
        obtain ⟨u1, u2⟩ := hDr_none (T := (drt p0 17 19 x.toInt.toNat)) h10 wp7 hx7 ep7
        exact K 30 p7 (by rw [ep7]; exact (hNt.w (hNt.trans hN (h9.up (by decide))) rfl)) (hOt_tr hO (hOt_tr (hHm_ot h10) u2)) (by rw [hr]; exact u1) (by rw [hr]; rfl)
theorem s_takeTurn {ro : List (List Int32)} {n d : Nat} {p : xH} {Q : Option Value → xH → Prop} (S : Nat) (A : Nat → Nat → Prop) (W : Nat → dS) (l : List Nat) {x : Int32} {xi : Int} {a : Int32} {ai : Int} (hx : x.toInt = xi) (ha : a.toInt = ai) (pre0 : (rI p 13 7).toInt = (S : Int)) (pre1 : S ≤ 7) (pre2 : 0 ≤ xi) (pre3 : xi < 7) (pre4 : hLk A S xi.toNat (rI p 33 xi.toNat)) (pre5 : ∀ j, j < 32 → (bI a j = true ↔ j ∈ l)) (pre6 : ∀ j, j ∈ l → j < S → hDb p j (dw (W j))) (pre7 : 0 ≤ (rI p 17 xi.toNat).toInt ∧ (rI p 17 xi.toNat).toInt ≤ 4) (pre8 : ∀ k, k < dre p 17 xi.toNat → 0 ≤ drs p 18 xi.toNat k ∧ drs p 18 xi.toNat k ≤ 4) (pre9 : ∀ k, k < dre p 17 xi.toNat → 1 ≤ drs p 19 xi.toNat k ∧ drs p 19 xi.toNat k ≤ 6) (k0 : ∀ z : Int32, ∀ p2 : xH, (hNt T_dx p p2) → (hOt p p2 xi.toNat) → (hDr p2 xi.toNat (dK (dSh A S W l xi.toNat) (drs p 18 xi.toNat) (drs p 19 xi.toNat) (dre p 17 xi.toNat)) (drt p 17 19 xi.toNat)) → (z = dCt (drt p 17 19 xi.toNat) (dK (dSh A S W l xi.toNat) (drs p 18 xi.toNat) (drs p 19 xi.toNat) (dre p 17 xi.toNat))) → Q (some (.int z)) p2) : hP ro n d (2, 8, 1, 1, k26) 0 (lv_args 0 [.ref 34, .int x, .int a]) [] p Q := by
  subst hx
  subst ha
  refine hp_id (ls := [(0, .ref 34), (1, .int x), (2, .int a)]) ?_
  refine hp_s (pc' := 1) (st' := [.ref 34]) rfl rfl rfl ?_
  refine hp_s (pc' := 2) (st' := [.int x, .ref 34]) rfl rfl rfl ?_
  refine hp_cv (r := 34) (o := 2) (kd := 1) (as := [.int x]) (rest := []) (pc' := 5) rfl rfl rfl rfl rfl rfl rfl rfl rfl (fun d1 => ?_)
  refine s_stayAtHome (xi := x.toInt) rfl (by first | assumption | omega) (by first | assumption | omega) ?_
  intro p1 h1 h2
  refine hp_id (st := []) ?_
  refine hp_s (pc' := 6) (st' := [.int 0]) rfl rfl rfl ?_
  refine hp_s (pc' := 7) (ls' := [(3, .int 0), (0, .ref 34), (1, .int x), (2, .int a)]) (st' := []) rfl rfl rfl ?_
  refine hp_s (pc' := 8) (st' := [.int 0]) rfl rfl rfl ?_
  refine hp_s (pc' := 10) (ls' := [(4, .int 0), (3, .int 0), (0, .ref 34), (1, .int x), (2, .int a)]) (st' := []) rfl rfl rfl ?_
  refine hp_ls (ls' := [(4, .int 0), (3, .int 0), (5, .int 0), (6, .int 0), (7, .int 0), (0, .ref 34), (1, .int x), (2, .int a)]) rfl rfl ⟨rfl, rfl, rfl, rfl, rfl, trivial⟩ ?_
  have hcp := h2
  obtain ⟨g0, g1, g2, g3, g4, g5⟩ := hcp
  exact lp_26 (p0 := p) (S := S) (A := A) (W := W) (l := l) (x := x) (a := a) pre0 pre1 pre2 pre3 pre4 pre5 pre6 pre7 pre8 pre9 (fun z p2 h1 h2 h3 h4 => k0 z p2 h1 h2 h3 h4) n 0 0 0 0 0 p1 _ (by decide) (by have h00 : (0 : Int32).toInt = 0 := (by decide); omega) h1 (hHm_ot h2) (by rw [i_ofz]; rfl) rfl (fun s hs m hm => by rw [g1, if_pos (by omega), bI_0]; exact ⟨fun a => (by cases a), fun a => (by have a : (-1 : Int) = s := a; omega)⟩) (by rw [g2, if_pos rfl]; decide) (by rw [g5, if_pos rfl])
