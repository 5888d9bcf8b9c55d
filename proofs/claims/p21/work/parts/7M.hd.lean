/-! contracts of methods, walked -/
/-- how many bits, as the JDK counts them -/
def sr_ (x k : Int32) : Int32 := (x.toUInt32 >>> (k.toUInt32 &&& Int32.toUInt32 31)).toInt32
def bcn (x : Int32) : Int32 :=
  let a := x - (sr_ x 1 &&& 1431655765)
  let b := (a &&& 858993459) + (sr_ a 2 &&& 858993459)
  let c := (b + sr_ b 4) &&& 252645135
  let d := c + sr_ c 8
  let e := d + sr_ d 16
  e &&& 63
theorem s_bitCount {ro : List (List Int32)} {n d : Nat} {p : xH} {Q : Option Value → xH → Prop} {x : Int32} {xi : Int} (hx : x.toInt = xi)  (k0 : ∀ z : Int32, (z = bcn x) → Q (some (.int z)) p) : hP ro n d (13, 1, 0, 1, k273) 0 (lv_args 0 [.int x]) [] p Q := by
  subst hx
  refine hp_id (ls := [(0, .int x)]) ?_
  refine hp_s (pc' := 1) (st' := [.int x]) rfl rfl rfl ?_
  refine hp_s (pc' := 2) (st' := [.int x, .int x]) rfl rfl rfl ?_
  refine hp_s (pc' := 3) (st' := [.int 1, .int x, .int x]) rfl rfl rfl ?_
  refine hp_z (pc' := 4) (e := (x.toUInt32 >>> ((1 : Int32).toUInt32 &&& Int32.toUInt32 31)).toInt32) (st' := [.int x]) rfl rfl rfl ?_
  intro z1 hz1
  refine hp_s (pc' := 7) (st' := [.int 1431655765, .int z1, .int x]) rfl rfl rfl ?_
  refine hp_z (pc' := 8) (e := z1 &&& 1431655765) (st' := [.int x]) rfl rfl rfl ?_
  intro z2 hz2
  refine hp_z (pc' := 9) (e := x - z2) (st' := []) rfl rfl rfl ?_
  intro z3 hz3
  have ez3 := i_sub hz3 (show x.toInt = x.toInt from rfl) (show z2.toInt = z2.toInt from rfl)
  refine hp_s (pc' := 10) (ls' := [(0, .int z3)]) (st' := []) rfl rfl rfl ?_
  refine hp_s (pc' := 11) (st' := [.int z3]) rfl rfl rfl ?_
  refine hp_s (pc' := 14) (st' := [.int 858993459, .int z3]) rfl rfl rfl ?_
  refine hp_z (pc' := 15) (e := z3 &&& 858993459) (st' := []) rfl rfl rfl ?_
  intro z4 hz4
  refine hp_s (pc' := 16) (st' := [.int z3, .int z4]) rfl rfl rfl ?_
  refine hp_s (pc' := 17) (st' := [.int 2, .int z3, .int z4]) rfl rfl rfl ?_
  refine hp_z (pc' := 18) (e := (z3.toUInt32 >>> ((2 : Int32).toUInt32 &&& Int32.toUInt32 31)).toInt32) (st' := [.int z4]) rfl rfl rfl ?_
  intro z5 hz5
  refine hp_s (pc' := 21) (st' := [.int 858993459, .int z5, .int z4]) rfl rfl rfl ?_
  refine hp_z (pc' := 22) (e := z5 &&& 858993459) (st' := [.int z4]) rfl rfl rfl ?_
  intro z6 hz6
  refine hp_z (pc' := 23) (e := z4 + z6) (st' := []) rfl rfl rfl ?_
  intro z7 hz7
  have ez7 := i_add hz7 (show z4.toInt = z4.toInt from rfl) (show z6.toInt = z6.toInt from rfl)
  refine hp_s (pc' := 24) (ls' := [(0, .int z7)]) (st' := []) rfl rfl rfl ?_
  refine hp_s (pc' := 25) (st' := [.int z7]) rfl rfl rfl ?_
  refine hp_s (pc' := 26) (st' := [.int z7, .int z7]) rfl rfl rfl ?_
  refine hp_s (pc' := 27) (st' := [.int 4, .int z7, .int z7]) rfl rfl rfl ?_
  refine hp_z (pc' := 28) (e := (z7.toUInt32 >>> ((4 : Int32).toUInt32 &&& Int32.toUInt32 31)).toInt32) (st' := [.int z7]) rfl rfl rfl ?_
  intro z8 hz8
  refine hp_z (pc' := 29) (e := z7 + z8) (st' := []) rfl rfl rfl ?_
  intro z9 hz9
  have ez9 := i_add hz9 (show z7.toInt = z7.toInt from rfl) (show z8.toInt = z8.toInt from rfl)
  refine hp_s (pc' := 32) (st' := [.int 252645135, .int z9]) rfl rfl rfl ?_
  refine hp_z (pc' := 33) (e := z9 &&& 252645135) (st' := []) rfl rfl rfl ?_
  intro z10 hz10
  refine hp_s (pc' := 34) (ls' := [(0, .int z10)]) (st' := []) rfl rfl rfl ?_
  refine hp_s (pc' := 35) (st' := [.int z10]) rfl rfl rfl ?_
  refine hp_s (pc' := 36) (st' := [.int z10, .int z10]) rfl rfl rfl ?_
  refine hp_s (pc' := 38) (st' := [.int 8, .int z10, .int z10]) rfl rfl rfl ?_
  refine hp_z (pc' := 39) (e := (z10.toUInt32 >>> ((8 : Int32).toUInt32 &&& Int32.toUInt32 31)).toInt32) (st' := [.int z10]) rfl rfl rfl ?_
  intro z11 hz11
  refine hp_z (pc' := 40) (e := z10 + z11) (st' := []) rfl rfl rfl ?_
  intro z12 hz12
  have ez12 := i_add hz12 (show z10.toInt = z10.toInt from rfl) (show z11.toInt = z11.toInt from rfl)
  refine hp_s (pc' := 41) (ls' := [(0, .int z12)]) (st' := []) rfl rfl rfl ?_
  refine hp_s (pc' := 42) (st' := [.int z12]) rfl rfl rfl ?_
  refine hp_s (pc' := 43) (st' := [.int z12, .int z12]) rfl rfl rfl ?_
  refine hp_s (pc' := 45) (st' := [.int 16, .int z12, .int z12]) rfl rfl rfl ?_
  refine hp_z (pc' := 46) (e := (z12.toUInt32 >>> ((16 : Int32).toUInt32 &&& Int32.toUInt32 31)).toInt32) (st' := [.int z12]) rfl rfl rfl ?_
  intro z13 hz13
  refine hp_z (pc' := 47) (e := z12 + z13) (st' := []) rfl rfl rfl ?_
  intro z14 hz14
  have ez14 := i_add hz14 (show z12.toInt = z12.toInt from rfl) (show z13.toInt = z13.toInt from rfl)
  refine hp_s (pc' := 48) (ls' := [(0, .int z14)]) (st' := []) rfl rfl rfl ?_
  refine hp_s (pc' := 49) (st' := [.int z14]) rfl rfl rfl ?_
  refine hp_s (pc' := 51) (st' := [.int 63, .int z14]) rfl rfl rfl ?_
  refine hp_z (pc' := 52) (e := z14 &&& 63) (st' := []) rfl rfl rfl ?_
  intro z15 hz15
  refine hp_ri rfl rfl ?_
  first | (exact k0 _ (by first | assumption | (subst_vars; rfl))) | (exfalso; omega)
theorem bcn_t : ∀ k : Nat, k < 128 → (k = 0 ∧ (bcn (Int32.ofNat k)).toInt = 0) ∨ (0 < k ∧ (bcn (Int32.ofNat k)).toInt = (bcn (Int32.ofNat k &&& (Int32.ofNat k - 1))).toInt + 1 ∧ 0 ≤ (Int32.ofNat k &&& (Int32.ofNat k - 1)).toInt ∧ (Int32.ofNat k &&& (Int32.ofNat k - 1)).toInt < 128 ∧ 0 < (bcn (Int32.ofNat k)).toInt ∧ (bcn (Int32.ofNat k)).toInt ≤ 7) := by decide +kernel
theorem i_on {x : Int32} (h : 0 ≤ x.toInt) (h2 : x.toInt < 128) : ∃ k : Nat, k < 128 ∧ x = Int32.ofNat k := ⟨x.toInt.toNat, by omega, by
  apply Int32.toInt_inj.mp
  rw [Int32.toInt_ofNat_of_lt (by omega)]
  omega⟩
theorem bcn_0 {x : Int32} (h : x.toInt = 0) : (bcn x).toInt = 0 := by
  have := i_z h
  subst this
  decide
theorem bcn_s {x : Int32} (h : 0 ≤ x.toInt) (h2 : x.toInt < 128) (h0 : x.toInt ≠ 0) : (bcn x).toInt = (bcn (x &&& (x - 1))).toInt + 1 ∧ 0 ≤ (x &&& (x - 1)).toInt ∧ (x &&& (x - 1)).toInt < 128 ∧ 0 < (bcn x).toInt ∧ (bcn x).toInt ≤ 7 := by
  obtain ⟨k, hk, rfl⟩ := i_on h h2
  rcases bcn_t k hk with ⟨a, b⟩ | ⟨a, b⟩
  · subst a; exact absurd (by decide) h0
  · exact b
theorem bcn_b {x : Int32} (h : 0 ≤ x.toInt) (h2 : x.toInt < 128) : 0 ≤ (bcn x).toInt ∧ (bcn x).toInt ≤ 7 := by
  by_cases h0 : x.toInt = 0
  · rw [bcn_0 h0]; decide
  · have := bcn_s h h2 h0
    omega
theorem xor_t : ∀ a : Nat, a < 64 → ∀ b : Nat, b < 64 → (Int32.ofNat a ^^^ Int32.ofNat b).toInt < 64 ∧ 0 ≤ (Int32.ofNat a ^^^ Int32.ofNat b).toInt := by decide +kernel
theorem xor_b {x y : Int32} (h : 0 ≤ x.toInt) (h2 : x.toInt < 64) (g : 0 ≤ y.toInt) (g2 : y.toInt < 64) : 0 ≤ (x ^^^ y).toInt ∧ (x ^^^ y).toInt < 64 := by
  obtain ⟨k, hk, rfl⟩ := i_on h (by omega)
  obtain ⟨m, hm, rfl⟩ := i_on g (by omega)
  rw [Int32.toInt_ofNat_of_lt (by omega)] at h2 g2
  have := xor_t k (by omega) m (by omega)
  exact ⟨this.2, this.1⟩
theorem lp_175 {ro : List (List Int32)} {d : Nat} {Q : Option Value → xH → Prop} {x : Int32} {p : xH} (hb : 0 ≤ (bcn x).toInt ∧ (bcn x).toInt ≤ 7) (K : ∀ z : Int32, z = bcn x → Q (some (.int z)) p) : ∀ (n : Nat) (v : Int32) (k : Int32), (0 ≤ v.toInt) → (v.toInt < 128) → (k.toInt + (bcn v).toInt = (bcn x).toInt) → hP ro n d (12, 3, 0, 1, k175) 4 [(2, .int v), (1, .int k), (0, .int x)] [] p Q := by
  intro n
  induction n with
  | zero => intros; exact hp_0
  | succ n ih =>
    intro v k g1 g2 hs
    have hv := bcn_b g1 g2
    refine hp_s1 (pc' := 5) (st' := [.int v]) rfl rfl rfl ?_
    refine hp_if (pc' := 8) (t := 20) (a := v.toInt) rfl rfl rfl rfl (fun (h1 : v.toInt = 0) => ?_) (fun (h2 : ¬ (v.toInt = 0)) => ?_)
    ·
      refine hp_s (pc' := 21) (st' := [.int k]) rfl rfl rfl ?_
      refine hp_ri rfl rfl ?_
      exact K k (Int32.toInt_inj.mp (by have q := bcn_0 (x := v) (by omega); omega))
    ·
      refine hp_inc (L := fun z => [(1, .int z), (2, .int v), (0, .int x)]) (pc' := 11) rfl rfl rfl (fun _ => rfl) rfl ?_
      intro z1 hz1
      have ez1 := i_add hz1 (show k.toInt = k.toInt from rfl) (show (Int32.ofInt 1).toInt = 1 from by decide)
      refine hp_s (pc' := 12) (st' := [.int v]) rfl rfl rfl ?_
      refine hp_s (pc' := 13) (st' := [.int v, .int v]) rfl rfl rfl ?_
      refine hp_s (pc' := 14) (st' := [.int 1, .int v, .int v]) rfl rfl rfl ?_
      refine hp_z (pc' := 15) (e := v - 1) (st' := [.int v]) rfl rfl rfl ?_
      intro z2 hz2
      have ez2 := i_sub hz2 (show v.toInt = v.toInt from rfl) (show (1 : Int32).toInt = 1 from by decide)
      refine hp_z (pc' := 16) (e := v &&& z2) (st' := []) rfl rfl rfl ?_
      intro z3 hz3
      refine hp_s (pc' := 17) (ls' := [(2, .int z3), (1, .int z1), (0, .int x)]) (st' := []) rfl rfl rfl ?_
      refine hp_go (pc' := 4) rfl rfl rfl ?_
      have hs2 := bcn_s g1 g2 (by omega)
      have ev : z3 = v &&& (v - 1) := by subst_vars; rfl
      exact ih z3 z1 (by rw [ev]; omega) (by rw [ev]; omega) (by rw [ev]; omega)
theorem s_bitsOf {ro : List (List Int32)} {n d : Nat} {p : xH} {Q : Option Value → xH → Prop} {x : Int32} {xi : Int} (hx : x.toInt = xi) (pre0 : 0 ≤ xi) (pre1 : xi < 128) (k0 : ∀ z : Int32, (z = bcn x) → Q (some (.int z)) p) : hP ro n d (12, 3, 0, 1, k175) 0 (lv_args 0 [.int x]) [] p Q := by
  subst hx
  refine hp_id (ls := [(0, .int x)]) ?_
  refine hp_s (pc' := 1) (st' := [.int 0]) rfl rfl rfl ?_
  refine hp_s (pc' := 2) (ls' := [(1, .int 0), (0, .int x)]) (st' := []) rfl rfl rfl ?_
  refine hp_s (pc' := 3) (st' := [.int x]) rfl rfl rfl ?_
  refine hp_s (pc' := 4) (ls' := [(2, .int x), (1, .int 0), (0, .int x)]) (st' := []) rfl rfl rfl ?_
  exact lp_175 (x := x) (by have q := bcn_b pre0 pre1; omega) k0 n x 0 pre0 pre1 (by have h00 : (0 : Int32).toInt = 0 := (by decide); omega)
abbrev T_st : List (Nat × Nat) := [(20, 4), (23, 9999)]
/-- the stack holds st -/
def HS (p0 p : xH) (st : List Int32) : Prop := hNt T_st p0 p ∧ (rI p 20 4).toInt = (st.length : Int) ∧ ∀ i x, st.reverse[i]? = some x → rI p 23 i = x
theorem HS_push {p0 p p2 : xH} {st : List Int32} {x : Int32} (h : HS p0 p st) (hw : hW p) (hl : st.length < 128) (e : p2 = wV (wV p 23 (rI p 20 4).toInt.toNat (.int x)) 20 4 (.int (rI p 20 4 + 1))) : HS p0 p2 (x :: st) := by
  obtain ⟨h1, h2, h3⟩ := h
  have w1 : hW (wV p 23 (rI p 20 4).toInt.toNat (.int x)) := hW_wV hw rfl
  have q : rI p2 20 4 = rI p 20 4 + 1 := by rw [e, rI_eq w1 (by decide)]
  have q2 := i_add q rfl (show (1 : Int32).toInt = 1 from by decide)
  refine ⟨by rw [e]; exact (h1.w rfl).w rfl, by rw [List.length_cons]; push_cast; omega, fun i y hy => ?_⟩
  have hi : (rI p 20 4).toInt.toNat = st.length := by omega
  rw [e, rI_o (by decide), rI_w hw (by show _ < 128; omega), hi]
  rw [List.reverse_cons, List.getElem?_append] at hy
  split at hy
  next hlt =>
    rw [List.length_reverse] at hlt
    rw [if_neg (by omega)]
    exact h3 i y hy
  next hlt =>
    rw [List.length_reverse] at hlt hy
    have hi2 := (List.getElem?_eq_some_iff.mp hy).1
    rw [List.length_singleton] at hi2
    rw [show i - st.length = 0 by omega] at hy
    have hy : some x = some y := hy
    cases hy
    rw [if_pos (by omega)]
theorem HS_popE {p0 p : xH} {st : List Int32} (h : HS p0 p st) (h0 : (rI p 20 4).toInt ≤ 0) : st.headD 0 = 0 ∧ HS p0 p st.tail := by
  have h2 := h.2.1
  cases st with
  | nil => exact ⟨rfl, h⟩
  | cons x r => rw [List.length_cons] at h2; exfalso; push_cast at h2; omega
theorem HS_popN {p0 p p2 : xH} {st : List Int32} {z : Int32} (h : HS p0 p st) (hw : hW p) (h0 : 0 < (rI p 20 4).toInt) (e : p2 = wV p 20 4 (.int (rI p 20 4 - 1))) (hz : z = rI p 23 ((rI p 20 4).toInt - 1).toNat) : st.headD 0 = z ∧ HS p0 p2 st.tail := by
  obtain ⟨h1, h2, h3⟩ := h
  cases st with
  | nil => rw [List.length_nil] at h2; exfalso; omega
  | cons x r =>
    rw [List.length_cons] at h2
    have q : rI p2 20 4 = rI p 20 4 - 1 := by rw [e, rI_eq hw (by decide)]
    have q2 := i_sub q rfl (show (1 : Int32).toInt = 1 from by decide)
    have hx := h3 r.length x (by rw [List.reverse_cons, List.getElem?_append_right (by rw [List.length_reverse]; exact Nat.le_refl _), List.length_reverse, Nat.sub_self]; rfl)
    refine ⟨by rw [hz, show ((rI p 20 4).toInt - 1).toNat = r.length by omega, hx]; rfl, by rw [e]; exact h1.w rfl, by show _ = (r.length : Int); omega, fun i y hy => ?_⟩
    have hi := (List.getElem?_eq_some_iff.mp hy).1
    have hy : r.reverse[i]? = some y := hy
    have hi : i < r.reverse.length := hi
    rw [e, rI_o (by decide)]
    refine h3 i y ?_
    rw [List.reverse_cons, List.getElem?_append_left hi]
    exact hy
theorem lst_num {nm : Int → Int32} {c : Int} {v : Int32} {s : List Int32} (h : c = 48) : lst nm (c, v) s = v :: s := by subst h; rfl
theorem lst_nam {nm : Int → Int32} {c : Int} {v : Int32} {s : List Int32} (h : c = 97) : lst nm (c, v) s = nm v.toInt :: s := by subst h; rfl
theorem lst_neg {nm : Int → Int32} {c : Int} {v : Int32} {s : List Int32} (h : c = 126) : lst nm (c, v) s = (-(s.headD 0)) :: s.tail := by subst h; rfl
theorem lst_not {nm : Int → Int32} {c : Int} {v : Int32} {s : List Int32} (h : c = 33) : lst nm (c, v) s = (if s.headD 0 = 0 then 1 else 0) :: s.tail := by subst h; rfl
theorem lst_bin {nm : Int → Int32} {c : Int} {v : Int32} {s : List Int32} (h : c ≠ 48 ∧ c ≠ 97 ∧ c ≠ 126 ∧ c ≠ 33) : lst nm (c, v) s = ljo c (s.tail.headD 0) (s.headD 0) :: s.tail.tail := by
  unfold lst
  dsimp only
  rw [if_neg h.1, if_neg h.2.1, if_neg h.2.2.1, if_neg h.2.2.2]
theorem ljo_dzd {c : Int} {x y : Int32} (h : c ≠ 124 ∧ c ≠ 38 ∧ c ≠ 60 ∧ c ≠ 61 ∧ c ≠ 62 ∧ c ≠ 43 ∧ c ≠ 45 ∧ c ≠ 42) (hy : y.toInt = 0) : 0 = ljo c x y := by
  unfold ljo
  rw [if_neg h.1, if_neg h.2.1, if_neg h.2.2.1, if_neg h.2.2.2.1, if_neg h.2.2.2.2.1, if_neg h.2.2.2.2.2.1, if_neg h.2.2.2.2.2.2.1, if_neg h.2.2.2.2.2.2.2, if_pos (i_z hy), if_pos (i_z hy)]
  exact (ite_self _).symm
theorem ljo_red {c : Int} {x y : Int32} (h : c ≠ 124 ∧ c ≠ 38 ∧ c ≠ 60 ∧ c ≠ 61 ∧ c ≠ 62 ∧ c ≠ 43 ∧ c ≠ 45 ∧ c ≠ 42 ∧ c ≠ 47) (hy : y ≠ 0) : x - x / y * y = ljo c x y := by
  unfold ljo
  rw [if_neg h.1, if_neg h.2.1, if_neg h.2.2.1, if_neg h.2.2.2.1, if_neg h.2.2.2.2.1, if_neg h.2.2.2.2.2.1, if_neg h.2.2.2.2.2.2.1, if_neg h.2.2.2.2.2.2.2.1, if_neg h.2.2.2.2.2.2.2.2, if_neg hy]
theorem s_pushL {ro : List (List Int32)} {n d : Nat} {p : xH} {Q : Option Value → xH → Prop} {x : Int32} {xi : Int} (hx : x.toInt = xi) (pre0 : (rI p 20 4).toInt < 128) (k0 : ∀ p2 : xH, p2 = (wV (wV p 23 ((rI p 20 4).toInt.toNat) (.int x)) 20 4 (.int (rI p 20 4 + 1))) → Q none p2) : hP ro n d (3, 2, 1, 0, k46) 0 (lv_args 0 [.ref 20, .int x]) [] p Q := by
  subst hx
  refine hp_id (ls := [(0, .ref 20), (1, .int x)]) ?_
  refine hp_s (pc' := 1) (st' := [.ref 20]) rfl rfl rfl ?_
  refine hp_get (k := 4) (pc' := 4) (v := (rI p 20 4)) rfl rfl rfl rfl rfl rfl ?_
  refine hp_s (pc' := 7) (st' := [.int 128, .int (rI p 20 4)]) rfl rfl rfl ?_
  refine hp_ic (pc' := 10) (t := 11) (a := (rI p 20 4).toInt) (b := 128) rfl rfl rfl rfl (by decide) (fun (h1 : (rI p 20 4).toInt < 128) => ?_) (fun (h2 : ¬ ((rI p 20 4).toInt < 128)) => ?_)
  ·
    refine hp_s (pc' := 12) (st' := [.ref 20]) rfl rfl rfl ?_
    refine hp_getr (k := 3) (w := .ref 23) (pc' := 15) rfl rfl rfl rfl rfl ?_
    refine hp_s (pc' := 16) (st' := [.ref 20, .ref 23]) rfl rfl rfl ?_
    refine hp_get (k := 4) (pc' := 19) (v := (rI p 20 4)) rfl rfl rfl rfl rfl rfl ?_
    refine hp_s (pc' := 20) (st' := [.int x, .int (rI p 20 4), .ref 23]) rfl rfl rfl ?_
    refine hp_st (t := 100) rfl (.inl rfl) rfl rfl ?_
    intro p1 wp1 (p1a : 0 ≤ (rI p 20 4).toInt) (p1b : (rI p 20 4).toInt < 128) ep1
    refine hp_s (pc' := 22) (st' := [.ref 20]) rfl rfl rfl ?_
    refine hp_s (pc' := 23) (st' := [.ref 20, .ref 20]) rfl rfl rfl ?_
    refine hp_get (k := 4) (pc' := 26) (v := (rI p 20 4)) rfl rfl rfl rfl rfl (by rw [ep1, rI_o (by decide)]) ?_
    refine hp_s (pc' := 27) (st' := [.int 1, .int (rI p 20 4), .ref 20]) rfl rfl rfl ?_
    refine hp_z (pc' := 28) (e := (rI p 20 4) + 1) (st' := [.ref 20]) rfl rfl rfl ?_
    intro z1 hz1
    have ez1 := i_add hz1 (show (rI p 20 4).toInt = (rI p 20 4).toInt from rfl) (show (1 : Int32).toInt = 1 from by decide)
    refine hp_put (k := 4) (pc' := 31) rfl rfl rfl rfl rfl ?_
    intro p2 wp2 ep2
    refine hp_rv rfl rfl ?_
    first | (exact k0 _ (by subst_vars; repeat' (first | with_reducible rfl | omega | rfl | congr 1))) | (exfalso; omega)
  ·
    refine hp_rv rfl rfl ?_
    first | (exact k0 _ (by subst_vars; repeat' (first | with_reducible rfl | omega | rfl | congr 1))) | (exfalso; omega)
theorem s_popL {ro : List (List Int32)} {n d : Nat} {p : xH} {Q : Option Value → xH → Prop}   (k0 : ((rI p 20 4).toInt ≤ 0) → Q (some (.int (0))) p) (k1 : ∀ z : Int32, ∀ p2 : xH, p2 = (wV p 20 4 (.int (rI p 20 4 - 1))) → (0 < (rI p 20 4).toInt) → (z = rI p 23 ((rI p 20 4).toInt - 1).toNat) → Q (some (.int z)) p2) : hP ro n d (3, 1, 1, 1, k47) 0 (lv_args 0 [.ref 20]) [] p Q := by
  refine hp_id (ls := [(0, .ref 20)]) ?_
  refine hp_s (pc' := 1) (st' := [.ref 20]) rfl rfl rfl ?_
  refine hp_get (k := 4) (pc' := 4) (v := (rI p 20 4)) rfl rfl rfl rfl rfl rfl ?_
  refine hp_if (pc' := 7) (t := 9) (a := (rI p 20 4).toInt) rfl rfl rfl rfl (fun (h1 : 0 < (rI p 20 4).toInt) => ?_) (fun (h2 : ¬ (0 < (rI p 20 4).toInt)) => ?_)
  ·
    refine hp_s (pc' := 10) (st' := [.ref 20]) rfl rfl rfl ?_
    refine hp_s (pc' := 11) (st' := [.ref 20, .ref 20]) rfl rfl rfl ?_
    refine hp_get (k := 4) (pc' := 14) (v := (rI p 20 4)) rfl rfl rfl rfl rfl rfl ?_
    refine hp_s (pc' := 15) (st' := [.int 1, .int (rI p 20 4), .ref 20]) rfl rfl rfl ?_
    refine hp_z (pc' := 16) (e := (rI p 20 4) - 1) (st' := [.ref 20]) rfl rfl rfl ?_
    intro z1 hz1
    have ez1 := i_sub hz1 (show (rI p 20 4).toInt = (rI p 20 4).toInt from rfl) (show (1 : Int32).toInt = 1 from by decide)
    refine hp_put (k := 4) (pc' := 19) rfl rfl rfl rfl rfl ?_
    intro p1 wp1 ep1
    refine hp_s (pc' := 20) (st' := [.ref 20]) rfl rfl rfl ?_
    refine hp_getr (k := 3) (w := .ref 23) (pc' := 23) rfl rfl rfl rfl rfl ?_
    refine hp_s (pc' := 24) (st' := [.ref 20, .ref 23]) rfl rfl rfl ?_
    refine hp_get (k := 4) (pc' := 27) (v := z1) rfl rfl rfl rfl rfl (by rw [ep1, rI_eq wp1 (by decide)]) ?_
    refine hp_ld (t := 100) (v := (rI p 23 z1.toInt.toNat)) rfl (.inl rfl) rfl rfl (by rw [ep1, rI_o (by decide)]) ?_
    intro (g1a : 0 ≤ z1.toInt) (g1b : z1.toInt < 128)
    refine hp_ri rfl rfl ?_
    exact k1 _ _ (by rw [ep1, hz1]) (by omega) (by congr 1; omega)
  ·
    refine hp_s (pc' := 8) (st' := [.int 0]) rfl rfl rfl ?_
    refine hp_ri rfl rfl ?_
    exact k0 (by omega)
theorem s_joined {ro : List (List Int32)} {n d : Nat} {p : xH} {Q : Option Value → xH → Prop} {s : Int32} {si : Int} {x : Int32} {xi : Int} {y : Int32} {yi : Int} (hs : s.toInt = si) (hx : x.toInt = xi) (hy : y.toInt = yi)  (k0 : ∀ z : Int32, (z = ljo si x y) → Q (some (.int z)) p) : hP ro n d (3, 3, 0, 1, k45) 0 (lv_args 0 [.int s, .int x, .int y]) [] p Q := by
  subst hs
  subst hx
  subst hy
  refine hp_id (ls := [(0, .int s), (1, .int x), (2, .int y)]) ?_
  refine hp_s (pc' := 1) (st' := [.int s]) rfl rfl rfl ?_
  by_cases h1 : s.toInt = 38
  ·
    refine hp_sw (v := 38) (t := 98) rfl rfl (h1) rfl ?_
    refine hp_s (pc' := 99) (st' := [.int x]) rfl rfl rfl ?_
    refine hp_if (pc' := 102) (t := 110) (a := x.toInt) rfl rfl rfl rfl (fun (h2 : x.toInt = 0) => ?_) (fun (h3 : ¬ (x.toInt = 0)) => ?_)
    ·
      refine hp_s (pc' := 111) (st' := [.int 0]) rfl rfl rfl ?_
      refine hp_ri rfl rfl ?_
      exact k0 _ (by first | exact ljo_0 (by omega) | exact ljo_dzd (by omega) (by omega))
    ·
      refine hp_s (pc' := 103) (st' := [.int y]) rfl rfl rfl ?_
      refine hp_if (pc' := 106) (t := 110) (a := y.toInt) rfl rfl rfl rfl (fun (h4 : y.toInt = 0) => ?_) (fun (h5 : ¬ (y.toInt = 0)) => ?_)
      ·
        refine hp_s (pc' := 111) (st' := [.int 0]) rfl rfl rfl ?_
        refine hp_ri rfl rfl ?_
        exact k0 _ (by first | exact ljo_0 (by omega) | exact ljo_dzd (by omega) (by omega))
      ·
        refine hp_s (pc' := 107) (st' := [.int 1]) rfl rfl rfl ?_
        refine hp_go (pc' := 111) rfl rfl rfl ?_
        refine hp_ri rfl rfl ?_
        exact k0 _ (ljo_1 (by omega))
  by_cases h6 : s.toInt = 42
  ·
    refine hp_sw (v := 42) (t := 153) rfl rfl (h6) rfl ?_
    refine hp_s (pc' := 154) (st' := [.int x]) rfl rfl rfl ?_
    refine hp_s (pc' := 155) (st' := [.int y, .int x]) rfl rfl rfl ?_
    refine hp_z (pc' := 156) (e := x * y) (st' := []) rfl rfl rfl ?_
    intro z1 hz1
    have ez1 := i_mul hz1 (show x.toInt = x.toInt from rfl) (show y.toInt = y.toInt from rfl)
    refine hp_ri rfl rfl ?_
    exact k0 _ (by rw [hz1]; first | exact ljo_ad (by omega) | exact ljo_su (by omega) | exact ljo_mu (by omega))
  by_cases h7 : s.toInt = 43
  ·
    refine hp_sw (v := 43) (t := 145) rfl rfl (h7) rfl ?_
    refine hp_s (pc' := 146) (st' := [.int x]) rfl rfl rfl ?_
    refine hp_s (pc' := 147) (st' := [.int y, .int x]) rfl rfl rfl ?_
    refine hp_z (pc' := 148) (e := x + y) (st' := []) rfl rfl rfl ?_
    intro z2 hz2
    have ez2 := i_add hz2 (show x.toInt = x.toInt from rfl) (show y.toInt = y.toInt from rfl)
    refine hp_ri rfl rfl ?_
    exact k0 _ (by rw [hz2]; first | exact ljo_ad (by omega) | exact ljo_su (by omega) | exact ljo_mu (by omega))
  by_cases h8 : s.toInt = 45
  ·
    refine hp_sw (v := 45) (t := 149) rfl rfl (h8) rfl ?_
    refine hp_s (pc' := 150) (st' := [.int x]) rfl rfl rfl ?_
    refine hp_s (pc' := 151) (st' := [.int y, .int x]) rfl rfl rfl ?_
    refine hp_z (pc' := 152) (e := x - y) (st' := []) rfl rfl rfl ?_
    intro z3 hz3
    have ez3 := i_sub hz3 (show x.toInt = x.toInt from rfl) (show y.toInt = y.toInt from rfl)
    refine hp_ri rfl rfl ?_
    exact k0 _ (by rw [hz3]; first | exact ljo_ad (by omega) | exact ljo_su (by omega) | exact ljo_mu (by omega))
  by_cases h9 : s.toInt = 47
  ·
    refine hp_sw (v := 47) (t := 157) rfl rfl (h9) rfl ?_
    refine hp_s (pc' := 158) (st' := [.int y]) rfl rfl rfl ?_
    refine hp_if (pc' := 161) (t := 165) (a := y.toInt) rfl rfl rfl rfl (fun (h10 : y.toInt ≠ 0) => ?_) (fun (h11 : ¬ (y.toInt ≠ 0)) => ?_)
    ·
      refine hp_s (pc' := 166) (st' := [.int x]) rfl rfl rfl ?_
      refine hp_s (pc' := 167) (st' := [.int y, .int x]) rfl rfl rfl ?_
      refine hp_div (pc' := 168) rfl rfl ?_
      intro nz4 z4 hz4
      refine hp_ri rfl rfl ?_
      exact k0 _ (by rw [hz4]; first | exact ljo_di (by omega) nz4 | exact ljo_red (by omega) nz4)
    ·
      refine hp_s (pc' := 162) (st' := [.int 0]) rfl rfl rfl ?_
      refine hp_go (pc' := 168) rfl rfl rfl ?_
      refine hp_ri rfl rfl ?_
      exact k0 _ (by first | exact ljo_0 (by omega) | exact ljo_dzd (by omega) (by omega))
  by_cases h12 : s.toInt = 60
  ·
    refine hp_sw (v := 60) (t := 112) rfl rfl (h12) rfl ?_
    refine hp_s (pc' := 113) (st' := [.int x]) rfl rfl rfl ?_
    refine hp_s (pc' := 114) (st' := [.int y, .int x]) rfl rfl rfl ?_
    refine hp_ic (pc' := 117) (t := 121) (a := x.toInt) (b := y.toInt) rfl rfl rfl rfl rfl (fun (h13 : y.toInt ≤ x.toInt) => ?_) (fun (h14 : ¬ (y.toInt ≤ x.toInt)) => ?_)
    ·
      refine hp_s (pc' := 122) (st' := [.int 0]) rfl rfl rfl ?_
      refine hp_ri rfl rfl ?_
      exact k0 _ (by first | exact ljo_0 (by omega) | exact ljo_dzd (by omega) (by omega))
    ·
      refine hp_s (pc' := 118) (st' := [.int 1]) rfl rfl rfl ?_
      refine hp_go (pc' := 122) rfl rfl rfl ?_
      refine hp_ri rfl rfl ?_
      exact k0 _ (ljo_1 (by omega))
  by_cases h15 : s.toInt = 61
  ·
    refine hp_sw (v := 61) (t := 123) rfl rfl (h15) rfl ?_
    refine hp_s (pc' := 124) (st' := [.int x]) rfl rfl rfl ?_
    refine hp_s (pc' := 125) (st' := [.int y, .int x]) rfl rfl rfl ?_
    refine hp_ic (pc' := 128) (t := 132) (a := x.toInt) (b := y.toInt) rfl rfl rfl rfl rfl (fun (h16 : x.toInt ≠ y.toInt) => ?_) (fun (h17 : ¬ (x.toInt ≠ y.toInt)) => ?_)
    ·
      refine hp_s (pc' := 133) (st' := [.int 0]) rfl rfl rfl ?_
      refine hp_ri rfl rfl ?_
      exact k0 _ (by first | exact ljo_0 (by omega) | exact ljo_dzd (by omega) (by omega))
    ·
      refine hp_s (pc' := 129) (st' := [.int 1]) rfl rfl rfl ?_
      refine hp_go (pc' := 133) rfl rfl rfl ?_
      refine hp_ri rfl rfl ?_
      exact k0 _ (ljo_1 (by omega))
  by_cases h18 : s.toInt = 62
  ·
    refine hp_sw (v := 62) (t := 134) rfl rfl (h18) rfl ?_
    refine hp_s (pc' := 135) (st' := [.int x]) rfl rfl rfl ?_
    refine hp_s (pc' := 136) (st' := [.int y, .int x]) rfl rfl rfl ?_
    refine hp_ic (pc' := 139) (t := 143) (a := x.toInt) (b := y.toInt) rfl rfl rfl rfl rfl (fun (h19 : x.toInt ≤ y.toInt) => ?_) (fun (h20 : ¬ (x.toInt ≤ y.toInt)) => ?_)
    ·
      refine hp_s (pc' := 144) (st' := [.int 0]) rfl rfl rfl ?_
      refine hp_ri rfl rfl ?_
      exact k0 _ (by first | exact ljo_0 (by omega) | exact ljo_dzd (by omega) (by omega))
    ·
      refine hp_s (pc' := 140) (st' := [.int 1]) rfl rfl rfl ?_
      refine hp_go (pc' := 144) rfl rfl rfl ?_
      refine hp_ri rfl rfl ?_
      exact k0 _ (ljo_1 (by omega))
  by_cases h21 : s.toInt = 124
  ·
    refine hp_sw (v := 124) (t := 84) rfl rfl (h21) rfl ?_
    refine hp_s (pc' := 85) (st' := [.int x]) rfl rfl rfl ?_
    refine hp_if (pc' := 88) (t := 92) (a := x.toInt) rfl rfl rfl rfl (fun (h22 : x.toInt ≠ 0) => ?_) (fun (h23 : ¬ (x.toInt ≠ 0)) => ?_)
    ·
      refine hp_s (pc' := 93) (st' := [.int 1]) rfl rfl rfl ?_
      refine hp_go (pc' := 97) rfl rfl rfl ?_
      refine hp_ri rfl rfl ?_
      exact k0 _ (ljo_1 (by omega))
    ·
      refine hp_s (pc' := 89) (st' := [.int y]) rfl rfl rfl ?_
      refine hp_if (pc' := 92) (t := 96) (a := y.toInt) rfl rfl rfl rfl (fun (h24 : y.toInt = 0) => ?_) (fun (h25 : ¬ (y.toInt = 0)) => ?_)
      ·
        refine hp_s (pc' := 97) (st' := [.int 0]) rfl rfl rfl ?_
        refine hp_ri rfl rfl ?_
        exact k0 _ (by first | exact ljo_0 (by omega) | exact ljo_dzd (by omega) (by omega))
      ·
        refine hp_s (pc' := 93) (st' := [.int 1]) rfl rfl rfl ?_
        refine hp_go (pc' := 97) rfl rfl rfl ?_
        refine hp_ri rfl rfl ?_
        exact k0 _ (ljo_1 (by omega))
  refine hp_lsd (x := s) (t := 169) rfl rfl rfl (And.intro (show ((38 : Int) ≠ s.toInt) from (by omega)) (And.intro (show ((42 : Int) ≠ s.toInt) from (by omega)) (And.intro (show ((43 : Int) ≠ s.toInt) from (by omega)) (And.intro (show ((45 : Int) ≠ s.toInt) from (by omega)) (And.intro (show ((47 : Int) ≠ s.toInt) from (by omega)) (And.intro (show ((60 : Int) ≠ s.toInt) from (by omega)) (And.intro (show ((61 : Int) ≠ s.toInt) from (by omega)) (And.intro (show ((62 : Int) ≠ s.toInt) from (by omega)) (And.intro (show ((124 : Int) ≠ s.toInt) from (by omega)) trivial))))))))) ?_
  refine hp_s (pc' := 170) (st' := [.int y]) rfl rfl rfl ?_
  refine hp_if (pc' := 173) (t := 177) (a := y.toInt) rfl rfl rfl rfl (fun (h26 : y.toInt ≠ 0) => ?_) (fun (h27 : ¬ (y.toInt ≠ 0)) => ?_)
  ·
    refine hp_s (pc' := 178) (st' := [.int x]) rfl rfl rfl ?_
    refine hp_s (pc' := 179) (st' := [.int y, .int x]) rfl rfl rfl ?_
    refine hp_rem (pc' := 180) rfl rfl ?_
    intro nz5 z5 hz5
    refine hp_ri rfl rfl ?_
    exact k0 _ (by rw [hz5]; first | exact ljo_di (by omega) nz5 | exact ljo_red (by omega) nz5)
  ·
    refine hp_s (pc' := 174) (st' := [.int 0]) rfl rfl rfl ?_
    refine hp_go (pc' := 180) rfl rfl rfl ?_
    refine hp_ri rfl rfl ?_
    exact k0 _ (by first | exact ljo_0 (by omega) | exact ljo_dzd (by omega) (by omega))
def nX (p : xH) (k : Int) : Int32 := rI p 24 k.toNat
theorem nX_nt {p p2 : xH} (h : hNt T_st p p2) : nX p2 = nX p := by
  funext j
  unfold nX
  rw [h.int (r := 24) rfl]
theorem HS_self {p0 p : xH} {st : List Int32} (h : HS p0 p st) : HS p p st := ⟨hNt.refl _ _, h.2⟩
theorem HS_tr {p0 p p2 : xH} {st st2 : List Int32} (h : HS p0 p st) (g : HS p p2 st2) : HS p0 p2 st2 := ⟨h.1.trans g.1, g.2⟩
theorem s_runL {ro : List (List Int32)} {n d : Nat} {p : xH} {Q : Option Value → xH → Prop} (st : List Int32) {s : Int32} {si : Int} {v : Int32} {vi : Int} (hs : s.toInt = si) (hv : v.toInt = vi) (pre0 : HS p p st) (pre1 : st.length < 128) (pre2 : si ≠ 97 ∨ (0 ≤ vi ∧ vi ≤ 5)) (k0 : (si = 63) → Q none p) (k1 : ∀ p2 : xH, (hNt T_st p p2) → (si ≠ 63) → (HS p p2 (lst (nX p) (si, v) st)) → Q none p2) : hP ro n d (3, 4, 1, 0, k44) 0 (lv_args 0 [.ref 20, .int s, .int v]) [] p Q := by
  subst hs
  subst hv
  refine hp_id (ls := [(0, .ref 20), (1, .int s), (2, .int v)]) ?_
  refine hp_hw (fun wp => ?_)
  have hl0 := pre0.2.1
  refine hp_s (pc' := 1) (st' := [.int s]) rfl rfl rfl ?_
  by_cases h1 : s.toInt = 33
  ·
    refine hp_sw (v := 33) (t := 105) rfl rfl (h1) rfl ?_
    refine hp_s (pc' := 106) (st' := [.ref 20]) rfl rfl rfl ?_
    refine hp_s (pc' := 107) (st' := [.ref 20, .ref 20]) rfl rfl rfl ?_
    refine hp_cv (r := 20) (o := 3) (kd := 1) (as := []) (rest := [.ref 20]) (pc' := 110) rfl rfl rfl rfl rfl rfl rfl rfl rfl (fun d1 => ?_)
    refine s_popL ?_ ?_
    ·
      intro h2
      have hA := HS_popE pre0 h2
      have whA := wp
      have lhA := hA.2.2.1
      have ghA : st.tail.length ≤ st.length := by rw [List.length_tail]; omega
      refine hp_id (st := [.int 0, .ref 20]) ?_
      refine hp_go (pc' := 113) rfl rfl rfl ?_
      refine hp_s (pc' := 114) (st' := [.int 1, .ref 20]) rfl rfl rfl ?_
      refine hp_go (pc' := 118) rfl rfl rfl ?_
      refine hp_cv (r := 20) (o := 3) (kd := 1) (as := [.int 1]) (rest := []) (pc' := 121) rfl rfl rfl rfl rfl rfl rfl rfl rfl (fun d2 => ?_)
      refine s_pushL (xi := 1) (by decide) (by first | assumption | omega) ?_
      intro p1 ep1
      refine hp_id (st := []) ?_
      refine hp_go (pc' := 142) rfl rfl rfl ?_
      refine hp_rv rfl rfl ?_
      have hF := HS_push hA.2 whA (by omega) ep1
      exact k1 _ hF.1 (by omega) (by rw [lst_not (by omega), hA.1]; first | (rw [if_pos (i_z (by first | omega | decide))]; exact hF) | (rw [if_neg (i_nz (by omega))]; exact hF))
    ·
      intro y1 p2 ep2 h3 h4
      have hA := HS_popN pre0 wp h3 ep2 h4
      refine hp_hw (fun whA => ?_)
      have lhA := hA.2.2.1
      have ghA : st.tail.length ≤ st.length := by rw [List.length_tail]; omega
      refine hp_id (st := [.int y1, .ref 20]) ?_
      refine hp_if (pc' := 113) (t := 117) (a := y1.toInt) rfl rfl rfl rfl (fun (h5 : y1.toInt ≠ 0) => ?_) (fun (h6 : ¬ (y1.toInt ≠ 0)) => ?_)
      ·
        refine hp_s (pc' := 118) (st' := [.int 0, .ref 20]) rfl rfl rfl ?_
        refine hp_cv (r := 20) (o := 3) (kd := 1) (as := [.int 0]) (rest := []) (pc' := 121) rfl rfl rfl rfl rfl rfl rfl rfl rfl (fun d3 => ?_)
        refine s_pushL (xi := 0) (by decide) (by first | assumption | omega) ?_
        intro p3 ep3
        refine hp_id (st := []) ?_
        refine hp_go (pc' := 142) rfl rfl rfl ?_
        refine hp_rv rfl rfl ?_
        have hF := HS_push hA.2 whA (by omega) ep3
        exact k1 _ hF.1 (by omega) (by rw [lst_not (by omega), hA.1]; first | (rw [if_pos (i_z (by first | omega | decide))]; exact hF) | (rw [if_neg (i_nz (by omega))]; exact hF))
      ·
        refine hp_s (pc' := 114) (st' := [.int 1, .ref 20]) rfl rfl rfl ?_
        refine hp_go (pc' := 118) rfl rfl rfl ?_
        refine hp_cv (r := 20) (o := 3) (kd := 1) (as := [.int 1]) (rest := []) (pc' := 121) rfl rfl rfl rfl rfl rfl rfl rfl rfl (fun d4 => ?_)
        refine s_pushL (xi := 1) (by decide) (by first | assumption | omega) ?_
        intro p4 ep4
        refine hp_id (st := []) ?_
        refine hp_go (pc' := 142) rfl rfl rfl ?_
        refine hp_rv rfl rfl ?_
        have hF := HS_push hA.2 whA (by omega) ep4
        exact k1 _ hF.1 (by omega) (by rw [lst_not (by omega), hA.1]; first | (rw [if_pos (i_z (by first | omega | decide))]; exact hF) | (rw [if_neg (i_nz (by omega))]; exact hF))
  by_cases h7 : s.toInt = 48
  ·
    refine hp_sw (v := 48) (t := 55) rfl rfl (h7) rfl ?_
    refine hp_s (pc' := 56) (st' := [.ref 20]) rfl rfl rfl ?_
    refine hp_s (pc' := 57) (st' := [.int v, .ref 20]) rfl rfl rfl ?_
    refine hp_cv (r := 20) (o := 3) (kd := 1) (as := [.int v]) (rest := []) (pc' := 60) rfl rfl rfl rfl rfl rfl rfl rfl rfl (fun d5 => ?_)
    refine s_pushL (xi := v.toInt) rfl (by first | assumption | omega) ?_
    intro p5 ep5
    refine hp_id (st := []) ?_
    refine hp_go (pc' := 142) rfl rfl rfl ?_
    refine hp_rv rfl rfl ?_
    have hF := HS_push pre0 wp (by omega) ep5
    exact k1 _ hF.1 (by omega) (by rw [lst_num (by omega)]; exact hF)
  by_cases h8 : s.toInt = 63
  ·
    refine hp_sw (v := 63) (t := 52) rfl rfl (h8) rfl ?_
    refine hp_go (pc' := 142) rfl rfl rfl ?_
    refine hp_rv rfl rfl ?_
    exact k0 (by omega)
  by_cases h9 : s.toInt = 97
  ·
    refine hp_sw (v := 97) (t := 63) rfl rfl (h9) rfl ?_
    refine hp_s (pc' := 64) (st' := [.ref 20]) rfl rfl rfl ?_
    refine hp_s (pc' := 65) (st' := [.int v, .ref 20]) rfl rfl rfl ?_
    refine hp_if (pc' := 68) (t := 86) (a := v.toInt) rfl rfl rfl rfl (fun (h10 : v.toInt < 0) => ?_) (fun (h11 : ¬ (v.toInt < 0)) => ?_)
    ·
      refine hp_s (pc' := 87) (st' := [.int 0, .ref 20]) rfl rfl rfl ?_
      refine hp_cv (r := 20) (o := 3) (kd := 1) (as := [.int 0]) (rest := []) (pc' := 90) rfl rfl rfl rfl rfl rfl rfl rfl rfl (fun d6 => ?_)
      refine s_pushL (xi := 0) (by decide) (by first | assumption | omega) ?_
      intro p6 ep6
      refine hp_id (st := []) ?_
      refine hp_go (pc' := 142) rfl rfl rfl ?_
      refine hp_rv rfl rfl ?_
      exfalso; omega
    ·
      refine hp_s (pc' := 69) (st' := [.int v, .ref 20]) rfl rfl rfl ?_
      refine hp_s (pc' := 70) (st' := [.ref 20, .int v, .ref 20]) rfl rfl rfl ?_
      refine hp_getr (k := 5) (w := .ref 24) (pc' := 73) rfl rfl rfl rfl rfl ?_
      refine hp_len rfl rfl rfl ?_
      refine hp_id (st := [.int 6, .int v, .ref 20]) ?_
      refine hp_ic (pc' := 77) (t := 86) (a := v.toInt) (b := 6) rfl rfl rfl rfl (by decide) (fun (h12 : 6 ≤ v.toInt) => ?_) (fun (h13 : ¬ (6 ≤ v.toInt)) => ?_)
      ·
        refine hp_s (pc' := 87) (st' := [.int 0, .ref 20]) rfl rfl rfl ?_
        refine hp_cv (r := 20) (o := 3) (kd := 1) (as := [.int 0]) (rest := []) (pc' := 90) rfl rfl rfl rfl rfl rfl rfl rfl rfl (fun d7 => ?_)
        refine s_pushL (xi := 0) (by decide) (by first | assumption | omega) ?_
        intro p7 ep7
        refine hp_id (st := []) ?_
        refine hp_go (pc' := 142) rfl rfl rfl ?_
        refine hp_rv rfl rfl ?_
        exfalso; omega
      ·
        refine hp_s (pc' := 78) (st' := [.ref 20, .ref 20]) rfl rfl rfl ?_
        refine hp_getr (k := 5) (w := .ref 24) (pc' := 81) rfl rfl rfl rfl rfl ?_
        refine hp_s (pc' := 82) (st' := [.int v, .ref 24, .ref 20]) rfl rfl rfl ?_
        refine hp_ld (t := 100) (v := (rI p 24 v.toInt.toNat)) rfl (.inl rfl) rfl rfl rfl ?_
        intro (g1a : 0 ≤ v.toInt) (g1b : v.toInt < 6)
        refine hp_go (pc' := 87) rfl rfl rfl ?_
        refine hp_cv (r := 20) (o := 3) (kd := 1) (as := [.int (rI p 24 v.toInt.toNat)]) (rest := []) (pc' := 90) rfl rfl rfl rfl rfl rfl rfl rfl rfl (fun d8 => ?_)
        refine s_pushL (xi := (rI p 24 v.toInt.toNat).toInt) rfl (by first | assumption | omega) ?_
        intro p8 ep8
        refine hp_id (st := []) ?_
        refine hp_go (pc' := 142) rfl rfl rfl ?_
        refine hp_rv rfl rfl ?_
        have hF := HS_push pre0 wp (by omega) ep8
        exact k1 _ hF.1 (by omega) (by rw [lst_nam (by omega)]; exact hF)
  by_cases h14 : s.toInt = 126
  ·
    refine hp_sw (v := 126) (t := 93) rfl rfl (h14) rfl ?_
    refine hp_s (pc' := 94) (st' := [.ref 20]) rfl rfl rfl ?_
    refine hp_s (pc' := 95) (st' := [.ref 20, .ref 20]) rfl rfl rfl ?_
    refine hp_cv (r := 20) (o := 3) (kd := 1) (as := []) (rest := [.ref 20]) (pc' := 98) rfl rfl rfl rfl rfl rfl rfl rfl rfl (fun d9 => ?_)
    refine s_popL ?_ ?_
    ·
      intro h15
      have hA := HS_popE pre0 h15
      have whA := wp
      have lhA := hA.2.2.1
      have ghA : st.tail.length ≤ st.length := by rw [List.length_tail]; omega
      refine hp_id (st := [.int 0, .ref 20]) ?_
      refine hp_z (pc' := 99) (e := -0) (st' := [.ref 20]) rfl rfl rfl ?_
      intro z1 hz1
      have ez1 := i_neg hz1 (show (0 : Int32).toInt = 0 from by decide)
      refine hp_cv (r := 20) (o := 3) (kd := 1) (as := [.int z1]) (rest := []) (pc' := 102) rfl rfl rfl rfl rfl rfl rfl rfl rfl (fun d10 => ?_)
      refine s_pushL (xi := z1.toInt) rfl (by first | assumption | omega) ?_
      intro p9 ep9
      refine hp_id (st := []) ?_
      refine hp_go (pc' := 142) rfl rfl rfl ?_
      refine hp_rv rfl rfl ?_
      have hF := HS_push hA.2 whA (by omega) ep9
      exact k1 _ hF.1 (by omega) (by rw [lst_neg (by omega), hA.1, ← hz1]; exact hF)
    ·
      intro y2 p10 ep10 h16 h17
      have hA := HS_popN pre0 wp h16 ep10 h17
      refine hp_hw (fun whA => ?_)
      have lhA := hA.2.2.1
      have ghA : st.tail.length ≤ st.length := by rw [List.length_tail]; omega
      refine hp_id (st := [.int y2, .ref 20]) ?_
      refine hp_z (pc' := 99) (e := -y2) (st' := [.ref 20]) rfl rfl rfl ?_
      intro z2 hz2
      have ez2 := i_neg hz2 (show y2.toInt = y2.toInt from rfl)
      refine hp_cv (r := 20) (o := 3) (kd := 1) (as := [.int z2]) (rest := []) (pc' := 102) rfl rfl rfl rfl rfl rfl rfl rfl rfl (fun d11 => ?_)
      refine s_pushL (xi := z2.toInt) rfl (by first | assumption | omega) ?_
      intro p11 ep11
      refine hp_id (st := []) ?_
      refine hp_go (pc' := 142) rfl rfl rfl ?_
      refine hp_rv rfl rfl ?_
      have hF := HS_push hA.2 whA (by omega) ep11
      exact k1 _ hF.1 (by omega) (by rw [lst_neg (by omega), hA.1, ← hz2]; exact hF)
  refine hp_lsd (x := s) (t := 124) rfl rfl rfl (And.intro (show ((33 : Int) ≠ s.toInt) from (by omega)) (And.intro (show ((48 : Int) ≠ s.toInt) from (by omega)) (And.intro (show ((63 : Int) ≠ s.toInt) from (by omega)) (And.intro (show ((97 : Int) ≠ s.toInt) from (by omega)) (And.intro (show ((126 : Int) ≠ s.toInt) from (by omega)) trivial))))) ?_
  refine hp_s (pc' := 125) (st' := [.ref 20]) rfl rfl rfl ?_
  refine hp_cv (r := 20) (o := 3) (kd := 1) (as := []) (rest := []) (pc' := 128) rfl rfl rfl rfl rfl rfl rfl rfl rfl (fun d12 => ?_)
  refine s_popL ?_ ?_
  ·
    intro h18
    have hA := HS_popE pre0 h18
    have whA := wp
    have lhA := hA.2.2.1
    have ghA : st.tail.length ≤ st.length := by rw [List.length_tail]; omega
    refine hp_id (st := [.int 0]) ?_
    refine hp_s (pc' := 129) (ls' := [(3, .int 0), (0, .ref 20), (1, .int s), (2, .int v)]) (st' := []) rfl rfl rfl ?_
    refine hp_s (pc' := 130) (st' := [.ref 20]) rfl rfl rfl ?_
    refine hp_s (pc' := 131) (st' := [.int s, .ref 20]) rfl rfl rfl ?_
    refine hp_s (pc' := 132) (st' := [.ref 20, .int s, .ref 20]) rfl rfl rfl ?_
    refine hp_cv (r := 20) (o := 3) (kd := 1) (as := []) (rest := [.int s, .ref 20]) (pc' := 135) rfl rfl rfl rfl rfl rfl rfl rfl rfl (fun d13 => ?_)
    refine s_popL ?_ ?_
    ·
      intro h19
      have hB := HS_popE hA.2 h19
      have whB := whA
      have lhB := hB.2.2.1
      have ghB : st.tail.tail.length ≤ st.tail.length := by rw [List.length_tail]; omega
      refine hp_id (st := [.int 0, .int s, .ref 20]) ?_
      refine hp_s (pc' := 136) (st' := [.int 0, .int 0, .int s, .ref 20]) rfl rfl rfl ?_
      refine hp_cs (kd := 0) (as := [.int s, .int 0, .int 0]) (rest := [.ref 20]) (pc' := 139) rfl rfl rfl rfl rfl rfl rfl (fun d14 => ?_)
      refine s_joined (si := s.toInt) rfl (xi := 0) (by decide) (yi := 0) (by decide) ?_
      intro y3 h20
      refine hp_id (st := [.int y3, .ref 20]) ?_
      refine hp_cv (r := 20) (o := 3) (kd := 1) (as := [.int y3]) (rest := []) (pc' := 142) rfl rfl rfl rfl rfl rfl rfl rfl rfl (fun d15 => ?_)
      refine s_pushL (xi := y3.toInt) rfl (by first | assumption | omega) ?_
      intro p12 ep12
      refine hp_id (st := []) ?_
      refine hp_rv rfl rfl ?_
      have hF := HS_push hB.2 whB (by omega) ep12
      exact k1 _ hF.1 (by omega) (by rw [lst_bin (by omega), hA.1, hB.1, ← h20]; exact hF)
    ·
      intro y4 p13 ep13 h21 h22
      have hB := HS_popN hA.2 whA h21 ep13 h22
      refine hp_hw (fun whB => ?_)
      have lhB := hB.2.2.1
      have ghB : st.tail.tail.length ≤ st.tail.length := by rw [List.length_tail]; omega
      refine hp_id (st := [.int y4, .int s, .ref 20]) ?_
      refine hp_s (pc' := 136) (st' := [.int 0, .int y4, .int s, .ref 20]) rfl rfl rfl ?_
      refine hp_cs (kd := 0) (as := [.int s, .int y4, .int 0]) (rest := [.ref 20]) (pc' := 139) rfl rfl rfl rfl rfl rfl rfl (fun d16 => ?_)
      refine s_joined (si := s.toInt) rfl (xi := y4.toInt) rfl (yi := 0) (by decide) ?_
      intro y5 h23
      refine hp_id (st := [.int y5, .ref 20]) ?_
      refine hp_cv (r := 20) (o := 3) (kd := 1) (as := [.int y5]) (rest := []) (pc' := 142) rfl rfl rfl rfl rfl rfl rfl rfl rfl (fun d17 => ?_)
      refine s_pushL (xi := y5.toInt) rfl (by first | assumption | omega) ?_
      intro p14 ep14
      refine hp_id (st := []) ?_
      refine hp_rv rfl rfl ?_
      have hF := HS_push hB.2 whB (by omega) ep14
      exact k1 _ hF.1 (by omega) (by rw [lst_bin (by omega), hA.1, hB.1, ← h23]; exact hF)
  ·
    intro y6 p15 ep15 h24 h25
    have hA := HS_popN pre0 wp h24 ep15 h25
    refine hp_hw (fun whA => ?_)
    have lhA := hA.2.2.1
    have ghA : st.tail.length ≤ st.length := by rw [List.length_tail]; omega
    refine hp_id (st := [.int y6]) ?_
    refine hp_s (pc' := 129) (ls' := [(3, .int y6), (0, .ref 20), (1, .int s), (2, .int v)]) (st' := []) rfl rfl rfl ?_
    refine hp_s (pc' := 130) (st' := [.ref 20]) rfl rfl rfl ?_
    refine hp_s (pc' := 131) (st' := [.int s, .ref 20]) rfl rfl rfl ?_
    refine hp_s (pc' := 132) (st' := [.ref 20, .int s, .ref 20]) rfl rfl rfl ?_
    refine hp_cv (r := 20) (o := 3) (kd := 1) (as := []) (rest := [.int s, .ref 20]) (pc' := 135) rfl rfl rfl rfl rfl rfl rfl rfl rfl (fun d18 => ?_)
    refine s_popL ?_ ?_
    ·
      intro h26
      have hB := HS_popE hA.2 h26
      have whB := whA
      have lhB := hB.2.2.1
      have ghB : st.tail.tail.length ≤ st.tail.length := by rw [List.length_tail]; omega
      refine hp_id (st := [.int 0, .int s, .ref 20]) ?_
      refine hp_s (pc' := 136) (st' := [.int y6, .int 0, .int s, .ref 20]) rfl rfl rfl ?_
      refine hp_cs (kd := 0) (as := [.int s, .int 0, .int y6]) (rest := [.ref 20]) (pc' := 139) rfl rfl rfl rfl rfl rfl rfl (fun d19 => ?_)
      refine s_joined (si := s.toInt) rfl (xi := 0) (by decide) (yi := y6.toInt) rfl ?_
      intro y7 h27
      refine hp_id (st := [.int y7, .ref 20]) ?_
      refine hp_cv (r := 20) (o := 3) (kd := 1) (as := [.int y7]) (rest := []) (pc' := 142) rfl rfl rfl rfl rfl rfl rfl rfl rfl (fun d20 => ?_)
      refine s_pushL (xi := y7.toInt) rfl (by first | assumption | omega) ?_
      intro p16 ep16
      refine hp_id (st := []) ?_
      refine hp_rv rfl rfl ?_
      have hF := HS_push hB.2 whB (by omega) ep16
      exact k1 _ hF.1 (by omega) (by rw [lst_bin (by omega), hA.1, hB.1, ← h27]; exact hF)
    ·
      intro y8 p17 ep17 h28 h29
      have hB := HS_popN hA.2 whA h28 ep17 h29
      refine hp_hw (fun whB => ?_)
      have lhB := hB.2.2.1
      have ghB : st.tail.tail.length ≤ st.tail.length := by rw [List.length_tail]; omega
      refine hp_id (st := [.int y8, .int s, .ref 20]) ?_
      refine hp_s (pc' := 136) (st' := [.int y6, .int y8, .int s, .ref 20]) rfl rfl rfl ?_
      refine hp_cs (kd := 0) (as := [.int s, .int y8, .int y6]) (rest := [.ref 20]) (pc' := 139) rfl rfl rfl rfl rfl rfl rfl (fun d21 => ?_)
      refine s_joined (si := s.toInt) rfl (xi := y8.toInt) rfl (yi := y6.toInt) rfl ?_
      intro y9 h30
      refine hp_id (st := [.int y9, .ref 20]) ?_
      refine hp_cv (r := 20) (o := 3) (kd := 1) (as := [.int y9]) (rest := []) (pc' := 142) rfl rfl rfl rfl rfl rfl rfl rfl rfl (fun d22 => ?_)
      refine s_pushL (xi := y9.toInt) rfl (by first | assumption | omega) ?_
      intro p18 ep18
      refine hp_id (st := []) ?_
      refine hp_rv rfl rfl ?_
      have hF := HS_push hB.2 whB (by omega) ep18
      exact k1 _ hF.1 (by omega) (by rw [lst_bin (by omega), hA.1, hB.1, ← h30]; exact hF)
/-- where the machine stands: the locals, once round or not yet -/
def hLS (di x y h m e : Int32) (o : Option Int32) (stp pc : Int32) : xL := match o with
  | none => [(8, .int stp), (7, .int pc), (6, .int di), (0, .ref 20), (1, .int x), (2, .int y), (3, .int h), (4, .int m), (5, .int e)]
  | some s => [(8, .int stp), (7, .int pc), (9, .int s), (6, .int di), (0, .ref 20), (1, .int x), (2, .int y), (3, .int h), (4, .int m), (5, .int e)]
theorem lp_43 {ro : List (List Int32)} {d : Nat} {Q : Option Value → xH → Prop} {p0 p : xH} {st : List Int32} {stp pc di x y h m e v sg : Int32} {c : Int} (h1 : 0 ≤ stp.toInt) (h2 : stp.toInt ≤ pc.toInt) (h3 : pc.toInt < (rI p 20 2).toInt) (h4 : (rI p 20 2).toInt ≤ 128) (hc1 : (rI p 21 pc.toInt.toNat).toInt = c) (hc2 : rI p 22 pc.toInt.toNat = v) (hS : HS p0 p st) (hl : (st.length : Int) ≤ pc.toInt) (hr : c ≠ 97 ∨ (0 ≤ v.toInt ∧ v.toInt ≤ 5)) (K1 : c ≠ 59 → c ≠ 63 → ∀ (n2 : Nat) (o2 : Option Int32) (stp2 pc2 : Int32) (p2 : xH), pc2.toInt = pc.toInt + 1 → stp2.toInt = stp.toInt + 1 → HS p0 p2 (lst (nX p0) (c, v) st) → hP ro n2 d (3, 10, 1, 2, k43) 92 (hLS di x y h m e o2 stp2 pc2) [] p2 Q) (K2 : c = 59 → ∀ p2 : xH, hNt T_st p0 p2 → Q (some (.int (if st.headD 0 = 0 then 0 else 1))) p2) (K3 : c = 63 → st.headD 0 = 0 → ∀ (n2 : Nat) (o2 : Option Int32) (stp2 pc2 : Int32) (p2 : xH), pc2 = v → stp2.toInt = stp.toInt + 1 → HS p0 p2 st.tail → hP ro n2 d (3, 10, 1, 2, k43) 92 (hLS di x y h m e o2 stp2 pc2) [] p2 Q) (K4 : c = 63 → st.headD 0 ≠ 0 → ∀ (n2 : Nat) (o2 : Option Int32) (stp2 pc2 : Int32) (p2 : xH), pc2.toInt = pc.toInt + 1 → stp2.toInt = stp.toInt + 1 → HS p0 p2 st.tail → hP ro n2 d (3, 10, 1, 2, k43) 92 (hLS di x y h m e o2 stp2 pc2) [] p2 Q) : ∀ (n : Nat), hP ro n d (3, 10, 1, 2, k43) 92 [(8, .int stp), (7, .int pc), (9, .int sg), (6, .int di), (0, .ref 20), (1, .int x), (2, .int y), (3, .int h), (4, .int m), (5, .int e)] [] p Q := by
  intro n
  refine hp_hw (fun wp => ?_)
  have hS0 := HS_self hS
  have hv2 : (rI p 22 pc.toInt.toNat).toInt = v.toInt := by rw [hc2]
  refine hp_s (pc' := 94) (st' := [.int stp]) rfl rfl rfl ?_
  refine hp_s (pc' := 97) (st' := [.int 128, .int stp]) rfl rfl rfl ?_
  refine hp_ic (pc' := 100) (t := 186) (a := stp.toInt) (b := 128) rfl rfl rfl rfl (by decide) (fun (h1 : 128 ≤ stp.toInt) => ?_) (fun (h2 : ¬ (128 ≤ stp.toInt)) => ?_)
  ·
    refine hp_s (pc' := 187) (st' := [.int 0]) rfl rfl rfl ?_
    refine hp_rb rfl rfl (fun _ => ?_)
    exfalso; omega
  ·
    refine hp_s (pc' := 102) (st' := [.int pc]) rfl rfl rfl ?_
    refine hp_s (pc' := 103) (st' := [.ref 20, .int pc]) rfl rfl rfl ?_
    refine hp_get (k := 2) (pc' := 106) (v := (rI p 20 2)) rfl rfl rfl rfl rfl rfl ?_
    refine hp_ic (pc' := 109) (t := 186) (a := pc.toInt) (b := (rI p 20 2).toInt) rfl rfl rfl rfl rfl (fun (h3 : (rI p 20 2).toInt ≤ pc.toInt) => ?_) (fun (h4 : ¬ ((rI p 20 2).toInt ≤ pc.toInt)) => ?_)
    ·
      refine hp_s (pc' := 187) (st' := [.int 0]) rfl rfl rfl ?_
      refine hp_rb rfl rfl (fun _ => ?_)
      exfalso; omega
    ·
      refine hp_s (pc' := 110) (st' := [.ref 20]) rfl rfl rfl ?_
      refine hp_getr (k := 0) (w := .ref 21) (pc' := 113) rfl rfl rfl rfl rfl ?_
      refine hp_s (pc' := 115) (st' := [.int pc, .ref 21]) rfl rfl rfl ?_
      refine hp_ld (t := 100) (v := (rI p 21 pc.toInt.toNat)) rfl (.inl rfl) rfl rfl rfl ?_
      intro (g1a : 0 ≤ pc.toInt) (g1b : pc.toInt < 128)
      refine hp_s (pc' := 118) (ls' := [(9, .int (rI p 21 pc.toInt.toNat)), (8, .int stp), (7, .int pc), (6, .int di), (0, .ref 20), (1, .int x), (2, .int y), (3, .int h), (4, .int m), (5, .int e)]) (st' := []) rfl rfl rfl ?_
      refine hp_s (pc' := 120) (st' := [.int (rI p 21 pc.toInt.toNat)]) rfl rfl rfl ?_
      refine hp_s (pc' := 122) (st' := [.int 59, .int (rI p 21 pc.toInt.toNat)]) rfl rfl rfl ?_
      refine hp_ic (pc' := 125) (t := 138) (a := (rI p 21 pc.toInt.toNat).toInt) (b := 59) rfl rfl rfl rfl (by decide) (fun (h5 : (rI p 21 pc.toInt.toNat).toInt ≠ 59) => ?_) (fun (h6 : ¬ ((rI p 21 pc.toInt.toNat).toInt ≠ 59)) => ?_)
      ·
        refine hp_s (pc' := 140) (st' := [.int (rI p 21 pc.toInt.toNat)]) rfl rfl rfl ?_
        refine hp_s (pc' := 142) (st' := [.int 63, .int (rI p 21 pc.toInt.toNat)]) rfl rfl rfl ?_
        refine hp_ic (pc' := 145) (t := 164) (a := (rI p 21 pc.toInt.toNat).toInt) (b := 63) rfl rfl rfl rfl (by decide) (fun (h7 : (rI p 21 pc.toInt.toNat).toInt ≠ 63) => ?_) (fun (h8 : ¬ ((rI p 21 pc.toInt.toNat).toInt ≠ 63)) => ?_)
        ·
          refine hp_s (pc' := 165) (st' := [.ref 20]) rfl rfl rfl ?_
          refine hp_s (pc' := 167) (st' := [.int (rI p 21 pc.toInt.toNat), .ref 20]) rfl rfl rfl ?_
          refine hp_s (pc' := 168) (st' := [.ref 20, .int (rI p 21 pc.toInt.toNat), .ref 20]) rfl rfl rfl ?_
          refine hp_getr (k := 1) (w := .ref 22) (pc' := 171) rfl rfl rfl rfl rfl ?_
          refine hp_s (pc' := 173) (st' := [.int pc, .ref 22, .int (rI p 21 pc.toInt.toNat), .ref 20]) rfl rfl rfl ?_
          refine hp_ld (t := 100) (v := (rI p 22 pc.toInt.toNat)) rfl (.inl rfl) rfl rfl rfl ?_
          intro (g2a : 0 ≤ pc.toInt) (g2b : pc.toInt < 128)
          refine hp_cv (r := 20) (o := 3) (kd := 1) (as := [.int (rI p 21 pc.toInt.toNat), .int (rI p 22 pc.toInt.toNat)]) (rest := []) (pc' := 177) rfl rfl rfl rfl rfl rfl rfl rfl rfl (fun d1 => ?_)
          refine s_runL (st) (si := (rI p 21 pc.toInt.toNat).toInt) rfl (vi := (rI p 22 pc.toInt.toNat).toInt) rfl (by first | assumption | omega) (by first | assumption | omega) (by first | assumption | omega) ?_ ?_
          ·
            intro h9
            refine hp_id (st := []) ?_
            refine hp_inc (L := fun z => [(7, .int z), (9, .int (rI p 21 pc.toInt.toNat)), (8, .int stp), (6, .int di), (0, .ref 20), (1, .int x), (2, .int y), (3, .int h), (4, .int m), (5, .int e)]) (pc' := 180) rfl rfl rfl (fun _ => rfl) rfl ?_
            intro z1 hz1
            have ez1 := i_add hz1 (show pc.toInt = pc.toInt from rfl) (show (Int32.ofInt 1).toInt = 1 from by decide)
            refine hp_inc (L := fun z => [(8, .int z), (7, .int z1), (9, .int (rI p 21 pc.toInt.toNat)), (6, .int di), (0, .ref 20), (1, .int x), (2, .int y), (3, .int h), (4, .int m), (5, .int e)]) (pc' := 183) rfl rfl rfl (fun _ => rfl) rfl ?_
            intro z2 hz2
            have ez2 := i_add hz2 (show stp.toInt = stp.toInt from rfl) (show (Int32.ofInt 1).toInt = 1 from by decide)
            refine hp_go (pc' := 92) rfl rfl rfl ?_
            exfalso; omega
          ·
            intro p1 h10 h11 h12
            refine hp_id (st := []) ?_
            refine hp_inc (L := fun z => [(7, .int z), (9, .int (rI p 21 pc.toInt.toNat)), (8, .int stp), (6, .int di), (0, .ref 20), (1, .int x), (2, .int y), (3, .int h), (4, .int m), (5, .int e)]) (pc' := 180) rfl rfl rfl (fun _ => rfl) rfl ?_
            intro z3 hz3
            have ez3 := i_add hz3 (show pc.toInt = pc.toInt from rfl) (show (Int32.ofInt 1).toInt = 1 from by decide)
            refine hp_inc (L := fun z => [(8, .int z), (7, .int z3), (9, .int (rI p 21 pc.toInt.toNat)), (6, .int di), (0, .ref 20), (1, .int x), (2, .int y), (3, .int h), (4, .int m), (5, .int e)]) (pc' := 183) rfl rfl rfl (fun _ => rfl) rfl ?_
            intro z4 hz4
            have ez4 := i_add hz4 (show stp.toInt = stp.toInt from rfl) (show (Int32.ofInt 1).toInt = 1 from by decide)
            refine hp_go (pc' := 92) rfl rfl rfl ?_
            exact K1 (by omega) (by omega) n (some (rI p 21 pc.toInt.toNat)) z4 z3 _ (by omega) (by omega) (HS_tr hS (by rw [hc1, hc2, nX_nt hS.1] at h12; exact h12))
        ·
          refine hp_s (pc' := 146) (st' := [.ref 20]) rfl rfl rfl ?_
          refine hp_cv (r := 20) (o := 3) (kd := 1) (as := []) (rest := []) (pc' := 149) rfl rfl rfl rfl rfl rfl rfl rfl rfl (fun d2 => ?_)
          refine s_popL ?_ ?_
          ·
            intro h13
            have hA := HS_popE hS h13
            have whA := wp
            have lhA := hA.2.2.1
            have ghA : st.tail.length ≤ st.length := by rw [List.length_tail]; omega
            have hS1 := HS_self hA.2
            refine hp_id (st := [.int 0]) ?_
            refine hp_go (pc' := 152) rfl rfl rfl ?_
            refine hp_s (pc' := 153) (st' := [.ref 20]) rfl rfl rfl ?_
            refine hp_getr (k := 1) (w := .ref 22) (pc' := 156) rfl rfl rfl rfl rfl ?_
            refine hp_s (pc' := 158) (st' := [.int pc, .ref 22]) rfl rfl rfl ?_
            refine hp_ld (t := 100) (v := (rI p 22 pc.toInt.toNat)) rfl (.inl rfl) rfl rfl rfl ?_
            intro (g3a : 0 ≤ pc.toInt) (g3b : pc.toInt < 128)
            refine hp_s (pc' := 161) (ls' := [(7, .int (rI p 22 pc.toInt.toNat)), (9, .int (rI p 21 pc.toInt.toNat)), (8, .int stp), (6, .int di), (0, .ref 20), (1, .int x), (2, .int y), (3, .int h), (4, .int m), (5, .int e)]) (st' := []) rfl rfl rfl ?_
            refine hp_go (pc' := 180) rfl rfl rfl ?_
            refine hp_inc (L := fun z => [(8, .int z), (7, .int (rI p 22 pc.toInt.toNat)), (9, .int (rI p 21 pc.toInt.toNat)), (6, .int di), (0, .ref 20), (1, .int x), (2, .int y), (3, .int h), (4, .int m), (5, .int e)]) (pc' := 183) rfl rfl rfl (fun _ => rfl) rfl ?_
            intro z5 hz5
            have ez5 := i_add hz5 (show stp.toInt = stp.toInt from rfl) (show (Int32.ofInt 1).toInt = 1 from by decide)
            refine hp_go (pc' := 92) rfl rfl rfl ?_
            exact K3 (by omega) (hA.1.trans (i_z (by first | omega | decide))) n (some (rI p 21 pc.toInt.toNat)) z5 (rI p 22 pc.toInt.toNat) _ hc2 (by omega) hA.2
          ·
            intro y1 p2 ep2 h14 h15
            have hA := HS_popN hS wp h14 ep2 h15
            refine hp_hw (fun whA => ?_)
            have lhA := hA.2.2.1
            have ghA : st.tail.length ≤ st.length := by rw [List.length_tail]; omega
            have hS1 := HS_self hA.2
            refine hp_id (st := [.int y1]) ?_
            refine hp_if (pc' := 152) (t := 164) (a := y1.toInt) rfl rfl rfl rfl (fun (h16 : y1.toInt ≠ 0) => ?_) (fun (h17 : ¬ (y1.toInt ≠ 0)) => ?_)
            ·
              refine hp_s (pc' := 165) (st' := [.ref 20]) rfl rfl rfl ?_
              refine hp_s (pc' := 167) (st' := [.int (rI p 21 pc.toInt.toNat), .ref 20]) rfl rfl rfl ?_
              refine hp_s (pc' := 168) (st' := [.ref 20, .int (rI p 21 pc.toInt.toNat), .ref 20]) rfl rfl rfl ?_
              refine hp_getr (k := 1) (w := .ref 22) (pc' := 171) rfl rfl rfl rfl rfl ?_
              refine hp_s (pc' := 173) (st' := [.int pc, .ref 22, .int (rI p 21 pc.toInt.toNat), .ref 20]) rfl rfl rfl ?_
              refine hp_ld (t := 100) (v := (rI p 22 pc.toInt.toNat)) rfl (.inl rfl) rfl rfl (by rw [ep2, rI_o (by decide)]) ?_
              intro (g4a : 0 ≤ pc.toInt) (g4b : pc.toInt < 128)
              refine hp_cv (r := 20) (o := 3) (kd := 1) (as := [.int (rI p 21 pc.toInt.toNat), .int (rI p 22 pc.toInt.toNat)]) (rest := []) (pc' := 177) rfl rfl rfl rfl rfl rfl rfl rfl rfl (fun d3 => ?_)
              refine s_runL (st.tail) (si := (rI p 21 pc.toInt.toNat).toInt) rfl (vi := (rI p 22 pc.toInt.toNat).toInt) rfl (by first | assumption | omega) (by first | assumption | omega) (by first | assumption | omega) ?_ ?_
              ·
                intro h18
                refine hp_id (st := []) ?_
                refine hp_inc (L := fun z => [(7, .int z), (9, .int (rI p 21 pc.toInt.toNat)), (8, .int stp), (6, .int di), (0, .ref 20), (1, .int x), (2, .int y), (3, .int h), (4, .int m), (5, .int e)]) (pc' := 180) rfl rfl rfl (fun _ => rfl) rfl ?_
                intro z6 hz6
                have ez6 := i_add hz6 (show pc.toInt = pc.toInt from rfl) (show (Int32.ofInt 1).toInt = 1 from by decide)
                refine hp_inc (L := fun z => [(8, .int z), (7, .int z6), (9, .int (rI p 21 pc.toInt.toNat)), (6, .int di), (0, .ref 20), (1, .int x), (2, .int y), (3, .int h), (4, .int m), (5, .int e)]) (pc' := 183) rfl rfl rfl (fun _ => rfl) rfl ?_
                intro z7 hz7
                have ez7 := i_add hz7 (show stp.toInt = stp.toInt from rfl) (show (Int32.ofInt 1).toInt = 1 from by decide)
                refine hp_go (pc' := 92) rfl rfl rfl ?_
                exact K4 (by omega) (by rw [hA.1]; exact i_nz (by omega)) n (some (rI p 21 pc.toInt.toNat)) z7 z6 _ (by omega) (by omega) hA.2
              ·
                intro p3 h19 h20 h21
                refine hp_id (st := []) ?_
                refine hp_inc (L := fun z => [(7, .int z), (9, .int (rI p 21 pc.toInt.toNat)), (8, .int stp), (6, .int di), (0, .ref 20), (1, .int x), (2, .int y), (3, .int h), (4, .int m), (5, .int e)]) (pc' := 180) rfl rfl rfl (fun _ => rfl) rfl ?_
                intro z8 hz8
                have ez8 := i_add hz8 (show pc.toInt = pc.toInt from rfl) (show (Int32.ofInt 1).toInt = 1 from by decide)
                refine hp_inc (L := fun z => [(8, .int z), (7, .int z8), (9, .int (rI p 21 pc.toInt.toNat)), (6, .int di), (0, .ref 20), (1, .int x), (2, .int y), (3, .int h), (4, .int m), (5, .int e)]) (pc' := 183) rfl rfl rfl (fun _ => rfl) rfl ?_
                intro z9 hz9
                have ez9 := i_add hz9 (show stp.toInt = stp.toInt from rfl) (show (Int32.ofInt 1).toInt = 1 from by decide)
                refine hp_go (pc' := 92) rfl rfl rfl ?_
                exfalso; omega
            ·
              refine hp_s (pc' := 153) (st' := [.ref 20]) rfl rfl rfl ?_
              refine hp_getr (k := 1) (w := .ref 22) (pc' := 156) rfl rfl rfl rfl rfl ?_
              refine hp_s (pc' := 158) (st' := [.int pc, .ref 22]) rfl rfl rfl ?_
              refine hp_ld (t := 100) (v := (rI p 22 pc.toInt.toNat)) rfl (.inl rfl) rfl rfl (by rw [ep2, rI_o (by decide)]) ?_
              intro (g5a : 0 ≤ pc.toInt) (g5b : pc.toInt < 128)
              refine hp_s (pc' := 161) (ls' := [(7, .int (rI p 22 pc.toInt.toNat)), (9, .int (rI p 21 pc.toInt.toNat)), (8, .int stp), (6, .int di), (0, .ref 20), (1, .int x), (2, .int y), (3, .int h), (4, .int m), (5, .int e)]) (st' := []) rfl rfl rfl ?_
              refine hp_go (pc' := 180) rfl rfl rfl ?_
              refine hp_inc (L := fun z => [(8, .int z), (7, .int (rI p 22 pc.toInt.toNat)), (9, .int (rI p 21 pc.toInt.toNat)), (6, .int di), (0, .ref 20), (1, .int x), (2, .int y), (3, .int h), (4, .int m), (5, .int e)]) (pc' := 183) rfl rfl rfl (fun _ => rfl) rfl ?_
              intro z10 hz10
              have ez10 := i_add hz10 (show stp.toInt = stp.toInt from rfl) (show (Int32.ofInt 1).toInt = 1 from by decide)
              refine hp_go (pc' := 92) rfl rfl rfl ?_
              exact K3 (by omega) (hA.1.trans (i_z (by first | omega | decide))) n (some (rI p 21 pc.toInt.toNat)) z10 (rI p 22 pc.toInt.toNat) _ hc2 (by omega) hA.2
      ·
        refine hp_s (pc' := 126) (st' := [.ref 20]) rfl rfl rfl ?_
        refine hp_cv (r := 20) (o := 3) (kd := 1) (as := []) (rest := []) (pc' := 129) rfl rfl rfl rfl rfl rfl rfl rfl rfl (fun d4 => ?_)
        refine s_popL ?_ ?_
        ·
          intro h22
          have hA := HS_popE hS h22
          have whA := wp
          have lhA := hA.2.2.1
          have ghA : st.tail.length ≤ st.length := by rw [List.length_tail]; omega
          have hS1 := HS_self hA.2
          refine hp_id (st := [.int 0]) ?_
          refine hp_go (pc' := 136) rfl rfl rfl ?_
          refine hp_s (pc' := 137) (st' := [.int 0]) rfl rfl rfl ?_
          refine hp_rb rfl rfl (fun _ => ?_)
          have q := K2 (by omega) _ hA.2.1
          rw [hA.1, if_pos (i_z (by first | omega | decide))] at q
          exact q
        ·
          intro y2 p4 ep4 h23 h24
          have hA := HS_popN hS wp h23 ep4 h24
          refine hp_hw (fun whA => ?_)
          have lhA := hA.2.2.1
          have ghA : st.tail.length ≤ st.length := by rw [List.length_tail]; omega
          have hS1 := HS_self hA.2
          refine hp_id (st := [.int y2]) ?_
          refine hp_if (pc' := 132) (t := 136) (a := y2.toInt) rfl rfl rfl rfl (fun (h25 : y2.toInt = 0) => ?_) (fun (h26 : ¬ (y2.toInt = 0)) => ?_)
          ·
            refine hp_s (pc' := 137) (st' := [.int 0]) rfl rfl rfl ?_
            refine hp_rb rfl rfl (fun _ => ?_)
            have q := K2 (by omega) _ hA.2.1
            rw [hA.1, if_pos (i_z (by first | omega | decide))] at q
            exact q
          ·
            refine hp_s (pc' := 133) (st' := [.int 1]) rfl rfl rfl ?_
            refine hp_go (pc' := 137) rfl rfl rfl ?_
            refine hp_rb rfl rfl (fun _ => ?_)
            have q := K2 (by omega) _ hA.2.1
            rw [hA.1, if_neg (i_nz (by omega))] at q
            exact q
/-- one step, wherever the locals stand -/
theorem it_43 {ro : List (List Int32)} {d : Nat} {Q : Option Value → xH → Prop} {p0 p : xH} {st : List Int32} {stp pc di x y h m e v : Int32} {c : Int} (h1 : 0 ≤ stp.toInt) (h2 : stp.toInt ≤ pc.toInt) (h3 : pc.toInt < (rI p 20 2).toInt) (h4 : (rI p 20 2).toInt ≤ 128) (hc1 : (rI p 21 pc.toInt.toNat).toInt = c) (hc2 : rI p 22 pc.toInt.toNat = v) (hS : HS p0 p st) (hl : (st.length : Int) ≤ pc.toInt) (hr : c ≠ 97 ∨ (0 ≤ v.toInt ∧ v.toInt ≤ 5)) (K1 : c ≠ 59 → c ≠ 63 → ∀ (n2 : Nat) (o2 : Option Int32) (stp2 pc2 : Int32) (p2 : xH), pc2.toInt = pc.toInt + 1 → stp2.toInt = stp.toInt + 1 → HS p0 p2 (lst (nX p0) (c, v) st) → hP ro n2 d (3, 10, 1, 2, k43) 92 (hLS di x y h m e o2 stp2 pc2) [] p2 Q) (K2 : c = 59 → ∀ p2 : xH, hNt T_st p0 p2 → Q (some (.int (if st.headD 0 = 0 then 0 else 1))) p2) (K3 : c = 63 → st.headD 0 = 0 → ∀ (n2 : Nat) (o2 : Option Int32) (stp2 pc2 : Int32) (p2 : xH), pc2 = v → stp2.toInt = stp.toInt + 1 → HS p0 p2 st.tail → hP ro n2 d (3, 10, 1, 2, k43) 92 (hLS di x y h m e o2 stp2 pc2) [] p2 Q) (K4 : c = 63 → st.headD 0 ≠ 0 → ∀ (n2 : Nat) (o2 : Option Int32) (stp2 pc2 : Int32) (p2 : xH), pc2.toInt = pc.toInt + 1 → stp2.toInt = stp.toInt + 1 → HS p0 p2 st.tail → hP ro n2 d (3, 10, 1, 2, k43) 92 (hLS di x y h m e o2 stp2 pc2) [] p2 Q) (n : Nat) (o : Option Int32) : hP ro n d (3, 10, 1, 2, k43) 92 (hLS di x y h m e o stp pc) [] p Q := by
  cases o with
  | none => exact hp_ls rfl rfl ⟨rfl, rfl, rfl, rfl, rfl, rfl, rfl, rfl, rfl, trivial⟩ (lp_43 (sg := 0) h1 h2 h3 h4 hc1 hc2 hS hl hr K1 K2 K3 K4 n)
  | some sg => exact lp_43 h1 h2 h3 h4 hc1 hc2 hS hl hr K1 K2 K3 K4 n
theorem lst_len (nm : Int → Int32) (x : Int × Int32) (s : List Int32) : (lst nm x s).length ≤ s.length + 1 := by
  unfold lst
  have t1 : s.tail.length ≤ s.length := by rw [List.length_tail]; omega
  have t2 : s.tail.tail.length ≤ s.length := by rw [List.length_tail]; omega
  repeat' split
  all_goals (rw [List.length_cons]; omega)
/-- the steps of a piece, one behind the other -/
theorem ex_43 {ro : List (List Int32)} {d : Nat} {Q : Option Value → xH → Prop} {p0 : xH} {di x y h m e : Int32} (h4 : (rI p0 20 2).toInt ≤ 128) : ∀ (c : lE) (st : List Int32) (p : xH) (stp pc : Int32) (n : Nat) (o : Option Int32), (∀ z ∈ c, lsg z.1 ∧ (z.1 = 97 → 0 ≤ z.2.toInt ∧ z.2.toInt ≤ 5)) → hCd p0 21 pc.toInt.toNat c → 0 ≤ stp.toInt → stp.toInt ≤ pc.toInt → pc.toInt + c.length ≤ (rI p0 20 2).toInt → HS p0 p st → (st.length : Int) ≤ pc.toInt →
    (∀ (n2 : Nat) (o2 : Option Int32) (stp2 pc2 : Int32) (p2 : xH), pc2.toInt = pc.toInt + c.length → 0 ≤ stp2.toInt → stp2.toInt ≤ pc2.toInt → HS p0 p2 (lrn (nX p0) c st) → hP ro n2 d (3, 10, 1, 2, k43) 92 (hLS di x y h m e o2 stp2 pc2) [] p2 Q) → hP ro n d (3, 10, 1, 2, k43) 92 (hLS di x y h m e o stp pc) [] p Q
  | [], st, p, stp, pc, n, o, _, _, g1, g2, g3, hS, _, K => by
    exact K n o stp pc p (by rw [List.length_nil]; omega) g1 g2 hS
  | z :: r, st, p, stp, pc, n, o, hz, hc, g1, g2, g3, hS, hl, K => by
    rw [List.length_cons] at g3
    push_cast at g3
    have e20 : (rI p 20 2).toInt = (rI p0 20 2).toInt := by rw [hS.1.int (r := 20) (k := 2) rfl]
    have c0 := hc 0 z rfl
    rw [Nat.add_zero] at c0
    have hz0 := hz z (List.mem_cons_self)
    have hzr : z.1 ≠ 59 ∧ z.1 ≠ 63 := by
      rcases hz0.1 with q | q | q | q | ⟨l, q⟩ <;> omega
    refine it_43 (c := z.1) (v := z.2) g1 g2 (by omega) (by omega) (by rw [hS.1.int (r := 21) rfl]; exact c0.1) (by rw [hS.1.int (r := 22) rfl]; exact c0.2) hS hl ?_ ?_ ?_ ?_ ?_ n o
    · by_cases q : z.1 = 97
      · exact Or.inr (hz0.2 q)
      · exact Or.inl q
    · intro _ _ n2 o2 stp2 pc2 p2 q1 q2 q3
      have hlen : (lst (nX p0) (z.1, z.2) st).length ≤ st.length + 1 := lst_len _ _ _
      refine ex_43 h4 r (lst (nX p0) (z.1, z.2) st) p2 stp2 pc2 n2 o2 (fun u hu => hz u (List.mem_cons_of_mem _ hu)) ?_ (by omega) (by omega) (by omega) q3 (by omega) ?_
      · rw [show pc2.toInt.toNat = pc.toInt.toNat + 1 by omega]
        exact hCd_r (a := [z]) hc
      · intro n3 o3 stp3 pc3 p3 u1 u2 u3 u4
        exact K n3 o3 stp3 pc3 p3 (by rw [List.length_cons]; push_cast; omega) u2 u3 u4
    · intro q; exact absurd q hzr.1
    · intro q; exact absurd q hzr.2
    · intro q; exact absurd q hzr.2

theorem lV_pos {nm : Int → Int32} {e : lE} {v : Int32} (h : lV nm e v) : 1 ≤ e.length := by
  cases e with
  | nil => have := h []; cases this
  | cons x r => rw [List.length_cons]; omega
/-- the lines, one behind the other: what the first that counts is worth -/
theorem tx_43 {ro : List (List Int32)} {d : Nat} {Q : Option Value → xH → Prop} {p0 : xH} {di x y h m e : Int32} (h4 : (rI p0 20 2).toInt ≤ 128) : ∀ (ls : List yN) (p : xH) (stp pc : Int32) (n : Nat) (o : Option Int32), (∀ z ∈ ls, lKl z) → hCd p0 21 pc.toInt.toNat (ltc pc.toInt.toNat ls) → 0 ≤ stp.toInt → stp.toInt ≤ pc.toInt → pc.toInt + (ltc pc.toInt.toNat ls).length = (rI p0 20 2).toInt → HS p0 p [] → ls ≠ [] →
    (∀ (u : Int32) (p2 : xH), hNt T_st p0 p2 → lW (nX p0) ls u → Q (some (.int (if u = 0 then 0 else 1))) p2) →
    (∀ (n2 : Nat) (o2 : Option Int32) (stp2 pc2 : Int32) (p2 : xH), pc2.toInt = (rI p0 20 2).toInt → hNt T_st p0 p2 → lW (nX p0) ls 0 → hP ro n2 d (3, 10, 1, 2, k43) 92 (hLS di x y h m e o2 stp2 pc2) [] p2 Q) → hP ro n d (3, 10, 1, 2, k43) 92 (hLS di x y h m e o stp pc) [] p Q
  | [], _, _, _, _, _, _, _, _, _, _, _, hne, _, _ => absurd rfl hne
  | (none, c) :: r, p, stp, pc, n, o, hk, hc, g1, g2, g3, hS, _, K, KE => by
    have k0 := (hk (none, c) (List.mem_cons_self)).1
    have k0 : lK c := k0
    obtain ⟨u, hu⟩ := k0.2 (nX p0)
    have hc1 : hCd p0 21 pc.toInt.toNat (c ++ [(59, 0)]) := hCd_l hc
    have g3 : pc.toInt + ((c ++ [(59, 0)]) ++ ltc (pc.toInt.toNat + (c ++ [((59 : Int), (0 : Int32))]).length) r).length = (rI p0 20 2).toInt := g3
    rw [List.length_append, List.length_append, List.length_singleton] at g3
    push_cast at g3
    refine ex_43 h4 c [] p stp pc n o k0.1 (hCd_l hc1) g1 g2 (by omega) hS (by show ((0 : Nat) : Int) ≤ _; omega) ?_
    intro n2 o2 stp2 pc2 p2 u1 u2 u3 u4
    rw [hu []] at u4
    have c0 := hCd_r hc1 0 (59, 0) rfl
    rw [Nat.add_zero, show pc.toInt.toNat + c.length = pc2.toInt.toNat by omega] at c0
    have e20 : (rI p2 20 2).toInt = (rI p0 20 2).toInt := by rw [u4.1.int (r := 20) (k := 2) rfl]
    refine it_43 (c := 59) (v := 0) (st := [u]) u2 u3 (by omega) (by omega) (by rw [u4.1.int (r := 21) rfl]; exact c0.1) (by rw [u4.1.int (r := 22) rfl]; exact c0.2) u4 (by show ((1 : Nat) : Int) ≤ _; have := lV_pos hu; omega) (Or.inl (by decide)) ?_ ?_ ?_ ?_ n2 o2
    · intro q; exact absurd rfl q
    · intro _ p3 q; exact K u p3 q hu
    · intro q; exact absurd q (by decide)
    · intro q; exact absurd q (by decide)
  | (some f, c) :: r, p, stp, pc, n, o, hk, hc, g1, g2, g3, hS, _, K, KE => by
    have k0 := hk (some f, c) (List.mem_cons_self)
    have k1 : lK c := k0.1
    have k2 : lK f := k0.2 f rfl
    obtain ⟨u, hu⟩ := k2.2 (nX p0)
    obtain ⟨v, hv⟩ := k1.2 (nX p0)
    have hcl := hCd_l (a := llc pc.toInt.toNat (some f, c)) hc
    have hcr := hCd_r (a := llc pc.toInt.toNat (some f, c)) hc
    have hlen : (llc pc.toInt.toNat (some f, c)).length = f.length + 1 + c.length + 1 := by
      show (f ++ [_] ++ c ++ [_]).length = _
      simp only [List.length_append, List.length_cons, List.length_nil]
    have g3 : pc.toInt + (llc pc.toInt.toNat (some f, c) ++ ltc (pc.toInt.toNat + (llc pc.toInt.toNat (some f, c)).length) r).length = (rI p0 20 2).toInt := g3
    rw [List.length_append, hlen] at g3
    rw [hlen] at hcr
    push_cast at g3
    have hcl : hCd p0 21 pc.toInt.toNat (f ++ [(63, Int32.ofNat (pc.toInt.toNat + f.length + 1 + c.length + 1))] ++ c ++ [(59, 0)]) := hcl
    have hc1 := hCd_l hcl
    have hc2 := hCd_l hc1
    have hc3 := hCd_l hc2
    refine ex_43 h4 f [] p stp pc n o k2.1 hc3 g1 g2 (by omega) hS (by show ((0 : Nat) : Int) ≤ _; omega) ?_
    intro n2 o2 stp2 pc2 p2 u1 u2 u3 u4
    rw [hu []] at u4
    have c0 := hCd_r hc2 0 _ rfl
    have ep2 : pc2.toInt.toNat = pc.toInt.toNat + f.length + 0 := by omega
    have e20 : (rI p2 20 2).toInt = (rI p0 20 2).toInt := by rw [u4.1.int (r := 20) (k := 2) rfl]
    have hfp := lV_pos hu
    refine it_43 (c := 63) (v := Int32.ofNat (pc.toInt.toNat + f.length + 1 + c.length + 1)) (st := [u]) u2 u3 (by omega) (by omega) (by rw [u4.1.int (r := 21) rfl, ep2]; exact c0.1) (by rw [u4.1.int (r := 22) rfl, ep2]; exact c0.2) u4 (by show ((1 : Nat) : Int) ≤ _; omega) (Or.inl (by decide)) ?_ ?_ ?_ ?_ n2 o2
    · intro _ q; exact absurd rfl q
    · intro q; exact absurd q (by decide)
    · intro _ h0 n3 o3 stp3 pc3 p3 v1 v2 v3
      have h0 : u = 0 := h0
      have v3 : HS p0 p3 [] := v3
      have e3 : pc3.toInt = pc.toInt + (f.length + 1 + c.length + 1) := by rw [v1, Int32.toInt_ofNat_of_lt (by omega)]; push_cast; omega
      have lw : ∀ w, lW (nX p0) r w → lW (nX p0) ((some f, c) :: r) w := fun w hw => ⟨u, hu, by rw [if_pos h0]; exact hw⟩
      have ep : pc.toInt.toNat + (f.length + 1 + c.length + 1) = pc3.toInt.toNat := by omega
      rw [ep] at g3
      rw [ep] at hcr
      cases r with
      | nil =>
        have g3 : pc.toInt + (f.length + 1 + c.length + 1 + ((0 : Nat) : Int)) = (rI p0 20 2).toInt := g3
        exact KE n3 o3 stp3 pc3 p3 (by omega) v3.1 (lw 0 rfl)
      | cons z r2 =>
        refine tx_43 h4 (z :: r2) p3 stp3 pc3 n3 o3 (fun y hy => hk y (List.mem_cons_of_mem _ hy)) hcr (by omega) (by omega) (by omega) v3 (by intro q; cases q) (fun w p4 a b => K w p4 a (lw w b)) (fun n4 o4 s4 c4 p4 a b cc => KE n4 o4 s4 c4 p4 a b (lw 0 cc))
    · intro _ h0 n3 o3 stp3 pc3 p3 v1 v2 v3
      have h0 : u ≠ 0 := h0
      have v3 : HS p0 p3 [] := v3
      have hcc := hCd_r hc1
      rw [List.length_append, List.length_singleton, show pc.toInt.toNat + (f.length + 1) = pc3.toInt.toNat by omega] at hcc
      refine ex_43 h4 c [] p3 stp3 pc3 n3 o3 k1.1 hcc (by omega) (by omega) (by omega) v3 (by show ((0 : Nat) : Int) ≤ _; omega) ?_
      intro n4 o4 stp4 pc4 p4 w1 w2 w3 w4
      rw [hv []] at w4
      have c1 := hCd_r hcl 0 (59, 0) rfl
      rw [Nat.add_zero, List.length_append, List.length_append, List.length_singleton, show pc.toInt.toNat + (f.length + 1 + c.length) = pc4.toInt.toNat by omega] at c1
      have e21 : (rI p4 20 2).toInt = (rI p0 20 2).toInt := by rw [w4.1.int (r := 20) (k := 2) rfl]
      refine it_43 (c := 59) (v := 0) (st := [v]) w2 w3 (by omega) (by omega) (by rw [w4.1.int (r := 21) rfl]; exact c1.1) (by rw [w4.1.int (r := 22) rfl]; exact c1.2) w4 (by show ((1 : Nat) : Int) ≤ _; omega) (Or.inl (by decide)) ?_ ?_ ?_ ?_ n4 o4
      · intro q; exact absurd rfl q
      · intro _ p5 q; exact K v p5 q ⟨u, hu, by rw [if_neg h0]; exact hv⟩
      · intro q; exact absurd q (by decide)
      · intro q; exact absurd q (by decide)
