/-! hats: all ways, one behind the other; the first of the fewest -/
def ix : List Nat → Nat → Nat
  | [], _ => 0
  | a :: l, i => if i = l.length then a else ix l i
theorem ix_h {a : Nat} {l : List Nat} : ix (a :: l) l.length = a := if_pos rfl
theorem ix_t {a i : Nat} {l : List Nat} (h : i < l.length) : ix (a :: l) i = ix l i := if_neg (by omega)
def hn : List Nat → Nat
  | [] => 0
  | a :: l => hn l + if a = 0 then 0 else 1
theorem hn_len : ∀ l : List Nat, hn l ≤ l.length
  | [] => Nat.le_refl _
  | a :: l => by
    have h := hn_len l
    show hn l + (if a = 0 then 0 else 1) ≤ l.length + 1
    by_cases g : a = 0
    · rw [if_pos g]; omega
    · rw [if_neg g]; omega
/-- the choice c is free for q behind l -/
def hFr (M : Nat → Nat → Prop) (C : Nat → Nat → Nat → Nat → Prop) (l : List Nat) (q c : Nat) : Prop := M q c ∧ ∀ i, i < l.length → ¬ C i (ix l i) q c
theorem hFr_t {M : Nat → Nat → Prop} {C : Nat → Nat → Nat → Nat → Prop} {l : List Nat} {a q c : Nat} (h : hFr M C (a :: l) q c) : hFr M C l q c := ⟨h.1, fun i hi g => h.2 i (by rw [List.length_cons]; omega) (by rw [ix_t hi]; exact g)⟩
theorem hFr_s {M : Nat → Nat → Prop} {C : Nat → Nat → Nat → Nat → Prop} {l : List Nat} {a q c : Nat} : hFr M C (a :: l) q c ↔ hFr M C l q c ∧ ¬ C l.length a q c := by
  constructor
  · intro h
    exact ⟨hFr_t h, fun g => h.2 l.length (by rw [List.length_cons]; omega) (by rw [ix_h]; exact g)⟩
  · rintro ⟨h1, h2⟩
    refine ⟨h1.1, fun i hi => ?_⟩
    rw [List.length_cons] at hi
    by_cases e : i = l.length
    · rw [e, ix_h]; exact h2
    · rw [ix_t (by omega)]; exact h1.2 i (by omega)
def wA (f : Nat → List (List Nat)) : Nat → List (List Nat)
  | 0 => []
  | n + 1 => wA f n ++ f n
theorem wA_mem {f : Nat → List (List Nat)} {x : List Nat} : ∀ {n : Nat}, x ∈ wA f n → ∃ a, a < n ∧ x ∈ f a
  | 0, h => by cases h
  | n + 1, h => by
    rcases List.mem_append.mp h with g | g
    · obtain ⟨a, a1, a2⟩ := wA_mem g
      exact ⟨a, by omega, a2⟩
    · exact ⟨n, by omega, g⟩
noncomputable def wY (M : Nat → Nat → Prop) (C : Nat → Nat → Nat → Nat → Prop) : Nat → List Nat → List (List Nat)
  | 0, l => [l]
  | k + 1, l => wA (fun a => iP (hFr M C l l.length a) (wY M C k (a :: l)) []) 7
/-- one choice further -/
noncomputable def wZ (M : Nat → Nat → Prop) (C : Nat → Nat → Nat → Nat → Prop) (k : Nat) (l : List Nat) (a : Nat) : List (List Nat) := iP (hFr M C l l.length a) (wY M C k (a :: l)) []
theorem wY_s {M : Nat → Nat → Prop} {C : Nat → Nat → Nat → Nat → Prop} {k j : Nat} {l : List Nat} (h : k = j + 1) : wY M C k l = wA (wZ M C j l) 7 := by rw [h]; rfl
theorem wZ_y {M : Nat → Nat → Prop} {C : Nat → Nat → Nat → Nat → Prop} {k a : Nat} {l : List Nat} (h : hFr M C l l.length a) : wZ M C k l a = wY M C k (a :: l) := iP_y h
theorem wZ_n {M : Nat → Nat → Prop} {C : Nat → Nat → Nat → Nat → Prop} {k a : Nat} {l : List Nat} (h : ¬ hFr M C l l.length a) : wZ M C k l a = [] := iP_n h
theorem wY_0 {M : Nat → Nat → Prop} {C : Nat → Nat → Nat → Nat → Prop} {k : Nat} {l : List Nat} (h : k = 0) : wY M C k l = [l] := by rw [h]; rfl
theorem wY_mem {M : Nat → Nat → Prop} {C : Nat → Nat → Nat → Nat → Prop} {k : Nat} {l x : List Nat} (h : x ∈ wY M C (k + 1) l) : ∃ a, a < 7 ∧ hFr M C l l.length a ∧ x ∈ wY M C k (a :: l) := by
  rw [wY_s rfl] at h
  obtain ⟨a, a1, a2⟩ := wA_mem h
  rcases Classical.em (hFr M C l l.length a) with g | g
  · rw [wZ_y g] at a2; exact ⟨a, a1, g, a2⟩
  · rw [wZ_n g] at a2; cases a2
theorem wY_len {M : Nat → Nat → Prop} {C : Nat → Nat → Nat → Nat → Prop} : ∀ {k : Nat} {l x : List Nat}, x ∈ wY M C k l → x.length = l.length + k
  | 0, l, x, h => by rw [List.mem_singleton.mp h]; rfl
  | k + 1, l, x, h => by
    obtain ⟨a, _, _, a3⟩ := wY_mem h
    rw [wY_len a3, List.length_cons]
    omega
theorem wY_ix {M : Nat → Nat → Prop} {C : Nat → Nat → Nat → Nat → Prop} : ∀ {k : Nat} {l x : List Nat}, x ∈ wY M C k l → ∀ i, i < l.length → ix x i = ix l i
  | 0, l, x, h, i, _ => by rw [List.mem_singleton.mp h]
  | k + 1, l, x, h, i, hi => by
    obtain ⟨a, _, _, a3⟩ := wY_mem h
    rw [wY_ix a3 i (by rw [List.length_cons]; omega), ix_t hi]
theorem wY_fr {M : Nat → Nat → Prop} {C : Nat → Nat → Nat → Nat → Prop} : ∀ {k : Nat} {l x : List Nat}, x ∈ wY M C k l → ∀ q, l.length ≤ q → q < l.length + k → ix x q < 7 ∧ hFr M C l q (ix x q)
  | 0, l, x, h, q, h1, h2 => absurd h2 (by omega)
  | k + 1, l, x, h, q, h1, h2 => by
    obtain ⟨a, a1, a2, a3⟩ := wY_mem h
    by_cases e : q = l.length
    · rw [e, wY_ix a3 l.length (by rw [List.length_cons]; omega), ix_h]
      exact ⟨a1, a2⟩
    · have r := wY_fr a3 q (by rw [List.length_cons]; omega) (by rw [List.length_cons]; omega)
      exact ⟨r.1, hFr_t r.2⟩
theorem wY_hn {M : Nat → Nat → Prop} {C : Nat → Nat → Nat → Nat → Prop} : ∀ {k : Nat} {l x : List Nat}, x ∈ wY M C k l → hn l ≤ hn x
  | 0, l, x, h => by rw [List.mem_singleton.mp h]; exact Nat.le_refl _
  | k + 1, l, x, h => by
    obtain ⟨a, _, _, a3⟩ := wY_mem h
    exact Nat.le_trans (Nat.le_add_right _ _) (wY_hn a3)
/-- how many of n from q on must wear one -/
noncomputable def hMu (M : Nat → Nat → Prop) (C : Nat → Nat → Nat → Nat → Prop) (l : List Nat) (q : Nat) : Nat → Nat
  | 0 => 0
  | n + 1 => hMu M C l q n + iP (hFr M C l (q + n) 0) 0 1
theorem hMu_s {M : Nat → Nat → Prop} {C : Nat → Nat → Nat → Nat → Prop} {l : List Nat} {q : Nat} : ∀ {n : Nat}, hMu M C l q (n + 1) = iP (hFr M C l q 0) 0 1 + hMu M C l (q + 1) n
  | 0 => by show 0 + iP (hFr M C l (q + 0) 0) 0 1 = _ + 0; rw [Nat.zero_add]; rfl
  | n + 1 => by
    show hMu M C l q (n + 1) + iP (hFr M C l (q + (n + 1)) 0) 0 1 = _ + (hMu M C l (q + 1) n + iP (hFr M C l (q + 1 + n) 0) 0 1)
    rw [hMu_s (n := n), show q + (n + 1) = q + 1 + n by omega, Nat.add_assoc]
theorem hMu_c {M : Nat → Nat → Prop} {C : Nat → Nat → Nat → Nat → Prop} {l : List Nat} {a q : Nat} : ∀ {n : Nat}, hMu M C l q n ≤ hMu M C (a :: l) q n
  | 0 => Nat.le_refl _
  | n + 1 => by
    have ih := hMu_c (M := M) (C := C) (l := l) (a := a) (q := q) (n := n)
    show hMu M C l q n + iP (hFr M C l (q + n) 0) 0 1 ≤ hMu M C (a :: l) q n + iP (hFr M C (a :: l) (q + n) 0) 0 1
    rcases Classical.em (hFr M C l (q + n) 0) with g | g
    · rw [iP_y g]; omega
    · rw [iP_n g, iP_n (fun z => g (hFr_t z))]; omega
theorem wY_mu {M : Nat → Nat → Prop} {C : Nat → Nat → Nat → Nat → Prop} : ∀ {k : Nat} {l x : List Nat}, x ∈ wY M C k l → hn l + hMu M C l l.length k ≤ hn x
  | 0, l, x, h => by rw [List.mem_singleton.mp h]; exact Nat.le_refl _
  | k + 1, l, x, h => by
    obtain ⟨a, _, a2, a3⟩ := wY_mem h
    have ih := wY_mu a3
    have c := hMu_c (M := M) (C := C) (l := l) (a := a) (q := l.length + 1) (n := k)
    rw [List.length_cons] at ih
    have ih : hn l + (if a = 0 then 0 else 1) + hMu M C (a :: l) (l.length + 1) k ≤ hn x := ih
    rw [hMu_s]
    by_cases e : a = 0
    · rw [if_pos e] at ih
      rw [e] at a2
      rw [iP_y a2]
      omega
    · rw [if_neg e] at ih
      have : iP (hFr M C l l.length 0) 0 1 ≤ 1 := by
        rcases Classical.em (hFr M C l l.length 0) with g | g
        · rw [iP_y g]; decide
        · rw [iP_n g]; decide
      omega
/-- the better one is kept -/
def hBb (b : Nat × List Nat) (l : List Nat) : Nat × List Nat := if hn l < b.1 then (hn l, l) else b
theorem hB_no {b : Nat × List Nat} : ∀ {L : List (List Nat)}, (∀ l ∈ L, b.1 ≤ hn l) → L.foldl hBb b = b
  | [], _ => rfl
  | l :: L, h => by
    show L.foldl hBb (hBb b l) = b
    have e : hBb b l = b := if_neg (by have := h l List.mem_cons_self; omega)
    rw [e]
    exact hB_no (fun x hx => h x (List.mem_cons_of_mem _ hx))
/-- the search so far: the choices below n done -/
noncomputable def hB (M : Nat → Nat → Prop) (C : Nat → Nat → Nat → Nat → Prop) (k : Nat) (l : List Nat) (n : Nat) (b : Nat × List Nat) : Nat × List Nat := (wA (wZ M C k l) n).foldl hBb b
theorem hB_0 {M : Nat → Nat → Prop} {C : Nat → Nat → Nat → Nat → Prop} {k : Nat} {l : List Nat} {b : Nat × List Nat} : hB M C k l 0 b = b := rfl
theorem hB_s {M : Nat → Nat → Prop} {C : Nat → Nat → Nat → Nat → Prop} {k n : Nat} {l : List Nat} {b : Nat × List Nat} : hB M C k l (n + 1) b = (wZ M C k l n).foldl hBb (hB M C k l n b) := by
  unfold hB
  show (wA (wZ M C k l) n ++ wZ M C k l n).foldl hBb b = _
  rw [List.foldl_append]
theorem hB_7 {M : Nat → Nat → Prop} {C : Nat → Nat → Nat → Nat → Prop} {k j : Nat} {l : List Nat} {b : Nat × List Nat} (h : k = j + 1) : (wY M C k l).foldl hBb b = hB M C j l 7 b := by rw [wY_s h]; rfl
abbrev hP_ (n : Nat) : List Nat → Bool := fun l => decide (hn l = n)
theorem wA_none {P : List Nat → Bool} {f : Nat → List (List Nat)} : ∀ {n : Nat}, (∀ a, a < n → (f a).find? P = none) → (wA f n).find? P = none
  | 0, _ => rfl
  | n + 1, h => by
    show (wA f n ++ f n).find? P = none
    rw [List.find?_append, wA_none (fun a ha => h a (by omega)), h n (by omega)]
    rfl
theorem wA_some {P : List Nat → Bool} {f : Nat → List (List Nat)} {m : Nat} {x : List Nat} (h0 : ∀ a, a < m → (f a).find? P = none) (h : (f m).find? P = some x) : ∀ {n : Nat}, m < n → (wA f n).find? P = some x
  | 0, q => absurd q (Nat.not_lt_zero _)
  | n + 1, q => by
    show (wA f n ++ f n).find? P = some x
    rw [List.find?_append]
    by_cases e : m = n
    · rw [← e, wA_none h0, h]; rfl
    · rw [wA_some h0 h (n := n) (by omega)]; rfl
theorem find_no {n : Nat} {L : List (List Nat)} (h : ∀ l ∈ L, n < hn l) : L.find? (hP_ n) = none := List.find?_eq_none.mpr (fun l hl g => by
  have g : hn l = n := of_decide_eq_true g
  have := h l hl
  omega)
theorem find_no2 {n : Nat} {L : List (List Nat)} {r : Nat} (h : ∀ l ∈ L, r ≤ hn l) (hr : n < r) : L.find? (hP_ n) = none := find_no (fun l hl => by have := h l hl; omega)
theorem find_c {n : Nat} {l : List Nat} {L : List (List Nat)} (h : hn l ≠ n) : (l :: L).find? (hP_ n) = L.find? (hP_ n) := List.find?_cons_of_neg (fun g => h (of_decide_eq_true g))
theorem hB_find : ∀ (L : List (List Nat)) (b : Nat × List Nat), (L.foldl hBb b = b ∧ ∀ l ∈ L, b.1 ≤ hn l) ∨ ((L.foldl hBb b).1 < b.1 ∧ L.find? (hP_ (L.foldl hBb b).1) = some (L.foldl hBb b).2 ∧ ∀ l ∈ L, (L.foldl hBb b).1 ≤ hn l)
  | [], b => Or.inl ⟨rfl, fun l h => by cases h⟩
  | l :: L, b => by
    show ((L.foldl hBb (hBb b l)) = b ∧ _) ∨ ((L.foldl hBb (hBb b l)).1 < b.1 ∧ (l :: L).find? (hP_ (L.foldl hBb (hBb b l)).1) = some (L.foldl hBb (hBb b l)).2 ∧ ∀ x ∈ l :: L, (L.foldl hBb (hBb b l)).1 ≤ hn x)
    by_cases g : hn l < b.1
    · rw [show hBb b l = (hn l, l) from if_pos g]
      rcases hB_find L (hn l, l) with ⟨h1, h2⟩ | ⟨h1, h2, h3⟩
      · rw [h1]
        refine Or.inr ⟨g, List.find?_cons_of_pos (decide_eq_true rfl), fun x hx => ?_⟩
        rcases List.mem_cons.mp hx with e | e
        · rw [e]; exact Nat.le_refl _
        · exact h2 x e
      · have h1 : (L.foldl hBb (hn l, l)).1 < hn l := h1
        refine Or.inr ⟨by omega, by rw [find_c (by omega)]; exact h2, fun x hx => ?_⟩
        rcases List.mem_cons.mp hx with e | e
        · rw [e]; omega
        · exact h3 x e
    · rw [show hBb b l = b from if_neg g]
      rcases hB_find L b with ⟨h1, h2⟩ | ⟨h1, h2, h3⟩
      · refine Or.inl ⟨h1, fun x hx => ?_⟩
        rcases List.mem_cons.mp hx with e | e
        · rw [e]; omega
        · exact h2 x e
      · refine Or.inr ⟨h1, by rw [find_c (by omega)]; exact h2, fun x hx => ?_⟩
        rcases List.mem_cons.mp hx with e | e
        · rw [e]; omega
        · exact h3 x e
/-- what both are asked about: what may be worn, who are alike by it -/
def hc (a : Nat) : Int32 := Int32.ofInt ((a : Int) - 1)
theorem hc_I {a : Nat} (h : a < 100) : (hc a).toInt = (a : Int) - 1 := Int32.toInt_ofInt_of_le (by omega) (by omega)
theorem hc_of {z : Int32} {a : Nat} (h : a < 100) (e : z.toInt = (a : Int) - 1) : z = hc a := Int32.toInt_inj.mp (by rw [e, hc_I h])
def hM (p : xH) (r o : Nat) (q c : Nat) : Prop := c = 0 ∨ (1 ≤ c ∧ c ≤ 6 ∧ bI (rI p r (o + q)) (c - 1) = true)
def hC (f : Nat → Int32) (m e : Int32) (lo : Option (List yN)) (i a j b : Nat) : Prop := lAl lo (bcn (hSn (f i) (hc a) ^^^ hSn (f j) (hc b))) (hSn (f i) (hc a)) (hSn (f j) (hc b)) (hWn (hc a) + hWn (hc b)) m e
theorem hM_w {p : xH} {r o q c : Nat} {y : Int32} (hcl : c < 7) (hy : y.toInt = (c : Int) - 1) : hWr (rI p r (o + q)) y ↔ hM p r o q c := by
  unfold hWr hM
  by_cases g : c = 0
  · exact ⟨fun _ => Or.inl g, fun _ => Or.inl (by omega)⟩
  · have e : ((rI p r (o + q) >>> (y &&& 31)) &&& 1).toInt = if bI (rI p r (o + q)) (c - 1) then 1 else 0 := bI_at _ (by omega) (by omega)
    rw [e]
    constructor
    · rintro (h | ⟨_, _, h⟩)
      · exfalso; omega
      · exact Or.inr ⟨by omega, by omega, b_if h⟩
    · rintro (h | ⟨_, _, h⟩)
      · exact absurd h g
      · exact Or.inr ⟨by omega, by omega, by rw [h]; rfl⟩
