/-! the search for the best order: what it finds; the rows that hold it -/
/-- members counted -/
def mC (l : List Nat) : Nat → Nat
  | 0 => 0
  | m + 1 => mC l m + if m ∈ l then 1 else 0
theorem mC_s {l : List Nat} {n : Nat} (hn : n ∉ l) : ∀ m : Nat, mC (n :: l) m = mC l m + if n < m then 1 else 0
  | 0 => by rw [if_neg (Nat.not_lt_zero _)]; rfl
  | m + 1 => by
    have ih := mC_s hn m
    show mC (n :: l) m + (if m ∈ n :: l then 1 else 0) = mC l m + (if m ∈ l then 1 else 0) + _
    by_cases g : m = n
    · rw [g] at ih ⊢
      rw [if_neg (Nat.lt_irrefl _)] at ih
      rw [if_pos List.mem_cons_self, if_neg hn, if_pos (Nat.lt_succ_self _)]
      omega
    · have e1 : (if n < m + 1 then 1 else 0) = if n < m then 1 else 0 := by
        by_cases q : n < m
        · rw [if_pos q, if_pos (by omega)]
        · rw [if_neg q, if_neg (by omega)]
      rw [e1]
      by_cases q : m ∈ l
      · rw [if_pos q, if_pos (List.mem_cons_of_mem _ q)]; omega
      · rw [if_neg q, if_neg (fun z => by rcases List.mem_cons.mp z with z | z; exact g z; exact q z)]; omega
theorem mC_le {l : List Nat} : ∀ m : Nat, mC l m ≤ m
  | 0 => Nat.le_refl _
  | m + 1 => by
    have ih := mC_le (l := l) m
    show mC l m + (if m ∈ l then 1 else 0) ≤ m + 1
    by_cases q : m ∈ l
    · rw [if_pos q]; omega
    · rw [if_neg q]; omega
theorem mC_full {l : List Nat} : ∀ {m : Nat}, mC l m = m → ∀ n, n < m → n ∈ l
  | 0, _, n, h => absurd h (Nat.not_lt_zero _)
  | m + 1, e, n, h => by
    have e : mC l m + (if m ∈ l then 1 else 0) = m + 1 := e
    have b := mC_le (l := l) m
    by_cases q : m ∈ l
    · rw [if_pos q] at e
      by_cases g : n = m
      · rw [g]; exact q
      · exact mC_full (m := m) (by omega) n (by omega)
    · rw [if_neg q] at e; omega
theorem mC_0 : ∀ m : Nat, mC [] m = 0
  | 0 => rfl
  | m + 1 => by
    show mC [] m + (if m ∈ ([] : List Nat) then 1 else 0) = 0
    rw [mC_0 m, if_neg (fun g => (by cases g))]
theorem lExt_full {S : Nat} : ∀ {k : Nat} {l l' : List Nat}, lExt S k l l' → mC l S + k = S → ∀ n, n < S → n ∈ l'
  | 0, l, l', g, e => by
    have g : l' = l := g
    rw [g]
    exact mC_full (by omega)
  | k + 1, l, l', ⟨n, hn, hl, g⟩, e => lExt_full g (by rw [mC_s hl, if_pos hn]; omega)
theorem cL_b {A : Nat → Nat → Prop} {S : Nat} {e : Nat → Nat} {s t : Nat → Nat → Int} (h : hEs S e s t) : ∀ {l : List Nat}, (∀ j ∈ l, j < S) → 0 ≤ cL A S e s t l ∧ cL A S e s t l ≤ 30 * (l.length : Int)
  | [], _ => ⟨Int.le_refl _, by show (0 : Int) ≤ 30 * ((0 : Nat) : Int); decide⟩
  | n :: l, hl => by
    obtain ⟨a, b⟩ := cL_b (A := A) h (l := l) (fun j hj => hl j (List.mem_cons_of_mem _ hj))
    have c := cN_b (A := A) h (l := l) (n := n) (hl n List.mem_cons_self)
    have q : cL A S e s t (n :: l) = cL A S e s t l + cN A S e s t l n := rfl
    rw [q, List.length_cons]
    push_cast
    omega
theorem bR_le {f : Nat → Int × List Nat → Int × List Nat} (h : ∀ n b, (f n b).1 ≤ b.1) : ∀ (n : Nat) (b : Int × List Nat), (bR f n b).1 ≤ b.1
  | 0, b => Int.le_refl _
  | n + 1, b => Int.le_trans (h n _) (bR_le h n b)
theorem bS_le {A : Nat → Nat → Prop} {S : Nat} {e : Nat → Nat} {s t : Nat → Nat → Int} : ∀ (k : Nat) (l : List Nat) (b : Int × List Nat), (bS A S e s t k l b).1 ≤ b.1
  | 0, l, b => by
    show (if cL A S e s t l < b.1 then (cL A S e s t l, l) else b).1 ≤ b.1
    by_cases g : cL A S e s t l < b.1
    · rw [if_pos g]; exact Int.le_of_lt g
    · rw [if_neg g]; exact Int.le_refl _
  | k + 1, l, b => bR_le (f := fun n b => if n ∈ l then b else bS A S e s t k (n :: l) b) (fun n b => by
      show (if n ∈ l then b else bS A S e s t k (n :: l) b).1 ≤ b.1
      by_cases g : n ∈ l
      · rw [if_pos g]; exact Int.le_refl _
      · rw [if_neg g]; exact bS_le k (n :: l) b) S b
theorem bR_at {f : Nat → Int × List Nat → Int × List Nat} (h : ∀ n b, (f n b).1 ≤ b.1) {v : Int} {m : Nat} (hm : ∀ b, (f m b).1 ≤ v) : ∀ (n : Nat) (b : Int × List Nat), m < n → (bR f n b).1 ≤ v
  | 0, b, q => absurd q (Nat.not_lt_zero _)
  | n + 1, b, q => by
    show (f n (bR f n b)).1 ≤ v
    by_cases g : m = n
    · rw [← g]; exact hm _
    · exact Int.le_trans (h n _) (bR_at h hm n b (by omega))
theorem bS_min {A : Nat → Nat → Prop} {S : Nat} {e : Nat → Nat} {s t : Nat → Nat → Int} : ∀ {k : Nat} {l l' : List Nat} (b : Int × List Nat), lExt S k l l' → (bS A S e s t k l b).1 ≤ cL A S e s t l'
  | 0, l, l', b, g => by
    have g : l' = l := g
    rw [g]
    show (if cL A S e s t l < b.1 then (cL A S e s t l, l) else b).1 ≤ cL A S e s t l
    by_cases q : cL A S e s t l < b.1
    · rw [if_pos q]; exact Int.le_refl _
    · rw [if_neg q]; omega
  | k + 1, l, l', b, ⟨n, hn, hl, g⟩ => bR_at (f := fun n b => if n ∈ l then b else bS A S e s t k (n :: l) b) (fun n b => by
      show (if n ∈ l then b else bS A S e s t k (n :: l) b).1 ≤ b.1
      by_cases g : n ∈ l
      · rw [if_pos g]; exact Int.le_refl _
      · rw [if_neg g]; exact bS_le k (n :: l) b) (fun b => by
      show (if n ∈ l then b else bS A S e s t k (n :: l) b).1 ≤ _
      rw [if_neg hl]
      exact bS_min b g) S b hn
theorem lExt_dN {S : Nat} : ∀ {k j : Nat}, j + k = S → lExt S k (dN j) (dN S)
  | 0, j, h => by show dN S = dN j; rw [show S = j by omega]
  | k + 1, j, h => ⟨j, by omega, fun g => absurd (dN_mem.mp g) (by omega), lExt_dN (j := j + 1) (by omega)⟩
theorem dN_len : ∀ n : Nat, (dN n).length = n
  | 0 => rfl
  | n + 1 => by show (n :: dN n).length = n + 1; rw [List.length_cons, dN_len n]
theorem bS_lt {A : Nat → Nat → Prop} {S : Nat} {e : Nat → Nat} {s t : Nat → Nat → Int} (h : hEs S e s t) (hS : S ≤ 7) : (bS A S e s t S [] (211, [])).1 < 211 := by
  have a := bS_min (A := A) (e := e) (s := s) (t := t) (211, []) (lExt_dN (S := S) (k := S) (j := 0) (by omega))
  have b := cL_b (A := A) h (l := dN S) (fun j hj => dN_mem.mp hj)
  rw [dN_len] at b
  have a : (bS A S e s t S [] (211, [])).1 ≤ cL A S e s t (dN S) := a
  omega
theorem bS_y {A : Nat → Nat → Prop} {S : Nat} {e : Nat → Nat} {s t : Nat → Nat → Int} {k : Nat} {l : List Nat} {b : Int × List Nat} (hk : k = 0) (h : cL A S e s t l < b.1) : bS A S e s t k l b = (cL A S e s t l, l) := by rw [hk]; exact if_pos h
theorem bS_n {A : Nat → Nat → Prop} {S : Nat} {e : Nat → Nat} {s t : Nat → Nat → Int} {k : Nat} {l : List Nat} {b : Int × List Nat} (hk : k = 0) (h : b.1 ≤ cL A S e s t l) : bS A S e s t k l b = b := by rw [hk]; exact if_neg (by omega)
theorem bS_s {A : Nat → Nat → Prop} {S : Nat} {e : Nat → Nat} {s t : Nat → Nat → Int} {k j : Nat} {l : List Nat} {b : Int × List Nat} (hk : k = j + 1) : bS A S e s t k l b = bR (fun n b => if n ∈ l then b else bS A S e s t j (n :: l) b) S b := by rw [hk]; rfl
/-- an order in a row, the first first -/
def oR (p : xH) (r : Nat) (l : List Nat) (N : Nat) : Prop := ∀ i, i < N → (rI p r i).toInt = ((l.reverse.getD i 0 : Nat) : Int)
theorem oR_l {n : Nat} {l : List Nat} {i : Nat} (h : i < l.length) : (n :: l).reverse.getD i 0 = l.reverse.getD i 0 := by
  rw [List.reverse_cons, List.getD_eq_getElem?_getD, List.getD_eq_getElem?_getD, List.getElem?_append_left (by rw [List.length_reverse]; exact h)]
theorem oR_h {n : Nat} {l : List Nat} : (n :: l).reverse.getD l.length 0 = n := by
  rw [List.reverse_cons, List.getD_eq_getElem?_getD, List.getElem?_append_right (by rw [List.length_reverse]; exact Nat.le_refl _), List.length_reverse, Nat.sub_self]
  rfl
theorem oR_e {p p2 : xH} {r : Nat} {l : List Nat} {N : Nat} (h : ∀ i, i < N → rI p2 r i = rI p r i) (g : oR p r l N) : oR p2 r l N := fun i hi => by rw [h i hi]; exact g i hi
theorem oR_bk {p : xH} {r n : Nat} {l : List Nat} (g : oR p r (n :: l) (n :: l).length) : oR p r l l.length := fun i hi => by
  rw [g i (by rw [List.length_cons]; omega), oR_l hi]
theorem oR_w {p p2 : xH} {r n : Nat} {l : List Nat} {x : Int32} (hw : hW p) (hL : l.length < hL r) (e : p2 = wV p r l.length (.int x)) (hx : x.toInt = n) (g : oR p r l l.length) : oR p2 r (n :: l) (n :: l).length := fun i hi => by
  rw [List.length_cons] at hi
  rw [e, rI_w hw hL]
  by_cases q : i = l.length
  · rw [if_pos q, q, oR_h, hx]
  · rw [if_neg q, g i (by omega), oR_l (by omega)]
def lOk (S : Nat) (l : List Nat) : Prop := (∀ j ∈ l, j < S) ∧ mC l S = l.length
theorem lOk_0 {S : Nat} : lOk S [] := ⟨fun j hj => (by cases hj), mC_0 S⟩
theorem lOk_le {S : Nat} {l : List Nat} (h : lOk S l) : l.length ≤ S := by rw [← h.2]; exact mC_le S
theorem lOk_c {S n : Nat} {l : List Nat} (h : lOk S l) (hn : n < S) (hl : n ∉ l) : lOk S (n :: l) := ⟨fun j hj => by
  rcases List.mem_cons.mp hj with z | z
  · rw [z]; exact hn
  · exact h.1 j z, by rw [mC_s hl, if_pos hn, h.2, List.length_cons]⟩
theorem lOk_b {S n : Nat} {l : List Nat} (h : lOk S (n :: l)) (hl : n ∉ l) : lOk S l := ⟨fun j hj => h.1 j (List.mem_cons_of_mem _ hj), by
  have q := h.2
  rw [mC_s hl, if_pos (h.1 n List.mem_cons_self), List.length_cons] at q
  omega⟩
