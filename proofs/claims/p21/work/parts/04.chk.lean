noncomputable section
/-! the tables are those of the statement: by deciding -/
theorem xfd_mem {α : Type} : ∀ {l : List (Nat × α)} {k : Nat} {a : α}, xfd l k = some a → (k, a) ∈ l
  | [], _, _, h => by cases h
  | q :: r, k, a, h => by
    rw [xfd_cons] at h
    cases hb : Nat.beq q.1 k with
    | true =>
      rw [hb] at h
      have e1 := Nat.eq_of_beq_eq_true hb
      have e2 : q.2 = a := Option.some.inj h
      rw [← e1, ← e2]
      exact List.mem_cons_self
    | false =>
      rw [hb] at h
      exact List.mem_cons_of_mem _ (xfd_mem h)
def xall {α : Type} (P : Nat → Nat → α → Bool) : Nat → List (List (Nat × α)) → Bool
  | _, [] => true
  | o, l :: r => l.all (fun q => P o q.1 q.2) && xall P (o + 1) r
theorem xall_get {α : Type} {P : Nat → Nat → α → Bool} : ∀ {t : List (List (Nat × α))} {o : Nat}, xall P o t = true → ∀ {k : Nat} {l : List (Nat × α)}, t[k]? = some l → ∀ q ∈ l, P (o + k) q.1 q.2 = true
  | [], _, _, _, _, h, _, _ => by simp at h
  | l :: r, o, h, k, l', hk, q, hq => by
    unfold xall at h
    simp only [Bool.and_eq_true] at h
    cases k with
    | zero =>
      simp only [List.getElem?_cons_zero, Option.some.injEq] at hk
      subst hk
      exact List.all_eq_true.mp h.1 q hq
    | succ k =>
      simp only [List.getElem?_cons_succ] at hk
      have := xall_get h.2 hk q hq
      rwa [show o + 1 + k = o + (k + 1) by omega] at this
theorem xtb_ok {α : Type} {P : Nat → Nat → α → Bool} {t : List (List (Nat × α))} (h : xall P 0 t = true) {own idx : Nat} {a : α} (e : xtb t own idx = some a) : P own idx a = true := by
  unfold xtb at e
  split at e
  next l hl => simpa using xall_get h hl _ (xfd_mem e)
  next => cases e
/-- the words that every heap keeps -/
def xB : List Cond := lw_tbl.filter goodWord
def xw (p : Nat) (w : Cond) : Bool := decide (xgt p = some w) && goodWord w
theorem xgt_in {p : Nat} {w : Cond} (h : xgt p = some w) : w ∈ lw_tbl := by
  unfold xgt at h
  split at h
  next l hl => exact xSl_in l (List.mem_of_getElem? hl) w (List.mem_of_getElem? h)
  next => cases h
theorem xw_in {p : Nat} {w : Cond} (h : xw p w = true) : w ∈ xB := by
  unfold xw at h
  simp only [Bool.and_eq_true, decide_eq_true_eq] at h
  exact List.mem_filter.mpr ⟨xgt_in h.1, h.2⟩
theorem xB_good {w : Cond} (h : w ∈ xB) : goodWord w = true := (List.mem_filter.mp h).2
theorem xB_in {w : Cond} (h : w ∈ xB) : w ∈ lw_tbl := (List.mem_filter.mp h).1
def xFc (own idx : Nat) (a : Nat × Nat × Nat) : Bool := match vwCl[a.1]? with
  | some q => Nat.blt a.2.1 q.2.2 && decide ((q.2.1 a.2.1).1 = q.1) && xw a.2.2 (.fieldLink (xr own) idx q.1 (q.2.1 a.2.1).2.1 (q.2.1 a.2.1).2.2.1)
  | none => false
set_option maxRecDepth 100000 in
theorem xF_ok : xall xFc 0 xF = true := by decide +kernel
def xIc (own idx : Nat) (a : Int32 × Nat) : Bool := xw a.2 (.constant (xr own) idx a.1)
def xJc (own idx : Nat) (a : Int64 × Nat) : Bool := xw a.2 (.constantLong (xr own) idx a.1)
set_option maxRecDepth 100000 in
theorem xI_ok : xall xIc 0 xI = true := by decide +kernel
set_option maxRecDepth 100000 in
theorem xJ_ok : xall xJc 0 xJ = true := by decide +kernel
def xtc (c : Nat) (ty : FieldType) : Bool := match c % 10, ty with
  | 0, .int => true
  | 1, .boolean => true
  | 2, .long => true
  | 3, .array _ => true
  | 4, .object _ => true
  | _, _ => false
def xty (ci k : Nat) : FieldType := match xTy[ci]? with
  | some f => f k
  | none => .int
/-- an owner of fields: its words, the types, the names apart, what is new -/
def xKc (ci : Nat) (q : vw_C) (P : List Nat × Nat × Nat) (D : List Value) (S : List Nat) : Bool :=
  ((List.range q.2.2).all fun k =>
    (match P.1[k]? with
      | some p => xw p (u_lay q.1 q.2.1 k)
      | none => false) &&
    decide (parseFieldDescriptor (q.2.1 k).2.2.1 = some (xty ci k)) &&
    (match D[k]? with
      | some v => decide (defaultValue (xty ci k) = v)
      | none => false) &&
    (match S[k]? with
      | some c => xtc c (xty ci k) && decide ((q.2.1 k).2.2.2 = Nat.ble 10 c)
      | none => false) &&
    ((List.range q.2.2).all fun b => Nat.beq k b || decide ((q.2.1 k).2.1 ≠ (q.2.1 b).2.1))) &&
  xw P.2.1 (.instantiable q.1 q.2.2) && xw P.2.2 (.initialized q.1) && decide (D.length = q.2.2) && decide (S.length = q.2.2) && decide (q.1 = xr ci)
def xKall : Nat → List vw_C → List (List Nat × Nat × Nat) → List (List Value) → List (List Nat) → Bool
  | _, [], [], [], [] => true
  | ci, q :: a, P :: b, D :: c, S :: d => xKc ci q P D S && xKall (ci + 1) a b c d
  | _, _, _, _, _ => false
set_option maxRecDepth 100000 in
theorem xK_ok : xKall 0 vwCl xP xD xT = true := by decide +kernel
theorem xKall_get : ∀ {a : List vw_C} {b : List (List Nat × Nat × Nat)} {c : List (List Value)} {d : List (List Nat)} {o : Nat}, xKall o a b c d = true → ∀ {k : Nat} {q : vw_C}, a[k]? = some q → ∃ P D S, b[k]? = some P ∧ c[k]? = some D ∧ d[k]? = some S ∧ xKc (o + k) q P D S = true
  | [], [], [], [], _, _, _, _, h => by simp at h
  | q :: a, P :: b, D :: c, S :: d, o, h, k, q', hk => by
    unfold xKall at h
    simp only [Bool.and_eq_true] at h
    cases k with
    | zero =>
      simp only [List.getElem?_cons_zero, Option.some.injEq] at hk
      subst hk
      exact ⟨P, D, S, rfl, rfl, rfl, h.1⟩
    | succ k =>
      simp only [List.getElem?_cons_succ] at hk
      obtain ⟨P', D', S', h1, h2, h3, h4⟩ := xKall_get h.2 hk
      exact ⟨P', D', S', h1, h2, h3, by rwa [show o + 1 + k = o + (k + 1) by omega] at h4⟩
/-- what is known of an owner of fields -/
theorem xcl_ok {ci : Nat} {C : String} {T : u_T} {N : Nat} (h : vwCl[ci]? = some (C, T, N)) :
    (∀ w ∈ u_ws C T N, w ∈ xB) ∧ (∀ k, k < N → parseFieldDescriptor (T k).2.2.1 = some (xty ci k)) ∧ (∀ a, a < N → ∀ b, b < N → a ≠ b → (T a).2.1 ≠ (T b).2.1) ∧
    Cond.instantiable C N ∈ xB ∧ Cond.initialized C ∈ xB ∧ C = xr ci ∧
    ∃ D S, xD[ci]? = some D ∧ xT[ci]? = some S ∧ D.length = N ∧ S.length = N ∧ (∀ k, k < N → defaultValue (xty ci k) = vp_V D k) ∧ ∀ k c, k < N → S[k]? = some c → xtc c (xty ci k) = true ∧ (T k).2.2.2 = Nat.ble 10 c := by
  obtain ⟨P, D, S, h1, h2, h3, h4⟩ := xKall_get xK_ok h
  rw [Nat.zero_add] at h4
  unfold xKc at h4
  simp only [Bool.and_eq_true, decide_eq_true_eq, List.all_eq_true, List.mem_range] at h4
  obtain ⟨⟨⟨⟨⟨hk, hi⟩, hn⟩, hD⟩, hS⟩, hC⟩ := h4
  refine ⟨?_, fun k q => (hk k q).1.1.1.2, ?_, xw_in hi, xw_in hn, hC, D, S, h2, h3, hD, hS, ?_, ?_⟩
  · intro w hw
    obtain ⟨k, hkr, rfl⟩ := List.mem_map.mp hw
    have := (hk k (List.mem_range.mp hkr)).1.1.1.1
    split at this
    next p hp => exact xw_in this
    next => cases this
  · intro a ha b hb hab
    have := (hk a ha).2 b hb
    simp only [Bool.or_eq_true, decide_eq_true_eq] at this
    rcases this with h | h
    · exact absurd (Nat.eq_of_beq_eq_true h) hab
    · exact h
  · intro k q
    have := (hk k q).1.1.2
    split at this
    next v hv =>
      rw [of_decide_eq_true this]
      simp [vp_V, hv]
    next => cases this
  · intro k c q hc
    have := (hk k q).1.2
    rw [hc] at this
    simpa using this
def xGc (own idx : Nat) (a : Nat × Nat) : Bool := xSt.any fun q => Nat.beq q.2.2.2.1 a.1 && xw a.2 (.fieldLink (xr own) idx q.1 q.2.1 q.2.2.1)
set_option maxRecDepth 100000 in
theorem xG_ok : xall xGc 0 xG = true := by decide +kernel
def xYc (own idx : Nat) (a : Nat) : Bool := xw a (.methodLink (xr own) idx arraycopyName)
set_option maxRecDepth 100000 in
theorem xY_ok : (xall xYc 0 xY && xw xYp.1 (.native arraycopyName) && xw xYp.2.1 (.static arraycopyName) && xw xYp.2.2 (.initialized "java/lang/System")) = true := by decide +kernel
def xNc (own idx : Nat) (a : Nat × Nat) : Bool := match vwCl[a.1]? with
  | some q => xw a.2 (.classLink (xr own) idx q.1)
  | none => false
set_option maxRecDepth 100000 in
theorem xW_ok : xall xNc 0 xW = true := by decide +kernel
set_option maxRecDepth 100000 in
theorem xMm_ok : (match xN[xMx]?, xN[xMn]? with
  | some a, some b => decide (a.1 = Lib.Math.max.name) && decide (b.1 = Lib.Math.min.name) && decide (a.2.1 = Lib.Math.max.code) && decide (b.2.1 = Lib.Math.min.code) && xw a.2.2.2.2.1 (.initialized "java/lang/Math") && xw a.2.2.2.2.2.1 (.static Lib.Math.max.name) && xw b.2.2.2.2.2.1 (.static Lib.Math.min.name)
  | _, _ => false) = true := by decide +kernel
set_option maxRecDepth 100000 in
theorem xA_ok : (xw xAp.1 (.arrayClass .int) && xw xAp.2.1 (.arrayClass .boolean) && xw xAp.2.2 (.arrayClass .long) && xw xOp.1 (.instanceMethod objectInit) && xw xOp.2 (.code objectInit ⟨#[0xb1]⟩ 1 none)) = true := by decide +kernel
/-- a method's row: its code as bytes, its words -/
def xrc (r : Nat) : Option FieldType := match r with
  | 1 => some .int
  | 2 => some .boolean
  | 3 => some .long
  | _ => none
def xMc (q : xQ) (y : xNt) : Bool :=
  decide (y.1.cls = xr q.1) && decide (y.2.2.1 = xrc q.2.2.2.1) && xw y.2.2.2.2.1 (.initialized y.1.cls) && Nat.ble q.2.1 60 && plainName y.1.cls &&
  decide (y.1.cls ≠ "java/lang/invoke/MethodHandle") && decide (y.1.cls ≠ "java/lang/invoke/VarHandle") &&
  (match q.2.2.1 with
    | 0 => xw y.2.2.2.2.2.1 (.static y.1)
    | 1 => xw y.2.2.2.2.2.1 (.instanceMethod y.1) && xw y.2.2.2.2.2.2 (.selects y.1.cls y.1 y.1)
    | _ => xw y.2.2.2.2.2.1 (.instanceMethod y.1) && decide (y.1.name = "<init>") && Nat.beq q.2.2.2.1 0)
/-- a call's row -/
def xCc (own idx : Nat) (a : Nat × Nat × Nat × Nat) : Bool :=
  bif Nat.beq a.1 9999 then xw a.2.2.1 (.methodLink (xr own) idx objectInit) else
  match xN[a.1]? with
  | some y => decide ((parseMethodDescriptor y.1.desc).map (fun d => d.parameters.length) = some a.2.1) &&
    (match a.2.2.2 with
      | 0 => xw a.2.2.1 (.methodLink (xr own) idx y.1)
      | _ => match xgt a.2.2.1 with
        | some (.methodLinkNest o i z _) => decide (o = xr own) && decide (i = idx) && decide (z = y.1)
        | _ => false)
  | none => false
set_option maxRecDepth 100000 in
theorem xC_ok : xall xCc 0 xC = true := by decide +kernel
set_option maxRecDepth 100000 in
theorem xM_ok : ((xM.zip xN).take xOw).all (fun a => xMc a.1 a.2) = true := by decide +kernel
end
