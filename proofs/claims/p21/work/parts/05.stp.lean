noncomputable section
/-! the machine follows the pure one: steps that touch locals and stack alone, and jumps -/
/-- a pure value on the heap: cells come one behind another from B on -/
def xv (B : Nat) (aR : Nat → Nat) : Value → Value
  | .ref r => .ref (B + r)
  | .retAddr k => .ref (aR k)
  | v => v
theorem xv_cat (B : Nat) (aR : Nat → Nat) (v : Value) : (xv B aR v).category = v.category := by cases v <;> rfl
def xvl (B : Nat) (aR : Nat → Nat) (ls : xL) : List (Nat × Value) := ls.map (fun q => (q.1, xv B aR q.2))
theorem xvl_1 (B : Nat) (aR : Nat → Nat) (ls : xL) (i : Nat) (v : Value) : (i, xv B aR v) :: (xvl B aR ls).filter (fun q => !(q.1 == i) && !(q.1 + 1 == i && q.2.category == 2)) = xvl B aR (xs_1 ls i v) := by
  unfold xvl xs_1
  rw [List.map_cons, List.filter_map]
  congr 2
  apply List.filter_congr
  intro q _
  simp [xv_cat]
theorem xvl_2 (B : Nat) (aR : Nat → Nat) (ls : xL) (i : Nat) (v : Value) : (i, xv B aR v) :: (xvl B aR ls).filter (fun q => !(q.1 == i) && (!(q.1 == i + 1) && !(q.1 + 1 == i && q.2.category == 2))) = xvl B aR (xs_2 ls i v) := by
  unfold xvl xs_2
  rw [List.map_cons, List.filter_map]
  congr 2
  apply List.filter_congr
  intro q _
  simp [xv_cat]
theorem xbif {α : Type} {b : Bool} {x : Option α} {r : α} (h : (bif b then x else none) = some r) : b = true ∧ x = some r := by
  cases b with
  | true => exact ⟨rfl, h⟩
  | false => cases h
theorem xmap {α β : Type} {o : Option α} {f : α → β} {r : β} (h : o.map f = some r) : ∃ v, o = some v ∧ f v = r := by
  cases o with
  | none => cases h
  | some v => exact ⟨v, rfl, Option.some.inj h⟩
theorem xldi_e {ls : xL} {k : Nat} {x : Int32} (h : xldi ls k = some x) : xfd ls k = some (.int x) := by
  unfold xldi at h
  split at h
  next y e => cases h; exact e
  next => cases h
theorem xldl_e {ls : xL} {k : Nat} {x : Int64} (h : xldl ls k = some x) : xfd ls k = some (.long x) := by
  unfold xldl at h
  split at h
  next y e => cases h; exact e
  next => cases h
theorem xlda_e {ls : xL} {k : Nat} {v : Value} (h : xlda ls k = some v) : xfd ls k = some v ∧ ((∃ x, v = .ref x) ∨ ∃ x, v = .retAddr x) := by
  unfold xlda at h
  split at h
  next y e => cases h; exact ⟨e, Or.inl ⟨_, rfl⟩⟩
  next y e => cases h; exact ⟨e, Or.inr ⟨_, rfl⟩⟩
  next => cases h
theorem xvl_at {B : Nat} {aR : Nat → Nat} {ls : xL} {lsA : Array Slot} {nL k : Nat} {v : Value} (h : lv_has lsA nL (xvl B aR ls)) (e : xfd ls k = some v) : lsA[k]? = some (.val (xv B aR v)) :=
  h.2.2 (k, xv B aR v) (List.mem_map.mpr ⟨(k, v), xfd_mem e, rfl⟩)
theorem xvl_k {B : Nat} {aR : Nat → Nat} {ls : xL} {k : Nat} {v : Value} (e : xfd ls k = some v) : ∃ j : Nat, (xvl B aR ls)[j]? = some (k, xv B aR v) :=
  List.getElem?_of_mem (List.mem_map.mpr ⟨(k, v), xfd_mem e, rfl⟩)
theorem xI_in {own k : Nat} {v : Int32 × Nat} (h : xtb xI own k = some v) : Cond.constant (xr own) k v.1 ∈ xB := xw_in (xtb_ok xI_ok h)
theorem xJ_in {own k : Nat} {v : Int64 × Nat} (h : xtb xJ own k = some v) : Cond.constantLong (xr own) k v.1 ∈ xB := xw_in (xtb_ok xJ_ok h)
section XS
variable {p : Program} {l : Launch} {e : Env} {R : Room} {s : State} {m : MethodId} {args : Array Value} {below : List Frame} {meth : Method} {c : Code} {H : Heap} {locs : List Loc} {cells slots : Nat} {Q : State → Prop}
variable {cc : ByteArray} {pc : Nat} {lsA : Array Slot} {B : Nat} {aR : Nat → Nat}
set_option maxHeartbeats 4000000 in
set_option maxRecDepth 100000 in
theorem xs1_W {own nL : Nat} {i : Instr} {ls ls' : xL} {st st' : List Value} (hx : p.tables.exec = Jvm.exec) (hb : c.code = cc) (hown : s.vm.findClass (xr own) = some m.cls) (hts : ∀ w ∈ xB, w.before args s = true)
    (hd : decode cc pc = .ok (i, xil i)) (h : xs1 own nL i ls st = some (ls', st')) (hl : lv_has lsA nL (xvl B aR ls))
    (k : ∀ lsB, lv_has lsB nL (xvl B aR ls') → W p l e R s m args below meth c H locs cells slots Q (F0 m (pc + xil i) lsB (st'.map (xv B aR)))) : W p l e R s m args below meth c H locs cells slots Q (F0 m pc lsA (st.map (xv B aR))) := by
  unfold xs1 at h
  split at h
  next => cases h; exact lv_iconst hx hb hd rfl (k _ hl)
  next => cases h; exact lv_bipush hx hb hd rfl (k _ hl)
  next => cases h; exact lv_sipush hx hb hd rfl (k _ hl)
  next => cases h; exact lv_lconst hx hb hd rfl (k _ hl)
  next => obtain ⟨v, hv, hh⟩ := xmap h; cases hh; exact lv_ldc hx hb hown (hts _ (xI_in hv)) hd (k _ hl)
  next => obtain ⟨v, hv, hh⟩ := xmap h; cases hh; exact lv_ldcw hx hb hown (hts _ (xI_in hv)) hd (k _ hl)
  next => obtain ⟨v, hv, hh⟩ := xmap h; cases hh; exact lv_ldc2 hx hb hown (hts _ (xJ_in hv)) hd (k _ hl)
  next => obtain ⟨v, hv, hh⟩ := xmap h; cases hh; exact lv_iload_n hx hb hd rfl (xvl_at hl (xldi_e hv)) (k _ hl)
  next => obtain ⟨v, hv, hh⟩ := xmap h; cases hh; exact lv_iload hx hb hd (xvl_at hl (xldi_e hv)) (k _ hl)
  next => obtain ⟨v, hv, hh⟩ := xmap h; cases hh; exact lv_lload_n hx hb hd rfl (xvl_at hl (xldl_e hv)) (k _ hl)
  next => obtain ⟨v, hv, hh⟩ := xmap h; cases hh; exact lv_lload hx hb hd (xvl_at hl (xldl_e hv)) (k _ hl)
  next =>
    obtain ⟨v, hv, hh⟩ := xmap h; cases hh
    obtain ⟨hv, ⟨x, rfl⟩ | ⟨x, rfl⟩⟩ := xlda_e hv
    · exact lv_aload_n hx hb hd rfl (xvl_at hl hv) (k _ hl)
    · exact lv_aload_n hx hb hd rfl (xvl_at hl hv) (k _ hl)
  next =>
    obtain ⟨v, hv, hh⟩ := xmap h; cases hh
    obtain ⟨hv, ⟨x, rfl⟩ | ⟨x, rfl⟩⟩ := xlda_e hv
    · exact lv_aload hx hb hd (xvl_at hl hv) (k _ hl)
    · exact lv_aload hx hb hd (xvl_at hl hv) (k _ hl)
  next => obtain ⟨hk, hh⟩ := xbif h; cases hh; exact lv_istore_n hx hb hd rfl hl (Nat.blt_eq.mp hk) (xvl_1 B aR _ _ (.int _)) k
  next => obtain ⟨hk, hh⟩ := xbif h; cases hh; exact lv_istore hx hb hd hl (Nat.blt_eq.mp hk) (xvl_1 B aR _ _ (.int _)) k
  next => obtain ⟨hk, hh⟩ := xbif h; cases hh; exact lv_astore_n hx hb hd rfl hl (Nat.blt_eq.mp hk) (xvl_1 B aR _ _ (.ref _)) k
  next => obtain ⟨hk, hh⟩ := xbif h; cases hh; exact lv_lstore_n hx hb hd rfl hl (Nat.blt_eq.mp hk) (xvl_2 B aR _ _ (.long _)) k
  next => obtain ⟨hk, hh⟩ := xbif h; cases hh; exact lv_lstore hx hb hd hl (Nat.blt_eq.mp hk) (xvl_2 B aR _ _ (.long _)) k
  next =>
    split at h
    next x hv =>
      obtain ⟨hk, hh⟩ := xbif h; cases hh
      obtain ⟨j, hj⟩ := xvl_k (B := B) (aR := aR) (xldi_e hv)
      exact lv_iinc hx hb hd hl hj rfl (Nat.blt_eq.mp hk) (xvl_1 B aR _ _ (.int _)) k
    next => cases h
  next => cases h; exact lv_iadd hx hb hd (k _ hl)
  next => cases h; exact lv_isub hx hb hd (k _ hl)
  next => cases h; exact lv_imul hx hb hd (k _ hl)
  next =>
    split at h
    next => cases h
    next hne => cases h; exact lv_idiv hx hb hd hne (k _ hl)
  next =>
    split at h
    next => cases h
    next hne => cases h; exact lv_irem hx hb hd hne (k _ hl)
  next => cases h; exact lv_ineg hx hb hd (k _ hl)
  next => cases h; exact lv_iand hx hb hd (k _ hl)
  next => cases h; exact lv_ior hx hb hd (k _ hl)
  next => cases h; exact lv_ixor hx hb hd (k _ hl)
  next => cases h; exact lv_ishl hx hb hd (k _ hl)
  next => cases h; exact lv_ishr hx hb hd (k _ hl)
  next => cases h; exact lv_iushr hx hb hd rfl (k _ hl)
  next => cases h; exact lv_i2l hx hb hd rfl (k _ hl)
  next => cases h; exact lv_l2i hx hb hd rfl (k _ hl)
  next => cases h; exact lv_i2b hx hb hd rfl (k _ hl)
  next => cases h; exact lv_i2s hx hb hd rfl (k _ hl)
  next => cases h; exact lv_lshl hx hb hd rfl (k _ hl)
  next => cases h; exact lv_lor hx hb hd (k _ hl)
  next => cases h; exact lv_land hx hb hd (k _ hl)
  next => cases h; exact W.lcmp hx hb hd (k _ hl)
  next =>
    split at h
    next hv => cases h; exact lv_dup hx hb hd (by rw [xv_cat]; exact hv) (k _ hl)
    next => cases h
  next =>
    split at h
    next hv => cases h; exact lv_pop hx hb hd (by rw [xv_cat]; exact hv) (k _ hl)
    next => cases h
  next =>
    split at h
    next hv => cases h; exact lv_dup2_11 hx hb hd (by rw [xv_cat]; exact hv.1) (by rw [xv_cat]; exact hv.2) (k _ hl)
    next => cases h
  next =>
    split at h
    next hv => cases h; exact lv_pop2_2 hx hb hd (by rw [xv_cat]; exact hv) (k _ hl)
    next => cases h
  next => cases h
theorem xtg_e {pc : Nat} {o : Int} {t : Nat} (h : xtg pc o = some t) : (pc : Int) + o = (t : Int) := by
  unfold xtg at h
  split at h
  next u e => cases h; exact e
  next => cases h
set_option maxHeartbeats 4000000 in
set_option maxRecDepth 100000 in
theorem xbr_W {i : Instr} {pc' n : Nat} {st st' : List Value} (hx : p.tables.exec = Jvm.exec) (hb : c.code = cc)
    (hd : decode cc pc = .ok (i, n)) (hn : n = xil i ∨ (∃ a b d o, i = .tableswitch a b d o) ∨ ∃ a b, i = .lookupswitch a b) (h : xbr i pc st = some (pc', st'))
    (k : W p l e R s m args below meth c H locs cells slots Q (F0 m pc' lsA (st'.map (xv B aR)))) : W p l e R s m args below meth c H locs cells slots Q (F0 m pc lsA (st.map (xv B aR))) := by
  unfold xbr at h
  split at h
  next =>
    have hn : n = 3 := by rcases hn with h | ⟨_, _, _, _, h⟩ | ⟨_, _, h⟩ <;> first | exact h | cases h
    subst hn
    obtain ⟨t, ht, hh⟩ := xmap h; cases hh
    exact lv_goto hx hb hd (xtg_e ht) k
  next c0 o x st0 =>
    have hn : n = 3 := by rcases hn with h | ⟨_, _, _, _, h⟩ | ⟨_, _, h⟩ <;> first | exact h | cases h
    subst hn
    obtain ⟨t, ht, hh⟩ := xmap h; cases hh
    have ht := xtg_e ht
    have kt : xcmp c0 x 0 = true → W p l e R s m args below meth c H locs cells slots Q (F0 m t lsA (st'.map (xv B aR))) := fun z => by rw [z] at k; exact k
    have kf : xcmp c0 x 0 = false → W p l e R s m args below meth c H locs cells slots Q (F0 m (pc + 3) lsA (st'.map (xv B aR))) := fun z => by rw [z] at k; exact k
    cases c0 with
    | eq => exact lv_if_eq hx hb hd ht (fun z => kt (decide_eq_true z)) (fun z => kf (decide_eq_false z))
    | ne => exact lv_if_ne hx hb hd ht (fun z => kt (decide_eq_true z)) (fun z => kf (decide_eq_false (fun q => q z)))
    | lt => exact lv_if_lt hx hb hd ht (fun z => kt (decide_eq_true z)) (fun z => kf (decide_eq_false z))
    | ge => exact lv_if_ge hx hb hd ht (fun z => kt (decide_eq_true z)) (fun z => kf (decide_eq_false z))
    | gt => exact lv_if_gt hx hb hd ht (fun z => kt (decide_eq_true z)) (fun z => kf (decide_eq_false z))
    | le => exact lv_if_le hx hb hd ht (fun z => kt (decide_eq_true z)) (fun z => kf (decide_eq_false z))
  next c0 o y x st0 =>
    have hn : n = 3 := by rcases hn with h | ⟨_, _, _, _, h⟩ | ⟨_, _, h⟩ <;> first | exact h | cases h
    subst hn
    obtain ⟨t, ht, hh⟩ := xmap h; cases hh
    have ht := xtg_e ht
    have kt : xcmp c0 x y = true → W p l e R s m args below meth c H locs cells slots Q (F0 m t lsA (st'.map (xv B aR))) := fun z => by rw [z] at k; exact k
    have kf : xcmp c0 x y = false → W p l e R s m args below meth c H locs cells slots Q (F0 m (pc + 3) lsA (st'.map (xv B aR))) := fun z => by rw [z] at k; exact k
    cases c0 with
    | eq => exact lv_icmp_eq hx hb hd ht (fun z => kt (decide_eq_true z)) (fun z => kf (decide_eq_false z))
    | ne => exact lv_icmp_ne hx hb hd ht (fun z => kt (decide_eq_true z)) (fun z => kf (decide_eq_false (fun q => q z)))
    | lt => exact lv_icmp_lt hx hb hd ht (fun z => kt (decide_eq_true z)) (fun z => kf (decide_eq_false z))
    | ge => exact lv_icmp_ge hx hb hd ht (fun z => kt (decide_eq_true z)) (fun z => kf (decide_eq_false z))
    | gt => exact lv_icmp_gt hx hb hd ht (fun z => kt (decide_eq_true z)) (fun z => kf (decide_eq_false z))
    | le => exact lv_icmp_le hx hb hd ht (fun z => kt (decide_eq_true z)) (fun z => kf (decide_eq_false z))
  next d lo hi offs x st0 =>
    split at h
    next hz => obtain ⟨t, ht, hh⟩ := xmap h; cases hh; exact lv_tableOut hx hb hd hz (xtg_e ht) k
    next hz =>
      split at h
      next o ho =>
        obtain ⟨t, ht, hh⟩ := xmap h; cases hh
        exact lv_tableIn hx hb hd (fun q => hz (Or.inl q)) (fun q => hz (Or.inr q)) ho (xtg_e ht) k
      next => cases h
  next d ps x st0 =>
    obtain ⟨hp, h⟩ := xbif h
    obtain ⟨t, ht, hh⟩ := xmap h; cases hh
    exact lv_lookup hx hb hd hp rfl (xtg_e ht) k
  next => cases h
end XS
end
