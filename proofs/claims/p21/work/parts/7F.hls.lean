/-! locals, in whatever order, and more of them -/
def xkn : xL → Bool
  | [] => true
  | q :: r => (r.all fun u => !Nat.beq u.1 q.1) && xkn r
def xLE : xL → xL → Prop
  | [], _ => True
  | q :: r, l => xfd l q.1 = some q.2 ∧ xLE r l
theorem xkn_cons {q : Nat × Value} {r : xL} : xkn (q :: r) = true ↔ (∀ u ∈ r, u.1 ≠ q.1) ∧ xkn r = true := by
  rw [xkn, Bool.and_eq_true, List.all_eq_true]
  refine and_congr_left (fun _ => forall_congr' fun u => forall_congr' fun _ => ?_)
  cases hb : Nat.beq u.1 q.1 with
  | true => exact ⟨fun h => (by cases h), fun h => absurd (Nat.eq_of_beq_eq_true hb) h⟩
  | false => exact ⟨fun _ e => (by rw [e, Nat.beq_refl] at hb; cases hb), fun _ => rfl⟩
theorem mem_xfd : ∀ {ls : xL} {k : Nat} {v : Value}, xkn ls = true → (k, v) ∈ ls → xfd ls k = some v
  | [], _, _, _, h => absurd h List.not_mem_nil
  | q :: r, k, v, hk, h => by
    have hk := xkn_cons.mp hk
    rw [xfd_cons]
    rcases List.mem_cons.mp h with h | h
    · rw [← h]
      show (bif Nat.beq k k then some v else _) = _
      rw [Nat.beq_refl, cond_true]
    · have hne := hk.1 _ h
      cases hb : Nat.beq q.1 k with
      | true => exact absurd (Nat.eq_of_beq_eq_true hb).symm hne
      | false => rw [cond_false]; exact mem_xfd hk.2 h
theorem xkn_filter {P : Nat × Value → Bool} : ∀ {ls : xL}, xkn ls = true → xkn (ls.filter P) = true
  | [], _ => rfl
  | q :: r, h => by
    have h := xkn_cons.mp h
    rw [List.filter_cons]
    split
    · exact xkn_cons.mpr ⟨fun u hu => h.1 u (List.mem_filter.mp hu).1, xkn_filter h.2⟩
    · exact xkn_filter h.2
theorem xs_1_le {ls ls' : xL} {i : Nat} {v : Value} (hs : ls ⊆ ls') (h1 : xkn ls = true) (h2 : xkn ls' = true) : xs_1 ls i v ⊆ xs_1 ls' i v ∧ xkn (xs_1 ls i v) = true ∧ xkn (xs_1 ls' i v) = true := by
  have kn : ∀ l : xL, xkn l = true → xkn (xs_1 l i v) = true := fun l hl => by
    refine xkn_cons.mpr ⟨fun u hu => ?_, xkn_filter hl⟩
    have := (List.mem_filter.mp hu).2
    rw [Bool.and_eq_true, Bool.not_eq_true', beq_eq_false_iff_ne] at this
    exact this.1
  refine ⟨fun q hq => ?_, kn _ h1, kn _ h2⟩
  rcases List.mem_cons.mp hq with hq | hq
  · exact List.mem_cons.mpr (Or.inl hq)
  · have := List.mem_filter.mp hq
    exact List.mem_cons.mpr (Or.inr (List.mem_filter.mpr ⟨hs this.1, this.2⟩))
theorem xs_2_le {ls ls' : xL} {i : Nat} {v : Value} (hs : ls ⊆ ls') (h1 : xkn ls = true) (h2 : xkn ls' = true) : xs_2 ls i v ⊆ xs_2 ls' i v ∧ xkn (xs_2 ls i v) = true ∧ xkn (xs_2 ls' i v) = true := by
  have kn : ∀ l : xL, xkn l = true → xkn (xs_2 l i v) = true := fun l hl => by
    refine xkn_cons.mpr ⟨fun u hu => ?_, xkn_filter hl⟩
    have := (List.mem_filter.mp hu).2
    rw [Bool.and_eq_true, Bool.not_eq_true', beq_eq_false_iff_ne] at this
    exact this.1
  refine ⟨fun q hq => ?_, kn _ h1, kn _ h2⟩
  rcases List.mem_cons.mp hq with hq | hq
  · exact List.mem_cons.mpr (Or.inl hq)
  · have := List.mem_filter.mp hq
    exact List.mem_cons.mpr (Or.inr (List.mem_filter.mpr ⟨hs this.1, this.2⟩))
theorem xfd_le {ls ls' : xL} {k : Nat} {v : Value} (hs : ls ⊆ ls') (h2 : xkn ls' = true) (h : xfd ls k = some v) : xfd ls' k = some v := mem_xfd h2 (hs (xfd_mem h))
theorem xldi_le {ls ls' : xL} {k : Nat} {v : Int32} (hs : ls ⊆ ls') (h2 : xkn ls' = true) (h : xldi ls k = some v) : xldi ls' k = some v := by
  unfold xldi at h ⊢
  split at h
  next x hx => rw [xfd_le hs h2 hx]; exact h
  next => cases h
theorem xldl_le {ls ls' : xL} {k : Nat} {v : Int64} (hs : ls ⊆ ls') (h2 : xkn ls' = true) (h : xldl ls k = some v) : xldl ls' k = some v := by
  unfold xldl at h ⊢
  split at h
  next x hx => rw [xfd_le hs h2 hx]; exact h
  next => cases h
theorem xlda_le {ls ls' : xL} {k : Nat} {v : Value} (hs : ls ⊆ ls') (h2 : xkn ls' = true) (h : xlda ls k = some v) : xlda ls' k = some v := by
  unfold xlda at h ⊢
  split at h
  next x hx => rw [xfd_le hs h2 hx]; exact h
  next x hx => rw [xfd_le hs h2 hx]; exact h
  next => cases h
theorem xs1_le {own nL : Nat} {i : Instr} {ls ls' : xL} {st : List Value} {x : xL × List Value} (hs : ls ⊆ ls') (h1 : xkn ls = true) (h2 : xkn ls' = true) (e : xs1 own nL i ls st = some x) : ∃ l, xs1 own nL i ls' st = some (l, x.2) ∧ x.1 ⊆ l ∧ xkn x.1 = true ∧ xkn l = true := by
  unfold xs1 at e
  split at e
  all_goals first
    | (cases e; exact ⟨ls', rfl, hs, h1, h2⟩)
    | (cases e; done)
    | (obtain ⟨v, hv, e⟩ := xmap e; subst e; exact ⟨ls', by unfold xs1; dsimp only; rw [hv]; rfl, hs, h1, h2⟩)
    | (obtain ⟨v, hv, e⟩ := xmap e; subst e; exact ⟨ls', by unfold xs1; dsimp only; (first | rw [xldi_le hs h2 hv] | rw [xldl_le hs h2 hv] | rw [xlda_le hs h2 hv]); rfl, hs, h1, h2⟩)
    | (rw [Bool.cond_eq_ite] at e; split at e
       · cases e; exact ⟨_, by unfold xs1; dsimp only; rw [Bool.cond_eq_ite, if_pos (by assumption)], (xs_1_le hs h1 h2).1, (xs_1_le hs h1 h2).2.1, (xs_1_le hs h1 h2).2.2⟩
       · cases e)
    | (rw [Bool.cond_eq_ite] at e; split at e
       · cases e; exact ⟨_, by unfold xs1; dsimp only; rw [Bool.cond_eq_ite, if_pos (by assumption)], (xs_2_le hs h1 h2).1, (xs_2_le hs h1 h2).2.1, (xs_2_le hs h1 h2).2.2⟩
       · cases e)
    | (split at e
       · cases e
       · cases e; exact ⟨ls', by unfold xs1; dsimp only; rw [if_neg (by assumption)], hs, h1, h2⟩)
    | (split at e
       · cases e; exact ⟨ls', by unfold xs1; dsimp only; rw [if_pos (by assumption)], hs, h1, h2⟩
       · cases e)
    | skip
  all_goals
    split at e
    · next x hx =>
      rw [Bool.cond_eq_ite] at e
      split at e
      · cases e; exact ⟨_, by unfold xs1; dsimp only; rw [xldi_le hs h2 hx]; dsimp only; rw [Bool.cond_eq_ite, if_pos (by assumption)], (xs_1_le hs h1 h2).1, (xs_1_le hs h1 h2).2.1, (xs_1_le hs h1 h2).2.2⟩
      · cases e
    · cases e
/-- what moves locals does nothing else -/
theorem xs1_d {own nL : Nat} {i : Instr} {ls : xL} {st : List Value} {x : xL × List Value} (e : xs1 own nL i ls st = some x) : (∀ pc, xbr i pc st = none) ∧ (∀ ro kind h, xho ro own kind i st h = none) ∧ (∀ ret, xrt ret i st = none) ∧ xob own i st = none ∧ xmm own i st = none ∧ (∀ h, xay own i st h = none) ∧ ∀ h, xca own i st h = none := by
  unfold xs1 at e
  split at e
  all_goals first
    | (cases e; done)
    | exact ⟨fun _ => rfl, fun _ _ _ => rfl, fun _ => rfl, rfl, rfl, fun _ => rfl, fun _ => rfl⟩
theorem ev_le {ro : List (List Int32)} : ∀ {n d : Nat} {q : xQ} {pc : Nat} {ls ls' : xL} {st : List Value} {h : xH} {r : Option Value × xH}, ls ⊆ ls' → xkn ls = true → xkn ls' = true → ev ro n d q pc ls st h = some r → ev ro n d q pc ls' st h = some r
  | 0, _, _, _, _, _, _, _, _, _, _, _, e => by simp [ev] at e
  | n + 1, d, q, pc, ls, ls', st, h, r, hs, k1, k2, e => by
    rw [ev] at e ⊢
    cases hi : xcg q.2.2.2.2 pc with
    | none => rw [hi] at e; cases e
    | some i =>
      rw [hi] at e
      dsimp only at e ⊢
      cases h1 : xs1 q.1 q.2.1 i ls st with
      | some x =>
        obtain ⟨l, e2, e3, e4, e5⟩ := xs1_le hs k1 k2 h1
        rw [h1] at e
        rw [e2]
        exact ev_le e3 e4 e5 e
      | none =>
        rw [h1] at e
        dsimp only at e
        have h2 : xs1 q.1 q.2.1 i ls' st = none := by
          cases h2 : xs1 q.1 q.2.1 i ls' st with
          | none => rfl
          | some y =>
            exfalso
            obtain ⟨a1, a2, a3, a4, a5, a6, a7⟩ := xs1_d h2
            rw [a1, a2, a3] at e
            dsimp only at e
            cases d with
            | zero => cases e
            | succ d => dsimp only at e; rw [a4, a5, a6, a7] at e; cases e
        rw [h2]
        dsimp only
        cases h3 : xbr i pc st with
        | some x => rw [h3] at e; exact ev_le hs k1 k2 e
        | none =>
          rw [h3] at e
          dsimp only at e ⊢
          cases h4 : xho ro q.1 q.2.2.1 i st h with
          | some x => rw [h4] at e; exact ev_le hs k1 k2 e
          | none =>
            rw [h4] at e
            dsimp only at e ⊢
            cases h5 : xrt q.2.2.2.1 i st with
            | some x => rw [h5] at e; exact e
            | none =>
              rw [h5] at e
              dsimp only at e ⊢
              cases d with
              | zero => cases e
              | succ d =>
                dsimp only at e ⊢
                cases h6 : xob q.1 i st with
                | some x =>
                  rw [h6] at e
                  dsimp only at e ⊢
                  rw [Bool.cond_eq_ite] at e ⊢
                  split at e
                  next hb => rw [if_pos hb]; exact ev_le hs k1 k2 e
                  next => cases e
                | none =>
                  rw [h6] at e
                  dsimp only at e ⊢
                  cases h7 : xmm q.1 i st with
                  | some x =>
                    rw [h7] at e
                    dsimp only at e ⊢
                    rw [Bool.cond_eq_ite] at e ⊢
                    split at e
                    next hb => rw [if_pos hb]; exact ev_le hs k1 k2 e
                    next => cases e
                  | none =>
                    rw [h7] at e
                    dsimp only at e ⊢
                    cases h8 : xay q.1 i st h with
                    | some x =>
                      rw [h8] at e
                      dsimp only at e ⊢
                      rw [Bool.cond_eq_ite] at e ⊢
                      split at e
                      next hb => rw [if_pos hb]; exact ev_le hs k1 k2 e
                      next => cases e
                    | none =>
                      rw [h8] at e
                      dsimp only at e ⊢
                      cases h9 : xca q.1 i st h with
                      | none => rw [h9] at e; cases e
                      | some x =>
                        rw [h9] at e
                        dsimp only at e ⊢
                        cases h10 : xM[x.1]? with
                        | none => rw [h10] at e; cases e
                        | some q' =>
                          rw [h10] at e
                          dsimp only at e ⊢
                          rw [Bool.cond_eq_ite] at e ⊢
                          split at e
                          next hb =>
                            rw [if_pos hb]
                            split at e
                            next => cases e
                            next r2 h2 hr => exact ev_le hs k1 k2 e
                          next => cases e
theorem xLE_sub : ∀ {ls l : xL}, xLE ls l → ls ⊆ l
  | [], _, _ => fun _ h => absurd h List.not_mem_nil
  | q :: r, l, h => fun u hu => by
    rcases List.mem_cons.mp hu with e | e
    · rw [e]; exact xfd_mem h.1
    · exact xLE_sub h.2 e
/-- a run from here may be looked at with more locals, and these in another order -/
theorem hp_ls {ro : List (List Int32)} {n d : Nat} {q : xQ} {pc : Nat} {ls ls' : xL} {st : List Value} {p : xH} {Q : Option Value → xH → Prop} (k1 : xkn ls = true) (k2 : xkn ls' = true) (h : xLE ls ls') (K : hP ro n d q pc ls' st p Q) : hP ro n d q pc ls st p Q := fun hw r p' e => K hw r p' (ev_le (xLE_sub h) k1 k2 e)
