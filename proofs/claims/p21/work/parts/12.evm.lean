noncomputable section
/-! runs of the pure machine: more fuel, other rows, single steps -/
theorem ev_more {ro : List (List Int32)} : ∀ (n : Nat) {d : Nat} {q : xQ} {pc : Nat} {ls : xL} {st : List Value} {h : xH} {x : Option Value × xH}, ev ro n d q pc ls st h = some x → ev ro (n + 1) d q pc ls st h = some x := by
  intro n
  induction n with
  | zero => intro d q pc ls st h x e; simp [ev] at e
  | succ n ih =>
    intro d q pc ls st h x e
    rw [ev] at e
    rw [ev]
    split at e
    next => cases e
    next i hi =>
      try rw [hi]
      try dsimp only
      split at e
      next ls' st' h1 => (try rw [h1]); exact ih e
      next h1 =>
        try rw [h1]
        try dsimp only
        split at e
        next pc' st' h2 => (try rw [h2]); exact ih e
        next h2 =>
          try rw [h2]
          try dsimp only
          split at e
          next st' h' h3 => (try rw [h3]); exact ih e
          next h3 =>
            try rw [h3]
            try dsimp only
            split at e
            next r h4 => (try rw [h4]); exact e
            next h4 =>
              try rw [h4]
              try dsimp only
              split at e
              next => cases e
              next d' =>
                split at e
                next rest h5 =>
                  obtain ⟨hz, e⟩ := xbif e
                  try rw [h5]
                  try dsimp only
                  rw [hz, cond_true]
                  exact ih e
                next h5 =>
                  try rw [h5]
                  try dsimp only
                  split at e
                  next rest h6 =>
                    obtain ⟨hz, e⟩ := xbif e
                    try rw [h6]
                    try dsimp only
                    rw [hz, cond_true]
                    exact ih e
                  next h6 =>
                   try rw [h6]
                   try dsimp only
                   split at e
                   next rest h' h7 =>
                     obtain ⟨hz, e⟩ := xbif e
                     try rw [h7]
                     try dsimp only
                     rw [hz, cond_true]
                     exact ih e
                   next h7 =>
                    try rw [h7]
                    try dsimp only
                    split at e
                    next => cases e
                    next yk as rest hca =>
                      try rw [hca]
                      try dsimp only
                      split at e
                      next => cases e
                      next q' hq' =>
                        obtain ⟨hz, e⟩ := xbif e
                        try rw [hq']
                        try dsimp only
                        rw [hz, cond_true]
                        split at e
                        next => cases e
                        next r1 h' he1 =>
                          rw [ih he1]
                          exact ih e
theorem ev_mores {ro : List (List Int32)} {n : Nat} (k : Nat) {d : Nat} {q : xQ} {pc : Nat} {ls : xL} {st : List Value} {h : xH} {x : Option Value × xH} (e : ev ro n d q pc ls st h = some x) : ev ro (n + k) d q pc ls st h = some x := by
  induction k with
  | zero => exact e
  | succ k ih => exact ev_more _ ih
theorem xCY_ok : xall (fun own idx _ => (xtb xY own idx).isNone) 0 xC = true := by decide +kernel
theorem xay_none {own idx : Nat} {a : Nat × Nat × Nat × Nat} (h : xtb xC own idx = some a) (st : List Value) (hp : xH) : xay own (.invokestatic idx) st hp = none := by
  have h1 : (xtb xY own idx).isNone = true := xtb_ok xCY_ok h
  have h2 := Option.isNone_iff_eq_none.mp h1
  unfold xay
  split
  next idx' n dp rd sp rs rest heq =>
    cases heq
    rw [h2]
  next => rfl
theorem ev_s {ro : List (List Int32)} {n d : Nat} {q : xQ} {pc : Nat} {ls ls' : xL} {st st' : List Value} {h : xH} {i : Instr} (hi : xcg q.2.2.2.2 pc = some i) (h1 : xs1 q.1 q.2.1 i ls st = some (ls', st')) : ev ro (n + 1) d q pc ls st h = ev ro n d q (pc + xil i) ls' st' h := by
  rw [ev, hi]; dsimp only; rw [h1]
theorem ev_b {ro : List (List Int32)} {n d : Nat} {q : xQ} {pc pc' : Nat} {ls : xL} {st st' : List Value} {h : xH} {i : Instr} (hi : xcg q.2.2.2.2 pc = some i) (h0 : xs1 q.1 q.2.1 i ls st = none) (h1 : xbr i pc st = some (pc', st')) : ev ro (n + 1) d q pc ls st h = ev ro n d q pc' ls st' h := by
  rw [ev, hi]; dsimp only; rw [h0]; dsimp only; rw [h1]
theorem ev_h {ro : List (List Int32)} {n d : Nat} {q : xQ} {pc : Nat} {ls : xL} {st st' : List Value} {h h' : xH} {i : Instr} (hi : xcg q.2.2.2.2 pc = some i) (h0 : xs1 q.1 q.2.1 i ls st = none) (h1 : xbr i pc st = none) (h2 : xho ro q.1 q.2.2.1 i st h = some (st', h')) : ev ro (n + 1) d q pc ls st h = ev ro n d q (pc + xil i) ls st' h' := by
  rw [ev, hi]; dsimp only; rw [h0]; dsimp only; rw [h1]; dsimp only; rw [h2]
theorem ev_r {ro : List (List Int32)} {n d : Nat} {q : xQ} {pc : Nat} {ls : xL} {st : List Value} {h : xH} {i : Instr} {r : Option Value} (hi : xcg q.2.2.2.2 pc = some i) (h0 : xs1 q.1 q.2.1 i ls st = none) (h1 : xbr i pc st = none) (h2 : xho ro q.1 q.2.2.1 i st h = none) (h3 : xrt q.2.2.2.1 i st = some r) : ev ro (n + 1) d q pc ls st h = some (r, h) := by
  rw [ev, hi]; dsimp only; rw [h0]; dsimp only; rw [h1]; dsimp only; rw [h2]; dsimp only; rw [h3]
theorem ev_c {ro : List (List Int32)} {n d : Nat} {q q' : xQ} {pc y : Nat} {ls : xL} {st as rest : List Value} {h h' : xH} {i : Instr} {r : Option Value} (hi : xcg q.2.2.2.2 pc = some i) (h0 : xs1 q.1 q.2.1 i ls st = none) (h1 : xbr i pc st = none) (h2 : xho ro q.1 q.2.2.1 i st h = none) (h3 : xrt q.2.2.2.1 i st = none) (h4 : xob q.1 i st = none) (h5 : xmm q.1 i st = none)
    (h5b : xay q.1 i st h = none) (h6 : xca q.1 i st h = some (y, as, rest)) (h7 : xM[y]? = some q') (h8 : (Nat.ble (xcs rest) 8 && Nat.ble (xcs as) q'.2.1) = true) (h9 : ev ro n d q' 0 (lv_args 0 as) [] h = some (r, h')) : ev ro (n + 1) (d + 1) q pc ls st h = ev ro n (d + 1) q (pc + 3) ls (r.toList ++ rest) h' := by
  rw [ev, hi]; dsimp only; rw [h0]; dsimp only; rw [h1]; dsimp only; rw [h2]; dsimp only; rw [h3]; dsimp only; rw [h4]; dsimp only; rw [h5]; dsimp only; rw [h5b]; dsimp only; rw [h6]; dsimp only; rw [h7]; dsimp only; rw [h8, cond_true, h9]
theorem ev_o {ro : List (List Int32)} {n d : Nat} {q : xQ} {pc : Nat} {ls : xL} {st rest : List Value} {h : xH} {i : Instr} (hi : xcg q.2.2.2.2 pc = some i) (h0 : xs1 q.1 q.2.1 i ls st = none) (h1 : xbr i pc st = none) (h2 : xho ro q.1 q.2.2.1 i st h = none) (h3 : xrt q.2.2.2.1 i st = none) (h4 : xob q.1 i st = none) (h5 : xmm q.1 i st = some rest) (h8 : Nat.ble (xcs rest) 8 = true) : ev ro (n + 1) (d + 1) q pc ls st h = ev ro n (d + 1) q (pc + 3) ls rest h := by
  rw [ev, hi]; dsimp only; rw [h0]; dsimp only; rw [h1]; dsimp only; rw [h2]; dsimp only; rw [h3]; dsimp only; rw [h4]; dsimp only; rw [h5]; dsimp only; rw [h8, cond_true]
theorem ev_y {ro : List (List Int32)} {n d : Nat} {q : xQ} {pc : Nat} {ls : xL} {st rest : List Value} {h h' : xH} {i : Instr} (hi : xcg q.2.2.2.2 pc = some i) (h0 : xs1 q.1 q.2.1 i ls st = none) (h1 : xbr i pc st = none) (h2 : xho ro q.1 q.2.2.1 i st h = none) (h3 : xrt q.2.2.2.1 i st = none) (h4 : xob q.1 i st = none) (h5 : xmm q.1 i st = none) (h6 : xay q.1 i st h = some (rest, h')) (h8 : Nat.ble (xcs rest) 8 = true) : ev ro (n + 1) (d + 1) q pc ls st h = ev ro n (d + 1) q (pc + 3) ls rest h' := by
  rw [ev, hi]; dsimp only; rw [h0]; dsimp only; rw [h1]; dsimp only; rw [h2]; dsimp only; rw [h3]; dsimp only; rw [h4]; dsimp only; rw [h5]; dsimp only; rw [h6]; dsimp only; rw [h8, cond_true]
theorem xho_ro {ro : List (List Int32)} {own kind : Nat} {i : Instr} {st : List Value} {h : xH} : (∀ x, xho [] own kind i st h = some x → xho ro own kind i st h = some x) ∧ (∀ x, xho [] own kind i st h = none → xho ro own kind i st h = some x → (∀ ret, xrt ret i st = none) ∧ xob own i st = none ∧ xmm own i st = none ∧ xay own i st h = none ∧ xca own i st h = none) := by
  refine ⟨fun x e => ?_, fun x e1 e2 => ?_⟩
  · unfold xho at e ⊢
    split at e <;> first | exact e | (simp at e; done)
  · unfold xho at e2
    split at e2 <;> first | exact ⟨fun _ => rfl, rfl, rfl, rfl, rfl⟩ | (cases e2; done)
theorem ev_ro {ro : List (List Int32)} : ∀ (n : Nat) {d : Nat} {q : xQ} {pc : Nat} {ls : xL} {st : List Value} {h : xH} {x : Option Value × xH}, ev [] n d q pc ls st h = some x → ev ro n d q pc ls st h = some x := by
  intro n
  induction n with
  | zero => intro d q pc ls st h x e; simp [ev] at e
  | succ n ih =>
    intro d q pc ls st h x e
    rw [ev] at e
    rw [ev]
    split at e
    next => cases e
    next i hi =>
      try rw [hi]
      try dsimp only
      split at e
      next ls' st' h1 => (try rw [h1]); exact ih e
      next h1 =>
        try rw [h1]
        try dsimp only
        split at e
        next pc' st' h2 => (try rw [h2]); exact ih e
        next h2 =>
          try rw [h2]
          try dsimp only
          split at e
          next st' h' h3 => rw [xho_ro.1 _ h3]; exact ih e
          next h3 =>
            cases h9 : xho ro q.1 q.2.2.1 i st h with
            | some z =>
              obtain ⟨z1, z2, z3, z5, z4⟩ := xho_ro.2 z h3 h9
              rw [z1] at e
              dsimp only at e
              split at e
              next => cases e
              next d' =>
                rw [z2] at e
                dsimp only at e
                rw [z3] at e
                dsimp only at e
                rw [z5] at e
                dsimp only at e
                rw [z4] at e
                cases e
            | none =>
              dsimp only
              split at e
              next r h4 => (try rw [h4]); exact e
              next h4 =>
                try rw [h4]
                try dsimp only
                split at e
                next => cases e
                next d' =>
                  split at e
                  next rest h5 =>
                    obtain ⟨hz, e⟩ := xbif e
                    try rw [h5]
                    try dsimp only
                    rw [hz, cond_true]
                    exact ih e
                  next h5 =>
                    try rw [h5]
                    try dsimp only
                    split at e
                    next rest h6 =>
                      obtain ⟨hz, e⟩ := xbif e
                      try rw [h6]
                      try dsimp only
                      rw [hz, cond_true]
                      exact ih e
                    next h6 =>
                     try rw [h6]
                     try dsimp only
                     split at e
                     next rest h' h7 =>
                       obtain ⟨hz, e⟩ := xbif e
                       try rw [h7]
                       try dsimp only
                       rw [hz, cond_true]
                       exact ih e
                     next h7 =>
                      try rw [h7]
                      try dsimp only
                      split at e
                      next => cases e
                      next yk as rest hca =>
                        try rw [hca]
                        try dsimp only
                        split at e
                        next => cases e
                        next q' hq' =>
                          obtain ⟨hz, e⟩ := xbif e
                          try rw [hq']
                          try dsimp only
                          rw [hz, cond_true]
                          split at e
                          next => cases e
                          next r1 h' he1 =>
                            rw [ih he1]
                            exact ih e
end
