noncomputable section
/-! every case of the law -/
theorem lc_0 {ro : List (List Int32)} {Q : Option Value → xH → Prop} {i : Int32} {A : Nat → Int32} (hro : jro ro) (hA : jRd ro i A) {p : xH} (hp : jIv p) (k : ∀ p2, jIv p2 → jSh p2 = jSh p → LJ ro Q 1449 i [] p2) : LJ ro Q 220 i [] p := by
  refine jl_a1 rfl ?_
  refine jl_rd (c := 1) rfl rfl rfl rfl rfl rfl (by decide) hA ?_
  refine jl_rd (c := 2) rfl rfl rfl rfl rfl rfl (by decide) hA ?_
  obtain ⟨n1, v1, p1, n2, v2, p2, e1, e2, i2, k1, k2, kq, s2, s1⟩ := oq_0 hro hp (A 1) (A 2)
  refine jl_call (idx := 13) (y := 125) (q2 := (11, 3, 1, 1, k125)) (t := 11) (r := 0) (n := 2) (args := [.int (A 1), .int (A 2)]) (rest := []) rfl rfl rfl rfl rfl rfl (jTag0 hp.1) rfl rfl rfl e1 ?_
  refine jl_pop rfl k1 ?_
  refine jl_a2 rfl ?_
  refine jl_rd (c := 1) rfl rfl rfl rfl rfl rfl (by decide) hA ?_
  refine jl_rd (c := 2) rfl rfl rfl rfl rfl rfl (by decide) hA ?_
  refine jl_call (idx := 17) (y := 185) (q2 := (12, 3, 1, 1, k185)) (t := 12) (r := 66) (n := 2) (args := [.int (A 1), .int (A 2)]) (rest := []) rfl rfl rfl rfl rfl rfl (jTag66s hp.1 s1) rfl rfl rfl e2 ?_
  refine jl_pop rfl k2 ?_
  exact jJ_b (i := .goto 1199) rfl rfl rfl (k p2 i2 s2)
theorem lc_1 {ro : List (List Int32)} {Q : Option Value → xH → Prop} {i : Int32} {A : Nat → Int32} (hro : jro ro) (hA : jRd ro i A) {p : xH} (hp : jIv p) (k : ∀ p2, jIv p2 → jSh p2 = jSh p → LJ ro Q 1449 i [] p2) : LJ ro Q 253 i [] p := by
  refine jl_a1 rfl ?_
  refine jl_rd (c := 1) rfl rfl rfl rfl rfl rfl (by decide) hA ?_
  refine jl_rd (c := 2) rfl rfl rfl rfl rfl rfl (by decide) hA ?_
  refine jl_rd (c := 3) rfl rfl rfl rfl rfl rfl (by decide) hA ?_
  obtain ⟨n1, v1, p1, n2, v2, p2, e1, e2, i2, k1, k2, kq, s2, s1⟩ := oq_1 hro hp (A 1) (A 2) (A 3)
  refine jl_call (idx := 18) (y := 126) (q2 := (11, 4, 1, 1, k126)) (t := 11) (r := 0) (n := 3) (args := [.int (A 1), .int (A 2), .int (A 3)]) (rest := []) rfl rfl rfl rfl rfl rfl (jTag0 hp.1) rfl rfl rfl e1 ?_
  refine jl_pop rfl k1 ?_
  refine jl_a2 rfl ?_
  refine jl_rd (c := 1) rfl rfl rfl rfl rfl rfl (by decide) hA ?_
  refine jl_rd (c := 2) rfl rfl rfl rfl rfl rfl (by decide) hA ?_
  refine jl_rd (c := 3) rfl rfl rfl rfl rfl rfl (by decide) hA ?_
  refine jl_call (idx := 22) (y := 186) (q2 := (12, 7, 1, 1, k186)) (t := 12) (r := 66) (n := 3) (args := [.int (A 1), .int (A 2), .int (A 3)]) (rest := []) rfl rfl rfl rfl rfl rfl (jTag66s hp.1 s1) rfl rfl rfl e2 ?_
  refine jl_pop rfl k2 ?_
  exact jJ_b (i := .goto 1156) rfl rfl rfl (k p2 i2 s2)
theorem lc_2 {ro : List (List Int32)} {Q : Option Value → xH → Prop} {i : Int32} {A : Nat → Int32} (hro : jro ro) (hA : jRd ro i A) {p : xH} (hp : jIv p) (k : ∀ p2, jIv p2 → jSh p2 = jSh p → LJ ro Q 1449 i [] p2) : LJ ro Q 296 i [] p := by
  refine jl_a1 rfl ?_
  refine jl_rd (c := 1) rfl rfl rfl rfl rfl rfl (by decide) hA ?_
  refine jl_rd (c := 2) rfl rfl rfl rfl rfl rfl (by decide) hA ?_
  obtain ⟨n1, v1, p1, n2, v2, p2, e1, e2, i2, k1, k2, kq, s2, s1⟩ := oq_2 hro hp (A 1) (A 2)
  refine jl_call (idx := 23) (y := 128) (q2 := (11, 5, 1, 1, k128)) (t := 11) (r := 0) (n := 2) (args := [.int (A 1), .int (A 2)]) (rest := []) rfl rfl rfl rfl rfl rfl (jTag0 hp.1) rfl rfl rfl e1 ?_
  refine jl_pop rfl k1 ?_
  refine jl_a2 rfl ?_
  refine jl_rd (c := 1) rfl rfl rfl rfl rfl rfl (by decide) hA ?_
  refine jl_rd (c := 2) rfl rfl rfl rfl rfl rfl (by decide) hA ?_
  refine jl_call (idx := 26) (y := 187) (q2 := (12, 3, 1, 1, k187)) (t := 12) (r := 66) (n := 2) (args := [.int (A 1), .int (A 2)]) (rest := []) rfl rfl rfl rfl rfl rfl (jTag66s hp.1 s1) rfl rfl rfl e2 ?_
  refine jl_pop rfl k2 ?_
  exact jJ_b (i := .goto 1123) rfl rfl rfl (k p2 i2 s2)
theorem lc_3 {ro : List (List Int32)} {Q : Option Value → xH → Prop} {i : Int32} {A : Nat → Int32} (hro : jro ro) (hA : jRd ro i A) {p : xH} (hp : jIv p) (k : ∀ p2, jIv p2 → jSh p2 = jSh p → LJ ro Q 1449 i [] p2) : LJ ro Q 329 i [] p := by
  refine jl_a1 rfl ?_
  refine jl_rd (c := 1) rfl rfl rfl rfl rfl rfl (by decide) hA ?_
  obtain ⟨n1, v1, p1, n2, v2, p2, e1, e2, i2, k1, k2, kq, s2, s1⟩ := oq_3 hro hp (A 1)
  refine jl_call (idx := 27) (y := 129) (q2 := (11, 2, 1, 1, k129)) (t := 11) (r := 0) (n := 1) (args := [.int (A 1)]) (rest := []) rfl rfl rfl rfl rfl rfl (jTag0 hp.1) rfl rfl rfl e1 ?_
  refine jl_pop rfl k1 ?_
  refine jl_a2 rfl ?_
  refine jl_rd (c := 1) rfl rfl rfl rfl rfl rfl (by decide) hA ?_
  refine jl_call (idx := 31) (y := 188) (q2 := (12, 3, 1, 1, k188)) (t := 12) (r := 66) (n := 1) (args := [.int (A 1)]) (rest := []) rfl rfl rfl rfl rfl rfl (jTag66s hp.1 s1) rfl rfl rfl e2 ?_
  refine jl_pop rfl k2 ?_
  exact jJ_b (i := .goto 1100) rfl rfl rfl (k p2 i2 s2)
theorem lc_4 {ro : List (List Int32)} {Q : Option Value → xH → Prop} {i : Int32} {A : Nat → Int32} (hro : jro ro) (hA : jRd ro i A) {p : xH} (hp : jIv p) (k : ∀ p2, jIv p2 → jSh p2 = jSh p → LJ ro Q 1449 i [] p2) : LJ ro Q 352 i [] p := by
  refine jl_a1 rfl ?_
  refine jl_rd (c := 1) rfl rfl rfl rfl rfl rfl (by decide) hA ?_
  refine jl_rd (c := 2) rfl rfl rfl rfl rfl rfl (by decide) hA ?_
  obtain ⟨n1, v1, p1, n2, v2, p2, e1, e2, i2, k1, k2, kq, s2, s1⟩ := oq_4 hro hp (A 1) (A 2)
  refine jl_call (idx := 32) (y := 130) (q2 := (11, 4, 1, 1, k130)) (t := 11) (r := 0) (n := 2) (args := [.int (A 1), .int (A 2)]) (rest := []) rfl rfl rfl rfl rfl rfl (jTag0 hp.1) rfl rfl rfl e1 ?_
  refine jl_pop rfl k1 ?_
  refine jl_a2 rfl ?_
  refine jl_rd (c := 1) rfl rfl rfl rfl rfl rfl (by decide) hA ?_
  refine jl_rd (c := 2) rfl rfl rfl rfl rfl rfl (by decide) hA ?_
  refine jl_call (idx := 35) (y := 189) (q2 := (12, 4, 1, 1, k189)) (t := 12) (r := 66) (n := 2) (args := [.int (A 1), .int (A 2)]) (rest := []) rfl rfl rfl rfl rfl rfl (jTag66s hp.1 s1) rfl rfl rfl e2 ?_
  refine jl_pop rfl k2 ?_
  exact jJ_b (i := .goto 1067) rfl rfl rfl (k p2 i2 s2)
theorem lc_5 {ro : List (List Int32)} {Q : Option Value → xH → Prop} {i : Int32} {A : Nat → Int32} (hro : jro ro) (hA : jRd ro i A) {p : xH} (hp : jIv p) (k : ∀ p2, jIv p2 → jSh p2 = jSh p → LJ ro Q 1449 i [] p2) : LJ ro Q 385 i [] p := by
  refine jl_a1 rfl ?_
  refine jl_rd (c := 1) rfl rfl rfl rfl rfl rfl (by decide) hA ?_
  refine jl_rd (c := 2) rfl rfl rfl rfl rfl rfl (by decide) hA ?_
  refine jl_rd (c := 3) rfl rfl rfl rfl rfl rfl (by decide) hA ?_
  obtain ⟨n1, v1, p1, n2, v2, p2, e1, e2, i2, k1, k2, kq, s2, s1⟩ := oq_5 hro hp (A 1) (A 2) (A 3)
  refine jl_call (idx := 36) (y := 131) (q2 := (11, 5, 1, 1, k131)) (t := 11) (r := 0) (n := 3) (args := [.int (A 1), .int (A 2), .int (A 3)]) (rest := []) rfl rfl rfl rfl rfl rfl (jTag0 hp.1) rfl rfl rfl e1 ?_
  refine jl_pop rfl k1 ?_
  refine jl_a2 rfl ?_
  refine jl_rd (c := 1) rfl rfl rfl rfl rfl rfl (by decide) hA ?_
  refine jl_rd (c := 2) rfl rfl rfl rfl rfl rfl (by decide) hA ?_
  refine jl_rd (c := 3) rfl rfl rfl rfl rfl rfl (by decide) hA ?_
  refine jl_call (idx := 39) (y := 190) (q2 := (12, 4, 1, 1, k190)) (t := 12) (r := 66) (n := 3) (args := [.int (A 1), .int (A 2), .int (A 3)]) (rest := []) rfl rfl rfl rfl rfl rfl (jTag66s hp.1 s1) rfl rfl rfl e2 ?_
  refine jl_pop rfl k2 ?_
  exact jJ_b (i := .goto 1024) rfl rfl rfl (k p2 i2 s2)
theorem lc_6 {ro : List (List Int32)} {Q : Option Value → xH → Prop} {i : Int32} {A : Nat → Int32} (hro : jro ro) (hA : jRd ro i A) {p : xH} (hp : jIv p) (k : ∀ p2, jIv p2 → jSh p2 = jSh p → LJ ro Q 1449 i [] p2) : LJ ro Q 428 i [] p := by
  refine jl_a1 rfl ?_
  refine jl_rd (c := 1) rfl rfl rfl rfl rfl rfl (by decide) hA ?_
  refine jl_rd (c := 2) rfl rfl rfl rfl rfl rfl (by decide) hA ?_
  obtain ⟨n1, v1, p1, n2, v2, p2, e1, e2, i2, k1, k2, kq, s2, s1⟩ := oq_6 hro hp (A 1) (A 2)
  refine jl_call (idx := 40) (y := 133) (q2 := (11, 3, 1, 1, k133)) (t := 11) (r := 0) (n := 2) (args := [.int (A 1), .int (A 2)]) (rest := []) rfl rfl rfl rfl rfl rfl (jTag0 hp.1) rfl rfl rfl e1 ?_
  refine jl_pop rfl k1 ?_
  refine jl_a2 rfl ?_
  refine jl_rd (c := 1) rfl rfl rfl rfl rfl rfl (by decide) hA ?_
  refine jl_rd (c := 2) rfl rfl rfl rfl rfl rfl (by decide) hA ?_
  refine jl_call (idx := 43) (y := 195) (q2 := (12, 3, 1, 1, k195)) (t := 12) (r := 66) (n := 2) (args := [.int (A 1), .int (A 2)]) (rest := []) rfl rfl rfl rfl rfl rfl (jTag66s hp.1 s1) rfl rfl rfl e2 ?_
  refine jl_pop rfl k2 ?_
  exact jJ_b (i := .goto 991) rfl rfl rfl (k p2 i2 s2)
theorem lc_7 {ro : List (List Int32)} {Q : Option Value → xH → Prop} {i : Int32} {A : Nat → Int32} (hro : jro ro) (hA : jRd ro i A) {p : xH} (hp : jIv p) (k : ∀ p2, jIv p2 → jSh p2 = jSh p → LJ ro Q 1449 i [] p2) : LJ ro Q 461 i [] p := by
  refine jl_a1 rfl ?_
  refine jl_rd (c := 1) rfl rfl rfl rfl rfl rfl (by decide) hA ?_
  obtain ⟨n1, v1, p1, n2, v2, p2, e1, e2, i2, k1, k2, kq, s2, s1⟩ := oq_7 hro hp (A 1)
  refine jl_call (idx := 44) (y := 136) (q2 := (11, 2, 1, 1, k136)) (t := 11) (r := 0) (n := 1) (args := [.int (A 1)]) (rest := []) rfl rfl rfl rfl rfl rfl (jTag0 hp.1) rfl rfl rfl e1 ?_
  refine jl_pop rfl k1 ?_
  refine jl_a2 rfl ?_
  refine jl_rd (c := 1) rfl rfl rfl rfl rfl rfl (by decide) hA ?_
  refine jl_call (idx := 47) (y := 196) (q2 := (12, 2, 1, 1, k196)) (t := 12) (r := 66) (n := 1) (args := [.int (A 1)]) (rest := []) rfl rfl rfl rfl rfl rfl (jTag66s hp.1 s1) rfl rfl rfl e2 ?_
  refine jl_pop rfl k2 ?_
  exact jJ_b (i := .goto 968) rfl rfl rfl (k p2 i2 s2)
theorem lc_8 {ro : List (List Int32)} {Q : Option Value → xH → Prop} {i : Int32} {A : Nat → Int32} (hro : jro ro) (hA : jRd ro i A) {p : xH} (hp : jIv p) (k : ∀ p2, jIv p2 → jSh p2 = jSh p → LJ ro Q 1449 i [] p2) : LJ ro Q 484 i [] p := by
  refine jl_a1 rfl ?_
  obtain ⟨n1, v1, p1, n2, v2, p2, e1, e2, i2, k1, k2, kq, s2, s1⟩ := oq_8 hro hp 
  refine jl_call (idx := 48) (y := 137) (q2 := (11, 3, 1, 1, k137)) (t := 11) (r := 0) (n := 0) (args := []) (rest := []) rfl rfl rfl rfl rfl rfl (jTag0 hp.1) rfl rfl rfl e1 ?_
  refine jl_pop rfl k1 ?_
  refine jl_a2 rfl ?_
  refine jl_call (idx := 52) (y := 208) (q2 := (12, 4, 1, 1, k208)) (t := 12) (r := 66) (n := 0) (args := []) (rest := []) rfl rfl rfl rfl rfl rfl (jTag66s hp.1 s1) rfl rfl rfl e2 ?_
  refine jl_pop rfl k2 ?_
  exact jJ_b (i := .goto 955) rfl rfl rfl (k p2 i2 s2)
theorem lc_9 {ro : List (List Int32)} {Q : Option Value → xH → Prop} {i : Int32} {A : Nat → Int32} (hro : jro ro) (hA : jRd ro i A) {p : xH} (hp : jIv p) (k : ∀ p2, jIv p2 → jSh p2 = jSh p → LJ ro Q 1449 i [] p2) : LJ ro Q 497 i [] p := by
  refine jl_a1 rfl ?_
  refine jl_rd (c := 1) rfl rfl rfl rfl rfl rfl (by decide) hA ?_
  obtain ⟨n1, v1, p1, n2, v2, p2, e1, e2, i2, k1, k2, kq, s2, s1⟩ := oq_9 hro hp (A 1)
  refine jl_call (idx := 53) (y := 138) (q2 := (11, 2, 1, 1, k138)) (t := 11) (r := 0) (n := 1) (args := [.int (A 1)]) (rest := []) rfl rfl rfl rfl rfl rfl (jTag0 hp.1) rfl rfl rfl e1 ?_
  refine jl_pop rfl k1 ?_
  refine jl_a2 rfl ?_
  refine jl_rd (c := 1) rfl rfl rfl rfl rfl rfl (by decide) hA ?_
  refine jl_call (idx := 56) (y := 212) (q2 := (12, 2, 1, 1, k212)) (t := 12) (r := 66) (n := 1) (args := [.int (A 1)]) (rest := []) rfl rfl rfl rfl rfl rfl (jTag66s hp.1 s1) rfl rfl rfl e2 ?_
  refine jl_pop rfl k2 ?_
  exact jJ_b (i := .goto 932) rfl rfl rfl (k p2 i2 s2)
theorem lc_10 {ro : List (List Int32)} {Q : Option Value → xH → Prop} {i : Int32} {A : Nat → Int32} (hro : jro ro) (hA : jRd ro i A) {p : xH} (hp : jIv p) (k : ∀ p2, jIv p2 → jSh p2 = jSh p → LJ ro Q 1449 i [] p2) : LJ ro Q 520 i [] p := by
  refine jl_a1 rfl ?_
  obtain ⟨n1, v1, p1, n2, v2, p2, e1, e2, i2, k1, k2, kq, s2, s1⟩ := oq_10 hro hp 
  refine jl_call (idx := 57) (y := 139) (q2 := (11, 1, 1, 1, k139)) (t := 11) (r := 0) (n := 0) (args := []) (rest := []) rfl rfl rfl rfl rfl rfl (jTag0 hp.1) rfl rfl rfl e1 ?_
  refine jl_pop rfl k1 ?_
  refine jl_a2 rfl ?_
  refine jl_call (idx := 60) (y := 220) (q2 := (12, 3, 1, 1, k220)) (t := 12) (r := 66) (n := 0) (args := []) (rest := []) rfl rfl rfl rfl rfl rfl (jTag66s hp.1 s1) rfl rfl rfl e2 ?_
  refine jl_pop rfl k2 ?_
  exact jJ_b (i := .goto 919) rfl rfl rfl (k p2 i2 s2)
theorem lc_11 {ro : List (List Int32)} {Q : Option Value → xH → Prop} {i : Int32} {A : Nat → Int32} (hro : jro ro) (hA : jRd ro i A) {p : xH} (hp : jIv p) (k : ∀ p2, jIv p2 → jSh p2 = jSh p → LJ ro Q 1449 i [] p2) : LJ ro Q 533 i [] p := by
  refine jl_a1 rfl ?_
  refine jl_rd (c := 1) rfl rfl rfl rfl rfl rfl (by decide) hA ?_
  refine jl_rd (c := 2) rfl rfl rfl rfl rfl rfl (by decide) hA ?_
  obtain ⟨n1, v1, p1, n2, v2, p2, e1, e2, i2, k1, k2, kq, s2, s1⟩ := oq_11 hro hp (A 1) (A 2)
  refine jl_call (idx := 61) (y := 140) (q2 := (11, 3, 1, 1, k140)) (t := 11) (r := 0) (n := 2) (args := [.int (A 1), .int (A 2)]) (rest := []) rfl rfl rfl rfl rfl rfl (jTag0 hp.1) rfl rfl rfl e1 ?_
  refine jl_pop rfl k1 ?_
  refine jl_a2 rfl ?_
  refine jl_rd (c := 1) rfl rfl rfl rfl rfl rfl (by decide) hA ?_
  refine jl_rd (c := 2) rfl rfl rfl rfl rfl rfl (by decide) hA ?_
  refine jl_call (idx := 64) (y := 221) (q2 := (12, 3, 1, 1, k221)) (t := 12) (r := 66) (n := 2) (args := [.int (A 1), .int (A 2)]) (rest := []) rfl rfl rfl rfl rfl rfl (jTag66s hp.1 s1) rfl rfl rfl e2 ?_
  refine jl_pop rfl k2 ?_
  exact jJ_b (i := .goto 886) rfl rfl rfl (k p2 i2 s2)
theorem lc_12 {ro : List (List Int32)} {Q : Option Value → xH → Prop} {i : Int32} {A : Nat → Int32} (hro : jro ro) (hA : jRd ro i A) {p : xH} (hp : jIv p) (k : ∀ p2, jIv p2 → jSh p2 = jSh p → LJ ro Q 1449 i [] p2) : LJ ro Q 566 i [] p := by
  refine jl_a1 rfl ?_
  refine jl_rd (c := 1) rfl rfl rfl rfl rfl rfl (by decide) hA ?_
  refine jl_rd (c := 2) rfl rfl rfl rfl rfl rfl (by decide) hA ?_
  obtain ⟨n1, v1, p1, n2, v2, p2, e1, e2, i2, k1, k2, kq, s2, s1⟩ := oq_12 hro hp (A 1) (A 2)
  refine jl_call (idx := 65) (y := 141) (q2 := (11, 3, 1, 1, k141)) (t := 11) (r := 0) (n := 2) (args := [.int (A 1), .int (A 2)]) (rest := []) rfl rfl rfl rfl rfl rfl (jTag0 hp.1) rfl rfl rfl e1 ?_
  refine jl_pop rfl k1 ?_
  refine jl_a2 rfl ?_
  refine jl_rd (c := 1) rfl rfl rfl rfl rfl rfl (by decide) hA ?_
  refine jl_rd (c := 2) rfl rfl rfl rfl rfl rfl (by decide) hA ?_
  refine jl_call (idx := 68) (y := 222) (q2 := (12, 3, 1, 1, k222)) (t := 12) (r := 66) (n := 2) (args := [.int (A 1), .int (A 2)]) (rest := []) rfl rfl rfl rfl rfl rfl (jTag66s hp.1 s1) rfl rfl rfl e2 ?_
  refine jl_pop rfl k2 ?_
  exact jJ_b (i := .goto 853) rfl rfl rfl (k p2 i2 s2)
theorem lc_13 {ro : List (List Int32)} {Q : Option Value → xH → Prop} {i : Int32} {A : Nat → Int32} (hro : jro ro) (hA : jRd ro i A) {p : xH} (hp : jIv p) (k : ∀ p2, jIv p2 → jSh p2 = jSh p → LJ ro Q 1449 i [] p2) : LJ ro Q 599 i [] p := by
  refine jl_a1 rfl ?_
  refine jl_rd (c := 1) rfl rfl rfl rfl rfl rfl (by decide) hA ?_
  obtain ⟨n1, v1, p1, n2, v2, p2, e1, e2, i2, k1, k2, kq, s2, s1⟩ := oq_13 hro hp (A 1)
  refine jl_call (idx := 69) (y := 142) (q2 := (11, 2, 1, 1, k142)) (t := 11) (r := 0) (n := 1) (args := [.int (A 1)]) (rest := []) rfl rfl rfl rfl rfl rfl (jTag0 hp.1) rfl rfl rfl e1 ?_
  refine jl_pop rfl k1 ?_
  refine jl_a2 rfl ?_
  refine jl_rd (c := 1) rfl rfl rfl rfl rfl rfl (by decide) hA ?_
  refine jl_call (idx := 72) (y := 224) (q2 := (12, 2, 1, 1, k224)) (t := 12) (r := 66) (n := 1) (args := [.int (A 1)]) (rest := []) rfl rfl rfl rfl rfl rfl (jTag66s hp.1 s1) rfl rfl rfl e2 ?_
  refine jl_pop rfl k2 ?_
  exact jJ_b (i := .goto 830) rfl rfl rfl (k p2 i2 s2)
theorem lc_14 {ro : List (List Int32)} {Q : Option Value → xH → Prop} {i : Int32} {A : Nat → Int32} (hro : jro ro) (hA : jRd ro i A) {p : xH} (hp : jIv p) (k : ∀ p2, jIv p2 → jSh p2 = jSh p → LJ ro Q 1449 i [] p2) : LJ ro Q 622 i [] p := by
  refine jl_a1 rfl ?_
  refine jl_rd (c := 1) rfl rfl rfl rfl rfl rfl (by decide) hA ?_
  obtain ⟨n1, v1, p1, n2, v2, p2, e1, e2, i2, k1, k2, kq, s2, s1⟩ := oq_14 hro hp (A 1)
  refine jl_call (idx := 73) (y := 143) (q2 := (11, 2, 1, 1, k143)) (t := 11) (r := 0) (n := 1) (args := [.int (A 1)]) (rest := []) rfl rfl rfl rfl rfl rfl (jTag0 hp.1) rfl rfl rfl e1 ?_
  refine jl_pop rfl k1 ?_
  refine jl_a2 rfl ?_
  refine jl_rd (c := 1) rfl rfl rfl rfl rfl rfl (by decide) hA ?_
  refine jl_call (idx := 76) (y := 225) (q2 := (12, 5, 1, 1, k225)) (t := 12) (r := 66) (n := 1) (args := [.int (A 1)]) (rest := []) rfl rfl rfl rfl rfl rfl (jTag66s hp.1 s1) rfl rfl rfl e2 ?_
  refine jl_pop rfl k2 ?_
  exact jJ_b (i := .goto 807) rfl rfl rfl (k p2 i2 s2)
theorem lc_15 {ro : List (List Int32)} {Q : Option Value → xH → Prop} {i : Int32} {A : Nat → Int32} (hro : jro ro) (hA : jRd ro i A) {p : xH} (hp : jIv p) (k : ∀ p2, jIv p2 → jSh p2 = jSh p → LJ ro Q 1449 i [] p2) : LJ ro Q 645 i [] p := by
  refine jl_a1 rfl ?_
  refine jl_rd (c := 1) rfl rfl rfl rfl rfl rfl (by decide) hA ?_
  refine jl_rd (c := 2) rfl rfl rfl rfl rfl rfl (by decide) hA ?_
  obtain ⟨n1, v1, p1, n2, v2, p2, e1, e2, i2, k1, k2, kq, s2, s1⟩ := oq_15 hro hp (A 1) (A 2)
  refine jl_call (idx := 77) (y := 144) (q2 := (11, 3, 1, 1, k144)) (t := 11) (r := 0) (n := 2) (args := [.int (A 1), .int (A 2)]) (rest := []) rfl rfl rfl rfl rfl rfl (jTag0 hp.1) rfl rfl rfl e1 ?_
  refine jl_pop rfl k1 ?_
  refine jl_a2 rfl ?_
  refine jl_rd (c := 1) rfl rfl rfl rfl rfl rfl (by decide) hA ?_
  refine jl_rd (c := 2) rfl rfl rfl rfl rfl rfl (by decide) hA ?_
  refine jl_call (idx := 80) (y := 226) (q2 := (12, 3, 1, 1, k226)) (t := 12) (r := 66) (n := 2) (args := [.int (A 1), .int (A 2)]) (rest := []) rfl rfl rfl rfl rfl rfl (jTag66s hp.1 s1) rfl rfl rfl e2 ?_
  refine jl_pop rfl k2 ?_
  exact jJ_b (i := .goto 774) rfl rfl rfl (k p2 i2 s2)
theorem lc_16 {ro : List (List Int32)} {Q : Option Value → xH → Prop} {i : Int32} {A : Nat → Int32} (hro : jro ro) (hA : jRd ro i A) {p : xH} (hp : jIv p) (k : ∀ p2, jIv p2 → jSh p2 = jSh p → LJ ro Q 1449 i [] p2) : LJ ro Q 678 i [] p := by
  refine jl_a1 rfl ?_
  refine jl_rd (c := 1) rfl rfl rfl rfl rfl rfl (by decide) hA ?_
  obtain ⟨n1, v1, p1, n2, v2, p2, e1, e2, i2, k1, k2, kq, s2, s1⟩ := oq_16 hro hp (A 1)
  refine jl_call (idx := 81) (y := 145) (q2 := (11, 2, 1, 1, k145)) (t := 11) (r := 0) (n := 1) (args := [.int (A 1)]) (rest := []) rfl rfl rfl rfl rfl rfl (jTag0 hp.1) rfl rfl rfl e1 ?_
  refine jl_pop rfl k1 ?_
  refine jl_a2 rfl ?_
  refine jl_rd (c := 1) rfl rfl rfl rfl rfl rfl (by decide) hA ?_
  refine jl_call (idx := 84) (y := 231) (q2 := (12, 3, 1, 1, k231)) (t := 12) (r := 66) (n := 1) (args := [.int (A 1)]) (rest := []) rfl rfl rfl rfl rfl rfl (jTag66s hp.1 s1) rfl rfl rfl e2 ?_
  refine jl_pop rfl k2 ?_
  exact jJ_b (i := .goto 751) rfl rfl rfl (k p2 i2 s2)
theorem lc_17 {ro : List (List Int32)} {Q : Option Value → xH → Prop} {i : Int32} {A : Nat → Int32} (hro : jro ro) (hA : jRd ro i A) {p : xH} (hp : jIv p) (k : ∀ p2, jIv p2 → jSh p2 = jSh p → LJ ro Q 1449 i [] p2) : LJ ro Q 701 i [] p := by
  refine jl_a1 rfl ?_
  obtain ⟨n1, v1, p1, n2, v2, p2, e1, e2, i2, k1, k2, kq, s2, s1⟩ := oq_17 hro hp 
  refine jl_call (idx := 85) (y := 146) (q2 := (11, 1, 1, 1, k146)) (t := 11) (r := 0) (n := 0) (args := []) (rest := []) rfl rfl rfl rfl rfl rfl (jTag0 hp.1) rfl rfl rfl e1 ?_
  refine jl_pop rfl k1 ?_
  refine jl_a2 rfl ?_
  refine jl_call (idx := 88) (y := 232) (q2 := (12, 3, 1, 1, k232)) (t := 12) (r := 66) (n := 0) (args := []) (rest := []) rfl rfl rfl rfl rfl rfl (jTag66s hp.1 s1) rfl rfl rfl e2 ?_
  refine jl_pop rfl k2 ?_
  exact jJ_b (i := .goto 738) rfl rfl rfl (k p2 i2 s2)
theorem lc_18 {ro : List (List Int32)} {Q : Option Value → xH → Prop} {i : Int32} {A : Nat → Int32} (hro : jro ro) (hA : jRd ro i A) {p : xH} (hp : jIv p) (k : ∀ p2, jIv p2 → jSh p2 = jSh p → LJ ro Q 1449 i [] p2) : LJ ro Q 714 i [] p := by
  refine jl_a1 rfl ?_
  refine jl_rd (c := 1) rfl rfl rfl rfl rfl rfl (by decide) hA ?_
  obtain ⟨n1, v1, p1, n2, v2, p2, e1, e2, i2, k1, k2, kq, s2, s1⟩ := oq_18 hro hp (A 1)
  refine jl_call (idx := 89) (y := 147) (q2 := (11, 3, 1, 1, k147)) (t := 11) (r := 0) (n := 1) (args := [.int (A 1)]) (rest := []) rfl rfl rfl rfl rfl rfl (jTag0 hp.1) rfl rfl rfl e1 ?_
  refine jl_pop rfl k1 ?_
  refine jl_a2 rfl ?_
  refine jl_rd (c := 1) rfl rfl rfl rfl rfl rfl (by decide) hA ?_
  refine jl_call (idx := 92) (y := 234) (q2 := (12, 4, 1, 1, k234)) (t := 12) (r := 66) (n := 1) (args := [.int (A 1)]) (rest := []) rfl rfl rfl rfl rfl rfl (jTag66s hp.1 s1) rfl rfl rfl e2 ?_
  refine jl_pop rfl k2 ?_
  exact jJ_b (i := .goto 715) rfl rfl rfl (k p2 i2 s2)
theorem lc_19 {ro : List (List Int32)} {Q : Option Value → xH → Prop} {i : Int32} {A : Nat → Int32} (hro : jro ro) (hA : jRd ro i A) {p : xH} (hp : jIv p) (k : ∀ p2, jIv p2 → jSh p2 = jSh p → LJ ro Q 1449 i [] p2) : LJ ro Q 737 i [] p := by
  refine jl_a1 rfl ?_
  refine jl_rd (c := 1) rfl rfl rfl rfl rfl rfl (by decide) hA ?_
  obtain ⟨n1, v1, p1, n2, v2, p2, e1, e2, i2, k1, k2, kq, s2, s1⟩ := oq_19 hro hp (A 1)
  have kq := kq rfl
  rw [← kq] at e2
  refine jl_call (idx := 93) (y := 148) (q2 := (11, 2, 1, 1, k148)) (t := 11) (r := 0) (n := 1) (args := [.int (A 1)]) (rest := []) rfl rfl rfl rfl rfl rfl (jTag0 hp.1) rfl rfl rfl e1 ?_
  refine jl_a2 rfl ?_
  refine jl_rd (c := 1) rfl rfl rfl rfl rfl rfl (by decide) hA ?_
  refine jl_call (idx := 96) (y := 235) (q2 := (12, 5, 1, 1, k235)) (t := 12) (r := 66) (n := 1) (args := [.int (A 1)]) (rest := [v1]) rfl rfl rfl rfl rfl rfl (jTag66s hp.1 s1) rfl (jxc1 k1) rfl e2 ?_
  exact jl_eq rfl rfl k1 (k p2 i2 s2)
theorem lc_20 {ro : List (List Int32)} {Q : Option Value → xH → Prop} {i : Int32} {A : Nat → Int32} (hro : jro ro) (hA : jRd ro i A) {p : xH} (hp : jIv p) (k : ∀ p2, jIv p2 → jSh p2 = jSh p → LJ ro Q 1449 i [] p2) : LJ ro Q 760 i [] p := by
  refine jl_a1 rfl ?_
  refine jl_rd (c := 1) rfl rfl rfl rfl rfl rfl (by decide) hA ?_
  refine jl_rd (c := 2) rfl rfl rfl rfl rfl rfl (by decide) hA ?_
  refine jl_rd (c := 3) rfl rfl rfl rfl rfl rfl (by decide) hA ?_
  obtain ⟨n1, v1, p1, n2, v2, p2, e1, e2, i2, k1, k2, kq, s2, s1⟩ := oq_20 hro hp (A 1) (A 2) (A 3)
  refine jl_call (idx := 97) (y := 149) (q2 := (11, 6, 1, 1, k149)) (t := 11) (r := 0) (n := 3) (args := [.int (A 1), .int (A 2), .int (A 3)]) (rest := []) rfl rfl rfl rfl rfl rfl (jTag0 hp.1) rfl rfl rfl e1 ?_
  refine jl_pop rfl k1 ?_
  refine jl_a2 rfl ?_
  refine jl_rd (c := 1) rfl rfl rfl rfl rfl rfl (by decide) hA ?_
  refine jl_rd (c := 2) rfl rfl rfl rfl rfl rfl (by decide) hA ?_
  refine jl_rd (c := 3) rfl rfl rfl rfl rfl rfl (by decide) hA ?_
  refine jl_call (idx := 100) (y := 236) (q2 := (12, 5, 1, 1, k236)) (t := 12) (r := 66) (n := 3) (args := [.int (A 1), .int (A 2), .int (A 3)]) (rest := []) rfl rfl rfl rfl rfl rfl (jTag66s hp.1 s1) rfl rfl rfl e2 ?_
  refine jl_pop rfl k2 ?_
  exact jJ_b (i := .goto 649) rfl rfl rfl (k p2 i2 s2)
theorem lc_21 {ro : List (List Int32)} {Q : Option Value → xH → Prop} {i : Int32} {A : Nat → Int32} (hro : jro ro) (hA : jRd ro i A) {p : xH} (hp : jIv p) (k : ∀ p2, jIv p2 → jSh p2 = jSh p → LJ ro Q 1449 i [] p2) : LJ ro Q 803 i [] p := by
  refine jl_a1 rfl ?_
  refine jl_rd (c := 1) rfl rfl rfl rfl rfl rfl (by decide) hA ?_
  obtain ⟨n1, v1, p1, n2, v2, p2, e1, e2, i2, k1, k2, kq, s2, s1⟩ := oq_21 hro hp (A 1)
  refine jl_call (idx := 101) (y := 150) (q2 := (11, 3, 1, 1, k150)) (t := 11) (r := 0) (n := 1) (args := [.int (A 1)]) (rest := []) rfl rfl rfl rfl rfl rfl (jTag0 hp.1) rfl rfl rfl e1 ?_
  refine jl_pop rfl k1 ?_
  refine jl_a2 rfl ?_
  refine jl_rd (c := 1) rfl rfl rfl rfl rfl rfl (by decide) hA ?_
  refine jl_call (idx := 104) (y := 237) (q2 := (12, 6, 1, 1, k237)) (t := 12) (r := 66) (n := 1) (args := [.int (A 1)]) (rest := []) rfl rfl rfl rfl rfl rfl (jTag66s hp.1 s1) rfl rfl rfl e2 ?_
  refine jl_pop rfl k2 ?_
  exact jJ_b (i := .goto 626) rfl rfl rfl (k p2 i2 s2)
theorem lc_22 {ro : List (List Int32)} {Q : Option Value → xH → Prop} {i : Int32} {A : Nat → Int32} (hro : jro ro) (hA : jRd ro i A) {p : xH} (hp : jIv p) (k : ∀ p2, jIv p2 → jSh p2 = jSh p → LJ ro Q 1449 i [] p2) : LJ ro Q 826 i [] p := by
  refine jl_a1 rfl ?_
  refine jl_rd (c := 1) rfl rfl rfl rfl rfl rfl (by decide) hA ?_
  refine jl_rd (c := 2) rfl rfl rfl rfl rfl rfl (by decide) hA ?_
  obtain ⟨n1, v1, p1, n2, v2, p2, e1, e2, i2, k1, k2, kq, s2, s1⟩ := oq_22 hro hp (A 1) (A 2)
  refine jl_call (idx := 105) (y := 151) (q2 := (11, 3, 1, 1, k151)) (t := 11) (r := 0) (n := 2) (args := [.int (A 1), .int (A 2)]) (rest := []) rfl rfl rfl rfl rfl rfl (jTag0 hp.1) rfl rfl rfl e1 ?_
  refine jl_pop rfl k1 ?_
  refine jl_a2 rfl ?_
  refine jl_rd (c := 1) rfl rfl rfl rfl rfl rfl (by decide) hA ?_
  refine jl_rd (c := 2) rfl rfl rfl rfl rfl rfl (by decide) hA ?_
  refine jl_call (idx := 108) (y := 238) (q2 := (12, 8, 1, 1, k238)) (t := 12) (r := 66) (n := 2) (args := [.int (A 1), .int (A 2)]) (rest := []) rfl rfl rfl rfl rfl rfl (jTag66s hp.1 s1) rfl rfl rfl e2 ?_
  refine jl_pop rfl k2 ?_
  exact jJ_b (i := .goto 593) rfl rfl rfl (k p2 i2 s2)
theorem lc_23 {ro : List (List Int32)} {Q : Option Value → xH → Prop} {i : Int32} {A : Nat → Int32} (hro : jro ro) (hA : jRd ro i A) {p : xH} (hp : jIv p) (k : ∀ p2, jIv p2 → jSh p2 = jSh p → LJ ro Q 1449 i [] p2) : LJ ro Q 859 i [] p := by
  refine jl_a1 rfl ?_
  refine jl_rd (c := 1) rfl rfl rfl rfl rfl rfl (by decide) hA ?_
  refine jl_rd (c := 2) rfl rfl rfl rfl rfl rfl (by decide) hA ?_
  obtain ⟨n1, v1, p1, n2, v2, p2, e1, e2, i2, k1, k2, kq, s2, s1⟩ := oq_23 hro hp (A 1) (A 2)
  refine jl_call (idx := 109) (y := 152) (q2 := (11, 3, 1, 1, k152)) (t := 11) (r := 0) (n := 2) (args := [.int (A 1), .int (A 2)]) (rest := []) rfl rfl rfl rfl rfl rfl (jTag0 hp.1) rfl rfl rfl e1 ?_
  refine jl_pop rfl k1 ?_
  refine jl_a2 rfl ?_
  refine jl_rd (c := 1) rfl rfl rfl rfl rfl rfl (by decide) hA ?_
  refine jl_rd (c := 2) rfl rfl rfl rfl rfl rfl (by decide) hA ?_
  refine jl_call (idx := 112) (y := 239) (q2 := (12, 3, 1, 1, k239)) (t := 12) (r := 66) (n := 2) (args := [.int (A 1), .int (A 2)]) (rest := []) rfl rfl rfl rfl rfl rfl (jTag66s hp.1 s1) rfl rfl rfl e2 ?_
  refine jl_pop rfl k2 ?_
  exact jJ_b (i := .goto 560) rfl rfl rfl (k p2 i2 s2)
theorem lc_24 {ro : List (List Int32)} {Q : Option Value → xH → Prop} {i : Int32} {A : Nat → Int32} (hro : jro ro) (hA : jRd ro i A) {p : xH} (hp : jIv p) (k : ∀ p2, jIv p2 → jSh p2 = jSh p → LJ ro Q 1449 i [] p2) : LJ ro Q 892 i [] p := by
  refine jl_a1 rfl ?_
  refine jl_rd (c := 1) rfl rfl rfl rfl rfl rfl (by decide) hA ?_
  obtain ⟨n1, v1, p1, n2, v2, p2, e1, e2, i2, k1, k2, kq, s2, s1⟩ := oq_24 hro hp (A 1)
  refine jl_call (idx := 113) (y := 153) (q2 := (11, 2, 1, 1, k153)) (t := 11) (r := 0) (n := 1) (args := [.int (A 1)]) (rest := []) rfl rfl rfl rfl rfl rfl (jTag0 hp.1) rfl rfl rfl e1 ?_
  refine jl_pop rfl k1 ?_
  refine jl_a2 rfl ?_
  refine jl_rd (c := 1) rfl rfl rfl rfl rfl rfl (by decide) hA ?_
  refine jl_call (idx := 116) (y := 242) (q2 := (12, 5, 1, 1, k242)) (t := 12) (r := 66) (n := 1) (args := [.int (A 1)]) (rest := []) rfl rfl rfl rfl rfl rfl (jTag66s hp.1 s1) rfl rfl rfl e2 ?_
  refine jl_pop rfl k2 ?_
  exact jJ_b (i := .goto 537) rfl rfl rfl (k p2 i2 s2)
theorem lc_25 {ro : List (List Int32)} {Q : Option Value → xH → Prop} {i : Int32} {A : Nat → Int32} (hro : jro ro) (hA : jRd ro i A) {p : xH} (hp : jIv p) (k : ∀ p2, jIv p2 → jSh p2 = jSh p → LJ ro Q 1449 i [] p2) : LJ ro Q 915 i [] p := by
  refine jl_a1 rfl ?_
  refine jl_rd (c := 1) rfl rfl rfl rfl rfl rfl (by decide) hA ?_
  obtain ⟨n1, v1, p1, n2, v2, p2, e1, e2, i2, k1, k2, kq, s2, s1⟩ := oq_25 hro hp (A 1)
  refine jl_call (idx := 117) (y := 154) (q2 := (11, 2, 1, 1, k154)) (t := 11) (r := 0) (n := 1) (args := [.int (A 1)]) (rest := []) rfl rfl rfl rfl rfl rfl (jTag0 hp.1) rfl rfl rfl e1 ?_
  refine jl_pop rfl k1 ?_
  refine jl_a2 rfl ?_
  refine jl_rd (c := 1) rfl rfl rfl rfl rfl rfl (by decide) hA ?_
  refine jl_call (idx := 120) (y := 245) (q2 := (12, 2, 1, 1, k245)) (t := 12) (r := 66) (n := 1) (args := [.int (A 1)]) (rest := []) rfl rfl rfl rfl rfl rfl (jTag66s hp.1 s1) rfl rfl rfl e2 ?_
  refine jl_pop rfl k2 ?_
  exact jJ_b (i := .goto 514) rfl rfl rfl (k p2 i2 s2)
theorem lc_26 {ro : List (List Int32)} {Q : Option Value → xH → Prop} {i : Int32} {A : Nat → Int32} (hro : jro ro) (hA : jRd ro i A) {p : xH} (hp : jIv p) (k : ∀ p2, jIv p2 → jSh p2 = jSh p → LJ ro Q 1449 i [] p2) : LJ ro Q 938 i [] p := by
  refine jl_a1 rfl ?_
  refine jl_rd (c := 1) rfl rfl rfl rfl rfl rfl (by decide) hA ?_
  refine jl_rd (c := 2) rfl rfl rfl rfl rfl rfl (by decide) hA ?_
  obtain ⟨n1, v1, p1, n2, v2, p2, e1, e2, i2, k1, k2, kq, s2, s1⟩ := oq_26 hro hp (A 1) (A 2)
  refine jl_call (idx := 121) (y := 155) (q2 := (11, 4, 1, 1, k155)) (t := 11) (r := 0) (n := 2) (args := [.int (A 1), .int (A 2)]) (rest := []) rfl rfl rfl rfl rfl rfl (jTag0 hp.1) rfl rfl rfl e1 ?_
  refine jl_pop rfl k1 ?_
  refine jl_a2 rfl ?_
  refine jl_rd (c := 1) rfl rfl rfl rfl rfl rfl (by decide) hA ?_
  refine jl_rd (c := 2) rfl rfl rfl rfl rfl rfl (by decide) hA ?_
  refine jl_call (idx := 124) (y := 246) (q2 := (12, 6, 1, 1, k246)) (t := 12) (r := 66) (n := 2) (args := [.int (A 1), .int (A 2)]) (rest := []) rfl rfl rfl rfl rfl rfl (jTag66s hp.1 s1) rfl rfl rfl e2 ?_
  refine jl_pop rfl k2 ?_
  exact jJ_b (i := .goto 481) rfl rfl rfl (k p2 i2 s2)
theorem lc_27 {ro : List (List Int32)} {Q : Option Value → xH → Prop} {i : Int32} {A : Nat → Int32} (hro : jro ro) (hA : jRd ro i A) {p : xH} (hp : jIv p) (k : ∀ p2, jIv p2 → jSh p2 = jSh p → LJ ro Q 1449 i [] p2) : LJ ro Q 971 i [] p := by
  refine jl_a1 rfl ?_
  refine jl_rd (c := 1) rfl rfl rfl rfl rfl rfl (by decide) hA ?_
  obtain ⟨n1, v1, p1, n2, v2, p2, e1, e2, i2, k1, k2, kq, s2, s1⟩ := oq_27 hro hp (A 1)
  refine jl_call (idx := 125) (y := 156) (q2 := (11, 2, 1, 1, k156)) (t := 11) (r := 0) (n := 1) (args := [.int (A 1)]) (rest := []) rfl rfl rfl rfl rfl rfl (jTag0 hp.1) rfl rfl rfl e1 ?_
  refine jl_pop rfl k1 ?_
  refine jl_a2 rfl ?_
  refine jl_rd (c := 1) rfl rfl rfl rfl rfl rfl (by decide) hA ?_
  refine jl_call (idx := 128) (y := 247) (q2 := (12, 8, 1, 1, k247)) (t := 12) (r := 66) (n := 1) (args := [.int (A 1)]) (rest := []) rfl rfl rfl rfl rfl rfl (jTag66s hp.1 s1) rfl rfl rfl e2 ?_
  refine jl_pop rfl k2 ?_
  exact jJ_b (i := .goto 458) rfl rfl rfl (k p2 i2 s2)
theorem lc_28 {ro : List (List Int32)} {Q : Option Value → xH → Prop} {i : Int32} {A : Nat → Int32} (hro : jro ro) (hA : jRd ro i A) {p : xH} (hp : jIv p) (k : ∀ p2, jIv p2 → jSh p2 = jSh p → LJ ro Q 1449 i [] p2) : LJ ro Q 994 i [] p := by
  refine jl_a1 rfl ?_
  obtain ⟨n1, v1, p1, n2, v2, p2, e1, e2, i2, k1, k2, kq, s2, s1⟩ := oq_28 hro hp 
  refine jl_call (idx := 129) (y := 157) (q2 := (11, 1, 1, 1, k157)) (t := 11) (r := 0) (n := 0) (args := []) (rest := []) rfl rfl rfl rfl rfl rfl (jTag0 hp.1) rfl rfl rfl e1 ?_
  refine jl_pop rfl k1 ?_
  refine jl_a2 rfl ?_
  refine jl_call (idx := 132) (y := 248) (q2 := (12, 2, 1, 1, k248)) (t := 12) (r := 66) (n := 0) (args := []) (rest := []) rfl rfl rfl rfl rfl rfl (jTag66s hp.1 s1) rfl rfl rfl e2 ?_
  refine jl_pop rfl k2 ?_
  exact jJ_b (i := .goto 445) rfl rfl rfl (k p2 i2 s2)
theorem lc_29 {ro : List (List Int32)} {Q : Option Value → xH → Prop} {i : Int32} {A : Nat → Int32} (hro : jro ro) (hA : jRd ro i A) {p : xH} (hp : jIv p) (k : ∀ p2, jIv p2 → jSh p2 = jSh p → LJ ro Q 1449 i [] p2) : LJ ro Q 1007 i [] p := by
  refine jl_a1 rfl ?_
  obtain ⟨n1, v1, p1, n2, v2, p2, e1, e2, i2, k1, k2, kq, s2, s1⟩ := oq_29 hro hp 
  refine jl_call (idx := 133) (y := 158) (q2 := (11, 1, 1, 1, k158)) (t := 11) (r := 0) (n := 0) (args := []) (rest := []) rfl rfl rfl rfl rfl rfl (jTag0 hp.1) rfl rfl rfl e1 ?_
  refine jl_pop rfl k1 ?_
  refine jl_a2 rfl ?_
  refine jl_call (idx := 136) (y := 249) (q2 := (12, 2, 1, 1, k249)) (t := 12) (r := 66) (n := 0) (args := []) (rest := []) rfl rfl rfl rfl rfl rfl (jTag66s hp.1 s1) rfl rfl rfl e2 ?_
  refine jl_pop rfl k2 ?_
  exact jJ_b (i := .goto 432) rfl rfl rfl (k p2 i2 s2)
theorem lc_30 {ro : List (List Int32)} {Q : Option Value → xH → Prop} {i : Int32} {A : Nat → Int32} (hro : jro ro) (hA : jRd ro i A) {p : xH} (hp : jIv p) (k : ∀ p2, jIv p2 → jSh p2 = jSh p → LJ ro Q 1449 i [] p2) : LJ ro Q 1020 i [] p := by
  refine jl_a1 rfl ?_
  obtain ⟨n1, v1, p1, n2, v2, p2, e1, e2, i2, k1, k2, kq, s2, s1⟩ := oq_30 hro hp 
  refine jl_call (idx := 137) (y := 159) (q2 := (11, 1, 1, 1, k159)) (t := 11) (r := 0) (n := 0) (args := []) (rest := []) rfl rfl rfl rfl rfl rfl (jTag0 hp.1) rfl rfl rfl e1 ?_
  refine jl_pop rfl k1 ?_
  refine jl_a2 rfl ?_
  refine jl_call (idx := 140) (y := 250) (q2 := (12, 2, 1, 1, k250)) (t := 12) (r := 66) (n := 0) (args := []) (rest := []) rfl rfl rfl rfl rfl rfl (jTag66s hp.1 s1) rfl rfl rfl e2 ?_
  refine jl_pop rfl k2 ?_
  exact jJ_b (i := .goto 419) rfl rfl rfl (k p2 i2 s2)
theorem lc_31 {ro : List (List Int32)} {Q : Option Value → xH → Prop} {i : Int32} {A : Nat → Int32} (hro : jro ro) (hA : jRd ro i A) {p : xH} (hp : jIv p) (k : ∀ p2, jIv p2 → jSh p2 = jSh p → LJ ro Q 1449 i [] p2) : LJ ro Q 1033 i [] p := by
  refine jl_a1 rfl ?_
  obtain ⟨n1, v1, p1, n2, v2, p2, e1, e2, i2, k1, k2, kq, s2, s1⟩ := oq_31 hro hp 
  refine jl_call (idx := 141) (y := 160) (q2 := (11, 1, 1, 1, k160)) (t := 11) (r := 0) (n := 0) (args := []) (rest := []) rfl rfl rfl rfl rfl rfl (jTag0 hp.1) rfl rfl rfl e1 ?_
  refine jl_pop rfl k1 ?_
  refine jl_a2 rfl ?_
  refine jl_call (idx := 144) (y := 179) (q2 := (12, 1, 1, 1, k179)) (t := 12) (r := 66) (n := 0) (args := []) (rest := []) rfl rfl rfl rfl rfl rfl (jTag66s hp.1 s1) rfl rfl rfl e2 ?_
  refine jl_pop rfl k2 ?_
  exact jJ_b (i := .goto 406) rfl rfl rfl (k p2 i2 s2)
theorem lc_32 {ro : List (List Int32)} {Q : Option Value → xH → Prop} {i : Int32} {A : Nat → Int32} (hro : jro ro) (hA : jRd ro i A) {p : xH} (hp : jIv p) (k : ∀ p2, jIv p2 → jSh p2 = jSh p → LJ ro Q 1449 i [] p2) : LJ ro Q 1046 i [] p := by
  refine jl_a1 rfl ?_
  obtain ⟨n1, v1, p1, n2, v2, p2, e1, e2, i2, k1, k2, kq, s2, s1⟩ := oq_32 hro hp 
  refine jl_call (idx := 145) (y := 161) (q2 := (11, 1, 1, 1, k161)) (t := 11) (r := 0) (n := 0) (args := []) (rest := []) rfl rfl rfl rfl rfl rfl (jTag0 hp.1) rfl rfl rfl e1 ?_
  refine jl_pop rfl k1 ?_
  refine jl_a2 rfl ?_
  refine jl_call (idx := 148) (y := 180) (q2 := (12, 1, 1, 1, k180)) (t := 12) (r := 66) (n := 0) (args := []) (rest := []) rfl rfl rfl rfl rfl rfl (jTag66s hp.1 s1) rfl rfl rfl e2 ?_
  refine jl_pop rfl k2 ?_
  exact jJ_b (i := .goto 393) rfl rfl rfl (k p2 i2 s2)
theorem lc_33 {ro : List (List Int32)} {Q : Option Value → xH → Prop} {i : Int32} {A : Nat → Int32} (hro : jro ro) (hA : jRd ro i A) {p : xH} (hp : jIv p) (k : ∀ p2, jIv p2 → jSh p2 = jSh p → LJ ro Q 1449 i [] p2) : LJ ro Q 1059 i [] p := by
  refine jl_a1 rfl ?_
  refine jl_rd (c := 1) rfl rfl rfl rfl rfl rfl (by decide) hA ?_
  obtain ⟨n1, v1, p1, n2, v2, p2, e1, e2, i2, k1, k2, kq, s2, s1⟩ := oq_33 hro hp (A 1)
  refine jl_call (idx := 149) (y := 162) (q2 := (11, 2, 1, 1, k162)) (t := 11) (r := 0) (n := 1) (args := [.int (A 1)]) (rest := []) rfl rfl rfl rfl rfl rfl (jTag0 hp.1) rfl rfl rfl e1 ?_
  refine jl_pop rfl k1 ?_
  refine jl_a2 rfl ?_
  refine jl_rd (c := 1) rfl rfl rfl rfl rfl rfl (by decide) hA ?_
  refine jl_call (idx := 152) (y := 254) (q2 := (12, 2, 1, 1, k254)) (t := 12) (r := 66) (n := 1) (args := [.int (A 1)]) (rest := []) rfl rfl rfl rfl rfl rfl (jTag66s hp.1 s1) rfl rfl rfl e2 ?_
  refine jl_pop rfl k2 ?_
  exact jJ_b (i := .goto 370) rfl rfl rfl (k p2 i2 s2)
theorem lc_34 {ro : List (List Int32)} {Q : Option Value → xH → Prop} {i : Int32} {A : Nat → Int32} (hro : jro ro) (hA : jRd ro i A) {p : xH} (hp : jIv p) (k : ∀ p2, jIv p2 → jSh p2 = jSh p → LJ ro Q 1449 i [] p2) : LJ ro Q 1082 i [] p := by
  refine jl_a1 rfl ?_
  refine jl_rd (c := 1) rfl rfl rfl rfl rfl rfl (by decide) hA ?_
  refine jl_rd (c := 2) rfl rfl rfl rfl rfl rfl (by decide) hA ?_
  refine jl_rd (c := 3) rfl rfl rfl rfl rfl rfl (by decide) hA ?_
  obtain ⟨n1, v1, p1, n2, v2, p2, e1, e2, i2, k1, k2, kq, s2, s1⟩ := oq_34 hro hp (A 1) (A 2) (A 3)
  refine jl_call (idx := 153) (y := 163) (q2 := (11, 4, 1, 1, k163)) (t := 11) (r := 0) (n := 3) (args := [.int (A 1), .int (A 2), .int (A 3)]) (rest := []) rfl rfl rfl rfl rfl rfl (jTag0 hp.1) rfl rfl rfl e1 ?_
  refine jl_pop rfl k1 ?_
  refine jl_a2 rfl ?_
  refine jl_rd (c := 1) rfl rfl rfl rfl rfl rfl (by decide) hA ?_
  refine jl_rd (c := 2) rfl rfl rfl rfl rfl rfl (by decide) hA ?_
  refine jl_rd (c := 3) rfl rfl rfl rfl rfl rfl (by decide) hA ?_
  refine jl_call (idx := 156) (y := 261) (q2 := (12, 4, 1, 1, k261)) (t := 12) (r := 66) (n := 3) (args := [.int (A 1), .int (A 2), .int (A 3)]) (rest := []) rfl rfl rfl rfl rfl rfl (jTag66s hp.1 s1) rfl rfl rfl e2 ?_
  refine jl_pop rfl k2 ?_
  exact jJ_b (i := .goto 327) rfl rfl rfl (k p2 i2 s2)
theorem lc_35 {ro : List (List Int32)} {Q : Option Value → xH → Prop} {i : Int32} {A : Nat → Int32} (hro : jro ro) (hA : jRd ro i A) {p : xH} (hp : jIv p) (k : ∀ p2, jIv p2 → jSh p2 = jSh p → LJ ro Q 1449 i [] p2) : LJ ro Q 1125 i [] p := by
  refine jl_a1 rfl ?_
  refine jl_rd (c := 1) rfl rfl rfl rfl rfl rfl (by decide) hA ?_
  obtain ⟨n1, v1, p1, n2, v2, p2, e1, e2, i2, k1, k2, kq, s2, s1⟩ := oq_35 hro hp (A 1)
  refine jl_call (idx := 157) (y := 164) (q2 := (11, 2, 1, 1, k164)) (t := 11) (r := 0) (n := 1) (args := [.int (A 1)]) (rest := []) rfl rfl rfl rfl rfl rfl (jTag0 hp.1) rfl rfl rfl e1 ?_
  refine jl_pop rfl k1 ?_
  refine jl_a2 rfl ?_
  refine jl_rd (c := 1) rfl rfl rfl rfl rfl rfl (by decide) hA ?_
  refine jl_call (idx := 160) (y := 262) (q2 := (12, 2, 1, 1, k262)) (t := 12) (r := 66) (n := 1) (args := [.int (A 1)]) (rest := []) rfl rfl rfl rfl rfl rfl (jTag66s hp.1 s1) rfl rfl rfl e2 ?_
  refine jl_pop rfl k2 ?_
  exact jJ_b (i := .goto 304) rfl rfl rfl (k p2 i2 s2)
theorem lc_36 {ro : List (List Int32)} {Q : Option Value → xH → Prop} {i : Int32} {A : Nat → Int32} (hro : jro ro) (hA : jRd ro i A) {p : xH} (hp : jIv p) (k : ∀ p2, jIv p2 → jSh p2 = jSh p → LJ ro Q 1449 i [] p2) : LJ ro Q 1148 i [] p := by
  refine jl_a1 rfl ?_
  refine jl_rd (c := 1) rfl rfl rfl rfl rfl rfl (by decide) hA ?_
  refine jl_rd (c := 2) rfl rfl rfl rfl rfl rfl (by decide) hA ?_
  obtain ⟨n1, v1, p1, n2, v2, p2, e1, e2, i2, k1, k2, kq, s2, s1⟩ := oq_36 hro hp (A 1) (A 2)
  refine jl_call (idx := 161) (y := 165) (q2 := (11, 3, 1, 1, k165)) (t := 11) (r := 0) (n := 2) (args := [.int (A 1), .int (A 2)]) (rest := []) rfl rfl rfl rfl rfl rfl (jTag0 hp.1) rfl rfl rfl e1 ?_
  refine jl_pop rfl k1 ?_
  refine jl_a2 rfl ?_
  refine jl_rd (c := 1) rfl rfl rfl rfl rfl rfl (by decide) hA ?_
  refine jl_rd (c := 2) rfl rfl rfl rfl rfl rfl (by decide) hA ?_
  refine jl_call (idx := 164) (y := 264) (q2 := (12, 3, 1, 1, k264)) (t := 12) (r := 66) (n := 2) (args := [.int (A 1), .int (A 2)]) (rest := []) rfl rfl rfl rfl rfl rfl (jTag66s hp.1 s1) rfl rfl rfl e2 ?_
  refine jl_pop rfl k2 ?_
  exact jJ_b (i := .goto 271) rfl rfl rfl (k p2 i2 s2)
theorem lc_37 {ro : List (List Int32)} {Q : Option Value → xH → Prop} {i : Int32} {A : Nat → Int32} (hro : jro ro) (hA : jRd ro i A) {p : xH} (hp : jIv p) (k : ∀ p2, jIv p2 → jSh p2 = jSh p → LJ ro Q 1449 i [] p2) : LJ ro Q 1181 i [] p := by
  refine jl_a1 rfl ?_
  refine jl_rd (c := 1) rfl rfl rfl rfl rfl rfl (by decide) hA ?_
  refine jl_rd (c := 2) rfl rfl rfl rfl rfl rfl (by decide) hA ?_
  refine jl_rd (c := 3) rfl rfl rfl rfl rfl rfl (by decide) hA ?_
  obtain ⟨n1, v1, p1, n2, v2, p2, e1, e2, i2, k1, k2, kq, s2, s1⟩ := oq_37 hro hp (A 1) (A 2) (A 3)
  refine jl_call (idx := 165) (y := 166) (q2 := (11, 4, 1, 1, k166)) (t := 11) (r := 0) (n := 3) (args := [.int (A 1), .int (A 2), .int (A 3)]) (rest := []) rfl rfl rfl rfl rfl rfl (jTag0 hp.1) rfl rfl rfl e1 ?_
  refine jl_pop rfl k1 ?_
  refine jl_a2 rfl ?_
  refine jl_rd (c := 1) rfl rfl rfl rfl rfl rfl (by decide) hA ?_
  refine jl_rd (c := 2) rfl rfl rfl rfl rfl rfl (by decide) hA ?_
  refine jl_rd (c := 3) rfl rfl rfl rfl rfl rfl (by decide) hA ?_
  refine jl_call (idx := 168) (y := 265) (q2 := (12, 5, 1, 1, k265)) (t := 12) (r := 66) (n := 3) (args := [.int (A 1), .int (A 2), .int (A 3)]) (rest := []) rfl rfl rfl rfl rfl rfl (jTag66s hp.1 s1) rfl rfl rfl e2 ?_
  refine jl_pop rfl k2 ?_
  exact jJ_b (i := .goto 228) rfl rfl rfl (k p2 i2 s2)
theorem lc_38 {ro : List (List Int32)} {Q : Option Value → xH → Prop} {i : Int32} {A : Nat → Int32} (hro : jro ro) (hA : jRd ro i A) {p : xH} (hp : jIv p) (k : ∀ p2, jIv p2 → jSh p2 = jSh p → LJ ro Q 1449 i [] p2) : LJ ro Q 1224 i [] p := by
  refine jl_a1 rfl ?_
  refine jl_rd (c := 1) rfl rfl rfl rfl rfl rfl (by decide) hA ?_
  refine jl_rd (c := 2) rfl rfl rfl rfl rfl rfl (by decide) hA ?_
  refine jl_rd (c := 3) rfl rfl rfl rfl rfl rfl (by decide) hA ?_
  refine jJ_s (i := .i2l) rfl rfl ?_
  refine jJ_s (i := .bipush 32) rfl rfl ?_
  refine jJ_s (i := .lshl) rfl rfl ?_
  refine jl_rd (c := 4) rfl rfl rfl rfl rfl rfl (by decide) hA ?_
  refine jJ_s (i := .i2l) rfl rfl ?_
  refine jJ_s (i := .ldc2_w 169) rfl rfl ?_
  refine jJ_s (i := .land) rfl rfl ?_
  refine jJ_s (i := .lor) rfl rfl ?_
  obtain ⟨n1, v1, p1, n2, v2, p2, e1, e2, i2, k1, k2, kq, s2, s1⟩ := oq_38 hro hp (A 1) (A 2) (((A 3).toInt64 <<< ((Int8.ofInt 32).toInt32.toInt64 &&& 63)) ||| ((A 4).toInt64 &&& 4294967295))
  refine jl_call (idx := 171) (y := 167) (q2 := (11, 6, 1, 1, k167)) (t := 11) (r := 0) (n := 3) (args := [.int (A 1), .int (A 2), .long (((A 3).toInt64 <<< ((Int8.ofInt 32).toInt32.toInt64 &&& 63)) ||| ((A 4).toInt64 &&& 4294967295))]) (rest := []) rfl rfl rfl rfl rfl rfl (jTag0 hp.1) rfl rfl rfl e1 ?_
  refine jl_pop rfl k1 ?_
  refine jl_a2 rfl ?_
  refine jl_rd (c := 1) rfl rfl rfl rfl rfl rfl (by decide) hA ?_
  refine jl_rd (c := 2) rfl rfl rfl rfl rfl rfl (by decide) hA ?_
  refine jl_rd (c := 3) rfl rfl rfl rfl rfl rfl (by decide) hA ?_
  refine jJ_s (i := .i2l) rfl rfl ?_
  refine jJ_s (i := .bipush 32) rfl rfl ?_
  refine jJ_s (i := .lshl) rfl rfl ?_
  refine jl_rd (c := 4) rfl rfl rfl rfl rfl rfl (by decide) hA ?_
  refine jJ_s (i := .i2l) rfl rfl ?_
  refine jJ_s (i := .ldc2_w 169) rfl rfl ?_
  refine jJ_s (i := .land) rfl rfl ?_
  refine jJ_s (i := .lor) rfl rfl ?_
  refine jl_call (idx := 175) (y := 268) (q2 := (12, 6, 1, 1, k268)) (t := 12) (r := 66) (n := 3) (args := [.int (A 1), .int (A 2), .long (((A 3).toInt64 <<< ((Int8.ofInt 32).toInt32.toInt64 &&& 63)) ||| ((A 4).toInt64 &&& 4294967295))]) (rest := []) rfl rfl rfl rfl rfl rfl (jTag66s hp.1 s1) rfl rfl rfl e2 ?_
  refine jl_pop rfl k2 ?_
  exact jJ_b (i := .goto 155) rfl rfl rfl (k p2 i2 s2)
theorem lc_39 {ro : List (List Int32)} {Q : Option Value → xH → Prop} {i : Int32} {A : Nat → Int32} (hro : jro ro) (hA : jRd ro i A) {p : xH} (hp : jIv p) (k : ∀ p2, jIv p2 → jSh p2 = jSh p → LJ ro Q 1449 i [] p2) : LJ ro Q 1297 i [] p := by
  refine jl_a1 rfl ?_
  refine jl_rd (c := 1) rfl rfl rfl rfl rfl rfl (by decide) hA ?_
  refine jl_rd (c := 2) rfl rfl rfl rfl rfl rfl (by decide) hA ?_
  obtain ⟨n1, v1, p1, n2, v2, p2, e1, e2, i2, k1, k2, kq, s2, s1⟩ := oq_39 hro hp (A 1) (A 2)
  refine jl_call (idx := 176) (y := 168) (q2 := (11, 3, 1, 3, k168)) (t := 11) (r := 0) (n := 2) (args := [.int (A 1), .int (A 2)]) (rest := []) rfl rfl rfl rfl rfl rfl (jTag0 hp.1) rfl rfl rfl e1 ?_
  refine jl_pop2 rfl k1 ?_
  refine jl_a2 rfl ?_
  refine jl_rd (c := 1) rfl rfl rfl rfl rfl rfl (by decide) hA ?_
  refine jl_rd (c := 2) rfl rfl rfl rfl rfl rfl (by decide) hA ?_
  refine jl_call (idx := 180) (y := 269) (q2 := (12, 3, 1, 3, k269)) (t := 12) (r := 66) (n := 2) (args := [.int (A 1), .int (A 2)]) (rest := []) rfl rfl rfl rfl rfl rfl (jTag66s hp.1 s1) rfl rfl rfl e2 ?_
  refine jl_pop2 rfl k2 ?_
  exact jJ_b (i := .goto 122) rfl rfl rfl (k p2 i2 s2)
theorem lc_40 {ro : List (List Int32)} {Q : Option Value → xH → Prop} {i : Int32} {A : Nat → Int32} (hro : jro ro) (hA : jRd ro i A) {p : xH} (hp : jIv p) (k : ∀ p2, jIv p2 → jSh p2 = jSh p → LJ ro Q 1449 i [] p2) : LJ ro Q 1330 i [] p := by
  refine jl_a1 rfl ?_
  refine jl_rd (c := 1) rfl rfl rfl rfl rfl rfl (by decide) hA ?_
  refine jl_rd (c := 2) rfl rfl rfl rfl rfl rfl (by decide) hA ?_
  refine jl_rd (c := 3) rfl rfl rfl rfl rfl rfl (by decide) hA ?_
  refine jl_rd (c := 4) rfl rfl rfl rfl rfl rfl (by decide) hA ?_
  refine jl_rd (c := 5) rfl rfl rfl rfl rfl rfl (by decide) hA ?_
  obtain ⟨n1, v1, p1, n2, v2, p2, e1, e2, i2, k1, k2, kq, s2, s1⟩ := oq_40 hro hp (A 1) (A 2) (A 3) (A 4) (A 5)
  refine jl_call (idx := 181) (y := 169) (q2 := (11, 6, 1, 1, k169)) (t := 11) (r := 0) (n := 5) (args := [.int (A 1), .int (A 2), .int (A 3), .int (A 4), .int (A 5)]) (rest := []) rfl rfl rfl rfl rfl rfl (jTag0 hp.1) rfl rfl rfl e1 ?_
  refine jl_pop rfl k1 ?_
  refine jl_a2 rfl ?_
  refine jl_rd (c := 1) rfl rfl rfl rfl rfl rfl (by decide) hA ?_
  refine jl_rd (c := 2) rfl rfl rfl rfl rfl rfl (by decide) hA ?_
  refine jl_rd (c := 3) rfl rfl rfl rfl rfl rfl (by decide) hA ?_
  refine jl_rd (c := 4) rfl rfl rfl rfl rfl rfl (by decide) hA ?_
  refine jl_rd (c := 5) rfl rfl rfl rfl rfl rfl (by decide) hA ?_
  refine jl_call (idx := 185) (y := 270) (q2 := (12, 7, 1, 1, k270)) (t := 12) (r := 66) (n := 5) (args := [.int (A 1), .int (A 2), .int (A 3), .int (A 4), .int (A 5)]) (rest := []) rfl rfl rfl rfl rfl rfl (jTag66s hp.1 s1) rfl rfl rfl e2 ?_
  refine jl_pop rfl k2 ?_
  exact jJ_b (i := .goto 59) rfl rfl rfl (k p2 i2 s2)
theorem lc_41 {ro : List (List Int32)} {Q : Option Value → xH → Prop} {i : Int32} {A : Nat → Int32} (hro : jro ro) (hA : jRd ro i A) {p : xH} (hp : jIv p) (k : ∀ p2, jIv p2 → jSh p2 = jSh p → LJ ro Q 1449 i [] p2) : LJ ro Q 1393 i [] p := by
  refine jl_a1 rfl ?_
  refine jl_rd (c := 1) rfl rfl rfl rfl rfl rfl (by decide) hA ?_
  refine jl_rd (c := 2) rfl rfl rfl rfl rfl rfl (by decide) hA ?_
  obtain ⟨n1, v1, p1, n2, v2, p2, e1, e2, i2, k1, k2, kq, s2, s1⟩ := oq_41 hro hp (A 1) (A 2)
  refine jl_call (idx := 186) (y := 170) (q2 := (11, 5, 1, 1, k170)) (t := 11) (r := 0) (n := 2) (args := [.int (A 1), .int (A 2)]) (rest := []) rfl rfl rfl rfl rfl rfl (jTag0 hp.1) rfl rfl rfl e1 ?_
  refine jl_pop rfl k1 ?_
  refine jl_a2 rfl ?_
  refine jl_rd (c := 1) rfl rfl rfl rfl rfl rfl (by decide) hA ?_
  refine jl_rd (c := 2) rfl rfl rfl rfl rfl rfl (by decide) hA ?_
  refine jl_call (idx := 189) (y := 271) (q2 := (12, 4, 1, 1, k271)) (t := 12) (r := 66) (n := 2) (args := [.int (A 1), .int (A 2)]) (rest := []) rfl rfl rfl rfl rfl rfl (jTag66s hp.1 s1) rfl rfl rfl e2 ?_
  refine jl_pop rfl k2 ?_
  exact jJ_b (i := .goto 26) rfl rfl rfl (k p2 i2 s2)
theorem lc_42 {ro : List (List Int32)} {Q : Option Value → xH → Prop} {i : Int32} {A : Nat → Int32} (hro : jro ro) (hA : jRd ro i A) {p : xH} (hp : jIv p) (k : ∀ p2, jIv p2 → jSh p2 = jSh p → LJ ro Q 1449 i [] p2) : LJ ro Q 1426 i [] p := by
  refine jl_a1 rfl ?_
  refine jl_rd (c := 1) rfl rfl rfl rfl rfl rfl (by decide) hA ?_
  obtain ⟨n1, v1, p1, n2, v2, p2, e1, e2, i2, k1, k2, kq, s2, s1⟩ := oq_42 hro hp (A 1)
  refine jl_call (idx := 190) (y := 171) (q2 := (11, 2, 1, 1, k171)) (t := 11) (r := 0) (n := 1) (args := [.int (A 1)]) (rest := []) rfl rfl rfl rfl rfl rfl (jTag0 hp.1) rfl rfl rfl e1 ?_
  refine jl_pop rfl k1 ?_
  refine jl_a2 rfl ?_
  refine jl_rd (c := 1) rfl rfl rfl rfl rfl rfl (by decide) hA ?_
  refine jl_call (idx := 193) (y := 272) (q2 := (12, 2, 1, 1, k272)) (t := 12) (r := 66) (n := 1) (args := [.int (A 1)]) (rest := []) rfl rfl rfl rfl rfl rfl (jTag66s hp.1 s1) rfl rfl rfl e2 ?_
  refine jl_pop rfl k2 ?_
  exact jJ_b (i := .goto 3) rfl rfl rfl (k p2 i2 s2)
end
