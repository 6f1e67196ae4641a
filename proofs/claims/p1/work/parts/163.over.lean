/-! the long division of the reference: that it comes to an end -/
section MDL
variable {fa fr kn dg rc pr : Int32} {co we si ex : List Int32} {le : List Int64} {tx : List Int32} {L C : List Int64} {S : List Int32}
set_option maxRecDepth 100000 in
set_option maxHeartbeats 4000000 in
theorem against_loop {fb lb c s a b : Nat} (ha : a < 60) (hb : b < 60) (hL : L.length = 6000) {Q : yR → Prop} (hq : ∀ v, Q (.inl (some (.int v)), mH fa 0 kn dg rc pr co we si ex le tx L S C, c, s)) :
    ∀ (m : Nat), m ≤ 100 → gX fb lb 170 3 [(3, .int (nI m - nI 1)), (0, .ref 0), (1, .int (nI a)), (2, .int (nI b))] [] (mH fa 0 kn dg rc pr co we si ex le tx L S C) c s Q := by
  intro m
  induction m with
  | zero =>
    intro _
    refine blk_go ob_170 (fun pc => Nat.beq pc 3) 30 ?_
    (conv => whnf); refine br_t (show nI 0 - nI 1 < 0 by decide) ?_
    exact go_iret ((ob_170.1 63).trans rfl) rfl (vp_nar_int _) (hq _)
  | succ m ih =>
    intro hm
    rw [show nI (m + 1) - nI 1 = nI m from nI_pred m]
    refine blk_go ob_170 (fun pc => Nat.beq pc 3) 60 ?_
    (conv => whnf); refine br_f (show ¬ nI m < 0 from nI_pos (by omega)) ?_
    (conv => whnf); refine ⟨100 * a + m, k100 a m, by omega, by omega, ?_⟩
    (conv => whnf); refine ⟨100 * b + m, k100 b m, by omega, by omega, ?_⟩
    (conv => whnf); refine ⟨fun c1 => ?_, fun c1 => ?_⟩
    · refine go_few [(3, .int (nI m + Int32.ofInt (-1))), (0, .ref 0), (1, .int (nI a)), (2, .int (nI b))] ((ob_170.1 3).trans rfl) (by simp <;> rfl) ?_
      rw [show nI m + Int32.ofInt (-1) = nI m - nI 1 from (Int32.sub_eq_add_neg (nI m) (nI 1)).symm]
      exact ih (by omega)
    · (conv => whnf); refine ⟨fun c2 => ?_, fun c2 => ?_⟩
      · exact go_iret ((ob_170.1 55).trans rfl) rfl (vp_nar_int _) (hq _)
      · exact go_iret ((ob_170.1 55).trans rfl) rfl (vp_nar_int _) (hq _)
theorem c_against {a b : Nat} (ha : a < 60) (hb : b < 60) (hL : L.length = 6000) : cR 170 0 0 [.ref 0, .int (nI a), .int (nI b)] (mH fa 0 kn dg rc pr co we si ex le tx L S C) (fun v h => h = mH fa 0 kn dg rc pr co we si ex le tx L S C ∧ ∃ x, v = some (.int x)) := by
  intro fb lb _ _
  refine blk_go ob_170 (fun pc => Nat.beq pc 3) 30 ?_
  exact against_loop ha hb hL (fun v => ⟨_, _, rfl, rfl, v, rfl⟩) 100 (by omega)
set_option maxRecDepth 100000 in
set_option maxHeartbeats 4000000 in
theorem c_bitOf {a : Nat} {x : Int32} (ha : a < 60) (hL : L.length = 6000) : cR 180 0 0 [.ref 0, .int (nI a), .int x] (mH fa 0 kn dg rc pr co we si ex le tx L S C) (fun v h => h = mH fa 0 kn dg rc pr co we si ex le tx L S C ∧ ∃ x, v = some (.int x)) := by
  intro fb lb _ _
  refine blk_go ob_180 (fun _ => false) 30 ?_
  (conv => whnf); refine ⟨fun c1 => ?_, fun c1 => ?_⟩
  · exact go_iret ((ob_180.1 37).trans rfl) rfl (vp_nar_int _) ⟨_, _, rfl, rfl, _, rfl⟩
  · (conv => whnf); refine ⟨fun c2 => ?_, fun c2 => ?_⟩
    · obtain ⟨j, hj, rfl⟩ : ∃ j, j < 2800 ∧ x = nI j := by
        rcases pk_ix x (n := 2800) (by decide) with q | q | q
        · exact absurd q c1
        · exact absurd (show x < nI 2800 from c2) (Int32.not_lt.mpr q)
        · exact q
      (conv => whnf); refine ⟨show ¬ nI 28 = 0 by decide, ?_⟩
      (conv => whnf); refine ⟨100 * a + j / 28, (show nI 100 * nI a + nI j / nI 28 = nI (100 * a + j / 28) by rw [pk_div (by omega) (by decide) (by decide), k100]), by omega, by omega, ?_⟩
      (conv => whnf); refine ⟨show ¬ nI 28 = 0 by decide, ?_⟩
      exact go_iret ((ob_180.1 37).trans rfl) rfl (vp_nar_int _) ⟨_, _, rfl, rfl, _, rfl⟩
    · exact go_iret ((ob_180.1 37).trans rfl) rfl (vp_nar_int _) ⟨_, _, rfl, rfl, _, rfl⟩
set_option maxRecDepth 100000 in
set_option maxHeartbeats 4000000 in
/-- the result laid down, from 260 on -/
theorem over_c {fb lb r : Nat} {s0 x5 x6 x7 x2 x3 : Int32} (hf : 2 ≤ fb) (hl : 43 ≤ lb) (hr : r < 60) (hC : C.length = 200) (hS : S.length = 60) {Q : yR → Prop} (hq : ∀ L' S', L'.length = 6000 → S'.length = 60 → Q (.inl none, mH fa 0 kn dg rc pr co we si ex le tx L' S' C, 0, 0)) :
    ∀ (d k : Nat) (L : List Int64), k + d = 100 → L.length = 6000 → gX fb lb 179 263 [(7, .int (nI k)), (6, .int x6), (5, .int x5), (4, .int s0), (0, .ref 0), (1, .int (nI r)), (2, .int x2), (3, .int x3)] [] (mH fa 0 kn dg rc pr co we si ex le tx L S C) 0 0 Q := by
  intro d
  induction d with
  | zero =>
    intro k L hk hL
    have hk : k = 100 := by omega
    subst hk
    refine blk_go ob_179 (fun pc => Nat.beq pc 263) 40 ?_
    (conv => whnf); refine br_t (show nI 100 ≤ nI 100 by decide) ?_
    (conv => whnf); refine ⟨r, rfl, by omega, by omega, ?_⟩
    refine vM (idx := 62) (mj := 161) (q := 1) (n := 2) [.ref 0, .int (nI r)] ((ob_179.1 318).trans rfl) rfl rfl (Nat.le_of_ble_eq_true rfl) rfl rfl rfl rfl (c_trim hr hL (by rw [List.length_set]; exact hS)) (Nat.le_of_ble_eq_true rfl) (by omega) rfl (by omega) (Nat.le_of_ble_eq_true rfl) (fun v h1 e => ?_)
    obtain ⟨rfl, x, rfl, -⟩ := e
    exact go_vret ((ob_179.1 321).trans rfl) rfl (hq _ _ hL (by rw [List.length_set, List.length_set]; exact hS))
  | succ d ih =>
    intro k L hk hL
    refine blk_go ob_179 (fun pc => Nat.beq pc 263) 60 ?_
    (conv => whnf); refine br_f (nI_ge (a := k) (b := 100) (by omega) (by omega)) ?_
    (conv => whnf); refine br_t (show 0 ≤ nI k from nI_pos' (by omega)) ?_
    (conv => whnf); refine ⟨k, rfl, by omega, by omega, ?_⟩
    (conv => whnf); refine ⟨100 * r + k, k100 r k, by omega, by omega, ?_⟩
    show gX fb lb 179 263 [(7, .int (nI k + Int32.ofInt 1)), (6, .int x6), (5, .int x5), (4, .int s0), (0, .ref 0), (1, .int (nI r)), (2, .int x2), (3, .int x3)] [] (mH fa 0 kn dg rc pr co we si ex le tx (L.set (100 * r + k) (C.getD k 0)) S C) 0 0 Q
    rw [n_inc]
    exact ih (k + 1) _ (by omega) (by rw [List.length_set]; exact hL)
set_option maxRecDepth 100000 in
set_option maxHeartbeats 4000000 in
/-- the rest is doubled, from 136 on -/
theorem over_in {fb lb : Nat} {s0 x1 x2 x3 x5 x6 x7 : Int32} {Q : yR → Prop} (hq : ∀ L' : List Int64, L'.length = 6000 → gX fb lb 179 194 [(7, .int x7), (6, .int x6), (5, .int x5), (4, .int s0), (0, .ref 0), (1, .int x1), (2, .int x2), (3, .int x3)] [] (mH fa 0 kn dg rc pr co we si ex le tx L' S C) 0 0 Q) :
    ∀ (d k : Nat) (cy : Int64) (L : List Int64), k + d = 100 → L.length = 6000 → gX fb lb 179 136 [(10, .int (nI k)), (8, .long cy), (7, .int x7), (6, .int x6), (5, .int x5), (4, .int s0), (0, .ref 0), (1, .int x1), (2, .int x2), (3, .int x3)] [] (mH fa 0 kn dg rc pr co we si ex le tx L S C) 0 0 Q := by
  intro d
  induction d with
  | zero =>
    intro k cy L hk hL
    have hk : k = 100 := by omega
    subst hk
    refine blk_go ob_179 (fun pc => Nat.beq pc 136 || Nat.beq pc 194) 40 ?_
    (conv => whnf); refine br_t (show nI 100 ≤ nI 100 by decide) ?_
    refine go_few [(7, .int x7), (6, .int x6), (5, .int x5), (4, .int s0), (0, .ref 0), (1, .int x1), (2, .int x2), (3, .int x3)] ((ob_179.1 194).trans rfl) (by simp <;> rfl) ?_
    exact hq L hL
  | succ d ih =>
    intro k cy L hk hL
    have e1 : nI 5100 + nI k = nI (5100 + k) := nI_add _ _
    refine blk_go ob_179 (fun pc => Nat.beq pc 136 || Nat.beq pc 194) 60 ?_
    (conv => whnf); refine br_f (nI_ge (a := k) (b := 100) (by omega) (by omega)) ?_
    (conv => whnf); refine ⟨5100 + k, e1, by omega, by omega, ?_⟩
    (conv => whnf); refine ⟨show ¬ (268435456 : Int64) = 0 by decide, ?_⟩
    (conv => whnf); refine ⟨show ¬ (268435456 : Int64) = 0 by decide, ?_⟩
    (conv => whnf); refine ⟨5100 + k, e1, by omega, by omega, ?_⟩
    refine go_few [(10, .int (nI k + Int32.ofInt 1)), (8, .long ((2 * L.getD (5100 + k) 0 + cy) / 268435456)), (7, .int x7), (6, .int x6), (5, .int x5), (4, .int s0), (0, .ref 0), (1, .int x1), (2, .int x2), (3, .int x3)] ((ob_179.1 136).trans rfl) (by simp <;> rfl) ?_
    rw [n_inc]
    exact ih (k + 1) _ _ (by omega) (by rw [List.length_set]; exact hL)
set_option maxRecDepth 100000 in
set_option maxHeartbeats 4000000 in
/-- bit by bit, from 93 on -/
theorem over_main {fb lb r a b : Nat} {s0 x6 : Int32} (hf : 2 ≤ fb) (hl : 43 ≤ lb) (hr : r < 60) (ha : a < 60) (hb : b < 60) (hS : S.length = 60) {Q : yR → Prop} (hq : ∀ L' C' x7, L'.length = 6000 → C'.length = 200 → gX fb lb 179 260 [(7, .int x7), (6, .int x6), (5, .int (nI 2240)), (4, .int s0), (0, .ref 0), (1, .int (nI r)), (2, .int (nI a)), (3, .int (nI b))] [] (mH fa 0 kn dg rc pr co we si ex le tx L' S C') 0 0 Q) :
    ∀ (m : Nat) (L C : List Int64), m ≤ 5040 → L.length = 6000 → C.length = 200 → gX fb lb 179 93 [(7, .int (nI m - nI 1)), (6, .int x6), (5, .int (nI 2240)), (4, .int s0), (0, .ref 0), (1, .int (nI r)), (2, .int (nI a)), (3, .int (nI b))] [] (mH fa 0 kn dg rc pr co we si ex le tx L S C) 0 0 Q := by
  intro m
  induction m with
  | zero =>
    intro L C _ hL hC
    refine blk_go ob_179 (fun pc => Nat.beq pc 93 || Nat.beq pc 260) 30 ?_
    (conv => whnf); refine br_t (show nI 0 - nI 1 < 0 by decide) ?_
    exact hq L C _ hL hC
  | succ m ih =>
    intro L C hm hL hC
    rw [show nI (m + 1) - nI 1 = nI m from nI_pred m]
    have go : ∀ (L C : List Int64) (lv : xL), L.length = 6000 → C.length = 200 → (∀ q ∈ ([(7, .int (nI m + Int32.ofInt (-1))), (6, .int x6), (5, .int (nI 2240)), (4, .int s0), (0, .ref 0), (1, .int (nI r)), (2, .int (nI a)), (3, .int (nI b))] : xL), q ∈ lv) → gX fb lb 179 93 lv [] (mH fa 0 kn dg rc pr co we si ex le tx L S C) 0 0 Q := by
      intro L C lv hL hC hlv
      refine go_few [(7, .int (nI m + Int32.ofInt (-1))), (6, .int x6), (5, .int (nI 2240)), (4, .int s0), (0, .ref 0), (1, .int (nI r)), (2, .int (nI a)), (3, .int (nI b))] ((ob_179.1 93).trans rfl) hlv ?_
      rw [show nI m + Int32.ofInt (-1) = nI m - nI 1 from (Int32.sub_eq_add_neg (nI m) (nI 1)).symm]
      exact ih L C (by omega) hL hC
    have fin : ∀ cy : Int64, gX fb lb 179 128 [(7, .int (nI m)), (6, .int x6), (5, .int (nI 2240)), (4, .int s0), (0, .ref 0), (1, .int (nI r)), (2, .int (nI a)), (3, .int (nI b))] [.long cy] (mH fa 0 kn dg rc pr co we si ex le tx L S C) 0 0 Q := by
      intro cy
      refine blk_go ob_179 (fun pc => Nat.beq pc 136) 30 ?_
      refine over_in (fun L' h1 => ?_) 100 0 cy L (by omega) hL
      refine blk_go ob_179 (fun _ => false) 30 ?_
      refine vM (idx := 69) (mj := 170) (q := 2) (n := 6) [.ref 0, .int (nI 51), .int (nI b)] ((ob_179.1 198).trans rfl) rfl rfl (Nat.le_of_ble_eq_true rfl) rfl rfl rfl rfl (c_against (by omega) hb h1) (Nat.le_of_ble_eq_true rfl) (by omega) rfl (by omega) (Nat.le_of_ble_eq_true rfl) (fun v h1 e => ?_)
      obtain ⟨rfl, x, rfl⟩ := e
      refine blk_go ob_179 (fun pc => Nat.beq pc 93) 30 ?_
      (conv => whnf); refine ⟨fun c1 => ?_, fun c1 => ?_⟩
      · exact go _ _ _ h1 hC (by simp)
      · refine vM (idx := 75) (mj := 169) (q := 4) (n := 10) [.ref 0, .int (nI 51), .int (nI 51), .int (nI b), .int (-nI 1)] ((ob_179.1 211).trans rfl) rfl rfl (Nat.le_of_ble_eq_true rfl) rfl rfl rfl rfl (c_join (r := 51) (a := 51) (by omega) (by omega) hb h1) (Nat.le_of_ble_eq_true rfl) (by omega) rfl (by omega) (Nat.le_of_ble_eq_true rfl) (fun v h1 e => ?_)
        obtain ⟨rfl, L2, rfl, h2, -⟩ := e
        have ei : (0 * nI 28 + nI m) / nI 28 = nI (m / 28) := by rw [Int32.zero_mul, Int32.zero_add, pk_div (by omega) (by decide) (by decide)]
        refine blk_go ob_179 (fun pc => Nat.beq pc 93) 60 ?_
        (conv => whnf); refine ⟨show ¬ nI 28 = 0 by decide, ?_⟩
        (conv => whnf); refine ⟨show ¬ nI 28 = 0 by decide, ?_⟩
        (conv => whnf); refine ⟨m / 28, ei, by omega, by omega, ?_⟩
        (conv => whnf); refine ⟨show ¬ nI 28 = 0 by decide, ?_⟩
        (conv => whnf); refine ⟨m / 28, ei, by omega, by omega, ?_⟩
        exact go _ _ _ h2 (by rw [List.length_set]; exact hC) (by simp)
    refine blk_go ob_179 (fun pc => Nat.beq pc 93 || Nat.beq pc 128 || Nat.beq pc 260) 40 ?_
    (conv => whnf); refine br_f (show ¬ nI m < 0 from nI_pos (by omega)) ?_
    (conv => whnf); refine ⟨fun c1 => ?_, fun c1 => ?_⟩
    · exact fin _
    · refine vM (idx := 83) (mj := 180) (q := 2) (n := 3) [.ref 0, .int (nI a), .int (0 * nI 28 + nI m - nI 2240)] ((ob_179.1 120).trans rfl) rfl rfl (Nat.le_of_ble_eq_true rfl) rfl rfl rfl rfl (c_bitOf ha hL) (Nat.le_of_ble_eq_true rfl) (by omega) rfl (by omega) (Nat.le_of_ble_eq_true rfl) (fun v h1 e => ?_)
      obtain ⟨rfl, x, rfl⟩ := e
      refine blk_go ob_179 (fun pc => Nat.beq pc 128) 30 ?_
      exact fin _
set_option maxRecDepth 100000 in
set_option maxHeartbeats 4000000 in
theorem over_col {fb lb : Nat} {s0 x1 x2 x3 x5 x6 : Int32} {Q : yR → Prop} (hq : ∀ C' : List Int64, C'.length = 200 → gX fb lb 179 81 [(7, .int (nI 200)), (6, .int x6), (5, .int x5), (4, .int s0), (0, .ref 0), (1, .int x1), (2, .int x2), (3, .int x3)] [] (mH fa 0 kn dg rc pr co we si ex le tx L S C') 0 0 Q) :
    ∀ (d k : Nat) (C : List Int64), k + d = 200 → C.length = 200 → gX fb lb 179 59 [(7, .int (nI k)), (6, .int x6), (5, .int x5), (4, .int s0), (0, .ref 0), (1, .int x1), (2, .int x2), (3, .int x3)] [] (mH fa 0 kn dg rc pr co we si ex le tx L S C) 0 0 Q := by
  intro d
  induction d with
  | zero =>
    intro k C hk hC
    have hk : k = 200 := by omega
    subst hk
    refine blk_go ob_179 (fun pc => Nat.beq pc 59 || Nat.beq pc 81) 40 ?_
    (conv => whnf); refine br_t (show nI 200 ≤ nI 200 by decide) ?_
    exact hq C hC
  | succ d ih =>
    intro k C hk hC
    refine blk_go ob_179 (fun pc => Nat.beq pc 59 || Nat.beq pc 81) 60 ?_
    (conv => whnf); refine br_f (nI_ge (a := k) (b := 200) (by omega) (by omega)) ?_
    (conv => whnf); refine ⟨k, rfl, by omega, by omega, ?_⟩
    show gX fb lb 179 59 [(7, .int (nI k + Int32.ofInt 1)), (6, .int x6), (5, .int x5), (4, .int s0), (0, .ref 0), (1, .int x1), (2, .int x2), (3, .int x3)] [] (mH fa 0 kn dg rc pr co we si ex le tx L S (C.set k (lN 0))) 0 0 Q
    rw [n_inc]
    exact ih (k + 1) _ (by omega) (by rw [List.length_set]; exact hC)
set_option maxRecDepth 100000 in
set_option maxHeartbeats 4000000 in
theorem c_over {r a b : Nat} (hr : r < 60) (ha : a < 60) (hb : b < 60) (hL : L.length = 6000) (hS : S.length = 60) (hC : C.length = 200) : cR 179 2 43 [.ref 0, .int (nI r), .int (nI a), .int (nI b)] (mH fa 0 kn dg rc pr co we si ex le tx L S C) (fun v h => v = none ∧ ∃ L' S' C', h = mH fa 0 kn dg rc pr co we si ex le tx L' S' C' ∧ L'.length = 6000 ∧ S'.length = 60) := by
  intro fb lb hf hl
  have e5 : (nI 80 - 0) * nI 28 = nI 2240 := by decide
  have fin : ∀ (s0 : Int32) (n : Nat), n ≤ 5040 → gX fb lb 179 54 [(5, .int (nI 2240)), (4, .int s0), (0, .ref 0), (1, .int (nI r)), (2, .int (nI a)), (3, .int (nI b))] [.int (nI n)] (mH fa 0 kn dg rc pr co we si ex le tx L S C) 0 0 (fun r_1 => ∃ v h1, r_1 = (.inl v, h1, 0, 0) ∧ (fun v h => v = none ∧ ∃ L' S' C', h = mH fa 0 kn dg rc pr co we si ex le tx L' S' C' ∧ L'.length = 6000 ∧ S'.length = 60) v h1) := by
    intro s0 n hn
    refine blk_go ob_179 (fun pc => Nat.beq pc 59) 30 ?_
    refine over_col (fun C1 h1 => ?_) 200 0 C (by omega) hC
    refine blk_go ob_179 (fun _ => false) 30 ?_
    refine vM (idx := 53) (mj := 164) (q := 1) (n := 3) [.ref 0, .int (nI 51)] ((ob_179.1 84).trans rfl) rfl rfl (Nat.le_of_ble_eq_true rfl) rfl rfl rfl rfl (c_zero (r := 51) (by omega) hL hS) (Nat.le_of_ble_eq_true rfl) (by omega) rfl (by omega) (Nat.le_of_ble_eq_true rfl) (fun v h1 e => ?_)
    obtain ⟨rfl, L1, rfl, h2, -⟩ := e
    refine blk_go ob_179 (fun pc => Nat.beq pc 93) 30 ?_
    refine over_main hf hl hr ha hb (by rw [List.length_set]; exact hS) (fun L2 C2 x7 h3 h4 => ?_) n L1 C1 hn h2 h1
    refine blk_go ob_179 (fun pc => Nat.beq pc 263) 30 ?_
    exact over_c hf hl hr h4 (by rw [List.length_set]; exact hS) (x7 := nI 0) (fun L' S' k1 k2 => ⟨none, _, rfl, rfl, L', S', C2, rfl, k1, k2⟩) 100 0 L2 (by omega) h3
  refine blk_go ob_179 (fun pc => Nat.beq pc 54) 60 ?_
  (conv => whnf); refine ⟨a, rfl, by omega, by omega, ?_⟩
  (conv => whnf); refine ⟨b, rfl, by omega, by omega, ?_⟩
  (conv => whnf); refine ⟨fun c1 => ?_, fun c1 => ?_⟩
  · refine vM (idx := 65) (mj := 162) (q := 1) (n := 3) [.ref 0, .int (nI a)] ((ob_179.1 38).trans rfl) rfl rfl (Nat.le_of_ble_eq_true rfl) rfl rfl rfl rfl (c_top ha hL) (Nat.le_of_ble_eq_true rfl) (by omega) rfl (by omega) (Nat.le_of_ble_eq_true rfl) (fun v h1 e => ?_)
    obtain ⟨rfl, x, rfl, hx⟩ := e
    refine blk_go ob_179 (fun pc => Nat.beq pc 54) 30 ?_
    show gX fb lb 179 54 [(5, .int ((nI 80 - 0) * nI 28)), (4, .int (S.getD a 0 * S.getD b 0)), (0, .ref 0), (1, .int (nI r)), (2, .int (nI a)), (3, .int (nI b))] [.int ((x - 0 + nI 1) * nI 28 + (nI 80 - 0) * nI 28)] (mH fa 0 kn dg rc pr co we si ex le tx L S C) 0 0 _
    rw [e5]
    rcases hx with ⟨rfl, -⟩ | ⟨k, h1, rfl, -⟩
    · rw [show (-nI 1 - 0 + nI 1) * nI 28 + nI 2240 = nI 2240 by decide]
      exact fin _ 2240 (by omega)
    · rw [Int32.sub_zero, nI_add, pk_mul, nI_add]
      exact fin _ _ (by omega)
  · show gX fb lb 179 54 [(5, .int ((nI 80 - 0) * nI 28)), (4, .int (S.getD a 0 * S.getD b 0)), (0, .ref 0), (1, .int (nI r)), (2, .int (nI a)), (3, .int (nI b))] [.int (nI 0)] (mH fa 0 kn dg rc pr co we si ex le tx L S C) 0 0 _
    rw [e5]
    exact fin _ 0 (by omega)
end MDL
