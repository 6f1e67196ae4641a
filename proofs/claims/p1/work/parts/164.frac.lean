/-! fraction of the fresh reference -/
theorem C00_l : C00.length = 200 := List.length_replicate
theorem neg_l {n : Nat} (h : n < 2 ^ 30) : (-nI n).toInt64 = -lN n := by
  apply Int64.toInt.inj
  rw [Int32.toInt_toInt64, show (-lN n).toInt = -(n : Int) from Int64.toInt_neg_ofNat_of_le (by omega)]
  exact sb_negT (by omega)
/-- a number of the allowed ones, whole -/
theorem pq_of {p : Int32} (h1 : ¬ p < -1000000) (h2 : ¬ 1000000 < p) : (∃ n, n ≤ 1000000 ∧ p = nI n) ∨ ∃ n, 0 < n ∧ n ≤ 1000000 ∧ p = -nI n := by
  by_cases h : p < 0
  · right
    have h1 : ¬ p.toInt < (-1000000 : Int32).toInt := fun z => h1 (Int32.lt_iff_toInt_lt.mpr z)
    have h : p.toInt < (0 : Int32).toInt := Int32.lt_iff_toInt_lt.mp h
    have e1 : (-1000000 : Int32).toInt = -1000000 := by decide
    have e2 : (0 : Int32).toInt = 0 := by decide
    rw [e1] at h1
    rw [e2] at h
    refine ⟨(-p.toInt).toNat, by omega, by omega, ?_⟩
    apply Int32.toInt.inj
    rw [sb_negT (by omega)]
    omega
  · left
    obtain ⟨j, hj, rfl⟩ := nI_of h
    have h2 : ¬ (1000000 : Int32).toInt < (nI j).toInt := fun z => h2 (Int32.lt_iff_toInt_lt.mpr z)
    have e1 : (1000000 : Int32).toInt = 1000000 := by decide
    rw [e1, nI_toInt hj] at h2
    exact ⟨j, by omega, rfl⟩
set_option maxRecDepth 100000 in
set_option maxHeartbeats 4000000 in
theorem c_wholeI {fa kn dg rc pr : Int32} {co we si ex : List Int32} {le : List Int64} {tx : List Int32} {L C : List Int64} {S : List Int32} {r : Nat} {p : Int32} (hr : r < 60) (h1 : ¬ p < -1000000) (h2 : ¬ 1000000 < p) (hL : L.length = 6000) (hS : S.length = 60) : cR 163 1 22 [.ref 0, .int (nI r), .long p.toInt64] (mH fa 0 kn dg rc pr co we si ex le tx L S C) (fun v h => v = none ∧ ∃ L' S', h = mH fa 0 kn dg rc pr co we si ex le tx L' S' C ∧ L'.length = 6000 ∧ S'.length = 60) := by
  rcases pq_of h1 h2 with ⟨n, hn, rfl⟩ | ⟨n, h0, hn, rfl⟩
  · rw [nI_l (by omega)]
    refine cR.weak (c_wholeP hr (by omega) hL hS) (fun v h z => ?_)
    obtain ⟨e1, L', x, e2, e3, -⟩ := z
    exact ⟨e1, L', _, e2, e3, by rw [List.length_set]; exact hS⟩
  · rw [neg_l (by omega)]
    refine cR.weak (c_wholeN hr (by omega) h0 hL hS) (fun v h z => ?_)
    obtain ⟨e1, L', x, e2, e3, -⟩ := z
    exact ⟨e1, L', _, e2, e3, by rw [List.length_set]; exact hS⟩
set_option maxRecDepth 100000 in
set_option maxHeartbeats 4000000 in
theorem frac_bad {fb lb : Nat} {x p q : Int32} {Q : yR → Prop} (hf : 1 ≤ fb) (hl : 25 ≤ lb) (hq : ∀ h, FA h (nI 1) → Q (.inl none, h, 0, 0)) : gX fb lb 197 35 [(0, .ref 0), (1, .int x), (2, .int p), (3, .int q)] [.int (nI 0)] (mH 0 0 0 0 0 0 [0, 0, 0, 0, 0, 0, 0] [1, 1, 1, 1, 1, 1, 1, 1] [20, 20, 20, 20, 20, 20, 20, 20] [2230, 2230, 2230, 2230, 2230, 2230, 2230, 2230] (List.replicate 49 0) (List.replicate 400 0) L00 S00 C00) 0 0 Q := by
  refine blk_go ob_197 (fun _ => false) 30 ?_
  (conv => whnf); refine br_t (show nI 0 = 0 by decide) ?_
  refine vM (idx := 178) (mj := 155) (q := 1) (n := 2) [.ref 0, .int (nI 1)] ((ob_197.1 48).trans rfl) rfl rfl (Nat.le_of_ble_eq_true rfl) rfl rfl rfl rfl (c_refused1) (Nat.le_of_ble_eq_true rfl) (by omega) rfl (by omega) (Nat.le_of_ble_eq_true rfl) (fun v h1 e => ?_)
  obtain ⟨rfl, rfl⟩ := e
  refine blk_go ob_197 (fun _ => false) 30 ?_
  (conv => whnf); refine br_f (show ¬ nI 1 = 0 by decide) ?_
  exact go_vret ((ob_197.1 54).trans rfl) rfl (hq _ FA.mH)
set_option maxRecDepth 100000 in
set_option maxHeartbeats 4000000 in
theorem m_fraction (x p q : Int32) : cR 197 4 100 [.ref 0, .int x, .int p, .int q] (mH 0 0 0 0 0 0 [0, 0, 0, 0, 0, 0, 0] [1, 1, 1, 1, 1, 1, 1, 1] [20, 20, 20, 20, 20, 20, 20, 20] [2230, 2230, 2230, 2230, 2230, 2230, 2230, 2230] (List.replicate 49 0) (List.replicate 400 0) L00 S00 C00) (fun v h => (sl x ∧ ¬ p < -1000000 ∧ ¬ 1000000 < p ∧ ¬ q < nI 1 ∧ ¬ 1000000 < q → v = none ∧ FA h (nI 0)) ∧ (¬ (sl x ∧ ¬ p < -1000000 ∧ ¬ 1000000 < p ∧ ¬ q < nI 1 ∧ ¬ 1000000 < q) → FA h (nI 1))) := by
  intro fb lb hf hl
  refine blk_go ob_197 (fun _ => false) 30 ?_
  by_cases hx : sl x
  · refine vS (idx := 194) (mj := 186) (q := 1) (n := 1) [.int x] ((ob_197.1 1).trans rfl) rfl (Nat.le_of_ble_eq_true rfl) rfl rfl (c_isSlotT hx) (Nat.le_of_ble_eq_true rfl) (by omega) rfl (by omega) (Nat.le_of_ble_eq_true rfl) (fun v h1 e => ?_)
    obtain ⟨rfl, rfl⟩ := e
    refine blk_go ob_197 (fun pc => Nat.beq pc 35) 40 ?_
    (conv => whnf); refine br_f (show ¬ nI 1 = 0 by decide) ?_
    (conv => whnf); refine ⟨fun c1 => ?_, fun c1 => ?_⟩
    · exact frac_bad (by omega) (by omega) (fun h hF => ⟨_, _, rfl, fun z => absurd c1 z.2.1, fun _ => hF⟩)
    · (conv => whnf); refine ⟨fun c2 => ?_, fun c2 => ?_⟩
      · exact frac_bad (by omega) (by omega) (fun h hF => ⟨_, _, rfl, fun z => absurd c2 z.2.2.1, fun _ => hF⟩)
      · (conv => whnf); refine ⟨fun c3 => ?_, fun c3 => ?_⟩
        · exact frac_bad (by omega) (by omega) (fun h hF => ⟨_, _, rfl, fun z => absurd c3 z.2.2.2.1, fun _ => hF⟩)
        · (conv => whnf); refine ⟨fun c4 => ?_, fun c4 => ?_⟩
          · exact frac_bad (by omega) (by omega) (fun h hF => ⟨_, _, rfl, fun z => absurd c4 z.2.2.2.2, fun _ => hF⟩)
          · refine blk_go ob_197 (fun _ => false) 30 ?_
            (conv => whnf); refine br_f (show ¬ nI 1 = 0 by decide) ?_
            refine vM (idx := 178) (mj := 155) (q := 1) (n := 2) [.ref 0, .int (nI 0)] ((ob_197.1 48).trans rfl) rfl rfl (Nat.le_of_ble_eq_true rfl) rfl rfl rfl rfl (c_refused0) (Nat.le_of_ble_eq_true rfl) (by omega) rfl (by omega) (Nat.le_of_ble_eq_true rfl) (fun v h1 e => ?_)
            obtain ⟨rfl, rfl⟩ := e
            refine blk_go ob_197 (fun _ => false) 30 ?_
            (conv => whnf); refine br_t (show nI 0 = 0 by decide) ?_
            obtain ⟨t, ht, rfl⟩ := id hx
            refine vM (idx := 110) (mj := 163) (q := 2) (n := 7) [.ref 0, .int (nI 40), .long p.toInt64] ((ob_197.1 60).trans rfl) rfl rfl (Nat.le_of_ble_eq_true rfl) rfl rfl rfl rfl (c_wholeI (r := 40) (by omega) c1 c2 L00_l S00_l) (Nat.le_of_ble_eq_true rfl) (by omega) rfl (by omega) (Nat.le_of_ble_eq_true rfl) (fun v h1 e => ?_)
            obtain ⟨rfl, L1, S1, rfl, a1, a2⟩ := e
            refine blk_go ob_197 (fun _ => false) 30 ?_
            refine vM (idx := 110) (mj := 163) (q := 2) (n := 7) [.ref 0, .int (nI 41), .long q.toInt64] ((ob_197.1 68).trans rfl) rfl rfl (Nat.le_of_ble_eq_true rfl) rfl rfl rfl rfl (c_wholeI (r := 41) (by omega) (fun z => c3 (Int32.lt_trans z (show (-1000000 : Int32) < nI 1 by decide))) c4 a1 a2) (Nat.le_of_ble_eq_true rfl) (by omega) rfl (by omega) (Nat.le_of_ble_eq_true rfl) (fun v h1 e => ?_)
            obtain ⟨rfl, L2, S2, rfl, b1, b2⟩ := e
            refine blk_go ob_197 (fun _ => false) 30 ?_
            refine vM (idx := 132) (mj := 179) (q := 3) (n := 13) [.ref 0, .int (nI 53), .int (nI 40), .int (nI 41)] ((ob_197.1 78).trans rfl) rfl rfl (Nat.le_of_ble_eq_true rfl) rfl rfl rfl rfl (c_over (r := 53) (a := 40) (b := 41) (by omega) (by omega) (by omega) b1 b2 C00_l) (Nat.le_of_ble_eq_true rfl) (by omega) rfl (by omega) (Nat.le_of_ble_eq_true rfl) (fun v h1 e => ?_)
            obtain ⟨rfl, L3, S3, C3, rfl, d1, d2⟩ := e
            refine blk_go ob_197 (fun _ => false) 30 ?_
            refine vM (idx := 200) (mj := 195) (q := 2) (n := 3) [.ref 0, .int (nI 53), .int (nI 2235)] ((ob_197.1 94).trans rfl) rfl rfl (Nat.le_of_ble_eq_true rfl) rfl rfl rfl rfl (c_exactOf (by omega) d1) (Nat.le_of_ble_eq_true rfl) (by omega) rfl (by omega) (Nat.le_of_ble_eq_true rfl) (fun v h1 e => ?_)
            obtain ⟨rfl, u, rfl⟩ := e
            refine vM (idx := 203) (mj := 196) (q := 5) (n := 6) [.ref 0, .int (nI t), .int (nI 53), .int (nI 1), .int (nI 20), .int u] ((ob_197.1 97).trans rfl) rfl rfl (Nat.le_of_ble_eq_true rfl) rfl rfl rfl rfl (c_tell ht (by omega) d1 d2 ⟨rfl, rfl, rfl⟩) (Nat.le_of_ble_eq_true rfl) (by omega) rfl (by omega) (Nat.le_of_ble_eq_true rfl) (fun v h1 e => ?_)
            obtain ⟨rfl, L4, x4, u4, rfl, f1⟩ := e
            exact go_vret ((ob_197.1 100).trans rfl) rfl ⟨_, _, rfl, fun _ => ⟨rfl, FA.mH⟩, fun z => absurd ⟨hx, c1, c2, c3, c4⟩ z⟩
  · refine vS (idx := 194) (mj := 186) (q := 1) (n := 1) [.int x] ((ob_197.1 1).trans rfl) rfl (Nat.le_of_ble_eq_true rfl) rfl rfl (c_isSlotF hx) (Nat.le_of_ble_eq_true rfl) (by omega) rfl (by omega) (Nat.le_of_ble_eq_true rfl) (fun v h1 e => ?_)
    obtain ⟨rfl, rfl⟩ := e
    refine blk_go ob_197 (fun pc => Nat.beq pc 35) 30 ?_
    (conv => whnf); refine br_t (show nI 0 = 0 by decide) ?_
    exact frac_bad (by omega) (by omega) (fun h hF => ⟨_, _, rfl, fun z => absurd z.1 hx, fun _ => hF⟩)
