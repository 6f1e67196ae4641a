/-! root, print of the fresh reference -/
set_option maxRecDepth 100000 in
set_option maxHeartbeats 4000000 in
theorem root_bad {fb lb : Nat} {x y k : Int32} {Q : yR → Prop} (hf : 1 ≤ fb) (hl : 25 ≤ lb) (hq : ∀ h, FA h (nI 1) → Q (.inl (some (.int (nI 0))), h, 0, 0)) : gX fb lb 212 29 [(0, .ref 0), (1, .int x), (2, .int y), (3, .int k)] [.int (nI 0)] (mH 0 0 0 0 0 0 [0, 0, 0, 0, 0, 0, 0] [1, 1, 1, 1, 1, 1, 1, 1] [20, 20, 20, 20, 20, 20, 20, 20] [2230, 2230, 2230, 2230, 2230, 2230, 2230, 2230] (List.replicate 49 0) (List.replicate 400 0) L00 S00 C00) 0 0 Q := by
  refine blk_go ob_212 (fun _ => false) 30 ?_
  (conv => whnf); refine br_f (show ¬ ¬ nI 0 = 0 by decide) ?_
  refine vM (idx := 178) (mj := 155) (q := 1) (n := 2) [.ref 0, .int (nI 1)] ((ob_212.1 60).trans rfl) rfl rfl (Nat.le_of_ble_eq_true rfl) rfl rfl rfl rfl (c_refused1) (Nat.le_of_ble_eq_true rfl) (by omega) rfl (by omega) (Nat.le_of_ble_eq_true rfl) (fun v h1 e => ?_)
  obtain ⟨rfl, rfl⟩ := e
  refine blk_go ob_212 (fun _ => false) 30 ?_
  (conv => whnf); refine br_t (show ¬ nI 1 = 0 by decide) ?_
  exact go_iret ((ob_212.1 80).trans rfl) rfl rfl (hq _ FA.mH)
set_option maxRecDepth 100000 in
set_option maxHeartbeats 4000000 in
theorem root_ok2 {fb lb t a : Nat} {Q : yR → Prop} (hf : 4 ≤ fb) (hl : 100 ≤ lb) (ht : t < 8) (ha : a < 8) (hq : ∀ h, FA h (nI 0) → Q (.inl (some (.int (nI 1))), h, 0, 0)) : gX fb lb 212 29 [(0, .ref 0), (1, .int (nI t)), (2, .int (nI a)), (3, .int (nI 2))] [.int (nI 1)] (mH 0 0 0 0 0 0 [0, 0, 0, 0, 0, 0, 0] [1, 1, 1, 1, 1, 1, 1, 1] [20, 20, 20, 20, 20, 20, 20, 20] [2230, 2230, 2230, 2230, 2230, 2230, 2230, 2230] (List.replicate 49 0) (List.replicate 400 0) L00 S00 C00) 0 0 Q := by
  refine blk_go ob_212 (fun _ => false) 30 ?_
  (conv => whnf); refine br_t (show ¬ nI 1 = 0 by decide) ?_
  (conv => whnf); refine br_f (show ¬ ¬ nI 2 = nI 2 by decide) ?_
  (conv => whnf); refine ⟨a, rfl, (by rw [S00_l]; omega), (by rw [S00_l]; decide), ?_⟩
  (conv => whnf); refine br_t (show 0 ≤ S00.getD a 0 by rw [S00_at]; decide) ?_
  refine vM (idx := 178) (mj := 155) (q := 1) (n := 2) [.ref 0, .int (nI 0)] ((ob_212.1 60).trans rfl) rfl rfl (Nat.le_of_ble_eq_true rfl) rfl rfl rfl rfl (c_refused0) (Nat.le_of_ble_eq_true rfl) (by omega) rfl (by omega) (Nat.le_of_ble_eq_true rfl) (fun v h1 e => ?_)
  obtain ⟨rfl, rfl⟩ := e
  refine blk_go ob_212 (fun _ => false) 40 ?_
  (conv => whnf); refine br_f (show ¬ ¬ nI 0 = 0 by decide) ?_
  (conv => whnf); refine ⟨a, rfl, by simpa using ha, by decide, ?_⟩
  (conv => whnf); refine br_t (show nI 2 * [1, 1, 1, 1, 1, 1, 1, 1].getD a 0 ≤ nI 6 by rw [w0_at ha]; decide) ?_
  (conv => whnf); refine ⟨a, rfl, (by rw [S00_l]; omega), (by rw [S00_l]; decide), ?_⟩
  refine vM (idx := 53) (mj := 164) (q := 1) (n := 3) [.ref 0, .int (nI 53)] ((ob_212.1 92).trans rfl) rfl rfl (Nat.le_of_ble_eq_true rfl) rfl rfl rfl rfl (c_zero (by omega) L00_l S00_l) (Nat.le_of_ble_eq_true rfl) (by omega) rfl (by omega) (Nat.le_of_ble_eq_true rfl) (fun v h1 e => ?_)
  obtain ⟨rfl, L1, rfl, h1, -⟩ := e
  refine blk_go ob_212 (fun _ => false) 40 ?_
  (conv => whnf); refine br_t (show S00.getD a 0 = 0 by rw [S00_at]; decide) ?_
  (conv => whnf); refine ⟨a, rfl, by simpa using ha, by decide, ?_⟩
  refine vM (idx := 120) (mj := 171) (q := 1) (n := 4) [.ref 0, .int (nI 53)] ((ob_212.1 119).trans rfl) rfl rfl (Nat.le_of_ble_eq_true rfl) rfl rfl rfl rfl (c_height (by omega) h1) (Nat.le_of_ble_eq_true rfl) (by omega) rfl (by omega) (Nat.le_of_ble_eq_true rfl) (fun v h1 e => ?_)
  obtain ⟨rfl, u, rfl, -⟩ := e
  refine blk_go ob_212 (fun _ => false) 40 ?_
  refine vM (idx := 191) (mj := 192) (q := 2) (n := 3) [.ref 0, .int ([2230, 2230, 2230, 2230, 2230, 2230, 2230, 2230].getD a 0), .int (nI 1800 + u)] ((ob_212.1 123).trans rfl) rfl rfl (Nat.le_of_ble_eq_true rfl) rfl rfl rfl rfl (c_lesser) (Nat.le_of_ble_eq_true rfl) (by omega) rfl (by omega) (Nat.le_of_ble_eq_true rfl) (fun v h1 e => ?_)
  obtain ⟨rfl, u2, rfl⟩ := e
  refine blk_go ob_212 (fun _ => false) 40 ?_
  (conv => whnf); refine ⟨a, rfl, by simpa using ha, by decide, ?_⟩
  (conv => whnf); refine ⟨a, rfl, by simpa using ha, by decide, ?_⟩
  refine vM (idx := 203) (mj := 196) (q := 5) (n := 6) [.ref 0, .int (nI t), .int (nI 53), .int (nI 2 * [1, 1, 1, 1, 1, 1, 1, 1].getD a 0), .int ([20, 20, 20, 20, 20, 20, 20, 20].getD a 0), .int (u2 - nI 3)] ((ob_212.1 150).trans rfl) rfl rfl (Nat.le_of_ble_eq_true rfl) rfl rfl rfl rfl (c_tell ht (by omega) h1 (by rw [List.length_set]; exact S00_l) ⟨rfl, rfl, rfl⟩) (Nat.le_of_ble_eq_true rfl) (by omega) rfl (by omega) (Nat.le_of_ble_eq_true rfl) (fun v h1 e => ?_)
  obtain ⟨rfl, L2, x2, u3, rfl, h2⟩ := e
  refine blk_go ob_212 (fun _ => false) 40 ?_
  (conv => whnf); refine ⟨t, rfl, (by rw [List.length_set, List.length_set, S00_l]; omega), (by rw [List.length_set, List.length_set, S00_l]; decide), ?_⟩
  exact go_iret ((ob_212.1 162).trans rfl) rfl rfl (hq _ FA.mH)
set_option maxRecDepth 100000 in
set_option maxHeartbeats 4000000 in
theorem root_ok3 {fb lb t a : Nat} {Q : yR → Prop} (hf : 4 ≤ fb) (hl : 100 ≤ lb) (ht : t < 8) (ha : a < 8) (hq : ∀ h, FA h (nI 0) → Q (.inl (some (.int (nI 1))), h, 0, 0)) : gX fb lb 212 29 [(0, .ref 0), (1, .int (nI t)), (2, .int (nI a)), (3, .int (nI 3))] [.int (nI 1)] (mH 0 0 0 0 0 0 [0, 0, 0, 0, 0, 0, 0] [1, 1, 1, 1, 1, 1, 1, 1] [20, 20, 20, 20, 20, 20, 20, 20] [2230, 2230, 2230, 2230, 2230, 2230, 2230, 2230] (List.replicate 49 0) (List.replicate 400 0) L00 S00 C00) 0 0 Q := by
  refine blk_go ob_212 (fun _ => false) 30 ?_
  (conv => whnf); refine br_t (show ¬ nI 1 = 0 by decide) ?_
  (conv => whnf); refine br_t (show ¬ nI 3 = nI 2 by decide) ?_
  refine vM (idx := 178) (mj := 155) (q := 1) (n := 2) [.ref 0, .int (nI 0)] ((ob_212.1 60).trans rfl) rfl rfl (Nat.le_of_ble_eq_true rfl) rfl rfl rfl rfl (c_refused0) (Nat.le_of_ble_eq_true rfl) (by omega) rfl (by omega) (Nat.le_of_ble_eq_true rfl) (fun v h1 e => ?_)
  obtain ⟨rfl, rfl⟩ := e
  refine blk_go ob_212 (fun _ => false) 40 ?_
  (conv => whnf); refine br_f (show ¬ ¬ nI 0 = 0 by decide) ?_
  (conv => whnf); refine ⟨a, rfl, by simpa using ha, by decide, ?_⟩
  (conv => whnf); refine br_t (show nI 3 * [1, 1, 1, 1, 1, 1, 1, 1].getD a 0 ≤ nI 6 by rw [w0_at ha]; decide) ?_
  (conv => whnf); refine ⟨a, rfl, (by rw [S00_l]; omega), (by rw [S00_l]; decide), ?_⟩
  refine vM (idx := 53) (mj := 164) (q := 1) (n := 3) [.ref 0, .int (nI 53)] ((ob_212.1 92).trans rfl) rfl rfl (Nat.le_of_ble_eq_true rfl) rfl rfl rfl rfl (c_zero (by omega) L00_l S00_l) (Nat.le_of_ble_eq_true rfl) (by omega) rfl (by omega) (Nat.le_of_ble_eq_true rfl) (fun v h1 e => ?_)
  obtain ⟨rfl, L1, rfl, h1, -⟩ := e
  refine blk_go ob_212 (fun _ => false) 40 ?_
  (conv => whnf); refine br_t (show S00.getD a 0 = 0 by rw [S00_at]; decide) ?_
  (conv => whnf); refine ⟨a, rfl, by simpa using ha, by decide, ?_⟩
  refine vM (idx := 120) (mj := 171) (q := 1) (n := 4) [.ref 0, .int (nI 53)] ((ob_212.1 119).trans rfl) rfl rfl (Nat.le_of_ble_eq_true rfl) rfl rfl rfl rfl (c_height (by omega) h1) (Nat.le_of_ble_eq_true rfl) (by omega) rfl (by omega) (Nat.le_of_ble_eq_true rfl) (fun v h1 e => ?_)
  obtain ⟨rfl, u, rfl, -⟩ := e
  refine blk_go ob_212 (fun _ => false) 40 ?_
  refine vM (idx := 191) (mj := 192) (q := 2) (n := 3) [.ref 0, .int ([2230, 2230, 2230, 2230, 2230, 2230, 2230, 2230].getD a 0), .int (nI 1800 + u)] ((ob_212.1 123).trans rfl) rfl rfl (Nat.le_of_ble_eq_true rfl) rfl rfl rfl rfl (c_lesser) (Nat.le_of_ble_eq_true rfl) (by omega) rfl (by omega) (Nat.le_of_ble_eq_true rfl) (fun v h1 e => ?_)
  obtain ⟨rfl, u2, rfl⟩ := e
  refine blk_go ob_212 (fun _ => false) 40 ?_
  (conv => whnf); refine ⟨a, rfl, by simpa using ha, by decide, ?_⟩
  (conv => whnf); refine ⟨a, rfl, by simpa using ha, by decide, ?_⟩
  refine vM (idx := 203) (mj := 196) (q := 5) (n := 6) [.ref 0, .int (nI t), .int (nI 53), .int (nI 3 * [1, 1, 1, 1, 1, 1, 1, 1].getD a 0), .int ([20, 20, 20, 20, 20, 20, 20, 20].getD a 0), .int (u2 - nI 3)] ((ob_212.1 150).trans rfl) rfl rfl (Nat.le_of_ble_eq_true rfl) rfl rfl rfl rfl (c_tell ht (by omega) h1 (by rw [List.length_set]; exact S00_l) ⟨rfl, rfl, rfl⟩) (Nat.le_of_ble_eq_true rfl) (by omega) rfl (by omega) (Nat.le_of_ble_eq_true rfl) (fun v h1 e => ?_)
  obtain ⟨rfl, L2, x2, u3, rfl, h2⟩ := e
  refine blk_go ob_212 (fun _ => false) 40 ?_
  (conv => whnf); refine ⟨t, rfl, (by rw [List.length_set, List.length_set, S00_l]; omega), (by rw [List.length_set, List.length_set, S00_l]; decide), ?_⟩
  exact go_iret ((ob_212.1 162).trans rfl) rfl rfl (hq _ FA.mH)
set_option maxRecDepth 100000 in
set_option maxHeartbeats 4000000 in
theorem m_root (x y k : Int32) : cR 212 4 100 [.ref 0, .int x, .int y, .int k] (mH 0 0 0 0 0 0 [0, 0, 0, 0, 0, 0, 0] [1, 1, 1, 1, 1, 1, 1, 1] [20, 20, 20, 20, 20, 20, 20, 20] [2230, 2230, 2230, 2230, 2230, 2230, 2230, 2230] (List.replicate 49 0) (List.replicate 400 0) L00 S00 C00) (fun v h => (sl x ∧ sl y ∧ (k = nI 2 ∨ k = nI 3) → v = some (.int (nI 1)) ∧ FA h (nI 0)) ∧ (¬ (sl x ∧ sl y ∧ (k = nI 2 ∨ k = nI 3)) → FA h (nI 1))) := by
  intro fb lb hf hl
  refine blk_go ob_212 (fun _ => false) 30 ?_
  by_cases hx : sl x
  · refine vS (idx := 194) (mj := 186) (q := 1) (n := 1) [.int x] ((ob_212.1 1).trans rfl) rfl (Nat.le_of_ble_eq_true rfl) rfl rfl (c_isSlotT hx) (Nat.le_of_ble_eq_true rfl) (by omega) rfl (by omega) (Nat.le_of_ble_eq_true rfl) (fun v h1 e => ?_)
    obtain ⟨rfl, rfl⟩ := e
    refine blk_go ob_212 (fun _ => false) 30 ?_
    (conv => whnf); refine br_f (show ¬ nI 1 = 0 by decide) ?_
    by_cases hy : sl y
    · refine vS (idx := 194) (mj := 186) (q := 1) (n := 1) [.int y] ((ob_212.1 8).trans rfl) rfl (Nat.le_of_ble_eq_true rfl) rfl rfl (c_isSlotT hy) (Nat.le_of_ble_eq_true rfl) (by omega) rfl (by omega) (Nat.le_of_ble_eq_true rfl) (fun v h1 e => ?_)
      obtain ⟨rfl, rfl⟩ := e
      refine blk_go ob_212 (fun pc => Nat.beq pc 29) 30 ?_
      (conv => whnf); refine br_f (show ¬ nI 1 = 0 by decide) ?_
      obtain ⟨t, ht, rfl⟩ := id hx
      obtain ⟨a, ha, rfl⟩ := id hy
      (conv => whnf); refine ⟨fun c1 => ?_, fun c1 => ?_⟩
      · have c1 : k = nI 2 := c1
        subst c1
        exact root_ok2 (by omega) (by omega) ht ha (fun h hF => ⟨_, _, rfl, fun _ => ⟨rfl, hF⟩, fun z => absurd ⟨hx, hy, Or.inl rfl⟩ z⟩)
      · (conv => whnf); refine ⟨fun c2 => ?_, fun c2 => ?_⟩
        · refine root_bad (by omega) (by omega) (fun h hF => ⟨_, _, rfl, fun z => absurd z ?_, fun _ => hF⟩)
          intro z
          rcases z.2.2 with q | q
          · exact c1 q
          · exact c2 q
        · have c2 : k = nI 3 := Classical.not_not.mp c2
          subst c2
          exact root_ok3 (by omega) (by omega) ht ha (fun h hF => ⟨_, _, rfl, fun _ => ⟨rfl, hF⟩, fun z => absurd ⟨hx, hy, Or.inr rfl⟩ z⟩)
    · refine vS (idx := 194) (mj := 186) (q := 1) (n := 1) [.int y] ((ob_212.1 8).trans rfl) rfl (Nat.le_of_ble_eq_true rfl) rfl rfl (c_isSlotF hy) (Nat.le_of_ble_eq_true rfl) (by omega) rfl (by omega) (Nat.le_of_ble_eq_true rfl) (fun v h1 e => ?_)
      obtain ⟨rfl, rfl⟩ := e
      refine blk_go ob_212 (fun pc => Nat.beq pc 29) 30 ?_
      (conv => whnf); refine br_t (show nI 0 = 0 by decide) ?_
      exact root_bad (by omega) (by omega) (fun h hF => ⟨_, _, rfl, fun z => absurd z.2.1 hy, fun _ => hF⟩)
  · refine vS (idx := 194) (mj := 186) (q := 1) (n := 1) [.int x] ((ob_212.1 1).trans rfl) rfl (Nat.le_of_ble_eq_true rfl) rfl rfl (c_isSlotF hx) (Nat.le_of_ble_eq_true rfl) (by omega) rfl (by omega) (Nat.le_of_ble_eq_true rfl) (fun v h1 e => ?_)
    obtain ⟨rfl, rfl⟩ := e
    refine blk_go ob_212 (fun pc => Nat.beq pc 29) 30 ?_
    (conv => whnf); refine br_t (show nI 0 = 0 by decide) ?_
    exact root_bad (by omega) (by omega) (fun h hF => ⟨_, _, rfl, fun z => absurd z.1 hx, fun _ => hF⟩)
