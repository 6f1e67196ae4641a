/-! what the fresh reference's public methods answer -/
set_option maxRecDepth 1000000 in
theorem fR_c : cR 157 3 100 [.ref 0] (mH (nI 0) 0 0 0 0 0 [0, 0, 0, 0, 0, 0, 0] [1, 1, 1, 1, 1, 1, 1, 1] [20, 20, 20, 20, 20, 20, 20, 20] [2230, 2230, 2230, 2230, 2230, 2230, 2230, 2230] (List.replicate 49 0) (List.replicate 400 0) L00 S00 C00) (fun v h => v = none ∧ ∃ vs, h[0]? = some (.inl (12, .int 0 :: vs)) ∧ (.int 0 :: vs)[10]? = some (.int (-1)) ∧ (.int 0 :: vs)[12]? = some (.int 0)) := by
  have h := cR_run3 mIT_rep fR_run
  refine cR.weak (show cR 157 3 100 [.ref 0] (mH (nI 0) 0 0 0 0 0 [0, 0, 0, 0, 0, 0, 0] [1, 1, 1, 1, 1, 1, 1, 1] [20, 20, 20, 20, 20, 20, 20, 20] [2230, 2230, 2230, 2230, 2230, 2230, 2230, 2230] (List.replicate 49 0) (List.replicate 400 0) L00 S00 C00) _ from h) (fun v h z => ?_)
  obtain ⟨t', h1, h2, -⟩ := z
  unfold fR_ok at h1
  rw [Bool.and_eq_true] at h1
  obtain ⟨e1, e2⟩ := h1
  refine ⟨by simpa using e1, ?_⟩
  split at e2
  · next f a1 a2 a3 a4 a5 a6 a7 a8 a9 d a11 r a13 a14 a15 a16 a17 a18 a19 a20 e =>
    simp only [Bool.and_eq_true, decide_eq_true_eq] at e2
    obtain ⟨rfl, rfl, rfl⟩ := e2
    exact ⟨_, by rw [← h2 0]; exact e, rfl, rfl⟩
  · cases e2
set_option maxRecDepth 100000 in
set_option maxHeartbeats 4000000 in
theorem m_rootsIn (x y : Int32) : cR 185 4 125 [.ref 0, .int x, .int y] (mH 0 0 0 0 0 0 [0, 0, 0, 0, 0, 0, 0] [1, 1, 1, 1, 1, 1, 1, 1] [20, 20, 20, 20, 20, 20, 20, 20] [2230, 2230, 2230, 2230, 2230, 2230, 2230, 2230] (List.replicate 49 0) (List.replicate 400 0) L00 S00 C00) (fun v h => (sl x ∧ sl y → v = some (.int (-nI 1)) ∧ FA h (0)) ∧ (¬ (sl x ∧ sl y) → v = some (.int (nI 0)) ∧ FA h (nI 1))) := by
  intro fb lb hf hl
  refine blk_go ob_185 (fun _ => false) 30 ?_
  by_cases hx : sl x
  · refine vS (idx := 194) (mj := 186) (q := 1) (n := 1) [.int x] ((ob_185.1 2).trans rfl) rfl (Nat.le_of_ble_eq_true rfl) rfl rfl (c_isSlotT hx) (Nat.le_of_ble_eq_true rfl) (by omega) rfl (by omega) (Nat.le_of_ble_eq_true rfl) (fun v h1 e => ?_)
    obtain ⟨rfl, rfl⟩ := e
    refine blk_go ob_185 (fun _ => false) 30 ?_
    (conv => whnf); refine br_f (show ¬ nI 1 = 0 by decide) ?_
    by_cases hy : sl y
    · refine vS (idx := 194) (mj := 186) (q := 1) (n := 1) [.int y] ((ob_185.1 9).trans rfl) rfl (Nat.le_of_ble_eq_true rfl) rfl rfl (c_isSlotT hy) (Nat.le_of_ble_eq_true rfl) (by omega) rfl (by omega) (Nat.le_of_ble_eq_true rfl) (fun v h1 e => ?_)
      obtain ⟨rfl, rfl⟩ := e
      refine blk_go ob_185 (fun _ => false) 30 ?_
      (conv => whnf); refine br_f (show ¬ nI 1 = 0 by decide) ?_
      refine vM (idx := 178) (mj := 155) (q := 1) (n := 2) [.ref 0, .int (nI 0)] ((ob_185.1 20).trans rfl) rfl rfl (Nat.le_of_ble_eq_true rfl) rfl rfl rfl rfl (c_refused0) (Nat.le_of_ble_eq_true rfl) (by omega) rfl (by omega) (Nat.le_of_ble_eq_true rfl) (fun v h1 e => ?_)
      obtain ⟨rfl, rfl⟩ := e
      refine blk_go ob_185 (fun _ => false) 30 ?_
      (conv => whnf); refine br_t (show nI 0 = 0 by decide) ?_
      refine vM (idx := 182) (mj := 157) (q := 0) (n := 2) [.ref 0] ((ob_185.1 29).trans rfl) rfl rfl (Nat.le_of_ble_eq_true rfl) rfl rfl rfl rfl (fR_c) (Nat.le_of_ble_eq_true rfl) (by omega) rfl (by omega) (Nat.le_of_ble_eq_true rfl) (fun v h1 e => ?_)
      obtain ⟨rfl, vs, hv, h10, h12⟩ := e
      refine blk_go ob_185 (fun _ => false) 30 ?_
      (conv => whnf)
      rw [hv]
      (conv => whnf)
      rw [h10]
      (conv => whnf); refine br_f (show ¬ (0 : Int32) ≤ -1 by decide) ?_
      exact go_iret ((ob_185.1 40).trans rfl) rfl (vp_nar_int _) ⟨_, _, rfl, fun _ => ⟨rfl, ⟨vs, hv⟩⟩, fun z => absurd ⟨hx, hy⟩ z⟩
    · refine vS (idx := 194) (mj := 186) (q := 1) (n := 1) [.int y] ((ob_185.1 9).trans rfl) rfl (Nat.le_of_ble_eq_true rfl) rfl rfl (c_isSlotF hy) (Nat.le_of_ble_eq_true rfl) (by omega) rfl (by omega) (Nat.le_of_ble_eq_true rfl) (fun v h1 e => ?_)
      obtain ⟨rfl, rfl⟩ := e
      refine blk_go ob_185 (fun _ => false) 30 ?_
      (conv => whnf); refine br_t (show nI 0 = 0 by decide) ?_
      refine vM (idx := 178) (mj := 155) (q := 1) (n := 2) [.ref 0, .int (nI 1)] ((ob_185.1 20).trans rfl) rfl rfl (Nat.le_of_ble_eq_true rfl) rfl rfl rfl rfl (c_refused1) (Nat.le_of_ble_eq_true rfl) (by omega) rfl (by omega) (Nat.le_of_ble_eq_true rfl) (fun v h1 e => ?_)
      obtain ⟨rfl, rfl⟩ := e
      refine blk_go ob_185 (fun _ => false) 30 ?_
      (conv => whnf); refine br_f (show ¬ nI 1 = 0 by decide) ?_
      exact go_iret ((ob_185.1 27).trans rfl) rfl (vp_nar_int _) ⟨_, _, rfl, fun z => absurd z (fun z => hy z.2), fun _ => ⟨rfl, FA.mH⟩⟩
  · refine vS (idx := 194) (mj := 186) (q := 1) (n := 1) [.int x] ((ob_185.1 2).trans rfl) rfl (Nat.le_of_ble_eq_true rfl) rfl rfl (c_isSlotF hx) (Nat.le_of_ble_eq_true rfl) (by omega) rfl (by omega) (Nat.le_of_ble_eq_true rfl) (fun v h1 e => ?_)
    obtain ⟨rfl, rfl⟩ := e
    refine blk_go ob_185 (fun _ => false) 30 ?_
    (conv => whnf); refine br_t (show nI 0 = 0 by decide) ?_
    refine vM (idx := 178) (mj := 155) (q := 1) (n := 2) [.ref 0, .int (nI 1)] ((ob_185.1 20).trans rfl) rfl rfl (Nat.le_of_ble_eq_true rfl) rfl rfl rfl rfl (c_refused1) (Nat.le_of_ble_eq_true rfl) (by omega) rfl (by omega) (Nat.le_of_ble_eq_true rfl) (fun v h1 e => ?_)
    obtain ⟨rfl, rfl⟩ := e
    refine blk_go ob_185 (fun _ => false) 30 ?_
    (conv => whnf); refine br_f (show ¬ nI 1 = 0 by decide) ?_
    exact go_iret ((ob_185.1 27).trans rfl) rfl (vp_nar_int _) ⟨_, _, rfl, fun z => absurd z (fun z => hx z.1), fun _ => ⟨rfl, FA.mH⟩⟩
set_option maxRecDepth 100000 in
set_option maxHeartbeats 4000000 in
theorem m_compare (x y : Int32) : cR 214 4 100 [.ref 0, .int x, .int y] (mH 0 0 0 0 0 0 [0, 0, 0, 0, 0, 0, 0] [1, 1, 1, 1, 1, 1, 1, 1] [20, 20, 20, 20, 20, 20, 20, 20] [2230, 2230, 2230, 2230, 2230, 2230, 2230, 2230] (List.replicate 49 0) (List.replicate 400 0) L00 S00 C00) (fun v h => (sl x ∧ sl y → v = some (.int (nI 0)) ∧ FA h (nI 0)) ∧ (¬ (sl x ∧ sl y) → v = some (.int (nI 0)) ∧ FA h (nI 1))) := by
  intro fb lb hf hl
  refine blk_go ob_214 (fun _ => false) 30 ?_
  by_cases hx : sl x
  · refine vS (idx := 194) (mj := 186) (q := 1) (n := 1) [.int x] ((ob_214.1 2).trans rfl) rfl (Nat.le_of_ble_eq_true rfl) rfl rfl (c_isSlotT hx) (Nat.le_of_ble_eq_true rfl) (by omega) rfl (by omega) (Nat.le_of_ble_eq_true rfl) (fun v h1 e => ?_)
    obtain ⟨rfl, rfl⟩ := e
    refine blk_go ob_214 (fun _ => false) 30 ?_
    (conv => whnf); refine br_f (show ¬ nI 1 = 0 by decide) ?_
    by_cases hy : sl y
    · refine vS (idx := 194) (mj := 186) (q := 1) (n := 1) [.int y] ((ob_214.1 9).trans rfl) rfl (Nat.le_of_ble_eq_true rfl) rfl rfl (c_isSlotT hy) (Nat.le_of_ble_eq_true rfl) (by omega) rfl (by omega) (Nat.le_of_ble_eq_true rfl) (fun v h1 e => ?_)
      obtain ⟨rfl, rfl⟩ := e
      refine blk_go ob_214 (fun _ => false) 30 ?_
      (conv => whnf); refine br_f (show ¬ nI 1 = 0 by decide) ?_
      refine vM (idx := 178) (mj := 155) (q := 1) (n := 2) [.ref 0, .int (nI 0)] ((ob_214.1 20).trans rfl) rfl rfl (Nat.le_of_ble_eq_true rfl) rfl rfl rfl rfl (c_refused0) (Nat.le_of_ble_eq_true rfl) (by omega) rfl (by omega) (Nat.le_of_ble_eq_true rfl) (fun v h1 e => ?_)
      obtain ⟨rfl, rfl⟩ := e
      refine blk_go ob_214 (fun _ => false) 30 ?_
      (conv => whnf); refine br_t (show nI 0 = 0 by decide) ?_
      obtain ⟨a, ha, rfl⟩ := id hx
      obtain ⟨b, hb, rfl⟩ := id hy
      refine vM (idx := 98) (mj := 175) (q := 3) (n := 5) [.ref 0, .int (nI 53), .int (nI a), .int (nI b)] ((ob_214.1 33).trans rfl) rfl rfl (Nat.le_of_ble_eq_true rfl) rfl rfl rfl rfl (c_minus (by omega) (by omega) (by omega) (by omega) L00_l S00_l (S00_at a) (S00_at b)) (Nat.le_of_ble_eq_true rfl) (by omega) rfl (by omega) (Nat.le_of_ble_eq_true rfl) (fun v h1 e => ?_)
      obtain ⟨rfl, L', S', rfl, h1, h2, h3, h4, h5, h6⟩ := e
      refine blk_go ob_214 (fun _ => false) 30 ?_
      refine vM (idx := 188) (mj := 191) (q := 1) (n := 2) [.ref 0, .int (nI a)] ((ob_214.1 39).trans rfl) rfl rfl (Nat.le_of_ble_eq_true rfl) rfl rfl rfl rfl (c_near ha h1 h2 rfl) (Nat.le_of_ble_eq_true rfl) (by omega) rfl (by omega) (Nat.le_of_ble_eq_true rfl) (fun v h1 e => ?_)
      obtain ⟨rfl, u1, rfl⟩ := e
      refine blk_go ob_214 (fun _ => false) 30 ?_
      refine vM (idx := 188) (mj := 191) (q := 1) (n := 2) [.ref 0, .int (nI b)] ((ob_214.1 44).trans rfl) rfl rfl (Nat.le_of_ble_eq_true rfl) rfl rfl rfl rfl (c_near hb h1 h2 rfl) (Nat.le_of_ble_eq_true rfl) (by omega) rfl (by omega) (Nat.le_of_ble_eq_true rfl) (fun v h1 e => ?_)
      obtain ⟨rfl, u2, rfl⟩ := e
      refine vM (idx := 191) (mj := 192) (q := 2) (n := 3) [.ref 0, .int u1, .int u2] ((ob_214.1 47).trans rfl) rfl rfl (Nat.le_of_ble_eq_true rfl) rfl rfl rfl rfl (c_lesser) (Nat.le_of_ble_eq_true rfl) (by omega) rfl (by omega) (Nat.le_of_ble_eq_true rfl) (fun v h1 e => ?_)
      obtain ⟨rfl, u3, rfl⟩ := e
      refine blk_go ob_214 (fun _ => false) 30 ?_
      refine vM (idx := 120) (mj := 171) (q := 1) (n := 4) [.ref 0, .int (nI 53)] ((ob_214.1 56).trans rfl) rfl rfl (Nat.le_of_ble_eq_true rfl) rfl rfl rfl rfl (c_height (by omega) h1) (Nat.le_of_ble_eq_true rfl) (by omega) rfl (by omega) (Nat.le_of_ble_eq_true rfl) (fun v h1 e => ?_)
      obtain ⟨rfl, u4, rfl, -⟩ := e
      refine blk_go ob_214 (fun _ => false) 30 ?_
      (conv => whnf); refine ⟨fun hc => ?_, fun hc => ?_⟩
      · (conv => whnf); refine ⟨53, rfl, by omega, by omega, ?_⟩
        refine go_iret ((ob_214.1 76).trans rfl) rfl (vp_nar_int _) ⟨_, _, rfl, fun _ => ⟨?_, FA.mH⟩, fun z => absurd ⟨hx, hy⟩ z⟩
        show some (Value.int (S'.getD 53 0)) = _
        rw [h4]
      · exact go_iret ((ob_214.1 76).trans rfl) rfl (vp_nar_int _) ⟨_, _, rfl, fun _ => ⟨rfl, FA.mH⟩, fun z => absurd ⟨hx, hy⟩ z⟩
    · refine vS (idx := 194) (mj := 186) (q := 1) (n := 1) [.int y] ((ob_214.1 9).trans rfl) rfl (Nat.le_of_ble_eq_true rfl) rfl rfl (c_isSlotF hy) (Nat.le_of_ble_eq_true rfl) (by omega) rfl (by omega) (Nat.le_of_ble_eq_true rfl) (fun v h1 e => ?_)
      obtain ⟨rfl, rfl⟩ := e
      refine blk_go ob_214 (fun _ => false) 30 ?_
      (conv => whnf); refine br_t (show nI 0 = 0 by decide) ?_
      refine vM (idx := 178) (mj := 155) (q := 1) (n := 2) [.ref 0, .int (nI 1)] ((ob_214.1 20).trans rfl) rfl rfl (Nat.le_of_ble_eq_true rfl) rfl rfl rfl rfl (c_refused1) (Nat.le_of_ble_eq_true rfl) (by omega) rfl (by omega) (Nat.le_of_ble_eq_true rfl) (fun v h1 e => ?_)
      obtain ⟨rfl, rfl⟩ := e
      refine blk_go ob_214 (fun _ => false) 30 ?_
      (conv => whnf); refine br_f (show ¬ nI 1 = 0 by decide) ?_
      exact go_iret ((ob_214.1 27).trans rfl) rfl (vp_nar_int _) ⟨_, _, rfl, fun z => absurd z (fun z => hy z.2), fun _ => ⟨rfl, FA.mH⟩⟩
  · refine vS (idx := 194) (mj := 186) (q := 1) (n := 1) [.int x] ((ob_214.1 2).trans rfl) rfl (Nat.le_of_ble_eq_true rfl) rfl rfl (c_isSlotF hx) (Nat.le_of_ble_eq_true rfl) (by omega) rfl (by omega) (Nat.le_of_ble_eq_true rfl) (fun v h1 e => ?_)
    obtain ⟨rfl, rfl⟩ := e
    refine blk_go ob_214 (fun _ => false) 30 ?_
    (conv => whnf); refine br_t (show nI 0 = 0 by decide) ?_
    refine vM (idx := 178) (mj := 155) (q := 1) (n := 2) [.ref 0, .int (nI 1)] ((ob_214.1 20).trans rfl) rfl rfl (Nat.le_of_ble_eq_true rfl) rfl rfl rfl rfl (c_refused1) (Nat.le_of_ble_eq_true rfl) (by omega) rfl (by omega) (Nat.le_of_ble_eq_true rfl) (fun v h1 e => ?_)
    obtain ⟨rfl, rfl⟩ := e
    refine blk_go ob_214 (fun _ => false) 30 ?_
    (conv => whnf); refine br_f (show ¬ nI 1 = 0 by decide) ?_
    exact go_iret ((ob_214.1 27).trans rfl) rfl (vp_nar_int _) ⟨_, _, rfl, fun z => absurd z (fun z => hx z.1), fun _ => ⟨rfl, FA.mH⟩⟩
set_option maxRecDepth 100000 in
set_option maxHeartbeats 4000000 in
theorem m_copy (x y : Int32) : cR 198 4 100 [.ref 0, .int x, .int y] (mH 0 0 0 0 0 0 [0, 0, 0, 0, 0, 0, 0] [1, 1, 1, 1, 1, 1, 1, 1] [20, 20, 20, 20, 20, 20, 20, 20] [2230, 2230, 2230, 2230, 2230, 2230, 2230, 2230] (List.replicate 49 0) (List.replicate 400 0) L00 S00 C00) (fun v h => (sl x ∧ sl y → v = none ∧ FA h (nI 0)) ∧ (¬ (sl x ∧ sl y) → v = none ∧ FA h (nI 1))) := by
  intro fb lb hf hl
  refine blk_go ob_198 (fun _ => false) 30 ?_
  by_cases hx : sl x
  · refine vS (idx := 194) (mj := 186) (q := 1) (n := 1) [.int x] ((ob_198.1 2).trans rfl) rfl (Nat.le_of_ble_eq_true rfl) rfl rfl (c_isSlotT hx) (Nat.le_of_ble_eq_true rfl) (by omega) rfl (by omega) (Nat.le_of_ble_eq_true rfl) (fun v h1 e => ?_)
    obtain ⟨rfl, rfl⟩ := e
    refine blk_go ob_198 (fun _ => false) 30 ?_
    (conv => whnf); refine br_f (show ¬ nI 1 = 0 by decide) ?_
    by_cases hy : sl y
    · refine vS (idx := 194) (mj := 186) (q := 1) (n := 1) [.int y] ((ob_198.1 9).trans rfl) rfl (Nat.le_of_ble_eq_true rfl) rfl rfl (c_isSlotT hy) (Nat.le_of_ble_eq_true rfl) (by omega) rfl (by omega) (Nat.le_of_ble_eq_true rfl) (fun v h1 e => ?_)
      obtain ⟨rfl, rfl⟩ := e
      refine blk_go ob_198 (fun _ => false) 30 ?_
      (conv => whnf); refine br_f (show ¬ nI 1 = 0 by decide) ?_
      refine vM (idx := 178) (mj := 155) (q := 1) (n := 2) [.ref 0, .int (nI 0)] ((ob_198.1 20).trans rfl) rfl rfl (Nat.le_of_ble_eq_true rfl) rfl rfl rfl rfl (c_refused0) (Nat.le_of_ble_eq_true rfl) (by omega) rfl (by omega) (Nat.le_of_ble_eq_true rfl) (fun v h1 e => ?_)
      obtain ⟨rfl, rfl⟩ := e
      refine blk_go ob_198 (fun _ => false) 30 ?_
      (conv => whnf); refine br_f (show ¬ ¬ nI 0 = 0 by decide) ?_
      obtain ⟨a, ha, rfl⟩ := id hx
      obtain ⟨b, hb, rfl⟩ := id hy
      (conv => whnf); refine ⟨b, rfl, by simpa using hb, by decide, ?_⟩
      (conv => whnf); refine ⟨b, rfl, by simpa using hb, by decide, ?_⟩
      (conv => whnf); refine ⟨b, rfl, by simpa using hb, by decide, ?_⟩
      refine vM (idx := 203) (mj := 196) (q := 5) (n := 6) [.ref 0, .int (nI a), .int (nI b), .int ([1, 1, 1, 1, 1, 1, 1, 1].getD b 0), .int ([20, 20, 20, 20, 20, 20, 20, 20].getD b 0), .int ([2230, 2230, 2230, 2230, 2230, 2230, 2230, 2230].getD b 0)] ((ob_198.1 47).trans rfl) rfl rfl (Nat.le_of_ble_eq_true rfl) rfl rfl rfl rfl (c_tell ha (by omega) L00_l S00_l ⟨rfl, rfl, rfl⟩) (Nat.le_of_ble_eq_true rfl) (by omega) rfl (by omega) (Nat.le_of_ble_eq_true rfl) (fun v h1 e => ?_)
      obtain ⟨rfl, L', x', u, rfl, h1⟩ := e
      exact go_vret ((ob_198.1 50).trans rfl) rfl ⟨_, _, rfl, fun _ => ⟨rfl, FA.mH⟩, fun z => absurd ⟨hx, hy⟩ z⟩
    · refine vS (idx := 194) (mj := 186) (q := 1) (n := 1) [.int y] ((ob_198.1 9).trans rfl) rfl (Nat.le_of_ble_eq_true rfl) rfl rfl (c_isSlotF hy) (Nat.le_of_ble_eq_true rfl) (by omega) rfl (by omega) (Nat.le_of_ble_eq_true rfl) (fun v h1 e => ?_)
      obtain ⟨rfl, rfl⟩ := e
      refine blk_go ob_198 (fun _ => false) 30 ?_
      (conv => whnf); refine br_t (show nI 0 = 0 by decide) ?_
      refine vM (idx := 178) (mj := 155) (q := 1) (n := 2) [.ref 0, .int (nI 1)] ((ob_198.1 20).trans rfl) rfl rfl (Nat.le_of_ble_eq_true rfl) rfl rfl rfl rfl (c_refused1) (Nat.le_of_ble_eq_true rfl) (by omega) rfl (by omega) (Nat.le_of_ble_eq_true rfl) (fun v h1 e => ?_)
      obtain ⟨rfl, rfl⟩ := e
      refine blk_go ob_198 (fun _ => false) 30 ?_
      (conv => whnf); refine br_t (show ¬ nI 1 = 0 by decide) ?_
      exact go_vret ((ob_198.1 50).trans rfl) rfl ⟨_, _, rfl, fun z => absurd z (fun z => hy z.2), fun _ => ⟨rfl, FA.mH⟩⟩
  · refine vS (idx := 194) (mj := 186) (q := 1) (n := 1) [.int x] ((ob_198.1 2).trans rfl) rfl (Nat.le_of_ble_eq_true rfl) rfl rfl (c_isSlotF hx) (Nat.le_of_ble_eq_true rfl) (by omega) rfl (by omega) (Nat.le_of_ble_eq_true rfl) (fun v h1 e => ?_)
    obtain ⟨rfl, rfl⟩ := e
    refine blk_go ob_198 (fun _ => false) 30 ?_
    (conv => whnf); refine br_t (show nI 0 = 0 by decide) ?_
    refine vM (idx := 178) (mj := 155) (q := 1) (n := 2) [.ref 0, .int (nI 1)] ((ob_198.1 20).trans rfl) rfl rfl (Nat.le_of_ble_eq_true rfl) rfl rfl rfl rfl (c_refused1) (Nat.le_of_ble_eq_true rfl) (by omega) rfl (by omega) (Nat.le_of_ble_eq_true rfl) (fun v h1 e => ?_)
    obtain ⟨rfl, rfl⟩ := e
    refine blk_go ob_198 (fun _ => false) 30 ?_
    (conv => whnf); refine br_t (show ¬ nI 1 = 0 by decide) ?_
    exact go_vret ((ob_198.1 50).trans rfl) rfl ⟨_, _, rfl, fun z => absurd z (fun z => hx z.1), fun _ => ⟨rfl, FA.mH⟩⟩
set_option maxRecDepth 100000 in
set_option maxHeartbeats 4000000 in
theorem m_negate (x y : Int32) : cR 199 4 100 [.ref 0, .int x, .int y] (mH 0 0 0 0 0 0 [0, 0, 0, 0, 0, 0, 0] [1, 1, 1, 1, 1, 1, 1, 1] [20, 20, 20, 20, 20, 20, 20, 20] [2230, 2230, 2230, 2230, 2230, 2230, 2230, 2230] (List.replicate 49 0) (List.replicate 400 0) L00 S00 C00) (fun v h => (sl x ∧ sl y → v = none ∧ FA h (nI 0)) ∧ (¬ (sl x ∧ sl y) → v = none ∧ FA h (nI 1))) := by
  intro fb lb hf hl
  refine blk_go ob_199 (fun _ => false) 30 ?_
  by_cases hx : sl x
  · refine vS (idx := 194) (mj := 186) (q := 1) (n := 1) [.int x] ((ob_199.1 2).trans rfl) rfl (Nat.le_of_ble_eq_true rfl) rfl rfl (c_isSlotT hx) (Nat.le_of_ble_eq_true rfl) (by omega) rfl (by omega) (Nat.le_of_ble_eq_true rfl) (fun v h1 e => ?_)
    obtain ⟨rfl, rfl⟩ := e
    refine blk_go ob_199 (fun _ => false) 30 ?_
    (conv => whnf); refine br_f (show ¬ nI 1 = 0 by decide) ?_
    by_cases hy : sl y
    · refine vS (idx := 194) (mj := 186) (q := 1) (n := 1) [.int y] ((ob_199.1 9).trans rfl) rfl (Nat.le_of_ble_eq_true rfl) rfl rfl (c_isSlotT hy) (Nat.le_of_ble_eq_true rfl) (by omega) rfl (by omega) (Nat.le_of_ble_eq_true rfl) (fun v h1 e => ?_)
      obtain ⟨rfl, rfl⟩ := e
      refine blk_go ob_199 (fun _ => false) 30 ?_
      (conv => whnf); refine br_f (show ¬ nI 1 = 0 by decide) ?_
      refine vM (idx := 178) (mj := 155) (q := 1) (n := 2) [.ref 0, .int (nI 0)] ((ob_199.1 20).trans rfl) rfl rfl (Nat.le_of_ble_eq_true rfl) rfl rfl rfl rfl (c_refused0) (Nat.le_of_ble_eq_true rfl) (by omega) rfl (by omega) (Nat.le_of_ble_eq_true rfl) (fun v h1 e => ?_)
      obtain ⟨rfl, rfl⟩ := e
      refine blk_go ob_199 (fun _ => false) 30 ?_
      (conv => whnf); refine br_f (show ¬ ¬ nI 0 = 0 by decide) ?_
      obtain ⟨a, ha, rfl⟩ := id hx
      obtain ⟨b, hb, rfl⟩ := id hy
      (conv => whnf); refine ⟨b, rfl, by simpa using hb, by decide, ?_⟩
      (conv => whnf); refine ⟨b, rfl, by simpa using hb, by decide, ?_⟩
      (conv => whnf); refine ⟨b, rfl, by simpa using hb, by decide, ?_⟩
      refine vM (idx := 203) (mj := 196) (q := 5) (n := 6) [.ref 0, .int (nI a), .int (nI b), .int ([1, 1, 1, 1, 1, 1, 1, 1].getD b 0), .int ([20, 20, 20, 20, 20, 20, 20, 20].getD b 0), .int ([2230, 2230, 2230, 2230, 2230, 2230, 2230, 2230].getD b 0)] ((ob_199.1 47).trans rfl) rfl rfl (Nat.le_of_ble_eq_true rfl) rfl rfl rfl rfl (c_tell ha (by omega) L00_l S00_l ⟨rfl, rfl, rfl⟩) (Nat.le_of_ble_eq_true rfl) (by omega) rfl (by omega) (Nat.le_of_ble_eq_true rfl) (fun v h1 e => ?_)
      obtain ⟨rfl, L', x', u, rfl, h1⟩ := e
      refine blk_go ob_199 (fun _ => false) 30 ?_
      (conv => whnf); refine ⟨a, rfl, (by rw [List.length_set, S00_l]; omega), (by rw [List.length_set, S00_l]; omega), ?_⟩
      (conv => whnf); refine ⟨a, rfl, (by rw [List.length_set, S00_l]; omega), (by rw [List.length_set, S00_l]; omega), ?_⟩
      exact go_vret ((ob_199.1 63).trans rfl) rfl ⟨_, _, rfl, fun _ => ⟨rfl, FA.mH⟩, fun z => absurd ⟨hx, hy⟩ z⟩
    · refine vS (idx := 194) (mj := 186) (q := 1) (n := 1) [.int y] ((ob_199.1 9).trans rfl) rfl (Nat.le_of_ble_eq_true rfl) rfl rfl (c_isSlotF hy) (Nat.le_of_ble_eq_true rfl) (by omega) rfl (by omega) (Nat.le_of_ble_eq_true rfl) (fun v h1 e => ?_)
      obtain ⟨rfl, rfl⟩ := e
      refine blk_go ob_199 (fun _ => false) 30 ?_
      (conv => whnf); refine br_t (show nI 0 = 0 by decide) ?_
      refine vM (idx := 178) (mj := 155) (q := 1) (n := 2) [.ref 0, .int (nI 1)] ((ob_199.1 20).trans rfl) rfl rfl (Nat.le_of_ble_eq_true rfl) rfl rfl rfl rfl (c_refused1) (Nat.le_of_ble_eq_true rfl) (by omega) rfl (by omega) (Nat.le_of_ble_eq_true rfl) (fun v h1 e => ?_)
      obtain ⟨rfl, rfl⟩ := e
      refine blk_go ob_199 (fun _ => false) 30 ?_
      (conv => whnf); refine br_t (show ¬ nI 1 = 0 by decide) ?_
      exact go_vret ((ob_199.1 63).trans rfl) rfl ⟨_, _, rfl, fun z => absurd z (fun z => hy z.2), fun _ => ⟨rfl, FA.mH⟩⟩
  · refine vS (idx := 194) (mj := 186) (q := 1) (n := 1) [.int x] ((ob_199.1 2).trans rfl) rfl (Nat.le_of_ble_eq_true rfl) rfl rfl (c_isSlotF hx) (Nat.le_of_ble_eq_true rfl) (by omega) rfl (by omega) (Nat.le_of_ble_eq_true rfl) (fun v h1 e => ?_)
    obtain ⟨rfl, rfl⟩ := e
    refine blk_go ob_199 (fun _ => false) 30 ?_
    (conv => whnf); refine br_t (show nI 0 = 0 by decide) ?_
    refine vM (idx := 178) (mj := 155) (q := 1) (n := 2) [.ref 0, .int (nI 1)] ((ob_199.1 20).trans rfl) rfl rfl (Nat.le_of_ble_eq_true rfl) rfl rfl rfl rfl (c_refused1) (Nat.le_of_ble_eq_true rfl) (by omega) rfl (by omega) (Nat.le_of_ble_eq_true rfl) (fun v h1 e => ?_)
    obtain ⟨rfl, rfl⟩ := e
    refine blk_go ob_199 (fun _ => false) 30 ?_
    (conv => whnf); refine br_t (show ¬ nI 1 = 0 by decide) ?_
    exact go_vret ((ob_199.1 63).trans rfl) rfl ⟨_, _, rfl, fun z => absurd z (fun z => hx z.1), fun _ => ⟨rfl, FA.mH⟩⟩
set_option maxRecDepth 100000 in
set_option maxHeartbeats 4000000 in
theorem m_signAt (x : Int32) : cR 193 4 125 [.ref 0, .int x] (mH 0 0 0 0 0 0 [0, 0, 0, 0, 0, 0, 0] [1, 1, 1, 1, 1, 1, 1, 1] [20, 20, 20, 20, 20, 20, 20, 20] [2230, 2230, 2230, 2230, 2230, 2230, 2230, 2230] (List.replicate 49 0) (List.replicate 400 0) L00 S00 C00) (fun v h => (sl x → v = some (.int (nI 0)) ∧ FA h (0)) ∧ (¬ (sl x) → v = some (.int (nI 0)) ∧ FA h (nI 1))) := by
  intro fb lb hf hl
  refine blk_go ob_193 (fun _ => false) 30 ?_
  by_cases hx : sl x
  · refine vS (idx := 194) (mj := 186) (q := 1) (n := 1) [.int x] ((ob_193.1 2).trans rfl) rfl (Nat.le_of_ble_eq_true rfl) rfl rfl (c_isSlotT hx) (Nat.le_of_ble_eq_true rfl) (by omega) rfl (by omega) (Nat.le_of_ble_eq_true rfl) (fun v h1 e => ?_)
    obtain ⟨rfl, rfl⟩ := e
    refine blk_go ob_193 (fun _ => false) 30 ?_
    (conv => whnf); refine br_f (show ¬ nI 1 = 0 by decide) ?_
    refine vM (idx := 178) (mj := 155) (q := 1) (n := 2) [.ref 0, .int (nI 0)] ((ob_193.1 13).trans rfl) rfl rfl (Nat.le_of_ble_eq_true rfl) rfl rfl rfl rfl (c_refused0) (Nat.le_of_ble_eq_true rfl) (by omega) rfl (by omega) (Nat.le_of_ble_eq_true rfl) (fun v h1 e => ?_)
    obtain ⟨rfl, rfl⟩ := e
    refine blk_go ob_193 (fun _ => false) 30 ?_
    (conv => whnf); refine br_t (show nI 0 = 0 by decide) ?_
    refine vM (idx := 182) (mj := 157) (q := 0) (n := 2) [.ref 0] ((ob_193.1 22).trans rfl) rfl rfl (Nat.le_of_ble_eq_true rfl) rfl rfl rfl rfl (fR_c) (Nat.le_of_ble_eq_true rfl) (by omega) rfl (by omega) (Nat.le_of_ble_eq_true rfl) (fun v h1 e => ?_)
    obtain ⟨rfl, vs, hv, h10, h12⟩ := e
    refine blk_go ob_193 (fun _ => false) 30 ?_
    (conv => whnf)
    rw [hv]
    (conv => whnf)
    rw [h10]
    (conv => whnf); refine br_f (show ¬ (0 : Int32) ≤ -1 by decide) ?_
    exact go_iret ((ob_193.1 33).trans rfl) rfl (vp_nar_int _) ⟨_, _, rfl, fun _ => ⟨rfl, ⟨vs, hv⟩⟩, fun z => absurd hx z⟩
  · refine vS (idx := 194) (mj := 186) (q := 1) (n := 1) [.int x] ((ob_193.1 2).trans rfl) rfl (Nat.le_of_ble_eq_true rfl) rfl rfl (c_isSlotF hx) (Nat.le_of_ble_eq_true rfl) (by omega) rfl (by omega) (Nat.le_of_ble_eq_true rfl) (fun v h1 e => ?_)
    obtain ⟨rfl, rfl⟩ := e
    refine blk_go ob_193 (fun _ => false) 30 ?_
    (conv => whnf); refine br_t (show nI 0 = 0 by decide) ?_
    refine vM (idx := 178) (mj := 155) (q := 1) (n := 2) [.ref 0, .int (nI 1)] ((ob_193.1 13).trans rfl) rfl rfl (Nat.le_of_ble_eq_true rfl) rfl rfl rfl rfl (c_refused1) (Nat.le_of_ble_eq_true rfl) (by omega) rfl (by omega) (Nat.le_of_ble_eq_true rfl) (fun v h1 e => ?_)
    obtain ⟨rfl, rfl⟩ := e
    refine blk_go ob_193 (fun _ => false) 30 ?_
    (conv => whnf); refine br_f (show ¬ nI 1 = 0 by decide) ?_
    exact go_iret ((ob_193.1 20).trans rfl) rfl (vp_nar_int _) ⟨_, _, rfl, fun z => absurd z hx, fun _ => ⟨rfl, FA.mH⟩⟩
set_option maxRecDepth 100000 in
set_option maxHeartbeats 4000000 in
theorem m_take (x y : Int32) : cR 194 4 125 [.ref 0, .int x, .int y] (mH 0 0 0 0 0 0 [0, 0, 0, 0, 0, 0, 0] [1, 1, 1, 1, 1, 1, 1, 1] [20, 20, 20, 20, 20, 20, 20, 20] [2230, 2230, 2230, 2230, 2230, 2230, 2230, 2230] (List.replicate 49 0) (List.replicate 400 0) L00 S00 C00) (fun v h => (sl x → v = some (.int (nI 0)) ∧ FA h (0)) ∧ (¬ (sl x) → v = some (.int (nI 0)) ∧ FA h (nI 1))) := by
  intro fb lb hf hl
  refine blk_go ob_194 (fun _ => false) 30 ?_
  by_cases hx : sl x
  · refine vS (idx := 194) (mj := 186) (q := 1) (n := 1) [.int x] ((ob_194.1 2).trans rfl) rfl (Nat.le_of_ble_eq_true rfl) rfl rfl (c_isSlotT hx) (Nat.le_of_ble_eq_true rfl) (by omega) rfl (by omega) (Nat.le_of_ble_eq_true rfl) (fun v h1 e => ?_)
    obtain ⟨rfl, rfl⟩ := e
    refine blk_go ob_194 (fun _ => false) 30 ?_
    (conv => whnf); refine br_f (show ¬ nI 1 = 0 by decide) ?_
    refine vM (idx := 178) (mj := 155) (q := 1) (n := 2) [.ref 0, .int (nI 0)] ((ob_194.1 13).trans rfl) rfl rfl (Nat.le_of_ble_eq_true rfl) rfl rfl rfl rfl (c_refused0) (Nat.le_of_ble_eq_true rfl) (by omega) rfl (by omega) (Nat.le_of_ble_eq_true rfl) (fun v h1 e => ?_)
    obtain ⟨rfl, rfl⟩ := e
    refine blk_go ob_194 (fun _ => false) 30 ?_
    (conv => whnf); refine br_t (show nI 0 = 0 by decide) ?_
    refine vM (idx := 182) (mj := 157) (q := 0) (n := 2) [.ref 0] ((ob_194.1 22).trans rfl) rfl rfl (Nat.le_of_ble_eq_true rfl) rfl rfl rfl rfl (fR_c) (Nat.le_of_ble_eq_true rfl) (by omega) rfl (by omega) (Nat.le_of_ble_eq_true rfl) (fun v h1 e => ?_)
    obtain ⟨rfl, vs, hv, h10, h12⟩ := e
    refine blk_go ob_194 (fun _ => false) 30 ?_
    (conv => whnf)
    rw [hv]
    (conv => whnf)
    rw [h10]
    (conv => whnf); refine br_t (show (-1 : Int32) < 0 by decide) ?_
    exact go_iret ((ob_194.1 45).trans rfl) rfl rfl ⟨_, _, rfl, fun _ => ⟨rfl, ⟨vs, hv⟩⟩, fun z => absurd hx z⟩
  · refine vS (idx := 194) (mj := 186) (q := 1) (n := 1) [.int x] ((ob_194.1 2).trans rfl) rfl (Nat.le_of_ble_eq_true rfl) rfl rfl (c_isSlotF hx) (Nat.le_of_ble_eq_true rfl) (by omega) rfl (by omega) (Nat.le_of_ble_eq_true rfl) (fun v h1 e => ?_)
    obtain ⟨rfl, rfl⟩ := e
    refine blk_go ob_194 (fun _ => false) 30 ?_
    (conv => whnf); refine br_t (show nI 0 = 0 by decide) ?_
    refine vM (idx := 178) (mj := 155) (q := 1) (n := 2) [.ref 0, .int (nI 1)] ((ob_194.1 13).trans rfl) rfl rfl (Nat.le_of_ble_eq_true rfl) rfl rfl rfl rfl (c_refused1) (Nat.le_of_ble_eq_true rfl) (by omega) rfl (by omega) (Nat.le_of_ble_eq_true rfl) (fun v h1 e => ?_)
    obtain ⟨rfl, rfl⟩ := e
    refine blk_go ob_194 (fun _ => false) 30 ?_
    (conv => whnf); refine br_f (show ¬ nI 1 = 0 by decide) ?_
    exact go_iret ((ob_194.1 20).trans rfl) rfl rfl ⟨_, _, rfl, fun z => absurd z hx, fun _ => ⟨rfl, FA.mH⟩⟩
set_option maxRecDepth 100000 in
set_option maxHeartbeats 4000000 in
theorem m_sign (x : Int32) : cR 215 1 25 [.ref 0, .int x] (mH 0 0 0 0 0 0 [0, 0, 0, 0, 0, 0, 0] [1, 1, 1, 1, 1, 1, 1, 1] [20, 20, 20, 20, 20, 20, 20, 20] [2230, 2230, 2230, 2230, 2230, 2230, 2230, 2230] (List.replicate 49 0) (List.replicate 400 0) L00 S00 C00) (fun v h => (sl x → v = some (.int (nI 0)) ∧ FA h (nI 0)) ∧ (¬ (sl x) → v = some (.int (nI 0)) ∧ FA h (nI 1))) := by
  intro fb lb hf hl
  refine blk_go ob_215 (fun _ => false) 30 ?_
  by_cases hx : sl x
  · refine vS (idx := 194) (mj := 186) (q := 1) (n := 1) [.int x] ((ob_215.1 2).trans rfl) rfl (Nat.le_of_ble_eq_true rfl) rfl rfl (c_isSlotT hx) (Nat.le_of_ble_eq_true rfl) (by omega) rfl (by omega) (Nat.le_of_ble_eq_true rfl) (fun v h1 e => ?_)
    obtain ⟨rfl, rfl⟩ := e
    refine blk_go ob_215 (fun _ => false) 30 ?_
    (conv => whnf); refine br_f (show ¬ nI 1 = 0 by decide) ?_
    refine vM (idx := 178) (mj := 155) (q := 1) (n := 2) [.ref 0, .int (nI 0)] ((ob_215.1 13).trans rfl) rfl rfl (Nat.le_of_ble_eq_true rfl) rfl rfl rfl rfl (c_refused0) (Nat.le_of_ble_eq_true rfl) (by omega) rfl (by omega) (Nat.le_of_ble_eq_true rfl) (fun v h1 e => ?_)
    obtain ⟨rfl, rfl⟩ := e
    refine blk_go ob_215 (fun _ => false) 30 ?_
    (conv => whnf); refine br_t (show nI 0 = 0 by decide) ?_
    obtain ⟨a, ha, rfl⟩ := id hx
    (conv => whnf); refine ⟨a, rfl, (by rw [S00_l]; omega), (by rw [S00_l]; decide), ?_⟩
    refine go_iret ((ob_215.1 29).trans rfl) rfl (vp_nar_int _) ⟨_, _, rfl, fun _ => ⟨?_, FA.mH⟩, fun z => absurd hx z⟩
    show some (Value.int (List.getD _ a 0)) = _
    rw [S00_at a]
  · refine vS (idx := 194) (mj := 186) (q := 1) (n := 1) [.int x] ((ob_215.1 2).trans rfl) rfl (Nat.le_of_ble_eq_true rfl) rfl rfl (c_isSlotF hx) (Nat.le_of_ble_eq_true rfl) (by omega) rfl (by omega) (Nat.le_of_ble_eq_true rfl) (fun v h1 e => ?_)
    obtain ⟨rfl, rfl⟩ := e
    refine blk_go ob_215 (fun _ => false) 30 ?_
    (conv => whnf); refine br_t (show nI 0 = 0 by decide) ?_
    refine vM (idx := 178) (mj := 155) (q := 1) (n := 2) [.ref 0, .int (nI 1)] ((ob_215.1 13).trans rfl) rfl rfl (Nat.le_of_ble_eq_true rfl) rfl rfl rfl rfl (c_refused1) (Nat.le_of_ble_eq_true rfl) (by omega) rfl (by omega) (Nat.le_of_ble_eq_true rfl) (fun v h1 e => ?_)
    obtain ⟨rfl, rfl⟩ := e
    refine blk_go ob_215 (fun _ => false) 30 ?_
    (conv => whnf); refine br_f (show ¬ nI 1 = 0 by decide) ?_
    exact go_iret ((ob_215.1 29).trans rfl) rfl (vp_nar_int _) ⟨_, _, rfl, fun z => absurd z hx, fun _ => ⟨rfl, FA.mH⟩⟩
set_option maxRecDepth 100000 in
set_option maxHeartbeats 4000000 in
theorem m_weight (x : Int32) : cR 221 1 25 [.ref 0, .int x] (mH 0 0 0 0 0 0 [0, 0, 0, 0, 0, 0, 0] [1, 1, 1, 1, 1, 1, 1, 1] [20, 20, 20, 20, 20, 20, 20, 20] [2230, 2230, 2230, 2230, 2230, 2230, 2230, 2230] (List.replicate 49 0) (List.replicate 400 0) L00 S00 C00) (fun v h => (sl x → v = some (.int (1)) ∧ FA h (nI 0)) ∧ (¬ (sl x) → v = some (.int (nI 0)) ∧ FA h (nI 1))) := by
  intro fb lb hf hl
  refine blk_go ob_221 (fun _ => false) 30 ?_
  by_cases hx : sl x
  · refine vS (idx := 194) (mj := 186) (q := 1) (n := 1) [.int x] ((ob_221.1 2).trans rfl) rfl (Nat.le_of_ble_eq_true rfl) rfl rfl (c_isSlotT hx) (Nat.le_of_ble_eq_true rfl) (by omega) rfl (by omega) (Nat.le_of_ble_eq_true rfl) (fun v h1 e => ?_)
    obtain ⟨rfl, rfl⟩ := e
    refine blk_go ob_221 (fun _ => false) 30 ?_
    (conv => whnf); refine br_f (show ¬ nI 1 = 0 by decide) ?_
    refine vM (idx := 178) (mj := 155) (q := 1) (n := 2) [.ref 0, .int (nI 0)] ((ob_221.1 13).trans rfl) rfl rfl (Nat.le_of_ble_eq_true rfl) rfl rfl rfl rfl (c_refused0) (Nat.le_of_ble_eq_true rfl) (by omega) rfl (by omega) (Nat.le_of_ble_eq_true rfl) (fun v h1 e => ?_)
    obtain ⟨rfl, rfl⟩ := e
    refine blk_go ob_221 (fun _ => false) 30 ?_
    (conv => whnf); refine br_t (show nI 0 = 0 by decide) ?_
    obtain ⟨a, ha, rfl⟩ := id hx
    (conv => whnf); refine ⟨a, rfl, by simpa using ha, by decide, ?_⟩
    refine go_iret ((ob_221.1 29).trans rfl) rfl (vp_nar_int _) ⟨_, _, rfl, fun _ => ⟨?_, FA.mH⟩, fun z => absurd hx z⟩
    show some (Value.int (List.getD _ a 0)) = _
    rw [w0_at ha]
  · refine vS (idx := 194) (mj := 186) (q := 1) (n := 1) [.int x] ((ob_221.1 2).trans rfl) rfl (Nat.le_of_ble_eq_true rfl) rfl rfl (c_isSlotF hx) (Nat.le_of_ble_eq_true rfl) (by omega) rfl (by omega) (Nat.le_of_ble_eq_true rfl) (fun v h1 e => ?_)
    obtain ⟨rfl, rfl⟩ := e
    refine blk_go ob_221 (fun _ => false) 30 ?_
    (conv => whnf); refine br_t (show nI 0 = 0 by decide) ?_
    refine vM (idx := 178) (mj := 155) (q := 1) (n := 2) [.ref 0, .int (nI 1)] ((ob_221.1 13).trans rfl) rfl rfl (Nat.le_of_ble_eq_true rfl) rfl rfl rfl rfl (c_refused1) (Nat.le_of_ble_eq_true rfl) (by omega) rfl (by omega) (Nat.le_of_ble_eq_true rfl) (fun v h1 e => ?_)
    obtain ⟨rfl, rfl⟩ := e
    refine blk_go ob_221 (fun _ => false) 30 ?_
    (conv => whnf); refine br_f (show ¬ nI 1 = 0 by decide) ?_
    exact go_iret ((ob_221.1 29).trans rfl) rfl (vp_nar_int _) ⟨_, _, rfl, fun z => absurd z hx, fun _ => ⟨rfl, FA.mH⟩⟩
set_option maxRecDepth 100000 in
set_option maxHeartbeats 4000000 in
theorem m_size (x : Int32) : cR 222 1 25 [.ref 0, .int x] (mH 0 0 0 0 0 0 [0, 0, 0, 0, 0, 0, 0] [1, 1, 1, 1, 1, 1, 1, 1] [20, 20, 20, 20, 20, 20, 20, 20] [2230, 2230, 2230, 2230, 2230, 2230, 2230, 2230] (List.replicate 49 0) (List.replicate 400 0) L00 S00 C00) (fun v h => (sl x → v = some (.int (20)) ∧ FA h (nI 0)) ∧ (¬ (sl x) → v = some (.int (nI 0)) ∧ FA h (nI 1))) := by
  intro fb lb hf hl
  refine blk_go ob_222 (fun _ => false) 30 ?_
  by_cases hx : sl x
  · refine vS (idx := 194) (mj := 186) (q := 1) (n := 1) [.int x] ((ob_222.1 2).trans rfl) rfl (Nat.le_of_ble_eq_true rfl) rfl rfl (c_isSlotT hx) (Nat.le_of_ble_eq_true rfl) (by omega) rfl (by omega) (Nat.le_of_ble_eq_true rfl) (fun v h1 e => ?_)
    obtain ⟨rfl, rfl⟩ := e
    refine blk_go ob_222 (fun _ => false) 30 ?_
    (conv => whnf); refine br_f (show ¬ nI 1 = 0 by decide) ?_
    refine vM (idx := 178) (mj := 155) (q := 1) (n := 2) [.ref 0, .int (nI 0)] ((ob_222.1 13).trans rfl) rfl rfl (Nat.le_of_ble_eq_true rfl) rfl rfl rfl rfl (c_refused0) (Nat.le_of_ble_eq_true rfl) (by omega) rfl (by omega) (Nat.le_of_ble_eq_true rfl) (fun v h1 e => ?_)
    obtain ⟨rfl, rfl⟩ := e
    refine blk_go ob_222 (fun _ => false) 30 ?_
    (conv => whnf); refine br_t (show nI 0 = 0 by decide) ?_
    obtain ⟨a, ha, rfl⟩ := id hx
    (conv => whnf); refine ⟨a, rfl, by simpa using ha, by decide, ?_⟩
    refine go_iret ((ob_222.1 29).trans rfl) rfl (vp_nar_int _) ⟨_, _, rfl, fun _ => ⟨?_, FA.mH⟩, fun z => absurd hx z⟩
    show some (Value.int (List.getD _ a 0)) = _
    rw [z0_at ha]
  · refine vS (idx := 194) (mj := 186) (q := 1) (n := 1) [.int x] ((ob_222.1 2).trans rfl) rfl (Nat.le_of_ble_eq_true rfl) rfl rfl (c_isSlotF hx) (Nat.le_of_ble_eq_true rfl) (by omega) rfl (by omega) (Nat.le_of_ble_eq_true rfl) (fun v h1 e => ?_)
    obtain ⟨rfl, rfl⟩ := e
    refine blk_go ob_222 (fun _ => false) 30 ?_
    (conv => whnf); refine br_t (show nI 0 = 0 by decide) ?_
    refine vM (idx := 178) (mj := 155) (q := 1) (n := 2) [.ref 0, .int (nI 1)] ((ob_222.1 13).trans rfl) rfl rfl (Nat.le_of_ble_eq_true rfl) rfl rfl rfl rfl (c_refused1) (Nat.le_of_ble_eq_true rfl) (by omega) rfl (by omega) (Nat.le_of_ble_eq_true rfl) (fun v h1 e => ?_)
    obtain ⟨rfl, rfl⟩ := e
    refine blk_go ob_222 (fun _ => false) 30 ?_
    (conv => whnf); refine br_f (show ¬ nI 1 = 0 by decide) ?_
    exact go_iret ((ob_222.1 29).trans rfl) rfl (vp_nar_int _) ⟨_, _, rfl, fun z => absurd z hx, fun _ => ⟨rfl, FA.mH⟩⟩
set_option maxRecDepth 100000 in
set_option maxHeartbeats 4000000 in
theorem m_degree : cR 156 4 125 [.ref 0] (mH 0 0 0 0 0 0 [0, 0, 0, 0, 0, 0, 0] [1, 1, 1, 1, 1, 1, 1, 1] [20, 20, 20, 20, 20, 20, 20, 20] [2230, 2230, 2230, 2230, 2230, 2230, 2230, 2230] (List.replicate 49 0) (List.replicate 400 0) L00 S00 C00) (fun v h => v = some (.int (-1)) ∧ FA h 0) := by
  intro fb lb hf hl
  refine blk_go ob_156 (fun _ => false) 30 ?_
  refine vM (idx := 182) (mj := 157) (q := 0) (n := 2) [.ref 0] ((ob_156.1 6).trans rfl) rfl rfl (Nat.le_of_ble_eq_true rfl) rfl rfl rfl rfl (fR_c) (Nat.le_of_ble_eq_true rfl) (by omega) rfl (by omega) (Nat.le_of_ble_eq_true rfl) (fun v h1 e => ?_)
  obtain ⟨rfl, vs, hv, h10, h12⟩ := e
  refine blk_go ob_156 (fun _ => false) 30 ?_
  (conv => whnf)
  rw [hv]
  (conv => whnf)
  rw [h10]
  exact go_iret ((ob_156.1 13).trans rfl) rfl (vp_nar_int _) ⟨_, _, rfl, rfl, ⟨vs, hv⟩⟩
set_option maxRecDepth 100000 in
set_option maxHeartbeats 4000000 in
theorem m_roots : cR 184 4 125 [.ref 0] (mH 0 0 0 0 0 0 [0, 0, 0, 0, 0, 0, 0] [1, 1, 1, 1, 1, 1, 1, 1] [20, 20, 20, 20, 20, 20, 20, 20] [2230, 2230, 2230, 2230, 2230, 2230, 2230, 2230] (List.replicate 49 0) (List.replicate 400 0) L00 S00 C00) (fun v h => v = some (.int (-nI 1)) ∧ FA h 0) := by
  intro fb lb hf hl
  refine blk_go ob_184 (fun _ => false) 30 ?_
  refine vM (idx := 182) (mj := 157) (q := 0) (n := 2) [.ref 0] ((ob_184.1 6).trans rfl) rfl rfl (Nat.le_of_ble_eq_true rfl) rfl rfl rfl rfl (fR_c) (Nat.le_of_ble_eq_true rfl) (by omega) rfl (by omega) (Nat.le_of_ble_eq_true rfl) (fun v h1 e => ?_)
  obtain ⟨rfl, vs, hv, h10, h12⟩ := e
  refine blk_go ob_184 (fun _ => false) 30 ?_
  (conv => whnf)
  rw [hv]
  (conv => whnf)
  rw [h10]
  (conv => whnf); refine br_f (show ¬ (0 : Int32) ≤ -1 by decide) ?_
  exact go_iret ((ob_184.1 24).trans rfl) rfl (vp_nar_int _) ⟨_, _, rfl, rfl, ⟨vs, hv⟩⟩
set_option maxRecDepth 100000 in
set_option maxHeartbeats 4000000 in
theorem m_character (x : Int32) : cR 220 0 0 [.ref 0, .int x] (mH 0 0 0 0 0 0 [0, 0, 0, 0, 0, 0, 0] [1, 1, 1, 1, 1, 1, 1, 1] [20, 20, 20, 20, 20, 20, 20, 20] [2230, 2230, 2230, 2230, 2230, 2230, 2230, 2230] (List.replicate 49 0) (List.replicate 400 0) L00 S00 C00) (fun v h => v = some (.int (-nI 1)) ∧ FA h (nI 0)) := by
  intro fb lb hf hl
  refine blk_go ob_220 (fun _ => false) 30 ?_
  (conv => whnf); refine ⟨fun hc => ?_, fun hc => ?_⟩
  · exact go_iret ((ob_220.1 27).trans rfl) rfl (vp_nar_int _) ⟨_, _, rfl, rfl, FA.mH⟩
  · (conv => whnf); refine br_f (hc) ?_
    exact go_iret ((ob_220.1 27).trans rfl) rfl (vp_nar_int _) ⟨_, _, rfl, rfl, FA.mH⟩
