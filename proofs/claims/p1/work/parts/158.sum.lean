/-! sums, products, roots of the fresh reference -/
set_option maxRecDepth 100000 in
set_option maxHeartbeats 4000000 in
theorem sum_tail {fb lb t a b : Nat} {u w : Int32} {L C : List Int64} {S : List Int32} {Q : yR → Prop} (hf : 4 ≤ fb) (hl : 100 ≤ lb) (ht : t < 8) (ha : a < 8) (hb : b < 8) (hL : L.length = 6000) (hS : S.length = 60) (hq : ∀ h, FA h (nI 0) → Q (.inl (some (.int (nI 1))), h, 0, 0)) : gX fb lb 203 94 [(5, .int u), (0, .ref 0), (1, .int (nI t)), (2, .int (nI a)), (3, .int (nI b)), (4, .int w)] [] (mH (nI 0) 0 0 0 0 0 [0, 0, 0, 0, 0, 0, 0] [1, 1, 1, 1, 1, 1, 1, 1] [20, 20, 20, 20, 20, 20, 20, 20] [2230, 2230, 2230, 2230, 2230, 2230, 2230, 2230] (List.replicate 49 0) (List.replicate 400 0) L S C) 0 0 Q := by
  refine blk_go ob_203 (fun _ => false) 30 ?_
  refine vM (idx := 211) (mj := 206) (q := 2) (n := 3) [.ref 0, .int (nI a), .int (nI b)] ((ob_203.1 97).trans rfl) rfl rfl (Nat.le_of_ble_eq_true rfl) rfl rfl rfl rfl (c_weightOf ha hb) (Nat.le_of_ble_eq_true rfl) (by omega) rfl (by omega) (Nat.le_of_ble_eq_true rfl) (fun v h1 e => ?_)
  obtain ⟨rfl, rfl⟩ := e
  refine blk_go ob_203 (fun _ => false) 30 ?_
  refine vM (idx := 214) (mj := 207) (q := 2) (n := 3) [.ref 0, .int (nI a), .int (nI b)] ((ob_203.1 105).trans rfl) rfl rfl (Nat.le_of_ble_eq_true rfl) rfl rfl rfl rfl (c_sizeOf ha hb) (Nat.le_of_ble_eq_true rfl) (by omega) rfl (by omega) (Nat.le_of_ble_eq_true rfl) (fun v h1 e => ?_)
  obtain ⟨rfl, rfl⟩ := e
  refine blk_go ob_203 (fun _ => false) 30 ?_
  refine vM (idx := 200) (mj := 195) (q := 2) (n := 3) [.ref 0, .int (nI 53), .int u] ((ob_203.1 123).trans rfl) rfl rfl (Nat.le_of_ble_eq_true rfl) rfl rfl rfl rfl (c_exactOf (by omega) hL) (Nat.le_of_ble_eq_true rfl) (by omega) rfl (by omega) (Nat.le_of_ble_eq_true rfl) (fun v h1 e => ?_)
  obtain ⟨rfl, x, rfl⟩ := e
  refine vM (idx := 203) (mj := 196) (q := 5) (n := 6) [.ref 0, .int (nI t), .int (nI 53), .int 1, .int 53, .int x] ((ob_203.1 126).trans rfl) rfl rfl (Nat.le_of_ble_eq_true rfl) rfl rfl rfl rfl (c_tell ht (by omega) hL hS ⟨rfl, rfl, rfl⟩) (Nat.le_of_ble_eq_true rfl) (by omega) rfl (by omega) (Nat.le_of_ble_eq_true rfl) (fun v h1 e => ?_)
  obtain ⟨rfl, L', x', u', rfl, h1⟩ := e
  refine blk_go ob_203 (fun _ => false) 30 ?_
  exact go_iret ((ob_203.1 130).trans rfl) rfl rfl (hq _ FA.mH)
set_option maxRecDepth 100000 in
set_option maxHeartbeats 4000000 in
theorem m_sum (x y z w : Int32) (hw : w = nI 0 ∨ w = nI 1) : cR 203 4 100 [.ref 0, .int x, .int y, .int z, .int w] (mH 0 0 0 0 0 0 [0, 0, 0, 0, 0, 0, 0] [1, 1, 1, 1, 1, 1, 1, 1] [20, 20, 20, 20, 20, 20, 20, 20] [2230, 2230, 2230, 2230, 2230, 2230, 2230, 2230] (List.replicate 49 0) (List.replicate 400 0) L00 S00 C00) (fun v h => (sl x ∧ sl y ∧ sl z → v = some (.int (nI 1)) ∧ FA h (nI 0)) ∧ (¬ (sl x ∧ sl y ∧ sl z) → v = some (.int (nI 0)) ∧ FA h (nI 1))) := by
  intro fb lb hf hl
  refine blk_go ob_203 (fun _ => false) 30 ?_
  by_cases hs : sl x ∧ sl y ∧ sl z
  · obtain ⟨hx, hy, hz⟩ := id hs
    refine vM (idx := 217) (mj := 204) (q := 3) (n := 4) [.ref 0, .int x, .int y, .int z] ((ob_203.1 5).trans rfl) rfl rfl (Nat.le_of_ble_eq_true rfl) rfl rfl rfl rfl (c_areSlotsT hx hy hz) (Nat.le_of_ble_eq_true rfl) (by omega) rfl (by omega) (Nat.le_of_ble_eq_true rfl) (fun v h1 e => ?_)
    obtain ⟨rfl, rfl⟩ := e
    refine blk_go ob_203 (fun _ => false) 30 ?_
    (conv => whnf); refine br_f (show ¬ nI 1 = 0 by decide) ?_
    refine vM (idx := 178) (mj := 155) (q := 1) (n := 2) [.ref 0, .int (nI 0)] ((ob_203.1 16).trans rfl) rfl rfl (Nat.le_of_ble_eq_true rfl) rfl rfl rfl rfl (c_refused0) (Nat.le_of_ble_eq_true rfl) (by omega) rfl (by omega) (Nat.le_of_ble_eq_true rfl) (fun v h1 e => ?_)
    obtain ⟨rfl, rfl⟩ := e
    refine blk_go ob_203 (fun _ => false) 30 ?_
    (conv => whnf); refine br_f (show ¬ ¬ nI 0 = 0 by decide) ?_
    obtain ⟨t, ht, rfl⟩ := id hx
    obtain ⟨a, ha, rfl⟩ := id hy
    obtain ⟨b, hb, rfl⟩ := id hz
    refine vM (idx := 220) (mj := 205) (q := 2) (n := 3) [.ref 0, .int (nI a), .int (nI b)] ((ob_203.1 25).trans rfl) rfl rfl (Nat.le_of_ble_eq_true rfl) rfl rfl rfl rfl (c_fits ha hb) (Nat.le_of_ble_eq_true rfl) (by omega) rfl (by omega) (Nat.le_of_ble_eq_true rfl) (fun v h1 e => ?_)
    obtain ⟨rfl, rfl⟩ := e
    refine blk_go ob_203 (fun _ => false) 30 ?_
    (conv => whnf); refine br_t (show ¬ nI 1 = 0 by decide) ?_
    refine vM (idx := 188) (mj := 191) (q := 1) (n := 2) [.ref 0, .int (nI a)] ((ob_203.1 36).trans rfl) rfl rfl (Nat.le_of_ble_eq_true rfl) rfl rfl rfl rfl (c_near ha L00_l S00_l rfl) (Nat.le_of_ble_eq_true rfl) (by omega) rfl (by omega) (Nat.le_of_ble_eq_true rfl) (fun v h1 e => ?_)
    obtain ⟨rfl, u1, rfl⟩ := e
    refine blk_go ob_203 (fun _ => false) 30 ?_
    refine vM (idx := 188) (mj := 191) (q := 1) (n := 2) [.ref 0, .int (nI b)] ((ob_203.1 41).trans rfl) rfl rfl (Nat.le_of_ble_eq_true rfl) rfl rfl rfl rfl (c_near hb L00_l S00_l rfl) (Nat.le_of_ble_eq_true rfl) (by omega) rfl (by omega) (Nat.le_of_ble_eq_true rfl) (fun v h1 e => ?_)
    obtain ⟨rfl, u2, rfl⟩ := e
    refine vM (idx := 191) (mj := 192) (q := 2) (n := 3) [.ref 0, .int u1, .int u2] ((ob_203.1 44).trans rfl) rfl rfl (Nat.le_of_ble_eq_true rfl) rfl rfl rfl rfl (c_lesser) (Nat.le_of_ble_eq_true rfl) (by omega) rfl (by omega) (Nat.le_of_ble_eq_true rfl) (fun v h1 e => ?_)
    obtain ⟨rfl, u3, rfl⟩ := e
    refine blk_go ob_203 (fun _ => false) 30 ?_
    rcases hw with rfl | rfl
    · (conv => whnf); refine br_t (show nI 0 = 0 by decide) ?_
      refine vM (idx := 79) (mj := 168) (q := 3) (n := 6) [.ref 0, .int (nI 53), .int (nI a), .int (nI b)] ((ob_203.1 72).trans rfl) rfl rfl (Nat.le_of_ble_eq_true rfl) rfl rfl rfl rfl (c_plus (by omega) (by omega) (by omega) L00_l S00_l (S00_at a)) (Nat.le_of_ble_eq_true rfl) (by omega) rfl (by omega) (Nat.le_of_ble_eq_true rfl) (fun v h1 e => ?_)
      obtain ⟨rfl, L', x', rfl, h1, -⟩ := e
      refine blk_go ob_203 (fun _ => false) 30 ?_
      refine vM (idx := 120) (mj := 171) (q := 1) (n := 4) [.ref 0, .int (nI 53)] ((ob_203.1 78).trans rfl) rfl rfl (Nat.le_of_ble_eq_true rfl) rfl rfl rfl rfl (c_height (by omega) h1) (Nat.le_of_ble_eq_true rfl) (by omega) rfl (by omega) (Nat.le_of_ble_eq_true rfl) (fun v h1 e => ?_)
      obtain ⟨rfl, u4, rfl, -⟩ := e
      refine blk_go ob_203 (fun pc => Nat.beq pc 94) 30 ?_
      (conv => whnf); refine ⟨fun hc => ?_, fun hc => ?_⟩
      · exact sum_tail (by omega) (by omega) ht ha hb h1 (by rw [List.length_set]; exact S00_l) (fun h hF => ⟨_, _, rfl, fun _ => ⟨rfl, hF⟩, fun z => absurd hs z⟩)
      · refine vM (idx := 53) (mj := 164) (q := 1) (n := 3) [.ref 0, .int (nI 53)] ((ob_203.1 91).trans rfl) rfl rfl (Nat.le_of_ble_eq_true rfl) rfl rfl rfl rfl (c_zero (by omega) h1 (by rw [List.length_set]; exact S00_l)) (Nat.le_of_ble_eq_true rfl) (by omega) rfl (by omega) (Nat.le_of_ble_eq_true rfl) (fun v h1 e => ?_)
        obtain ⟨rfl, L'', rfl, h2, -⟩ := e
        exact sum_tail (by omega) (by omega) ht ha hb h2 (by rw [List.length_set, List.length_set]; exact S00_l) (fun h hF => ⟨_, _, rfl, fun _ => ⟨rfl, hF⟩, fun z => absurd hs z⟩)
    · (conv => whnf); refine br_f (show ¬ nI 1 = 0 by decide) ?_
      refine vM (idx := 98) (mj := 175) (q := 3) (n := 5) [.ref 0, .int (nI 53), .int (nI a), .int (nI b)] ((ob_203.1 61).trans rfl) rfl rfl (Nat.le_of_ble_eq_true rfl) rfl rfl rfl rfl (c_minus (by omega) (by omega) (by omega) (by omega) L00_l S00_l (S00_at a) (S00_at b)) (Nat.le_of_ble_eq_true rfl) (by omega) rfl (by omega) (Nat.le_of_ble_eq_true rfl) (fun v h1 e => ?_)
      obtain ⟨rfl, L', S', rfl, h1, h2, -⟩ := e
      refine blk_go ob_203 (fun _ => false) 30 ?_
      refine vM (idx := 120) (mj := 171) (q := 1) (n := 4) [.ref 0, .int (nI 53)] ((ob_203.1 78).trans rfl) rfl rfl (Nat.le_of_ble_eq_true rfl) rfl rfl rfl rfl (c_height (by omega) h1) (Nat.le_of_ble_eq_true rfl) (by omega) rfl (by omega) (Nat.le_of_ble_eq_true rfl) (fun v h1 e => ?_)
      obtain ⟨rfl, u4, rfl, -⟩ := e
      refine blk_go ob_203 (fun pc => Nat.beq pc 94) 30 ?_
      (conv => whnf); refine ⟨fun hc => ?_, fun hc => ?_⟩
      · exact sum_tail (by omega) (by omega) ht ha hb h1 h2 (fun h hF => ⟨_, _, rfl, fun _ => ⟨rfl, hF⟩, fun z => absurd hs z⟩)
      · refine vM (idx := 53) (mj := 164) (q := 1) (n := 3) [.ref 0, .int (nI 53)] ((ob_203.1 91).trans rfl) rfl rfl (Nat.le_of_ble_eq_true rfl) rfl rfl rfl rfl (c_zero (by omega) h1 h2) (Nat.le_of_ble_eq_true rfl) (by omega) rfl (by omega) (Nat.le_of_ble_eq_true rfl) (fun v h1 e => ?_)
        obtain ⟨rfl, L'', rfl, h3, -⟩ := e
        exact sum_tail (by omega) (by omega) ht ha hb h3 (by rw [List.length_set]; exact h2) (fun h hF => ⟨_, _, rfl, fun _ => ⟨rfl, hF⟩, fun z => absurd hs z⟩)
  · refine vM (idx := 217) (mj := 204) (q := 3) (n := 4) [.ref 0, .int x, .int y, .int z] ((ob_203.1 5).trans rfl) rfl rfl (Nat.le_of_ble_eq_true rfl) rfl rfl rfl rfl (c_areSlotsF hs) (Nat.le_of_ble_eq_true rfl) (by omega) rfl (by omega) (Nat.le_of_ble_eq_true rfl) (fun v h1 e => ?_)
    obtain ⟨rfl, rfl⟩ := e
    refine blk_go ob_203 (fun _ => false) 30 ?_
    (conv => whnf); refine br_t (show nI 0 = 0 by decide) ?_
    refine vM (idx := 178) (mj := 155) (q := 1) (n := 2) [.ref 0, .int (nI 1)] ((ob_203.1 16).trans rfl) rfl rfl (Nat.le_of_ble_eq_true rfl) rfl rfl rfl rfl (c_refused1) (Nat.le_of_ble_eq_true rfl) (by omega) rfl (by omega) (Nat.le_of_ble_eq_true rfl) (fun v h1 e => ?_)
    obtain ⟨rfl, rfl⟩ := e
    refine blk_go ob_203 (fun _ => false) 30 ?_
    (conv => whnf); refine br_t (show ¬ nI 1 = 0 by decide) ?_
    exact go_iret ((ob_203.1 32).trans rfl) rfl rfl ⟨_, _, rfl, fun z => absurd z hs, fun _ => ⟨rfl, FA.mH⟩⟩
set_option maxRecDepth 100000 in
set_option maxHeartbeats 4000000 in
theorem m_add (x y z : Int32) : cR 202 5 130 [.ref 0, .int x, .int y, .int z] (mH 0 0 0 0 0 0 [0, 0, 0, 0, 0, 0, 0] [1, 1, 1, 1, 1, 1, 1, 1] [20, 20, 20, 20, 20, 20, 20, 20] [2230, 2230, 2230, 2230, 2230, 2230, 2230, 2230] (List.replicate 49 0) (List.replicate 400 0) L00 S00 C00) (fun v h => (sl x ∧ sl y ∧ sl z → v = some (.int (nI 1)) ∧ FA h (nI 0)) ∧ (¬ (sl x ∧ sl y ∧ sl z) → v = some (.int (nI 0)) ∧ FA h (nI 1))) := by
  intro fb lb hf hl
  refine blk_go ob_202 (fun _ => false) 30 ?_
  refine vM (idx := 224) (mj := 203) (q := 4) (n := 8) [.ref 0, .int x, .int y, .int z, .int (nI 0)] ((ob_202.1 5).trans rfl) rfl rfl (Nat.le_of_ble_eq_true rfl) rfl rfl rfl rfl (m_sum x y z _ (Or.inl rfl)) (Nat.le_of_ble_eq_true rfl) (by omega) rfl (by omega) (Nat.le_of_ble_eq_true rfl) (fun v h1 e => ?_)
  by_cases hs : sl x ∧ sl y ∧ sl z
  · obtain ⟨rfl, hF⟩ := e.1 hs
    refine blk_go ob_202 (fun _ => false) 30 ?_
    exact go_iret ((ob_202.1 8).trans rfl) rfl rfl ⟨_, _, rfl, fun _ => ⟨rfl, hF⟩, fun z => absurd hs z⟩
  · obtain ⟨rfl, hF⟩ := e.2 hs
    refine blk_go ob_202 (fun _ => false) 30 ?_
    exact go_iret ((ob_202.1 8).trans rfl) rfl rfl ⟨_, _, rfl, fun z => absurd z hs, fun _ => ⟨rfl, hF⟩⟩
set_option maxRecDepth 100000 in
set_option maxHeartbeats 4000000 in
theorem m_subtract (x y z : Int32) : cR 208 5 130 [.ref 0, .int x, .int y, .int z] (mH 0 0 0 0 0 0 [0, 0, 0, 0, 0, 0, 0] [1, 1, 1, 1, 1, 1, 1, 1] [20, 20, 20, 20, 20, 20, 20, 20] [2230, 2230, 2230, 2230, 2230, 2230, 2230, 2230] (List.replicate 49 0) (List.replicate 400 0) L00 S00 C00) (fun v h => (sl x ∧ sl y ∧ sl z → v = some (.int (nI 1)) ∧ FA h (nI 0)) ∧ (¬ (sl x ∧ sl y ∧ sl z) → v = some (.int (nI 0)) ∧ FA h (nI 1))) := by
  intro fb lb hf hl
  refine blk_go ob_208 (fun _ => false) 30 ?_
  refine vM (idx := 224) (mj := 203) (q := 4) (n := 8) [.ref 0, .int x, .int y, .int z, .int (nI 1)] ((ob_208.1 5).trans rfl) rfl rfl (Nat.le_of_ble_eq_true rfl) rfl rfl rfl rfl (m_sum x y z _ (Or.inr rfl)) (Nat.le_of_ble_eq_true rfl) (by omega) rfl (by omega) (Nat.le_of_ble_eq_true rfl) (fun v h1 e => ?_)
  by_cases hs : sl x ∧ sl y ∧ sl z
  · obtain ⟨rfl, hF⟩ := e.1 hs
    refine blk_go ob_208 (fun _ => false) 30 ?_
    exact go_iret ((ob_208.1 8).trans rfl) rfl rfl ⟨_, _, rfl, fun _ => ⟨rfl, hF⟩, fun z => absurd hs z⟩
  · obtain ⟨rfl, hF⟩ := e.2 hs
    refine blk_go ob_208 (fun _ => false) 30 ?_
    exact go_iret ((ob_208.1 8).trans rfl) rfl rfl ⟨_, _, rfl, fun z => absurd z hs, fun _ => ⟨rfl, hF⟩⟩
set_option maxRecDepth 100000 in
set_option maxHeartbeats 4000000 in
theorem c_product {a b : Nat} {y : Int32} (ha : a < 8) (hb : b < 8) : cR 210 2 60 [.ref 0, .int (nI a), .int (nI b), .int y] (mH (nI 0) 0 0 0 0 0 [0, 0, 0, 0, 0, 0, 0] [1, 1, 1, 1, 1, 1, 1, 1] [20, 20, 20, 20, 20, 20, 20, 20] [2230, 2230, 2230, 2230, 2230, 2230, 2230, 2230] (List.replicate 49 0) (List.replicate 400 0) L00 S00 C00) (fun v h => ∃ x L' S', v = some (.int x) ∧ h = mH (nI 0) 0 0 0 0 0 [0, 0, 0, 0, 0, 0, 0] [1, 1, 1, 1, 1, 1, 1, 1] [20, 20, 20, 20, 20, 20, 20, 20] [2230, 2230, 2230, 2230, 2230, 2230, 2230, 2230] (List.replicate 49 0) (List.replicate 400 0) L' S' C00 ∧ L'.length = 6000 ∧ S'.length = 60) := by
  intro fb lb hf hl
  refine blk_go ob_210 (fun _ => false) 30 ?_
  refine vM (idx := 95) (mj := 167) (q := 3) (n := 11) [.ref 0, .int (nI 53), .int (nI a), .int (nI b)] ((ob_210.1 5).trans rfl) rfl rfl (Nat.le_of_ble_eq_true rfl) rfl rfl rfl rfl (c_times0 (by omega) (by omega) (by omega) L00_l S00_l (S00_at a)) (Nat.le_of_ble_eq_true rfl) (by omega) rfl (by omega) (Nat.le_of_ble_eq_true rfl) (fun v h1 e => ?_)
  obtain ⟨rfl, L', rfl, h1, -⟩ := e
  refine blk_go ob_210 (fun _ => false) 30 ?_
  (conv => whnf); refine ⟨a, rfl, by simpa using ha, by decide, ?_⟩
  refine vM (idx := 191) (mj := 192) (q := 2) (n := 3) [.ref 0, .int ([2230, 2230, 2230, 2230, 2230, 2230, 2230, 2230].getD a 0), .int y] ((ob_210.1 17).trans rfl) rfl rfl (Nat.le_of_ble_eq_true rfl) rfl rfl rfl rfl (c_lesser) (Nat.le_of_ble_eq_true rfl) (by omega) rfl (by omega) (Nat.le_of_ble_eq_true rfl) (fun v h1 e => ?_)
  obtain ⟨rfl, u, rfl⟩ := e
  refine blk_go ob_210 (fun _ => false) 30 ?_
  refine vM (idx := 120) (mj := 171) (q := 1) (n := 4) [.ref 0, .int (nI 53)] ((ob_210.1 26).trans rfl) rfl rfl (Nat.le_of_ble_eq_true rfl) rfl rfl rfl rfl (c_height (by omega) h1) (Nat.le_of_ble_eq_true rfl) (by omega) rfl (by omega) (Nat.le_of_ble_eq_true rfl) (fun v h1 e => ?_)
  obtain ⟨rfl, u2, rfl, -⟩ := e
  refine blk_go ob_210 (fun _ => false) 30 ?_
  refine vM (idx := 191) (mj := 192) (q := 2) (n := 3) [.ref 0, .int u, .int (nI 2235 + u2)] ((ob_210.1 30).trans rfl) rfl rfl (Nat.le_of_ble_eq_true rfl) rfl rfl rfl rfl (c_lesser) (Nat.le_of_ble_eq_true rfl) (by omega) rfl (by omega) (Nat.le_of_ble_eq_true rfl) (fun v h1 e => ?_)
  obtain ⟨rfl, u3, rfl⟩ := e
  refine blk_go ob_210 (fun _ => false) 30 ?_
  exact go_iret ((ob_210.1 35).trans rfl) rfl (vp_nar_int _) ⟨_, _, rfl, _, L', _, rfl, rfl, h1, by rw [List.length_set]; exact S00_l⟩
set_option maxRecDepth 100000 in
set_option maxHeartbeats 4000000 in
theorem m_multiply (x y z : Int32) : cR 209 4 110 [.ref 0, .int x, .int y, .int z] (mH 0 0 0 0 0 0 [0, 0, 0, 0, 0, 0, 0] [1, 1, 1, 1, 1, 1, 1, 1] [20, 20, 20, 20, 20, 20, 20, 20] [2230, 2230, 2230, 2230, 2230, 2230, 2230, 2230] (List.replicate 49 0) (List.replicate 400 0) L00 S00 C00) (fun v h => (sl x ∧ sl y ∧ sl z → v = some (.int (nI 1)) ∧ FA h (nI 0)) ∧ (¬ (sl x ∧ sl y ∧ sl z) → v = some (.int (nI 0)) ∧ FA h (nI 1))) := by
  intro fb lb hf hl
  refine blk_go ob_209 (fun _ => false) 30 ?_
  by_cases hs : sl x ∧ sl y ∧ sl z
  · obtain ⟨hx, hy, hz⟩ := id hs
    refine vM (idx := 217) (mj := 204) (q := 3) (n := 4) [.ref 0, .int x, .int y, .int z] ((ob_209.1 5).trans rfl) rfl rfl (Nat.le_of_ble_eq_true rfl) rfl rfl rfl rfl (c_areSlotsT hx hy hz) (Nat.le_of_ble_eq_true rfl) (by omega) rfl (by omega) (Nat.le_of_ble_eq_true rfl) (fun v h1 e => ?_)
    obtain ⟨rfl, rfl⟩ := e
    refine blk_go ob_209 (fun _ => false) 30 ?_
    (conv => whnf); refine br_f (show ¬ nI 1 = 0 by decide) ?_
    refine vM (idx := 178) (mj := 155) (q := 1) (n := 2) [.ref 0, .int (nI 0)] ((ob_209.1 16).trans rfl) rfl rfl (Nat.le_of_ble_eq_true rfl) rfl rfl rfl rfl (c_refused0) (Nat.le_of_ble_eq_true rfl) (by omega) rfl (by omega) (Nat.le_of_ble_eq_true rfl) (fun v h1 e => ?_)
    obtain ⟨rfl, rfl⟩ := e
    refine blk_go ob_209 (fun _ => false) 30 ?_
    (conv => whnf); refine br_f (show ¬ ¬ nI 0 = 0 by decide) ?_
    obtain ⟨t, ht, rfl⟩ := id hx
    obtain ⟨a, ha, rfl⟩ := id hy
    obtain ⟨b, hb, rfl⟩ := id hz
    refine vM (idx := 220) (mj := 205) (q := 2) (n := 3) [.ref 0, .int (nI a), .int (nI b)] ((ob_209.1 25).trans rfl) rfl rfl (Nat.le_of_ble_eq_true rfl) rfl rfl rfl rfl (c_fits ha hb) (Nat.le_of_ble_eq_true rfl) (by omega) rfl (by omega) (Nat.le_of_ble_eq_true rfl) (fun v h1 e => ?_)
    obtain ⟨rfl, rfl⟩ := e
    refine blk_go ob_209 (fun _ => false) 30 ?_
    (conv => whnf); refine br_t (show ¬ nI 1 = 0 by decide) ?_
    refine vM (idx := 211) (mj := 206) (q := 2) (n := 3) [.ref 0, .int (nI a), .int (nI b)] ((ob_209.1 36).trans rfl) rfl rfl (Nat.le_of_ble_eq_true rfl) rfl rfl rfl rfl (c_weightOf ha hb) (Nat.le_of_ble_eq_true rfl) (by omega) rfl (by omega) (Nat.le_of_ble_eq_true rfl) (fun v h1 e => ?_)
    obtain ⟨rfl, rfl⟩ := e
    refine blk_go ob_209 (fun _ => false) 30 ?_
    refine vM (idx := 214) (mj := 207) (q := 2) (n := 3) [.ref 0, .int (nI a), .int (nI b)] ((ob_209.1 44).trans rfl) rfl rfl (Nat.le_of_ble_eq_true rfl) rfl rfl rfl rfl (c_sizeOf ha hb) (Nat.le_of_ble_eq_true rfl) (by omega) rfl (by omega) (Nat.le_of_ble_eq_true rfl) (fun v h1 e => ?_)
    obtain ⟨rfl, rfl⟩ := e
    refine blk_go ob_209 (fun _ => false) 30 ?_
    (conv => whnf); refine ⟨b, rfl, by simpa using hb, by decide, ?_⟩
    refine vM (idx := 228) (mj := 210) (q := 3) (n := 4) [.ref 0, .int (nI a), .int (nI b), .int ([2230, 2230, 2230, 2230, 2230, 2230, 2230, 2230].getD b 0)] ((ob_209.1 58).trans rfl) rfl rfl (Nat.le_of_ble_eq_true rfl) rfl rfl rfl rfl (c_product ha hb) (Nat.le_of_ble_eq_true rfl) (by omega) rfl (by omega) (Nat.le_of_ble_eq_true rfl) (fun v h1 e => ?_)
    obtain ⟨u, L', S', rfl, rfl, h1, h2⟩ := e
    refine blk_go ob_209 (fun _ => false) 30 ?_
    refine vM (idx := 203) (mj := 196) (q := 5) (n := 6) [.ref 0, .int (nI t), .int (nI 53), .int 1, .int 53, .int u] ((ob_209.1 73).trans rfl) rfl rfl (Nat.le_of_ble_eq_true rfl) rfl rfl rfl rfl (c_tell ht (by omega) h1 h2 ⟨rfl, rfl, rfl⟩) (Nat.le_of_ble_eq_true rfl) (by omega) rfl (by omega) (Nat.le_of_ble_eq_true rfl) (fun v h1 e => ?_)
    obtain ⟨rfl, L'', x'', u'', rfl, h3⟩ := e
    refine blk_go ob_209 (fun _ => false) 30 ?_
    exact go_iret ((ob_209.1 77).trans rfl) rfl rfl ⟨_, _, rfl, fun _ => ⟨rfl, FA.mH⟩, fun z => absurd hs z⟩
  · refine vM (idx := 217) (mj := 204) (q := 3) (n := 4) [.ref 0, .int x, .int y, .int z] ((ob_209.1 5).trans rfl) rfl rfl (Nat.le_of_ble_eq_true rfl) rfl rfl rfl rfl (c_areSlotsF hs) (Nat.le_of_ble_eq_true rfl) (by omega) rfl (by omega) (Nat.le_of_ble_eq_true rfl) (fun v h1 e => ?_)
    obtain ⟨rfl, rfl⟩ := e
    refine blk_go ob_209 (fun _ => false) 30 ?_
    (conv => whnf); refine br_t (show nI 0 = 0 by decide) ?_
    refine vM (idx := 178) (mj := 155) (q := 1) (n := 2) [.ref 0, .int (nI 1)] ((ob_209.1 16).trans rfl) rfl rfl (Nat.le_of_ble_eq_true rfl) rfl rfl rfl rfl (c_refused1) (Nat.le_of_ble_eq_true rfl) (by omega) rfl (by omega) (Nat.le_of_ble_eq_true rfl) (fun v h1 e => ?_)
    obtain ⟨rfl, rfl⟩ := e
    refine blk_go ob_209 (fun _ => false) 30 ?_
    (conv => whnf); refine br_t (show ¬ nI 1 = 0 by decide) ?_
    exact go_iret ((ob_209.1 32).trans rfl) rfl rfl ⟨_, _, rfl, fun z => absurd z hs, fun _ => ⟨rfl, FA.mH⟩⟩
set_option maxRecDepth 100000 in
set_option maxHeartbeats 4000000 in
theorem m_divide (x y z : Int32) : cR 211 2 50 [.ref 0, .int x, .int y, .int z] (mH 0 0 0 0 0 0 [0, 0, 0, 0, 0, 0, 0] [1, 1, 1, 1, 1, 1, 1, 1] [20, 20, 20, 20, 20, 20, 20, 20] [2230, 2230, 2230, 2230, 2230, 2230, 2230, 2230] (List.replicate 49 0) (List.replicate 400 0) L00 S00 C00) (fun v h => (sl x ∧ sl y ∧ sl z → FA h (nI 2)) ∧ (¬ (sl x ∧ sl y ∧ sl z) → FA h (nI 1))) := by
  intro fb lb hf hl
  refine blk_go ob_211 (fun _ => false) 30 ?_
  by_cases hs : sl x ∧ sl y ∧ sl z
  · obtain ⟨hx, hy, hz⟩ := id hs
    refine vM (idx := 217) (mj := 204) (q := 3) (n := 4) [.ref 0, .int x, .int y, .int z] ((ob_211.1 5).trans rfl) rfl rfl (Nat.le_of_ble_eq_true rfl) rfl rfl rfl rfl (c_areSlotsT hx hy hz) (Nat.le_of_ble_eq_true rfl) (by omega) rfl (by omega) (Nat.le_of_ble_eq_true rfl) (fun v h1 e => ?_)
    obtain ⟨rfl, rfl⟩ := e
    refine blk_go ob_211 (fun _ => false) 30 ?_
    (conv => whnf); refine br_t (show ¬ nI 1 = 0 by decide) ?_
    obtain ⟨b, hb, rfl⟩ := id hz
    (conv => whnf); refine ⟨b, rfl, (by rw [S00_l]; omega), (by rw [S00_l]; decide), ?_⟩
    (conv => whnf); refine br_f (show ¬ ¬ S00.getD b 0 = 0 by rw [S00_at]; decide) ?_
    refine vM (idx := 178) (mj := 155) (q := 1) (n := 2) [.ref 0, .int (nI 2)] ((ob_211.1 29).trans rfl) rfl rfl (Nat.le_of_ble_eq_true rfl) rfl rfl rfl rfl (c_refused2) (Nat.le_of_ble_eq_true rfl) (by omega) rfl (by omega) (Nat.le_of_ble_eq_true rfl) (fun v h1 e => ?_)
    obtain ⟨rfl, rfl⟩ := e
    refine blk_go ob_211 (fun _ => false) 30 ?_
    (conv => whnf); refine br_t (show ¬ nI 1 = 0 by decide) ?_
    exact go_iret ((ob_211.1 45).trans rfl) rfl rfl ⟨_, _, rfl, fun _ => FA.mH, fun z => absurd hs z⟩
  · refine vM (idx := 217) (mj := 204) (q := 3) (n := 4) [.ref 0, .int x, .int y, .int z] ((ob_211.1 5).trans rfl) rfl rfl (Nat.le_of_ble_eq_true rfl) rfl rfl rfl rfl (c_areSlotsF hs) (Nat.le_of_ble_eq_true rfl) (by omega) rfl (by omega) (Nat.le_of_ble_eq_true rfl) (fun v h1 e => ?_)
    obtain ⟨rfl, rfl⟩ := e
    refine blk_go ob_211 (fun _ => false) 30 ?_
    (conv => whnf); refine br_f (show ¬ ¬ nI 0 = 0 by decide) ?_
    refine vM (idx := 178) (mj := 155) (q := 1) (n := 2) [.ref 0, .int (nI 1)] ((ob_211.1 29).trans rfl) rfl rfl (Nat.le_of_ble_eq_true rfl) rfl rfl rfl rfl (c_refused1) (Nat.le_of_ble_eq_true rfl) (by omega) rfl (by omega) (Nat.le_of_ble_eq_true rfl) (fun v h1 e => ?_)
    obtain ⟨rfl, rfl⟩ := e
    refine blk_go ob_211 (fun _ => false) 30 ?_
    (conv => whnf); refine br_t (show ¬ nI 1 = 0 by decide) ?_
    exact go_iret ((ob_211.1 45).trans rfl) rfl rfl ⟨_, _, rfl, fun z => absurd z hs, fun _ => FA.mH⟩
set_option maxRecDepth 100000 in
set_option maxHeartbeats 4000000 in
theorem m_invert (x y : Int32) : cR 200 1 30 [.ref 0, .int x, .int y] (mH 0 0 0 0 0 0 [0, 0, 0, 0, 0, 0, 0] [1, 1, 1, 1, 1, 1, 1, 1] [20, 20, 20, 20, 20, 20, 20, 20] [2230, 2230, 2230, 2230, 2230, 2230, 2230, 2230] (List.replicate 49 0) (List.replicate 400 0) L00 S00 C00) (fun v h => v = none ∧ (sl x ∧ sl y → FA h (nI 2)) ∧ (¬ (sl x ∧ sl y) → FA h (nI 1))) := by
  intro fb lb hf hl
  refine blk_go ob_200 (fun _ => false) 30 ?_
  by_cases hx : sl x
  · refine vS (idx := 194) (mj := 186) (q := 1) (n := 1) [.int x] ((ob_200.1 2).trans rfl) rfl (Nat.le_of_ble_eq_true rfl) rfl rfl (c_isSlotT hx) (Nat.le_of_ble_eq_true rfl) (by omega) rfl (by omega) (Nat.le_of_ble_eq_true rfl) (fun v h1 e => ?_)
    obtain ⟨rfl, rfl⟩ := e
    refine blk_go ob_200 (fun _ => false) 30 ?_
    (conv => whnf); refine br_f (show ¬ nI 1 = 0 by decide) ?_
    by_cases hy : sl y
    · refine vS (idx := 194) (mj := 186) (q := 1) (n := 1) [.int y] ((ob_200.1 9).trans rfl) rfl (Nat.le_of_ble_eq_true rfl) rfl rfl (c_isSlotT hy) (Nat.le_of_ble_eq_true rfl) (by omega) rfl (by omega) (Nat.le_of_ble_eq_true rfl) (fun v h1 e => ?_)
      obtain ⟨rfl, rfl⟩ := e
      refine blk_go ob_200 (fun _ => false) 30 ?_
      (conv => whnf); refine br_t (show ¬ nI 1 = 0 by decide) ?_
      obtain ⟨b, hb, rfl⟩ := id hy
      (conv => whnf); refine ⟨b, rfl, (by rw [S00_l]; omega), (by rw [S00_l]; decide), ?_⟩
      (conv => whnf); refine br_f (show ¬ ¬ S00.getD b 0 = 0 by rw [S00_at]; decide) ?_
      refine vM (idx := 178) (mj := 155) (q := 1) (n := 2) [.ref 0, .int (nI 2)] ((ob_200.1 33).trans rfl) rfl rfl (Nat.le_of_ble_eq_true rfl) rfl rfl rfl rfl (c_refused2) (Nat.le_of_ble_eq_true rfl) (by omega) rfl (by omega) (Nat.le_of_ble_eq_true rfl) (fun v h1 e => ?_)
      obtain ⟨rfl, rfl⟩ := e
      refine blk_go ob_200 (fun _ => false) 30 ?_
      (conv => whnf); refine br_f (show ¬ nI 1 = 0 by decide) ?_
      exact go_vret ((ob_200.1 39).trans rfl) rfl ⟨_, _, rfl, rfl, fun _ => FA.mH, fun z => absurd ⟨hx, hy⟩ z⟩
    · refine vS (idx := 194) (mj := 186) (q := 1) (n := 1) [.int y] ((ob_200.1 9).trans rfl) rfl (Nat.le_of_ble_eq_true rfl) rfl rfl (c_isSlotF hy) (Nat.le_of_ble_eq_true rfl) (by omega) rfl (by omega) (Nat.le_of_ble_eq_true rfl) (fun v h1 e => ?_)
      obtain ⟨rfl, rfl⟩ := e
      refine blk_go ob_200 (fun _ => false) 30 ?_
      (conv => whnf); refine br_f (show ¬ ¬ nI 0 = 0 by decide) ?_
      refine vM (idx := 178) (mj := 155) (q := 1) (n := 2) [.ref 0, .int (nI 1)] ((ob_200.1 33).trans rfl) rfl rfl (Nat.le_of_ble_eq_true rfl) rfl rfl rfl rfl (c_refused1) (Nat.le_of_ble_eq_true rfl) (by omega) rfl (by omega) (Nat.le_of_ble_eq_true rfl) (fun v h1 e => ?_)
      obtain ⟨rfl, rfl⟩ := e
      refine blk_go ob_200 (fun _ => false) 30 ?_
      (conv => whnf); refine br_f (show ¬ nI 1 = 0 by decide) ?_
      exact go_vret ((ob_200.1 39).trans rfl) rfl ⟨_, _, rfl, rfl, fun z => absurd z.2 hy, fun _ => FA.mH⟩
  · refine vS (idx := 194) (mj := 186) (q := 1) (n := 1) [.int x] ((ob_200.1 2).trans rfl) rfl (Nat.le_of_ble_eq_true rfl) rfl rfl (c_isSlotF hx) (Nat.le_of_ble_eq_true rfl) (by omega) rfl (by omega) (Nat.le_of_ble_eq_true rfl) (fun v h1 e => ?_)
    obtain ⟨rfl, rfl⟩ := e
    refine blk_go ob_200 (fun _ => false) 30 ?_
    (conv => whnf); refine br_t (show nI 0 = 0 by decide) ?_
    refine vM (idx := 178) (mj := 155) (q := 1) (n := 2) [.ref 0, .int (nI 1)] ((ob_200.1 33).trans rfl) rfl rfl (Nat.le_of_ble_eq_true rfl) rfl rfl rfl rfl (c_refused1) (Nat.le_of_ble_eq_true rfl) (by omega) rfl (by omega) (Nat.le_of_ble_eq_true rfl) (fun v h1 e => ?_)
    obtain ⟨rfl, rfl⟩ := e
    refine blk_go ob_200 (fun _ => false) 30 ?_
    (conv => whnf); refine br_f (show ¬ nI 1 = 0 by decide) ?_
    exact go_vret ((ob_200.1 39).trans rfl) rfl ⟨_, _, rfl, rfl, fun z => absurd z.1 hx, fun _ => FA.mH⟩
def cv (i v : Int32) : Prop := ¬ i < 0 ∧ ¬ nI 6 < i ∧ ¬ v < -nI 1000 ∧ v ≤ nI 1000
set_option maxRecDepth 100000 in
set_option maxHeartbeats 4000000 in
theorem m_coefficient (i v0 : Int32) : cR 154 1 25 [.ref 0, .int i, .int v0] (mH 0 0 0 0 0 0 [0, 0, 0, 0, 0, 0, 0] [1, 1, 1, 1, 1, 1, 1, 1] [20, 20, 20, 20, 20, 20, 20, 20] [2230, 2230, 2230, 2230, 2230, 2230, 2230, 2230] (List.replicate 49 0) (List.replicate 400 0) L00 S00 C00) (fun v h => v = some (.int 0) ∧ (cv i v0 → FA h (nI 0)) ∧ (¬ cv i v0 → FA h (nI 1))) := by
  intro fb lb hf hl
  refine blk_go ob_154 (fun _ => false) 30 ?_
  (conv => whnf); refine ⟨fun c1 => ?_, fun c1 => ?_⟩
  · refine vM (idx := 178) (mj := 155) (q := 1) (n := 2) [.ref 0, .int (nI 1)] ((ob_154.1 30).trans rfl) rfl rfl (Nat.le_of_ble_eq_true rfl) rfl rfl rfl rfl (c_refused1) (Nat.le_of_ble_eq_true rfl) (by omega) rfl (by omega) (Nat.le_of_ble_eq_true rfl) (fun v h1 e => ?_)
    obtain ⟨rfl, rfl⟩ := e
    refine blk_go ob_154 (fun _ => false) 30 ?_
    (conv => whnf); refine br_f (show ¬ nI 1 = 0 by decide) ?_
    exact go_iret ((ob_154.1 37).trans rfl) rfl (vp_nar_int _) ⟨_, _, rfl, rfl, fun z => absurd c1 z.1, fun _ => FA.mH⟩
  (conv => whnf); refine ⟨fun c2 => ?_, fun c2 => ?_⟩
  · refine vM (idx := 178) (mj := 155) (q := 1) (n := 2) [.ref 0, .int (nI 1)] ((ob_154.1 30).trans rfl) rfl rfl (Nat.le_of_ble_eq_true rfl) rfl rfl rfl rfl (c_refused1) (Nat.le_of_ble_eq_true rfl) (by omega) rfl (by omega) (Nat.le_of_ble_eq_true rfl) (fun v h1 e => ?_)
    obtain ⟨rfl, rfl⟩ := e
    refine blk_go ob_154 (fun _ => false) 30 ?_
    (conv => whnf); refine br_f (show ¬ nI 1 = 0 by decide) ?_
    exact go_iret ((ob_154.1 37).trans rfl) rfl (vp_nar_int _) ⟨_, _, rfl, rfl, fun z => absurd c2 z.2.1, fun _ => FA.mH⟩
  (conv => whnf); refine ⟨fun c3 => ?_, fun c3 => ?_⟩
  · refine vM (idx := 178) (mj := 155) (q := 1) (n := 2) [.ref 0, .int (nI 1)] ((ob_154.1 30).trans rfl) rfl rfl (Nat.le_of_ble_eq_true rfl) rfl rfl rfl rfl (c_refused1) (Nat.le_of_ble_eq_true rfl) (by omega) rfl (by omega) (Nat.le_of_ble_eq_true rfl) (fun v h1 e => ?_)
    obtain ⟨rfl, rfl⟩ := e
    refine blk_go ob_154 (fun _ => false) 30 ?_
    (conv => whnf); refine br_f (show ¬ nI 1 = 0 by decide) ?_
    exact go_iret ((ob_154.1 37).trans rfl) rfl (vp_nar_int _) ⟨_, _, rfl, rfl, fun z => absurd c3 z.2.2.1, fun _ => FA.mH⟩
  (conv => whnf); refine ⟨fun c4 => ?_, fun c4 => ?_⟩
  · refine vM (idx := 178) (mj := 155) (q := 1) (n := 2) [.ref 0, .int (nI 0)] ((ob_154.1 30).trans rfl) rfl rfl (Nat.le_of_ble_eq_true rfl) rfl rfl rfl rfl (c_refused0) (Nat.le_of_ble_eq_true rfl) (by omega) rfl (by omega) (Nat.le_of_ble_eq_true rfl) (fun v h1 e => ?_)
    obtain ⟨rfl, rfl⟩ := e
    refine blk_go ob_154 (fun _ => false) 60 ?_
    (conv => whnf); refine br_t (show nI 0 = 0 by decide) ?_
    obtain ⟨j, hj, rfl⟩ : ∃ j, j < 7 ∧ i = nI j := by
      rcases pk_ix i (n := 7) (by decide) with q | q | q
      · exact absurd q c1
      · exact absurd (show nI 6 < i from Int32.lt_of_lt_of_le (show nI 6 < nI 7 by decide) q) c2
      · exact q
    (conv => whnf); refine ⟨j, rfl, by simpa using hj, by decide, ?_⟩
    (conv => whnf); refine ⟨j, rfl, by simpa using hj, by decide, ?_⟩
    (conv => whnf); refine ⟨⟨rfl, rfl⟩, ?_⟩
    refine go_iret ((ob_154.1 58).trans rfl) rfl (vp_nar_int _) ⟨_, _, rfl, ?_, fun _ => FA.mH, fun z => absurd ⟨c1, c2, c3, c4⟩ z⟩
    have : ∀ j, j < 7 → ([0, 0, 0, 0, 0, 0, 0] : List Int32).getD j 0 = 0 := by decide
    show some (Value.int (List.getD _ j 0)) = _
    rw [this j hj]
  · refine vM (idx := 178) (mj := 155) (q := 1) (n := 2) [.ref 0, .int (nI 1)] ((ob_154.1 30).trans rfl) rfl rfl (Nat.le_of_ble_eq_true rfl) rfl rfl rfl rfl (c_refused1) (Nat.le_of_ble_eq_true rfl) (by omega) rfl (by omega) (Nat.le_of_ble_eq_true rfl) (fun v h1 e => ?_)
    obtain ⟨rfl, rfl⟩ := e
    refine blk_go ob_154 (fun _ => false) 30 ?_
    (conv => whnf); refine br_f (show ¬ nI 1 = 0 by decide) ?_
    exact go_iret ((ob_154.1 37).trans rfl) rfl (vp_nar_int _) ⟨_, _, rfl, rfl, fun z => absurd z.2.2.2 c4, fun _ => FA.mH⟩
