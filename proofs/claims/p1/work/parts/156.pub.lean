/-! the reference's public methods on its fresh cells -/
def sl (x : Int32) : Prop := ∃ j, j < 8 ∧ x = nI j
theorem sl_no {x : Int32} (h : ¬ sl x) : x < 0 ∨ nI 8 ≤ x := by
  rcases pk_ix x (n := 8) (by decide) with q | q | q
  · exact Or.inl q
  · exact Or.inr q
  · exact absurd q h
theorem c_isSlotT {x : Int32} {h : xH} (hx : sl x) : cR 186 0 0 [.int x] h (fun v h' => h' = h ∧ v = some (.int (nI 1))) := c_isSlot.weak (fun v h1 z => by
  obtain ⟨e, q | ⟨q, -⟩⟩ := z
  · exact ⟨e, q.2⟩
  · obtain ⟨j, h1, rfl⟩ := hx
    rcases q with q | q
    · exact absurd q (nI_pos (by omega))
    · exact absurd q (nI_ge h1 (by decide)))
theorem c_isSlotF {x : Int32} {h : xH} (hx : ¬ sl x) : cR 186 0 0 [.int x] h (fun v h' => h' = h ∧ v = some (.int (nI 0))) := c_isSlot.weak (fun v h1 z => by
  obtain ⟨e, q | q⟩ := z
  · exact absurd q.1 hx
  · exact ⟨e, q.2⟩)
theorem w0_at {a : Nat} (h : a < 8) : ([1, 1, 1, 1, 1, 1, 1, 1] : List Int32).getD a 0 = 1 := by
  have : ∀ a, a < 8 → ([1, 1, 1, 1, 1, 1, 1, 1] : List Int32).getD a 0 = 1 := by decide
  exact this a h
theorem z0_at {a : Nat} (h : a < 8) : ([20, 20, 20, 20, 20, 20, 20, 20] : List Int32).getD a 0 = 20 := by
  have : ∀ a, a < 8 → ([20, 20, 20, 20, 20, 20, 20, 20] : List Int32).getD a 0 = 20 := by decide
  exact this a h
theorem L00_at (j : Nat) : L00.getD j 0 = 0 := by
  unfold L00
  rw [List.getD_eq_getElem?_getD, List.getElem?_replicate]
  split <;> rfl
theorem S00_at (j : Nat) : S00.getD j 0 = nI 0 := by
  unfold S00
  rw [List.getD_eq_getElem?_getD, List.getElem?_replicate]
  split <;> rfl
theorem L00_z (r : Nat) : Zr r L00 := fun i _ => L00_at _
theorem L00_l : L00.length = 6000 := List.length_replicate
theorem S00_l : S00.length = 60 := List.length_replicate
section MDL
variable {fa fr kn dg rc pr : Int32} {co we si ex : List Int32} {le : List Int64} {tx : List Int32} {L C : List Int64} {S : List Int32}
theorem c_refused0 : cR 155 0 0 [.ref 0, .int (nI 0)] (mH fa fr kn dg rc pr co we si ex le tx L S C) (fun v h => h = mH (nI 0) fr kn dg rc pr co we si ex le tx L S C ∧ v = some (.int (nI 0))) := c_refused.weak (fun v h z => ⟨z.1, by rw [z.2, if_pos (by decide)]⟩)
theorem c_refused1 : cR 155 0 0 [.ref 0, .int (nI 1)] (mH fa fr kn dg rc pr co we si ex le tx L S C) (fun v h => h = mH (nI 1) fr kn dg rc pr co we si ex le tx L S C ∧ v = some (.int (nI 1))) := c_refused.weak (fun v h z => ⟨z.1, by rw [z.2, if_neg (by decide)]⟩)
theorem c_refused2 : cR 155 0 0 [.ref 0, .int (nI 2)] (mH fa fr kn dg rc pr co we si ex le tx L S C) (fun v h => h = mH (nI 2) fr kn dg rc pr co we si ex le tx L S C ∧ v = some (.int (nI 1))) := c_refused.weak (fun v h z => ⟨z.1, by rw [z.2, if_neg (by decide)]⟩)
set_option maxRecDepth 100000 in
theorem c_weightOf {a b : Nat} (ha : a < 8) (hb : b < 8) : cR 206 0 0 [.ref 0, .int (nI a), .int (nI b)] (mH fa 0 kn dg rc pr co [1, 1, 1, 1, 1, 1, 1, 1] si ex le tx L S C) (fun v h => h = mH fa 0 kn dg rc pr co [1, 1, 1, 1, 1, 1, 1, 1] si ex le tx L S C ∧ v = some (.int 1)) := by
  intro fb lb _ _
  refine blk_go ob_206 (fun _ => false) 30 ?_
  (conv => whnf); refine ⟨a, rfl, by simpa using ha, by decide, ?_⟩
  (conv => whnf); refine ⟨b, rfl, by simpa using hb, by decide, ?_⟩
  refine go_iret ((ob_206.1 13).trans rfl) rfl (vp_nar_int _) ⟨_, _, rfl, rfl, ?_⟩
  show some (Value.int (_ * _)) = _
  rw [w0_at ha, w0_at hb]
  rfl
set_option maxRecDepth 100000 in
theorem c_sizeOf {a b : Nat} (ha : a < 8) (hb : b < 8) : cR 207 0 0 [.ref 0, .int (nI a), .int (nI b)] (mH fa 0 kn dg rc pr co [1, 1, 1, 1, 1, 1, 1, 1] [20, 20, 20, 20, 20, 20, 20, 20] ex le tx L S C) (fun v h => h = mH fa 0 kn dg rc pr co [1, 1, 1, 1, 1, 1, 1, 1] [20, 20, 20, 20, 20, 20, 20, 20] ex le tx L S C ∧ v = some (.int 53)) := by
  intro fb lb _ _
  refine blk_go ob_207 (fun _ => false) 60 ?_
  (conv => whnf); refine ⟨b, rfl, by simpa using hb, by decide, ?_⟩
  (conv => whnf); refine ⟨a, rfl, by simpa using ha, by decide, ?_⟩
  (conv => whnf); refine ⟨a, rfl, by simpa using ha, by decide, ?_⟩
  (conv => whnf); refine ⟨b, rfl, by simpa using hb, by decide, ?_⟩
  (conv => whnf); refine ⟨b, rfl, by simpa using hb, by decide, ?_⟩
  refine go_iret ((ob_207.1 40).trans rfl) rfl (vp_nar_int _) ⟨_, _, rfl, rfl, ?_⟩
  show some (Value.int (_ * (_ + nI 6) + _ * (_ + _ + nI 6))) = _
  rw [w0_at ha, w0_at hb, z0_at ha, z0_at hb]
  rfl
set_option maxRecDepth 100000 in
theorem c_fits {a b : Nat} (ha : a < 8) (hb : b < 8) : cR 205 1 22 [.ref 0, .int (nI a), .int (nI b)] (mH fa 0 kn dg rc pr co [1, 1, 1, 1, 1, 1, 1, 1] [20, 20, 20, 20, 20, 20, 20, 20] ex le tx L S C) (fun v h => h = mH fa 0 kn dg rc pr co [1, 1, 1, 1, 1, 1, 1, 1] [20, 20, 20, 20, 20, 20, 20, 20] ex le tx L S C ∧ v = some (.int (nI 1))) := by
  intro fb lb _ _
  refine blk_go ob_205 (fun _ => false) 30 ?_
  refine vM (idx := 211) (mj := 206) (q := 2) (n := 3) [.ref 0, .int (nI a), .int (nI b)] ((ob_205.1 3).trans rfl) rfl rfl (Nat.le_of_ble_eq_true rfl) rfl rfl rfl rfl (c_weightOf ha hb) (Nat.le_of_ble_eq_true rfl) (by omega) rfl (by omega) (Nat.le_of_ble_eq_true rfl) (fun v h1 e => ?_)
  obtain ⟨rfl, rfl⟩ := e
  refine blk_go ob_205 (fun _ => false) 30 ?_
  (conv => whnf); refine br_f (show ¬ nI 6 < 1 by decide) ?_
  refine vM (idx := 214) (mj := 207) (q := 2) (n := 3) [.ref 0, .int (nI a), .int (nI b)] ((ob_205.1 14).trans rfl) rfl rfl (Nat.le_of_ble_eq_true rfl) rfl rfl rfl rfl (c_sizeOf ha hb) (Nat.le_of_ble_eq_true rfl) (by omega) rfl (by omega) (Nat.le_of_ble_eq_true rfl) (fun v h1 e => ?_)
  obtain ⟨rfl, rfl⟩ := e
  refine blk_go ob_205 (fun _ => false) 30 ?_
  (conv => whnf); refine br_f (show ¬ nI 130 < 53 by decide) ?_
  exact go_iret ((ob_205.1 28).trans rfl) rfl rfl ⟨_, _, rfl, rfl, rfl⟩
set_option maxRecDepth 100000 in
theorem c_areSlotsT {x y z : Int32} {vs : List Value} {t : xH} (hx : sl x) (hy : sl y) (hz : sl z) : cR 204 1 20 [.ref 0, .int x, .int y, .int z] (.inl (12, vs) :: t) (fun v h => h = .inl (12, vs) :: t ∧ v = some (.int (nI 1))) := by
  intro fb lb _ _
  refine blk_go ob_204 (fun _ => false) 30 ?_
  refine vS (idx := 194) (mj := 186) (q := 1) (n := 1) [.int x] ((ob_204.1 1).trans rfl) rfl (Nat.le_of_ble_eq_true rfl) rfl rfl (c_isSlotT hx) (Nat.le_of_ble_eq_true rfl) (by omega) rfl (by omega) (Nat.le_of_ble_eq_true rfl) (fun v h1 e => ?_)
  obtain ⟨rfl, rfl⟩ := e
  refine blk_go ob_204 (fun _ => false) 30 ?_
  (conv => whnf); refine br_f (show ¬ nI 1 = 0 by decide) ?_
  refine vS (idx := 194) (mj := 186) (q := 1) (n := 1) [.int y] ((ob_204.1 8).trans rfl) rfl (Nat.le_of_ble_eq_true rfl) rfl rfl (c_isSlotT hy) (Nat.le_of_ble_eq_true rfl) (by omega) rfl (by omega) (Nat.le_of_ble_eq_true rfl) (fun v h1 e => ?_)
  obtain ⟨rfl, rfl⟩ := e
  refine blk_go ob_204 (fun _ => false) 30 ?_
  (conv => whnf); refine br_f (show ¬ nI 1 = 0 by decide) ?_
  refine vS (idx := 194) (mj := 186) (q := 1) (n := 1) [.int z] ((ob_204.1 15).trans rfl) rfl (Nat.le_of_ble_eq_true rfl) rfl rfl (c_isSlotT hz) (Nat.le_of_ble_eq_true rfl) (by omega) rfl (by omega) (Nat.le_of_ble_eq_true rfl) (fun v h1 e => ?_)
  obtain ⟨rfl, rfl⟩ := e
  refine blk_go ob_204 (fun _ => false) 30 ?_
  (conv => whnf); refine br_f (show ¬ nI 1 = 0 by decide) ?_
  exact go_iret ((ob_204.1 26).trans rfl) rfl rfl ⟨_, _, rfl, rfl, rfl⟩
set_option maxRecDepth 100000 in
theorem c_areSlotsF {x y z : Int32} {vs : List Value} {t : xH} (hn : ¬ (sl x ∧ sl y ∧ sl z)) : cR 204 1 20 [.ref 0, .int x, .int y, .int z] (.inl (12, vs) :: t) (fun v h => h = .inl (12, vs) :: t ∧ v = some (.int (nI 0))) := by
  intro fb lb _ _
  refine blk_go ob_204 (fun _ => false) 30 ?_
  by_cases hx : sl x
  · refine vS (idx := 194) (mj := 186) (q := 1) (n := 1) [.int x] ((ob_204.1 1).trans rfl) rfl (Nat.le_of_ble_eq_true rfl) rfl rfl (c_isSlotT hx) (Nat.le_of_ble_eq_true rfl) (by omega) rfl (by omega) (Nat.le_of_ble_eq_true rfl) (fun v h1 e => ?_)
    obtain ⟨rfl, rfl⟩ := e
    refine blk_go ob_204 (fun _ => false) 30 ?_
    (conv => whnf); refine br_f (show ¬ nI 1 = 0 by decide) ?_
    by_cases hy : sl y
    · refine vS (idx := 194) (mj := 186) (q := 1) (n := 1) [.int y] ((ob_204.1 8).trans rfl) rfl (Nat.le_of_ble_eq_true rfl) rfl rfl (c_isSlotT hy) (Nat.le_of_ble_eq_true rfl) (by omega) rfl (by omega) (Nat.le_of_ble_eq_true rfl) (fun v h1 e => ?_)
      obtain ⟨rfl, rfl⟩ := e
      refine blk_go ob_204 (fun _ => false) 30 ?_
      (conv => whnf); refine br_f (show ¬ nI 1 = 0 by decide) ?_
      refine vS (idx := 194) (mj := 186) (q := 1) (n := 1) [.int z] ((ob_204.1 15).trans rfl) rfl (Nat.le_of_ble_eq_true rfl) rfl rfl (c_isSlotF (fun hz => hn ⟨hx, hy, hz⟩)) (Nat.le_of_ble_eq_true rfl) (by omega) rfl (by omega) (Nat.le_of_ble_eq_true rfl) (fun v h1 e => ?_)
      obtain ⟨rfl, rfl⟩ := e
      refine blk_go ob_204 (fun _ => false) 30 ?_
      (conv => whnf); refine br_t (show nI 0 = 0 by decide) ?_
      exact go_iret ((ob_204.1 26).trans rfl) rfl rfl ⟨_, _, rfl, rfl, rfl⟩
    · refine vS (idx := 194) (mj := 186) (q := 1) (n := 1) [.int y] ((ob_204.1 8).trans rfl) rfl (Nat.le_of_ble_eq_true rfl) rfl rfl (c_isSlotF hy) (Nat.le_of_ble_eq_true rfl) (by omega) rfl (by omega) (Nat.le_of_ble_eq_true rfl) (fun v h1 e => ?_)
      obtain ⟨rfl, rfl⟩ := e
      refine blk_go ob_204 (fun _ => false) 30 ?_
      (conv => whnf); refine br_t (show nI 0 = 0 by decide) ?_
      exact go_iret ((ob_204.1 26).trans rfl) rfl rfl ⟨_, _, rfl, rfl, rfl⟩
  · refine vS (idx := 194) (mj := 186) (q := 1) (n := 1) [.int x] ((ob_204.1 1).trans rfl) rfl (Nat.le_of_ble_eq_true rfl) rfl rfl (c_isSlotF hx) (Nat.le_of_ble_eq_true rfl) (by omega) rfl (by omega) (Nat.le_of_ble_eq_true rfl) (fun v h1 e => ?_)
    obtain ⟨rfl, rfl⟩ := e
    refine blk_go ob_204 (fun _ => false) 30 ?_
    (conv => whnf); refine br_t (show nI 0 = 0 by decide) ?_
    exact go_iret ((ob_204.1 26).trans rfl) rfl rfl ⟨_, _, rfl, rfl, rfl⟩
set_option maxRecDepth 100000 in
set_option maxHeartbeats 4000000 in
/-- a product with 0 -/
theorem c_times0 {r a b : Nat} (hr : r < 60) (ha : a < 60) (hb : b < 60) (hL : L.length = 6000) (hS : S.length = 60) (hsa : S.getD a 0 = nI 0) : cR 167 1 22 [.ref 0, .int (nI r), .int (nI a), .int (nI b)] (mH fa 0 kn dg rc pr co we si ex le tx L S C) (fun v h => v = none ∧ ∃ L', h = mH fa 0 kn dg rc pr co we si ex le tx L' (S.set r (nI 0)) C ∧ L'.length = 6000 ∧ Zr r L' ∧ Fr r L L') := by
  intro fb lb hf hl
  refine blk_go ob_167 (fun _ => false) 30 ?_
  refine vM (idx := 65) (mj := 162) (q := 1) (n := 3) [.ref 0, .int (nI a)] ((ob_167.1 2).trans rfl) rfl rfl (Nat.le_of_ble_eq_true rfl) rfl rfl rfl rfl (c_top ha hL) (Nat.le_of_ble_eq_true rfl) (by omega) rfl (by omega) (Nat.le_of_ble_eq_true rfl) (fun v h1 e => ?_)
  obtain ⟨rfl, x, rfl, -⟩ := e
  refine blk_go ob_167 (fun _ => false) 30 ?_
  refine vM (idx := 65) (mj := 162) (q := 1) (n := 3) [.ref 0, .int (nI b)] ((ob_167.1 9).trans rfl) rfl rfl (Nat.le_of_ble_eq_true rfl) rfl rfl rfl rfl (c_top hb hL) (Nat.le_of_ble_eq_true rfl) (by omega) rfl (by omega) (Nat.le_of_ble_eq_true rfl) (fun v h1 e => ?_)
  obtain ⟨rfl, y, rfl, -⟩ := e
  refine blk_go ob_167 (fun _ => false) 30 ?_
  (conv => whnf); refine ⟨a, rfl, by omega, by omega, ?_⟩
  (conv => whnf); refine ⟨b, rfl, by omega, by omega, ?_⟩
  (conv => whnf); refine br_f (show ¬ ¬ S.getD a 0 * S.getD b 0 = 0 by rw [hsa, show nI 0 = 0 from rfl, Int32.zero_mul]; decide) ?_
  refine vM (idx := 53) (mj := 164) (q := 1) (n := 3) [.ref 0, .int (nI r)] ((ob_167.1 36).trans rfl) rfl rfl (Nat.le_of_ble_eq_true rfl) rfl rfl rfl rfl (c_zero hr hL hS) (Nat.le_of_ble_eq_true rfl) (by omega) rfl (by omega) (Nat.le_of_ble_eq_true rfl) (fun v h1 e => ?_)
  obtain ⟨rfl, L', rfl, h1, h2, h3⟩ := e
  exact go_vret ((ob_167.1 39).trans rfl) rfl ⟨none, _, rfl, rfl, L', rfl, h1, h2, h3⟩
end MDL
