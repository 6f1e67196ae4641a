/-! the fresh desk: calls that throw, and others -/
set_option maxRecDepth 100000 in
set_option maxHeartbeats 4000000 in
theorem t_sign (x : Int32) (hn : ¬ (sl x)) : cT 144 8 121 [.ref 0, .int x] H0 "java/lang/IllegalArgumentException" := by
  intro fb lb hf hl
  refine blk_go ob_144 (fun _ => false) 30 ?_
  by_cases hx : sl x
  · obtain ⟨jx, hjx, rfl⟩ := id hx
    refine vB (idx := 101) (mj := 78) (q := 1) (n := 2) [.ref 0, .int (nI jx)] ((ob_144.1 2).trans rfl) rfl rfl (Nat.le_of_ble_eq_true rfl) rfl (dk_H0.1) rfl rfl (c_slotT dk_H0 hjx) (Nat.le_of_ble_eq_true rfl) (by omega) rfl (by omega) (Nat.le_of_ble_eq_true rfl) (fun v h1 e => ?_)
    obtain ⟨rfl, rfl⟩ := e
    refine blk_go ob_144 (fun _ => false) 30 ?_
    exact absurd hx hn
  · exact vT (idx := 101) (mj := 78) (q := 1) (n := 2) [.ref 0, .int x] ((ob_144.1 2).trans rfl) rfl rfl (Nat.le_of_ble_eq_true rfl) rfl dk_H0.1 rfl rfl (c_slotF hx) (Nat.le_of_ble_eq_true rfl) (by omega) rfl (by omega) (Nat.le_of_ble_eq_true rfl) (fun h' => ⟨h', rfl⟩)
set_option maxRecDepth 100000 in
set_option maxHeartbeats 4000000 in
theorem t_weight (x : Int32) (hn : ¬ (sl x)) : cT 150 8 121 [.ref 0, .int x] H0 "java/lang/IllegalArgumentException" := by
  intro fb lb hf hl
  refine blk_go ob_150 (fun _ => false) 30 ?_
  by_cases hx : sl x
  · obtain ⟨jx, hjx, rfl⟩ := id hx
    refine vB (idx := 101) (mj := 78) (q := 1) (n := 2) [.ref 0, .int (nI jx)] ((ob_150.1 2).trans rfl) rfl rfl (Nat.le_of_ble_eq_true rfl) rfl (dk_H0.1) rfl rfl (c_slotT dk_H0 hjx) (Nat.le_of_ble_eq_true rfl) (by omega) rfl (by omega) (Nat.le_of_ble_eq_true rfl) (fun v h1 e => ?_)
    obtain ⟨rfl, rfl⟩ := e
    refine blk_go ob_150 (fun _ => false) 30 ?_
    exact absurd hx hn
  · exact vT (idx := 101) (mj := 78) (q := 1) (n := 2) [.ref 0, .int x] ((ob_150.1 2).trans rfl) rfl rfl (Nat.le_of_ble_eq_true rfl) rfl dk_H0.1 rfl rfl (c_slotF hx) (Nat.le_of_ble_eq_true rfl) (by omega) rfl (by omega) (Nat.le_of_ble_eq_true rfl) (fun h' => ⟨h', rfl⟩)
set_option maxRecDepth 100000 in
set_option maxHeartbeats 4000000 in
theorem t_size (x : Int32) (hn : ¬ (sl x)) : cT 151 8 121 [.ref 0, .int x] H0 "java/lang/IllegalArgumentException" := by
  intro fb lb hf hl
  refine blk_go ob_151 (fun _ => false) 30 ?_
  by_cases hx : sl x
  · obtain ⟨jx, hjx, rfl⟩ := id hx
    refine vB (idx := 101) (mj := 78) (q := 1) (n := 2) [.ref 0, .int (nI jx)] ((ob_151.1 2).trans rfl) rfl rfl (Nat.le_of_ble_eq_true rfl) rfl (dk_H0.1) rfl rfl (c_slotT dk_H0 hjx) (Nat.le_of_ble_eq_true rfl) (by omega) rfl (by omega) (Nat.le_of_ble_eq_true rfl) (fun v h1 e => ?_)
    obtain ⟨rfl, rfl⟩ := e
    refine blk_go ob_151 (fun _ => false) 30 ?_
    exact absurd hx hn
  · exact vT (idx := 101) (mj := 78) (q := 1) (n := 2) [.ref 0, .int x] ((ob_151.1 2).trans rfl) rfl rfl (Nat.le_of_ble_eq_true rfl) rfl dk_H0.1 rfl rfl (c_slotF hx) (Nat.le_of_ble_eq_true rfl) (by omega) rfl (by omega) (Nat.le_of_ble_eq_true rfl) (fun h' => ⟨h', rfl⟩)
set_option maxRecDepth 100000 in
set_option maxHeartbeats 4000000 in
theorem t_signAt (x : Int32) (hn : ¬ (sl x)) : cT 94 8 121 [.ref 0, .int x] H0 "java/lang/IllegalArgumentException" := by
  intro fb lb hf hl
  refine blk_go ob_94 (fun _ => false) 30 ?_
  by_cases hx : sl x
  · obtain ⟨jx, hjx, rfl⟩ := id hx
    refine vB (idx := 101) (mj := 78) (q := 1) (n := 2) [.ref 0, .int (nI jx)] ((ob_94.1 2).trans rfl) rfl rfl (Nat.le_of_ble_eq_true rfl) rfl (dk_H0.1) rfl rfl (c_slotT dk_H0 hjx) (Nat.le_of_ble_eq_true rfl) (by omega) rfl (by omega) (Nat.le_of_ble_eq_true rfl) (fun v h1 e => ?_)
    obtain ⟨rfl, rfl⟩ := e
    refine blk_go ob_94 (fun _ => false) 30 ?_
    exact absurd hx hn
  · exact vT (idx := 101) (mj := 78) (q := 1) (n := 2) [.ref 0, .int x] ((ob_94.1 2).trans rfl) rfl rfl (Nat.le_of_ble_eq_true rfl) rfl dk_H0.1 rfl rfl (c_slotF hx) (Nat.le_of_ble_eq_true rfl) (by omega) rfl (by omega) (Nat.le_of_ble_eq_true rfl) (fun h' => ⟨h', rfl⟩)
set_option maxRecDepth 100000 in
set_option maxHeartbeats 4000000 in
theorem t_take (x y : Int32) (hn : ¬ (sl x)) : cT 96 8 121 [.ref 0, .int x, .int y] H0 "java/lang/IllegalArgumentException" := by
  intro fb lb hf hl
  refine blk_go ob_96 (fun _ => false) 30 ?_
  by_cases hx : sl x
  · obtain ⟨jx, hjx, rfl⟩ := id hx
    refine vB (idx := 101) (mj := 78) (q := 1) (n := 2) [.ref 0, .int (nI jx)] ((ob_96.1 2).trans rfl) rfl rfl (Nat.le_of_ble_eq_true rfl) rfl (dk_H0.1) rfl rfl (c_slotT dk_H0 hjx) (Nat.le_of_ble_eq_true rfl) (by omega) rfl (by omega) (Nat.le_of_ble_eq_true rfl) (fun v h1 e => ?_)
    obtain ⟨rfl, rfl⟩ := e
    refine blk_go ob_96 (fun _ => false) 30 ?_
    exact absurd hx hn
  · exact vT (idx := 101) (mj := 78) (q := 1) (n := 2) [.ref 0, .int x] ((ob_96.1 2).trans rfl) rfl rfl (Nat.le_of_ble_eq_true rfl) rfl dk_H0.1 rfl rfl (c_slotF hx) (Nat.le_of_ble_eq_true rfl) (by omega) rfl (by omega) (Nat.le_of_ble_eq_true rfl) (fun h' => ⟨h', rfl⟩)
set_option maxRecDepth 100000 in
set_option maxHeartbeats 4000000 in
theorem t_rootsIn (x y : Int32) (hn : ¬ (sl x ∧ sl y)) : cT 77 8 121 [.ref 0, .int x, .int y] H0 "java/lang/IllegalArgumentException" := by
  intro fb lb hf hl
  refine blk_go ob_77 (fun _ => false) 30 ?_
  by_cases hx : sl x
  · obtain ⟨jx, hjx, rfl⟩ := id hx
    refine vB (idx := 101) (mj := 78) (q := 1) (n := 2) [.ref 0, .int (nI jx)] ((ob_77.1 2).trans rfl) rfl rfl (Nat.le_of_ble_eq_true rfl) rfl (dk_H0.1) rfl rfl (c_slotT dk_H0 hjx) (Nat.le_of_ble_eq_true rfl) (by omega) rfl (by omega) (Nat.le_of_ble_eq_true rfl) (fun v h1 e => ?_)
    obtain ⟨rfl, rfl⟩ := e
    refine blk_go ob_77 (fun _ => false) 30 ?_
    by_cases hy : sl y
    · obtain ⟨jy, hjy, rfl⟩ := id hy
      refine vB (idx := 101) (mj := 78) (q := 1) (n := 2) [.ref 0, .int (nI jy)] ((ob_77.1 8).trans rfl) rfl rfl (Nat.le_of_ble_eq_true rfl) rfl (dk_H0.1) rfl rfl (c_slotT dk_H0 hjy) (Nat.le_of_ble_eq_true rfl) (by omega) rfl (by omega) (Nat.le_of_ble_eq_true rfl) (fun v h1 e => ?_)
      obtain ⟨rfl, rfl⟩ := e
      refine blk_go ob_77 (fun _ => false) 30 ?_
      exact absurd ⟨hx, hy⟩ hn
    · exact vT (idx := 101) (mj := 78) (q := 1) (n := 2) [.ref 0, .int y] ((ob_77.1 8).trans rfl) rfl rfl (Nat.le_of_ble_eq_true rfl) rfl dk_H0.1 rfl rfl (c_slotF hy) (Nat.le_of_ble_eq_true rfl) (by omega) rfl (by omega) (Nat.le_of_ble_eq_true rfl) (fun h' => ⟨h', rfl⟩)
  · exact vT (idx := 101) (mj := 78) (q := 1) (n := 2) [.ref 0, .int x] ((ob_77.1 2).trans rfl) rfl rfl (Nat.le_of_ble_eq_true rfl) rfl dk_H0.1 rfl rfl (c_slotF hx) (Nat.le_of_ble_eq_true rfl) (by omega) rfl (by omega) (Nat.le_of_ble_eq_true rfl) (fun h' => ⟨h', rfl⟩)
set_option maxRecDepth 100000 in
set_option maxHeartbeats 4000000 in
theorem t_copy (x y : Int32) (hn : ¬ (sl x ∧ sl y)) : cT 102 8 121 [.ref 0, .int x, .int y] H0 "java/lang/IllegalArgumentException" := by
  intro fb lb hf hl
  refine blk_go ob_102 (fun _ => false) 30 ?_
  by_cases hx : sl x
  · obtain ⟨jx, hjx, rfl⟩ := id hx
    refine vB (idx := 101) (mj := 78) (q := 1) (n := 2) [.ref 0, .int (nI jx)] ((ob_102.1 2).trans rfl) rfl rfl (Nat.le_of_ble_eq_true rfl) rfl (dk_H0.1) rfl rfl (c_slotT dk_H0 hjx) (Nat.le_of_ble_eq_true rfl) (by omega) rfl (by omega) (Nat.le_of_ble_eq_true rfl) (fun v h1 e => ?_)
    obtain ⟨rfl, rfl⟩ := e
    refine blk_go ob_102 (fun _ => false) 30 ?_
    by_cases hy : sl y
    · obtain ⟨jy, hjy, rfl⟩ := id hy
      refine vB (idx := 101) (mj := 78) (q := 1) (n := 2) [.ref 0, .int (nI jy)] ((ob_102.1 8).trans rfl) rfl rfl (Nat.le_of_ble_eq_true rfl) rfl (dk_H0.1) rfl rfl (c_slotT dk_H0 hjy) (Nat.le_of_ble_eq_true rfl) (by omega) rfl (by omega) (Nat.le_of_ble_eq_true rfl) (fun v h1 e => ?_)
      obtain ⟨rfl, rfl⟩ := e
      refine blk_go ob_102 (fun _ => false) 30 ?_
      exact absurd ⟨hx, hy⟩ hn
    · exact vT (idx := 101) (mj := 78) (q := 1) (n := 2) [.ref 0, .int y] ((ob_102.1 8).trans rfl) rfl rfl (Nat.le_of_ble_eq_true rfl) rfl dk_H0.1 rfl rfl (c_slotF hy) (Nat.le_of_ble_eq_true rfl) (by omega) rfl (by omega) (Nat.le_of_ble_eq_true rfl) (fun h' => ⟨h', rfl⟩)
  · exact vT (idx := 101) (mj := 78) (q := 1) (n := 2) [.ref 0, .int x] ((ob_102.1 2).trans rfl) rfl rfl (Nat.le_of_ble_eq_true rfl) rfl dk_H0.1 rfl rfl (c_slotF hx) (Nat.le_of_ble_eq_true rfl) (by omega) rfl (by omega) (Nat.le_of_ble_eq_true rfl) (fun h' => ⟨h', rfl⟩)
set_option maxRecDepth 100000 in
set_option maxHeartbeats 4000000 in
theorem t_negate (x y : Int32) (hn : ¬ (sl x ∧ sl y)) : cT 103 8 121 [.ref 0, .int x, .int y] H0 "java/lang/IllegalArgumentException" := by
  intro fb lb hf hl
  refine blk_go ob_103 (fun _ => false) 30 ?_
  by_cases hx : sl x
  · obtain ⟨jx, hjx, rfl⟩ := id hx
    refine vB (idx := 101) (mj := 78) (q := 1) (n := 2) [.ref 0, .int (nI jx)] ((ob_103.1 2).trans rfl) rfl rfl (Nat.le_of_ble_eq_true rfl) rfl (dk_H0.1) rfl rfl (c_slotT dk_H0 hjx) (Nat.le_of_ble_eq_true rfl) (by omega) rfl (by omega) (Nat.le_of_ble_eq_true rfl) (fun v h1 e => ?_)
    obtain ⟨rfl, rfl⟩ := e
    refine blk_go ob_103 (fun _ => false) 30 ?_
    by_cases hy : sl y
    · obtain ⟨jy, hjy, rfl⟩ := id hy
      refine vB (idx := 101) (mj := 78) (q := 1) (n := 2) [.ref 0, .int (nI jy)] ((ob_103.1 8).trans rfl) rfl rfl (Nat.le_of_ble_eq_true rfl) rfl (dk_H0.1) rfl rfl (c_slotT dk_H0 hjy) (Nat.le_of_ble_eq_true rfl) (by omega) rfl (by omega) (Nat.le_of_ble_eq_true rfl) (fun v h1 e => ?_)
      obtain ⟨rfl, rfl⟩ := e
      refine blk_go ob_103 (fun _ => false) 30 ?_
      exact absurd ⟨hx, hy⟩ hn
    · exact vT (idx := 101) (mj := 78) (q := 1) (n := 2) [.ref 0, .int y] ((ob_103.1 8).trans rfl) rfl rfl (Nat.le_of_ble_eq_true rfl) rfl dk_H0.1 rfl rfl (c_slotF hy) (Nat.le_of_ble_eq_true rfl) (by omega) rfl (by omega) (Nat.le_of_ble_eq_true rfl) (fun h' => ⟨h', rfl⟩)
  · exact vT (idx := 101) (mj := 78) (q := 1) (n := 2) [.ref 0, .int x] ((ob_103.1 2).trans rfl) rfl rfl (Nat.le_of_ble_eq_true rfl) rfl dk_H0.1 rfl rfl (c_slotF hx) (Nat.le_of_ble_eq_true rfl) (by omega) rfl (by omega) (Nat.le_of_ble_eq_true rfl) (fun h' => ⟨h', rfl⟩)
set_option maxRecDepth 100000 in
set_option maxHeartbeats 4000000 in
theorem t_invert (x y : Int32) (hn : ¬ (sl x ∧ sl y)) : cT 108 8 121 [.ref 0, .int x, .int y] H0 "java/lang/IllegalArgumentException" := by
  intro fb lb hf hl
  refine blk_go ob_108 (fun _ => false) 30 ?_
  by_cases hx : sl x
  · obtain ⟨jx, hjx, rfl⟩ := id hx
    refine vB (idx := 101) (mj := 78) (q := 1) (n := 2) [.ref 0, .int (nI jx)] ((ob_108.1 2).trans rfl) rfl rfl (Nat.le_of_ble_eq_true rfl) rfl (dk_H0.1) rfl rfl (c_slotT dk_H0 hjx) (Nat.le_of_ble_eq_true rfl) (by omega) rfl (by omega) (Nat.le_of_ble_eq_true rfl) (fun v h1 e => ?_)
    obtain ⟨rfl, rfl⟩ := e
    refine blk_go ob_108 (fun _ => false) 30 ?_
    by_cases hy : sl y
    · obtain ⟨jy, hjy, rfl⟩ := id hy
      refine vB (idx := 101) (mj := 78) (q := 1) (n := 2) [.ref 0, .int (nI jy)] ((ob_108.1 8).trans rfl) rfl rfl (Nat.le_of_ble_eq_true rfl) rfl (dk_H0.1) rfl rfl (c_slotT dk_H0 hjy) (Nat.le_of_ble_eq_true rfl) (by omega) rfl (by omega) (Nat.le_of_ble_eq_true rfl) (fun v h1 e => ?_)
      obtain ⟨rfl, rfl⟩ := e
      refine blk_go ob_108 (fun _ => false) 30 ?_
      exact absurd ⟨hx, hy⟩ hn
    · exact vT (idx := 101) (mj := 78) (q := 1) (n := 2) [.ref 0, .int y] ((ob_108.1 8).trans rfl) rfl rfl (Nat.le_of_ble_eq_true rfl) rfl dk_H0.1 rfl rfl (c_slotF hy) (Nat.le_of_ble_eq_true rfl) (by omega) rfl (by omega) (Nat.le_of_ble_eq_true rfl) (fun h' => ⟨h', rfl⟩)
  · exact vT (idx := 101) (mj := 78) (q := 1) (n := 2) [.ref 0, .int x] ((ob_108.1 2).trans rfl) rfl rfl (Nat.le_of_ble_eq_true rfl) rfl dk_H0.1 rfl rfl (c_slotF hx) (Nat.le_of_ble_eq_true rfl) (by omega) rfl (by omega) (Nat.le_of_ble_eq_true rfl) (fun h' => ⟨h', rfl⟩)
set_option maxRecDepth 100000 in
set_option maxHeartbeats 4000000 in
theorem t_add (x y z : Int32) (hn : ¬ (sl x ∧ sl y ∧ sl z)) : cT 115 8 121 [.ref 0, .int x, .int y, .int z] H0 "java/lang/IllegalArgumentException" := by
  intro fb lb hf hl
  refine blk_go ob_115 (fun _ => false) 30 ?_
  by_cases hx : sl x
  · obtain ⟨jx, hjx, rfl⟩ := id hx
    refine vB (idx := 101) (mj := 78) (q := 1) (n := 2) [.ref 0, .int (nI jx)] ((ob_115.1 2).trans rfl) rfl rfl (Nat.le_of_ble_eq_true rfl) rfl (dk_H0.1) rfl rfl (c_slotT dk_H0 hjx) (Nat.le_of_ble_eq_true rfl) (by omega) rfl (by omega) (Nat.le_of_ble_eq_true rfl) (fun v h1 e => ?_)
    obtain ⟨rfl, rfl⟩ := e
    refine blk_go ob_115 (fun _ => false) 30 ?_
    by_cases hy : sl y
    · obtain ⟨jy, hjy, rfl⟩ := id hy
      refine vB (idx := 101) (mj := 78) (q := 1) (n := 2) [.ref 0, .int (nI jy)] ((ob_115.1 9).trans rfl) rfl rfl (Nat.le_of_ble_eq_true rfl) rfl (dk_H0.1) rfl rfl (c_slotT dk_H0 hjy) (Nat.le_of_ble_eq_true rfl) (by omega) rfl (by omega) (Nat.le_of_ble_eq_true rfl) (fun v h1 e => ?_)
      obtain ⟨rfl, rfl⟩ := e
      refine blk_go ob_115 (fun _ => false) 30 ?_
      by_cases hz : sl z
      · obtain ⟨jz, hjz, rfl⟩ := id hz
        refine vB (idx := 101) (mj := 78) (q := 1) (n := 2) [.ref 0, .int (nI jz)] ((ob_115.1 16).trans rfl) rfl rfl (Nat.le_of_ble_eq_true rfl) rfl (dk_H0.1) rfl rfl (c_slotT dk_H0 hjz) (Nat.le_of_ble_eq_true rfl) (by omega) rfl (by omega) (Nat.le_of_ble_eq_true rfl) (fun v h1 e => ?_)
        obtain ⟨rfl, rfl⟩ := e
        refine blk_go ob_115 (fun _ => false) 30 ?_
        exact absurd ⟨hx, hy, hz⟩ hn
      · exact vT (idx := 101) (mj := 78) (q := 1) (n := 2) [.ref 0, .int z] ((ob_115.1 16).trans rfl) rfl rfl (Nat.le_of_ble_eq_true rfl) rfl dk_H0.1 rfl rfl (c_slotF hz) (Nat.le_of_ble_eq_true rfl) (by omega) rfl (by omega) (Nat.le_of_ble_eq_true rfl) (fun h' => ⟨h', rfl⟩)
    · exact vT (idx := 101) (mj := 78) (q := 1) (n := 2) [.ref 0, .int y] ((ob_115.1 9).trans rfl) rfl rfl (Nat.le_of_ble_eq_true rfl) rfl dk_H0.1 rfl rfl (c_slotF hy) (Nat.le_of_ble_eq_true rfl) (by omega) rfl (by omega) (Nat.le_of_ble_eq_true rfl) (fun h' => ⟨h', rfl⟩)
  · exact vT (idx := 101) (mj := 78) (q := 1) (n := 2) [.ref 0, .int x] ((ob_115.1 2).trans rfl) rfl rfl (Nat.le_of_ble_eq_true rfl) rfl dk_H0.1 rfl rfl (c_slotF hx) (Nat.le_of_ble_eq_true rfl) (by omega) rfl (by omega) (Nat.le_of_ble_eq_true rfl) (fun h' => ⟨h', rfl⟩)
set_option maxRecDepth 100000 in
set_option maxHeartbeats 4000000 in
theorem t_subtract (x y z : Int32) (hn : ¬ (sl x ∧ sl y ∧ sl z)) : cT 133 8 121 [.ref 0, .int x, .int y, .int z] H0 "java/lang/IllegalArgumentException" := by
  intro fb lb hf hl
  refine blk_go ob_133 (fun _ => false) 30 ?_
  by_cases hx : sl x
  · obtain ⟨jx, hjx, rfl⟩ := id hx
    refine vB (idx := 101) (mj := 78) (q := 1) (n := 2) [.ref 0, .int (nI jx)] ((ob_133.1 2).trans rfl) rfl rfl (Nat.le_of_ble_eq_true rfl) rfl (dk_H0.1) rfl rfl (c_slotT dk_H0 hjx) (Nat.le_of_ble_eq_true rfl) (by omega) rfl (by omega) (Nat.le_of_ble_eq_true rfl) (fun v h1 e => ?_)
    obtain ⟨rfl, rfl⟩ := e
    refine blk_go ob_133 (fun _ => false) 30 ?_
    by_cases hy : sl y
    · obtain ⟨jy, hjy, rfl⟩ := id hy
      refine vB (idx := 101) (mj := 78) (q := 1) (n := 2) [.ref 0, .int (nI jy)] ((ob_133.1 9).trans rfl) rfl rfl (Nat.le_of_ble_eq_true rfl) rfl (dk_H0.1) rfl rfl (c_slotT dk_H0 hjy) (Nat.le_of_ble_eq_true rfl) (by omega) rfl (by omega) (Nat.le_of_ble_eq_true rfl) (fun v h1 e => ?_)
      obtain ⟨rfl, rfl⟩ := e
      refine blk_go ob_133 (fun _ => false) 30 ?_
      by_cases hz : sl z
      · obtain ⟨jz, hjz, rfl⟩ := id hz
        refine vB (idx := 101) (mj := 78) (q := 1) (n := 2) [.ref 0, .int (nI jz)] ((ob_133.1 16).trans rfl) rfl rfl (Nat.le_of_ble_eq_true rfl) rfl (dk_H0.1) rfl rfl (c_slotT dk_H0 hjz) (Nat.le_of_ble_eq_true rfl) (by omega) rfl (by omega) (Nat.le_of_ble_eq_true rfl) (fun v h1 e => ?_)
        obtain ⟨rfl, rfl⟩ := e
        refine blk_go ob_133 (fun _ => false) 30 ?_
        exact absurd ⟨hx, hy, hz⟩ hn
      · exact vT (idx := 101) (mj := 78) (q := 1) (n := 2) [.ref 0, .int z] ((ob_133.1 16).trans rfl) rfl rfl (Nat.le_of_ble_eq_true rfl) rfl dk_H0.1 rfl rfl (c_slotF hz) (Nat.le_of_ble_eq_true rfl) (by omega) rfl (by omega) (Nat.le_of_ble_eq_true rfl) (fun h' => ⟨h', rfl⟩)
    · exact vT (idx := 101) (mj := 78) (q := 1) (n := 2) [.ref 0, .int y] ((ob_133.1 9).trans rfl) rfl rfl (Nat.le_of_ble_eq_true rfl) rfl dk_H0.1 rfl rfl (c_slotF hy) (Nat.le_of_ble_eq_true rfl) (by omega) rfl (by omega) (Nat.le_of_ble_eq_true rfl) (fun h' => ⟨h', rfl⟩)
  · exact vT (idx := 101) (mj := 78) (q := 1) (n := 2) [.ref 0, .int x] ((ob_133.1 2).trans rfl) rfl rfl (Nat.le_of_ble_eq_true rfl) rfl dk_H0.1 rfl rfl (c_slotF hx) (Nat.le_of_ble_eq_true rfl) (by omega) rfl (by omega) (Nat.le_of_ble_eq_true rfl) (fun h' => ⟨h', rfl⟩)
set_option maxRecDepth 100000 in
set_option maxHeartbeats 4000000 in
theorem t_multiply (x y z : Int32) (hn : ¬ (sl x ∧ sl y ∧ sl z)) : cT 134 8 121 [.ref 0, .int x, .int y, .int z] H0 "java/lang/IllegalArgumentException" := by
  intro fb lb hf hl
  refine blk_go ob_134 (fun _ => false) 30 ?_
  by_cases hx : sl x
  · obtain ⟨jx, hjx, rfl⟩ := id hx
    refine vB (idx := 101) (mj := 78) (q := 1) (n := 2) [.ref 0, .int (nI jx)] ((ob_134.1 2).trans rfl) rfl rfl (Nat.le_of_ble_eq_true rfl) rfl (dk_H0.1) rfl rfl (c_slotT dk_H0 hjx) (Nat.le_of_ble_eq_true rfl) (by omega) rfl (by omega) (Nat.le_of_ble_eq_true rfl) (fun v h1 e => ?_)
    obtain ⟨rfl, rfl⟩ := e
    refine blk_go ob_134 (fun _ => false) 30 ?_
    by_cases hy : sl y
    · obtain ⟨jy, hjy, rfl⟩ := id hy
      refine vB (idx := 101) (mj := 78) (q := 1) (n := 2) [.ref 0, .int (nI jy)] ((ob_134.1 9).trans rfl) rfl rfl (Nat.le_of_ble_eq_true rfl) rfl (dk_H0.1) rfl rfl (c_slotT dk_H0 hjy) (Nat.le_of_ble_eq_true rfl) (by omega) rfl (by omega) (Nat.le_of_ble_eq_true rfl) (fun v h1 e => ?_)
      obtain ⟨rfl, rfl⟩ := e
      refine blk_go ob_134 (fun _ => false) 30 ?_
      by_cases hz : sl z
      · obtain ⟨jz, hjz, rfl⟩ := id hz
        refine vB (idx := 101) (mj := 78) (q := 1) (n := 2) [.ref 0, .int (nI jz)] ((ob_134.1 16).trans rfl) rfl rfl (Nat.le_of_ble_eq_true rfl) rfl (dk_H0.1) rfl rfl (c_slotT dk_H0 hjz) (Nat.le_of_ble_eq_true rfl) (by omega) rfl (by omega) (Nat.le_of_ble_eq_true rfl) (fun v h1 e => ?_)
        obtain ⟨rfl, rfl⟩ := e
        refine blk_go ob_134 (fun _ => false) 30 ?_
        exact absurd ⟨hx, hy, hz⟩ hn
      · exact vT (idx := 101) (mj := 78) (q := 1) (n := 2) [.ref 0, .int z] ((ob_134.1 16).trans rfl) rfl rfl (Nat.le_of_ble_eq_true rfl) rfl dk_H0.1 rfl rfl (c_slotF hz) (Nat.le_of_ble_eq_true rfl) (by omega) rfl (by omega) (Nat.le_of_ble_eq_true rfl) (fun h' => ⟨h', rfl⟩)
    · exact vT (idx := 101) (mj := 78) (q := 1) (n := 2) [.ref 0, .int y] ((ob_134.1 9).trans rfl) rfl rfl (Nat.le_of_ble_eq_true rfl) rfl dk_H0.1 rfl rfl (c_slotF hy) (Nat.le_of_ble_eq_true rfl) (by omega) rfl (by omega) (Nat.le_of_ble_eq_true rfl) (fun h' => ⟨h', rfl⟩)
  · exact vT (idx := 101) (mj := 78) (q := 1) (n := 2) [.ref 0, .int x] ((ob_134.1 2).trans rfl) rfl rfl (Nat.le_of_ble_eq_true rfl) rfl dk_H0.1 rfl rfl (c_slotF hx) (Nat.le_of_ble_eq_true rfl) (by omega) rfl (by omega) (Nat.le_of_ble_eq_true rfl) (fun h' => ⟨h', rfl⟩)
set_option maxRecDepth 100000 in
set_option maxHeartbeats 4000000 in
theorem t_divide (x y z : Int32) (hn : ¬ (sl x ∧ sl y ∧ sl z)) : cT 135 8 121 [.ref 0, .int x, .int y, .int z] H0 "java/lang/IllegalArgumentException" := by
  intro fb lb hf hl
  refine blk_go ob_135 (fun _ => false) 30 ?_
  by_cases hx : sl x
  · obtain ⟨jx, hjx, rfl⟩ := id hx
    refine vB (idx := 101) (mj := 78) (q := 1) (n := 2) [.ref 0, .int (nI jx)] ((ob_135.1 2).trans rfl) rfl rfl (Nat.le_of_ble_eq_true rfl) rfl (dk_H0.1) rfl rfl (c_slotT dk_H0 hjx) (Nat.le_of_ble_eq_true rfl) (by omega) rfl (by omega) (Nat.le_of_ble_eq_true rfl) (fun v h1 e => ?_)
    obtain ⟨rfl, rfl⟩ := e
    refine blk_go ob_135 (fun _ => false) 30 ?_
    by_cases hy : sl y
    · obtain ⟨jy, hjy, rfl⟩ := id hy
      refine vB (idx := 101) (mj := 78) (q := 1) (n := 2) [.ref 0, .int (nI jy)] ((ob_135.1 9).trans rfl) rfl rfl (Nat.le_of_ble_eq_true rfl) rfl (dk_H0.1) rfl rfl (c_slotT dk_H0 hjy) (Nat.le_of_ble_eq_true rfl) (by omega) rfl (by omega) (Nat.le_of_ble_eq_true rfl) (fun v h1 e => ?_)
      obtain ⟨rfl, rfl⟩ := e
      refine blk_go ob_135 (fun _ => false) 30 ?_
      by_cases hz : sl z
      · obtain ⟨jz, hjz, rfl⟩ := id hz
        refine vB (idx := 101) (mj := 78) (q := 1) (n := 2) [.ref 0, .int (nI jz)] ((ob_135.1 16).trans rfl) rfl rfl (Nat.le_of_ble_eq_true rfl) rfl (dk_H0.1) rfl rfl (c_slotT dk_H0 hjz) (Nat.le_of_ble_eq_true rfl) (by omega) rfl (by omega) (Nat.le_of_ble_eq_true rfl) (fun v h1 e => ?_)
        obtain ⟨rfl, rfl⟩ := e
        refine blk_go ob_135 (fun _ => false) 30 ?_
        exact absurd ⟨hx, hy, hz⟩ hn
      · exact vT (idx := 101) (mj := 78) (q := 1) (n := 2) [.ref 0, .int z] ((ob_135.1 16).trans rfl) rfl rfl (Nat.le_of_ble_eq_true rfl) rfl dk_H0.1 rfl rfl (c_slotF hz) (Nat.le_of_ble_eq_true rfl) (by omega) rfl (by omega) (Nat.le_of_ble_eq_true rfl) (fun h' => ⟨h', rfl⟩)
    · exact vT (idx := 101) (mj := 78) (q := 1) (n := 2) [.ref 0, .int y] ((ob_135.1 9).trans rfl) rfl rfl (Nat.le_of_ble_eq_true rfl) rfl dk_H0.1 rfl rfl (c_slotF hy) (Nat.le_of_ble_eq_true rfl) (by omega) rfl (by omega) (Nat.le_of_ble_eq_true rfl) (fun h' => ⟨h', rfl⟩)
  · exact vT (idx := 101) (mj := 78) (q := 1) (n := 2) [.ref 0, .int x] ((ob_135.1 2).trans rfl) rfl rfl (Nat.le_of_ble_eq_true rfl) rfl dk_H0.1 rfl rfl (c_slotF hx) (Nat.le_of_ble_eq_true rfl) (by omega) rfl (by omega) (Nat.le_of_ble_eq_true rfl) (fun h' => ⟨h', rfl⟩)
set_option maxRecDepth 100000 in
set_option maxHeartbeats 4000000 in
theorem t_root (x y k : Int32) (hn : ¬ (sl x ∧ sl y ∧ (k = nI 2 ∨ k = nI 3))) : cT 136 8 121 [.ref 0, .int x, .int y, .int k] H0 "java/lang/IllegalArgumentException" := by
  intro fb lb hf hl
  refine blk_go ob_136 (fun _ => false) 30 ?_
  by_cases hx : sl x
  · obtain ⟨jx, hjx, rfl⟩ := id hx
    refine vB (idx := 101) (mj := 78) (q := 1) (n := 2) [.ref 0, .int (nI jx)] ((ob_136.1 2).trans rfl) rfl rfl (Nat.le_of_ble_eq_true rfl) rfl (dk_H0.1) rfl rfl (c_slotT dk_H0 hjx) (Nat.le_of_ble_eq_true rfl) (by omega) rfl (by omega) (Nat.le_of_ble_eq_true rfl) (fun v h1 e => ?_)
    obtain ⟨rfl, rfl⟩ := e
    refine blk_go ob_136 (fun _ => false) 30 ?_
    by_cases hy : sl y
    · obtain ⟨jy, hjy, rfl⟩ := id hy
      refine vB (idx := 101) (mj := 78) (q := 1) (n := 2) [.ref 0, .int (nI jy)] ((ob_136.1 9).trans rfl) rfl rfl (Nat.le_of_ble_eq_true rfl) rfl (dk_H0.1) rfl rfl (c_slotT dk_H0 hjy) (Nat.le_of_ble_eq_true rfl) (by omega) rfl (by omega) (Nat.le_of_ble_eq_true rfl) (fun v h1 e => ?_)
      obtain ⟨rfl, rfl⟩ := e
      refine blk_go ob_136 (fun _ => false) 30 ?_
      (conv => whnf); refine ⟨fun c1 => ?_, fun c1 => ?_⟩
      · exact absurd ⟨hx, hy, Or.inl c1⟩ hn
      · (conv => whnf); refine ⟨fun c2 => ?_, fun c2 => ?_⟩
        · exact absurd ⟨hx, hy, Or.inr c2⟩ hn
        · exact go_throw ((ob_136.1 24).trans rfl) rfl ((ob_136.1 27).trans rfl) ((ob_136.1 28).trans rfl) ((ob_136.1 31).trans rfl) (by omega) (by show 0 + 100 ≤ lb; omega) ⟨_, rfl⟩
    · exact vT (idx := 101) (mj := 78) (q := 1) (n := 2) [.ref 0, .int y] ((ob_136.1 9).trans rfl) rfl rfl (Nat.le_of_ble_eq_true rfl) rfl dk_H0.1 rfl rfl (c_slotF hy) (Nat.le_of_ble_eq_true rfl) (by omega) rfl (by omega) (Nat.le_of_ble_eq_true rfl) (fun h' => ⟨h', rfl⟩)
  · exact vT (idx := 101) (mj := 78) (q := 1) (n := 2) [.ref 0, .int x] ((ob_136.1 2).trans rfl) rfl rfl (Nat.le_of_ble_eq_true rfl) rfl dk_H0.1 rfl rfl (c_slotF hx) (Nat.le_of_ble_eq_true rfl) (by omega) rfl (by omega) (Nat.le_of_ble_eq_true rfl) (fun h' => ⟨h', rfl⟩)
set_option maxRecDepth 100000 in
set_option maxHeartbeats 4000000 in
theorem t_print (x k : Int32) (hn : ¬ (sl x ∧ ¬ k < 0 ∧ ¬ nI 30 < k)) : cT 145 8 121 [.ref 0, .int x, .int k] H0 "java/lang/IllegalArgumentException" := by
  intro fb lb hf hl
  refine blk_go ob_145 (fun _ => false) 30 ?_
  by_cases hx : sl x
  · obtain ⟨jx, hjx, rfl⟩ := id hx
    refine vB (idx := 101) (mj := 78) (q := 1) (n := 2) [.ref 0, .int (nI jx)] ((ob_145.1 2).trans rfl) rfl rfl (Nat.le_of_ble_eq_true rfl) rfl (dk_H0.1) rfl rfl (c_slotT dk_H0 hjx) (Nat.le_of_ble_eq_true rfl) (by omega) rfl (by omega) (Nat.le_of_ble_eq_true rfl) (fun v h1 e => ?_)
    obtain ⟨rfl, rfl⟩ := e
    refine blk_go ob_145 (fun _ => false) 30 ?_
    (conv => whnf); refine ⟨fun c1 => ?_, fun c1 => ?_⟩
    · exact go_throw ((ob_145.1 16).trans rfl) rfl ((ob_145.1 19).trans rfl) ((ob_145.1 20).trans rfl) ((ob_145.1 23).trans rfl) (by omega) (by show 0 + 100 ≤ lb; omega) ⟨_, rfl⟩
    · (conv => whnf); refine ⟨fun c2 => ?_, fun c2 => ?_⟩
      · exact absurd ⟨hx, c1, Int32.not_lt.mpr c2⟩ hn
      · exact go_throw ((ob_145.1 16).trans rfl) rfl ((ob_145.1 19).trans rfl) ((ob_145.1 20).trans rfl) ((ob_145.1 23).trans rfl) (by omega) (by show 0 + 100 ≤ lb; omega) ⟨_, rfl⟩
  · exact vT (idx := 101) (mj := 78) (q := 1) (n := 2) [.ref 0, .int x] ((ob_145.1 2).trans rfl) rfl rfl (Nat.le_of_ble_eq_true rfl) rfl dk_H0.1 rfl rfl (c_slotF hx) (Nat.le_of_ble_eq_true rfl) (by omega) rfl (by omega) (Nat.le_of_ble_eq_true rfl) (fun h' => ⟨h', rfl⟩)
set_option maxRecDepth 100000 in
set_option maxHeartbeats 4000000 in
theorem t_fraction (x p q : Int32) (hn : ¬ (sl x ∧ ¬ p < -1000000 ∧ ¬ 1000000 < p ∧ ¬ q < nI 1 ∧ ¬ 1000000 < q)) : cT 98 8 121 [.ref 0, .int x, .int p, .int q] H0 "java/lang/IllegalArgumentException" := by
  intro fb lb hf hl
  refine blk_go ob_98 (fun _ => false) 30 ?_
  by_cases hx : sl x
  · obtain ⟨jx, hjx, rfl⟩ := id hx
    refine vB (idx := 101) (mj := 78) (q := 1) (n := 2) [.ref 0, .int (nI jx)] ((ob_98.1 2).trans rfl) rfl rfl (Nat.le_of_ble_eq_true rfl) rfl (dk_H0.1) rfl rfl (c_slotT dk_H0 hjx) (Nat.le_of_ble_eq_true rfl) (by omega) rfl (by omega) (Nat.le_of_ble_eq_true rfl) (fun v h1 e => ?_)
    obtain ⟨rfl, rfl⟩ := e
    refine blk_go ob_98 (fun _ => false) 30 ?_
    (conv => whnf); refine ⟨fun c1 => ?_, fun c1 => ?_⟩
    · exact go_throw ((ob_98.1 30).trans rfl) rfl ((ob_98.1 33).trans rfl) ((ob_98.1 34).trans rfl) ((ob_98.1 37).trans rfl) (by omega) (by show 0 + 100 ≤ lb; omega) ⟨_, rfl⟩
    · (conv => whnf); refine ⟨fun c2 => ?_, fun c2 => ?_⟩
      · exact go_throw ((ob_98.1 30).trans rfl) rfl ((ob_98.1 33).trans rfl) ((ob_98.1 34).trans rfl) ((ob_98.1 37).trans rfl) (by omega) (by show 0 + 100 ≤ lb; omega) ⟨_, rfl⟩
      · (conv => whnf); refine ⟨fun c3 => ?_, fun c3 => ?_⟩
        · exact go_throw ((ob_98.1 30).trans rfl) rfl ((ob_98.1 33).trans rfl) ((ob_98.1 34).trans rfl) ((ob_98.1 37).trans rfl) (by omega) (by show 0 + 100 ≤ lb; omega) ⟨_, rfl⟩
        · (conv => whnf); refine ⟨fun c4 => ?_, fun c4 => ?_⟩
          · exact absurd ⟨hx, c1, c2, c3, Int32.not_lt.mpr c4⟩ hn
          · exact go_throw ((ob_98.1 30).trans rfl) rfl ((ob_98.1 33).trans rfl) ((ob_98.1 34).trans rfl) ((ob_98.1 37).trans rfl) (by omega) (by show 0 + 100 ≤ lb; omega) ⟨_, rfl⟩
  · exact vT (idx := 101) (mj := 78) (q := 1) (n := 2) [.ref 0, .int x] ((ob_98.1 2).trans rfl) rfl rfl (Nat.le_of_ble_eq_true rfl) rfl dk_H0.1 rfl rfl (c_slotF hx) (Nat.le_of_ble_eq_true rfl) (by omega) rfl (by omega) (Nat.le_of_ble_eq_true rfl) (fun h' => ⟨h', rfl⟩)
set_option maxRecDepth 100000 in
set_option maxHeartbeats 4000000 in
theorem t_compare (x y : Int32) (hn : ¬ (sl x ∧ sl y)) : cT 143 8 121 [.ref 0, .int x, .int y] H0 "java/lang/IllegalArgumentException" := by
  intro fb lb hf hl
  refine blk_go ob_143 (fun _ => false) 30 ?_
  by_cases hx : sl x
  · obtain ⟨jx, hjx, rfl⟩ := id hx
    refine vB (idx := 101) (mj := 78) (q := 1) (n := 2) [.ref 0, .int (nI jx)] ((ob_143.1 6).trans rfl) rfl rfl (Nat.le_of_ble_eq_true rfl) rfl (dk_H0.1) rfl rfl (c_slotT dk_H0 hjx) (Nat.le_of_ble_eq_true rfl) (by omega) rfl (by omega) (Nat.le_of_ble_eq_true rfl) (fun v h1 e => ?_)
    obtain ⟨rfl, rfl⟩ := e
    refine blk_go ob_143 (fun _ => false) 30 ?_
    by_cases hy : sl y
    · obtain ⟨jy, hjy, rfl⟩ := id hy
      refine vB (idx := 101) (mj := 78) (q := 1) (n := 2) [.ref 0, .int (nI jy)] ((ob_143.1 11).trans rfl) rfl rfl (Nat.le_of_ble_eq_true rfl) rfl (dk_H0.1) rfl rfl (c_slotT dk_H0 hjy) (Nat.le_of_ble_eq_true rfl) (by omega) rfl (by omega) (Nat.le_of_ble_eq_true rfl) (fun v h1 e => ?_)
      obtain ⟨rfl, rfl⟩ := e
      refine blk_go ob_143 (fun _ => false) 30 ?_
      exact absurd ⟨hx, hy⟩ hn
    · exact vT (idx := 101) (mj := 78) (q := 1) (n := 2) [.ref 0, .int y] ((ob_143.1 11).trans rfl) rfl rfl (Nat.le_of_ble_eq_true rfl) rfl dk_H0.1 rfl rfl (c_slotF hy) (Nat.le_of_ble_eq_true rfl) (by omega) rfl (by omega) (Nat.le_of_ble_eq_true rfl) (fun h' => ⟨h', rfl⟩)
  · exact vT (idx := 101) (mj := 78) (q := 1) (n := 2) [.ref 0, .int x] ((ob_143.1 6).trans rfl) rfl rfl (Nat.le_of_ble_eq_true rfl) rfl dk_H0.1 rfl rfl (c_slotF hx) (Nat.le_of_ble_eq_true rfl) (by omega) rfl (by omega) (Nat.le_of_ble_eq_true rfl) (fun h' => ⟨h', rfl⟩)
set_option maxRecDepth 100000 in
set_option maxHeartbeats 4000000 in
theorem t_coefficient (i v0 : Int32) (hn : ¬ cv i v0) : cT 76 8 121 [.ref 0, .int i, .int v0] H0 "java/lang/IllegalArgumentException" := by
  intro fb lb hf hl
  refine blk_go ob_76 (fun _ => false) 30 ?_
  (conv => whnf); refine ⟨fun c1 => ?_, fun c1 => ?_⟩
  · exact go_throw ((ob_76.1 24).trans rfl) rfl ((ob_76.1 27).trans rfl) ((ob_76.1 28).trans rfl) ((ob_76.1 31).trans rfl) (by omega) (by show 0 + 100 ≤ lb; omega) ⟨_, rfl⟩
  · (conv => whnf); refine ⟨fun c2 => ?_, fun c2 => ?_⟩
    · exact go_throw ((ob_76.1 24).trans rfl) rfl ((ob_76.1 27).trans rfl) ((ob_76.1 28).trans rfl) ((ob_76.1 31).trans rfl) (by omega) (by show 0 + 100 ≤ lb; omega) ⟨_, rfl⟩
    · (conv => whnf); refine ⟨fun c3 => ?_, fun c3 => ?_⟩
      · exact go_throw ((ob_76.1 24).trans rfl) rfl ((ob_76.1 27).trans rfl) ((ob_76.1 28).trans rfl) ((ob_76.1 31).trans rfl) (by omega) (by show 0 + 100 ≤ lb; omega) ⟨_, rfl⟩
      · (conv => whnf); refine ⟨fun c4 => ?_, fun c4 => ?_⟩
        · exact absurd ⟨c1, c2, c3, c4⟩ hn
        · exact go_throw ((ob_76.1 24).trans rfl) rfl ((ob_76.1 27).trans rfl) ((ob_76.1 28).trans rfl) ((ob_76.1 31).trans rfl) (by omega) (by show 0 + 100 ≤ lb; omega) ⟨_, rfl⟩
set_option maxRecDepth 1000000 in
theorem kr_side : (List.range 8).all (fun j => t_ok (run3 xX xB.1 xB.2.1 40 1 50 109 0 (lv_args 0 [.ref (481 + 21 * j)]) [] H0T) (fun v _ => decide (v = some (.int 0)))) = true := by decide +kernel
theorem k_side {j : Nat} (hj : j < 8) : cR 109 1 50 [.ref (481 + 21 * j)] H0 (fun v _ => v = some (.int 0)) := (cR_run3 H0T_rep (List.all_eq_true.mp kr_side j (List.mem_range.mpr hj))).weak (fun v h z => by
  obtain ⟨t', h1, -⟩ := z
  exact of_decide_eq_true h1)
set_option maxRecDepth 100000 in
set_option maxHeartbeats 4000000 in
theorem a_invert {i j : Nat} (hi : i < 8) (hj : j < 8) : cT 108 8 121 [.ref 0, .int (nI i), .int (nI j)] H0 "java/lang/ArithmeticException" := by
  intro fb lb hf hl
  refine blk_go ob_108 (fun _ => false) 30 ?_
  refine vB (idx := 101) (mj := 78) (q := 1) (n := 2) [.ref 0, .int (nI i)] ((ob_108.1 2).trans rfl) rfl rfl (Nat.le_of_ble_eq_true rfl) rfl (dk_H0.1) rfl rfl (c_slotT dk_H0 hi) (Nat.le_of_ble_eq_true rfl) (by omega) rfl (by omega) (Nat.le_of_ble_eq_true rfl) (fun v h1 e => ?_)
  obtain ⟨rfl, rfl⟩ := e
  refine blk_go ob_108 (fun _ => false) 30 ?_
  refine vB (idx := 101) (mj := 78) (q := 1) (n := 2) [.ref 0, .int (nI j)] ((ob_108.1 8).trans rfl) rfl rfl (Nat.le_of_ble_eq_true rfl) rfl (dk_H0.1) rfl rfl (c_slotT dk_H0 hj) (Nat.le_of_ble_eq_true rfl) (by omega) rfl (by omega) (Nat.le_of_ble_eq_true rfl) (fun v h1 e => ?_)
  obtain ⟨rfl, rfl⟩ := e
  refine blk_go ob_108 (fun _ => false) 30 ?_
  refine vB (idx := 136) (mj := 109) (q := 0) (n := 1) [.ref (481 + 21 * j)] ((ob_108.1 15).trans rfl) rfl rfl (Nat.le_of_ble_eq_true rfl) rfl (dk_H0.2.2 j hj) rfl rfl (k_side hj) (Nat.le_of_ble_eq_true rfl) (by omega) rfl (by omega) (Nat.le_of_ble_eq_true rfl) (fun v h1 e => ?_)
  obtain rfl := e
  refine blk_go ob_108 (fun _ => false) 30 ?_
  (conv => whnf); refine br_f (show ¬ ¬ (0 : Int32) = 0 by decide) ?_
  exact go_throw ((ob_108.1 21).trans rfl) rfl ((ob_108.1 24).trans rfl) ((ob_108.1 25).trans rfl) ((ob_108.1 28).trans rfl) (by omega) (by show 0 + 100 ≤ lb; omega) ⟨_, rfl⟩
set_option maxRecDepth 100000 in
set_option maxHeartbeats 4000000 in
theorem a_divide {t i j : Nat} (ht : t < 8) (hi : i < 8) (hj : j < 8) : cT 135 8 121 [.ref 0, .int (nI t), .int (nI i), .int (nI j)] H0 "java/lang/ArithmeticException" := by
  intro fb lb hf hl
  refine blk_go ob_135 (fun _ => false) 30 ?_
  refine vB (idx := 101) (mj := 78) (q := 1) (n := 2) [.ref 0, .int (nI t)] ((ob_135.1 2).trans rfl) rfl rfl (Nat.le_of_ble_eq_true rfl) rfl (dk_H0.1) rfl rfl (c_slotT dk_H0 ht) (Nat.le_of_ble_eq_true rfl) (by omega) rfl (by omega) (Nat.le_of_ble_eq_true rfl) (fun v h1 e => ?_)
  obtain ⟨rfl, rfl⟩ := e
  refine blk_go ob_135 (fun _ => false) 30 ?_
  refine vB (idx := 101) (mj := 78) (q := 1) (n := 2) [.ref 0, .int (nI i)] ((ob_135.1 9).trans rfl) rfl rfl (Nat.le_of_ble_eq_true rfl) rfl (dk_H0.1) rfl rfl (c_slotT dk_H0 hi) (Nat.le_of_ble_eq_true rfl) (by omega) rfl (by omega) (Nat.le_of_ble_eq_true rfl) (fun v h1 e => ?_)
  obtain ⟨rfl, rfl⟩ := e
  refine blk_go ob_135 (fun _ => false) 30 ?_
  refine vB (idx := 101) (mj := 78) (q := 1) (n := 2) [.ref 0, .int (nI j)] ((ob_135.1 16).trans rfl) rfl rfl (Nat.le_of_ble_eq_true rfl) rfl (dk_H0.1) rfl rfl (c_slotT dk_H0 hj) (Nat.le_of_ble_eq_true rfl) (by omega) rfl (by omega) (Nat.le_of_ble_eq_true rfl) (fun v h1 e => ?_)
  obtain ⟨rfl, rfl⟩ := e
  refine blk_go ob_135 (fun _ => false) 30 ?_
  refine vB (idx := 136) (mj := 109) (q := 0) (n := 1) [.ref (481 + 21 * j)] ((ob_135.1 23).trans rfl) rfl rfl (Nat.le_of_ble_eq_true rfl) rfl (dk_H0.2.2 j hj) rfl rfl (k_side hj) (Nat.le_of_ble_eq_true rfl) (by omega) rfl (by omega) (Nat.le_of_ble_eq_true rfl) (fun v h1 e => ?_)
  obtain rfl := e
  refine blk_go ob_135 (fun _ => false) 30 ?_
  (conv => whnf); refine br_f (show ¬ ¬ (0 : Int32) = 0 by decide) ?_
  exact go_throw ((ob_135.1 29).trans rfl) rfl ((ob_135.1 32).trans rfl) ((ob_135.1 33).trans rfl) ((ob_135.1 36).trans rfl) (by omega) (by show 0 + 100 ≤ lb; omega) ⟨_, rfl⟩
set_option maxRecDepth 1000000 in
theorem kr_degree : t_ok (run3 xX xB.1 xB.2.1 100 1 30 14 0 (lv_args 0 [.ref 0]) [] H0T) (fun v _ => decide (v = some (.int (-1)))) = true := by decide +kernel
theorem k_degree : cR 14 1 30 [.ref 0] H0 (fun v _ => v = some (.int (-1))) := (cR_run3 H0T_rep kr_degree).weak (fun v h z => by
  obtain ⟨t', h1, -⟩ := z
  exact of_decide_eq_true h1)
set_option maxRecDepth 1000000 in
theorem kr_roots : t_ok (run3 xX xB.1 xB.2.1 120 2 60 15 0 (lv_args 0 [.ref 0]) [] H0T) (fun v _ => decide (v = some (.int (-1)))) = true := by decide +kernel
theorem k_roots : cR 15 2 60 [.ref 0] H0 (fun v _ => v = some (.int (-1))) := (cR_run3 H0T_rep kr_roots).weak (fun v h z => by
  obtain ⟨t', h1, -⟩ := z
  exact of_decide_eq_true h1)
set_option maxRecDepth 100000 in
set_option maxHeartbeats 4000000 in
theorem k_take {i : Nat} (hi : i < 8) (y : Int32) : cR 96 3 100 [.ref 0, .int (nI i), .int y] H0 (fun v _ => v = some (.int (nI 0))) := by
  intro fb lb hf hl
  refine blk_go ob_96 (fun _ => false) 30 ?_
  refine vB (idx := 101) (mj := 78) (q := 1) (n := 2) [.ref 0, .int (nI i)] ((ob_96.1 2).trans rfl) rfl rfl (Nat.le_of_ble_eq_true rfl) rfl (dk_H0.1) rfl rfl (c_slotT dk_H0 hi) (Nat.le_of_ble_eq_true rfl) (by omega) rfl (by omega) (Nat.le_of_ble_eq_true rfl) (fun v h1 e => ?_)
  obtain ⟨rfl, rfl⟩ := e
  refine blk_go ob_96 (fun _ => false) 30 ?_
  refine vB (idx := 90) (mj := 14) (q := 0) (n := 2) [.ref 0] ((ob_96.1 7).trans rfl) rfl rfl (Nat.le_of_ble_eq_true rfl) rfl (dk_H0.1) rfl rfl (k_degree) (Nat.le_of_ble_eq_true rfl) (by omega) rfl (by omega) (Nat.le_of_ble_eq_true rfl) (fun v h1 e => ?_)
  obtain rfl := e
  refine blk_go ob_96 (fun _ => false) 30 ?_
  (conv => whnf); refine br_f (show ¬ ¬ (-1 : Int32) = -nI 1 by decide) ?_
  exact go_iret ((ob_96.1 19).trans rfl) rfl rfl ⟨_, _, rfl, rfl⟩
theorem pr_H0 : H0[451]? = some (.inl (10, [.ref 452, .int 0, .ref 35, .ref 104, .ref 453, .ref 469, .ref 471, .ref 473, .ref 475, .ref 477, .ref 479])) := eqO_ok (by decide +kernel)
set_option maxRecDepth 100000 in
set_option maxHeartbeats 4000000 in
theorem k_character (x : Int32) : cR 75 0 0 [.ref 0, .int x] H0 (fun v _ => v = some (.int (-nI 1))) := by
  intro fb lb hf hl
  refine blk_go ob_75 (fun _ => false) 30 ?_
  (conv => whnf); refine ⟨fun c1 => ?_, fun c1 => ?_⟩
  · exact go_iret ((ob_75.1 28).trans rfl) rfl (vp_nar_int _) ⟨_, _, rfl, rfl⟩
  · (conv => whnf); refine br_f (show ¬ x < 0 from c1) ?_
    exact go_iret ((ob_75.1 28).trans rfl) rfl (vp_nar_int _) ⟨_, _, rfl, rfl⟩
theorem co_H0 : H0[1]? = some (.inr (.int, .inl [0, 0, 0, 0, 0, 0, 0])) := eqO_ok (by decide +kernel)
theorem len_H0 : H0.length = 649 := by decide +kernel
set_option maxRecDepth 100000 in
set_option maxHeartbeats 4000000 in
theorem k_coefficient (i v0 : Int32) (hv : cv i v0) : cR 76 0 0 [.ref 0, .int i, .int v0] H0 (fun v _ => v = some (.int 0)) := by
  intro fb lb hf hl
  obtain ⟨c1, c2, c3, c4⟩ := hv
  obtain ⟨j, hj, rfl⟩ : ∃ j, j < 7 ∧ i = nI j := by
    rcases pk_ix i (n := 7) (by decide) with q | q | q
    · exact absurd q c1
    · exact absurd (show nI 6 < i from Int32.lt_of_lt_of_le (show nI 6 < nI 7 by decide) q) c2
    · exact q
  have h7 : ∀ j, j < 7 → ([0, 0, 0, 0, 0, 0, 0] : List Int32).getD j 0 = 0 := by decide
  refine blk_go ob_76 (fun _ => false) 30 ?_
  (conv => whnf); refine br_f (c1) ?_
  (conv => whnf); refine br_f (c2) ?_
  (conv => whnf); refine br_f (c3) ?_
  (conv => whnf); refine br_t (c4) ?_
  (conv => whnf); refine ⟨j, rfl, by simpa using hj, by decide, ?_⟩
  (conv => whnf); refine ⟨j, rfl, by simpa using hj, by decide, ?_⟩
  have e0 : some (Value.int (([0, 0, 0, 0, 0, 0, 0] : List Int32).getD j 0)) = some (.int 0) := by rw [h7 j hj]
  (conv => whnf); refine ⟨fun c5 => ?_, fun c5 => ?_⟩
  · exact go_iret ((ob_76.1 57).trans rfl) rfl (vp_nar_int _) ⟨_, _, rfl, e0⟩
  · (conv => whnf); refine ⟨⟨rfl, rfl⟩, ?_⟩
    exact go_iret ((ob_76.1 57).trans rfl) rfl (vp_nar_int _) ⟨_, _, rfl, e0⟩
