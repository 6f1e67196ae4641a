/-! the fresh desk: add, subtract, multiply -/
theorem rvs_c {f : Nat → Option Nat} {v : Value} {l m : List Value} (h : rvs f (v :: l) = some m) : ∃ x r, rv f v = some x ∧ rvs f l = some r ∧ m = x :: r := by
  have h : (rv f v).bind (fun x => (rvs f l).map (fun m => x :: m)) = some m := h
  cases h1 : rv f v with
  | none => rw [h1] at h; cases h
  | some x =>
    cases h2 : rvs f l with
    | none => rw [h1, h2] at h; cases h
    | some r => rw [h1, h2] at h; cases h; exact ⟨x, r, rfl, rfl, rfl⟩
theorem rvs_i {f : Nat → Option Nat} {v x : Value} {l r : List Value} (h1 : rv f v = some x) (h2 : rvs f l = some r) : rvs f (v :: l) = some (x :: r) := by
  show (rv f v).bind (fun x => (rvs f l).map (fun m => x :: m)) = _
  rw [h1, h2]
  rfl
theorem cut_w {h : xH} {J : List Nat} {DS : List xC} {a b c d a' b' c' d' : Value} {u : Int32} (hc : cutJ h [a, b, c, .int u, d] J DS [a', b', c', .int u, d']) (w : Int32) : cutJ h [a, b, c, .int w, d] J DS [a', b', c', .int w, d'] := by
  obtain ⟨h1, cs, h2, h3, h4⟩ := hc
  refine ⟨h1, cs, h2, h3, ?_⟩
  obtain ⟨x1, r1, e1, f1, g1⟩ := rvs_c h4
  obtain ⟨x2, r2, e2, f2, g2⟩ := rvs_c f1
  obtain ⟨x3, r3, e3, f3, g3⟩ := rvs_c f2
  obtain ⟨x4, r4, e4, f4, g4⟩ := rvs_c f3
  obtain ⟨x5, r5, e5, f5, g5⟩ := rvs_c f4
  subst g5; subst g4; subst g3; subst g2
  cases g1
  exact rvs_i e1 (rvs_i e2 (rvs_i e3 (rvs_i rfl (rvs_i e5 f5))))
def mkC : xC := .inl (8, [.ref 35, .ref 65, .ref 104, .ref 125, .ref 367, .ref 283, .ref 304, .ref 325, .ref 341, .ref 357, .ref 359, .ref 361, .ref 363, .ref 365])
set_option maxRecDepth 100000 in
set_option maxHeartbeats 4000000 in
theorem join_g {h h5 DS DS' cs : xH} {J : List Nat} {X Y P Q0 : Nat} {rx ry md md' bv nv : List Value} {w : Int32} {b1 b2 b3 b4 b5 : Value} (hm : h[282]? = some mkC) (hX : h[X]? = some (.inl (2, .ref P :: rx))) (hY : h[Y]? = some (.inl (2, .ref Q0 :: ry))) (h283 : h[283]? = some (.inl (2, .ref 284 :: md))) (h367 : h[367]? = some (.inl (7, bv)))
    (hcut : cutJ h [.ref 367, .ref P, .ref Q0, .int w, .ref 284] J DS [b1, b2, b3, b4, b5]) (hsl : (lg_sl [b1, b2, b3, b4, b5]).length ≤ 7) (hbl : cR 119 6 250 [b1, b2, b3, b4, b5] DS (fun v h' => v = none ∧ h' = DS')) (hJl : J.length ≤ DS'.length) (hcs : rcs (bk J h.length) DS' = some cs) (hmg : mg h J cs = h5)
    (m5 : h5[282]? = some mkC) (h5m : h5[283]? = some (.inl (2, .ref 284 :: md'))) (h5f : h5[284]? = some (.inl (1, [.ref 285, .int 1]))) (h5n : h5[104]? = some (.inl (5, nv)))
    (hdd : cR 20 4 150 [.ref 282, .ref 284] h5 (fun v h' => v = none ∧ h' = h5)) (hpl : cR 100 4 150 [.ref 104, .ref 283] h5 (fun v h' => v = none ∧ h' = h5)) :
    cR 118 7 280 [.ref 282, .ref X, .ref Y, .int w] h (fun v h' => v = some (.ref 283) ∧ h' = h5) := by
  intro fb lb hf hl
  refine blk_go ob_118 (fun _ => false) 30 ?_
  (conv => whnf)
  rw [hm]
  (conv => whnf)
  rw [hX]
  (conv => whnf)
  rw [hY]
  (conv => whnf)
  rw [hm]
  (conv => whnf)
  rw [h283]
  refine go_vc (idx := 123) (q := 4) (mj := 119) [.ref 367, .ref P, .ref Q0, .int w, .ref 284] ((ob_118.1 20).trans rfl) rfl rfl (Nat.le_of_ble_eq_true rfl) rfl h367 rfl rfl hcut hbl (Nat.le_of_ble_eq_true rfl) (by omega) (by show 250 + (19 + 7) ≤ lb; omega) hsl (fun v1 h1 c1 s1 e => ?_) (fun k h1 c1 s1 e => ?_)
  · obtain ⟨v', h', e, e2⟩ := e
    cases e
    obtain ⟨rfl, rfl⟩ := e2
    refine ⟨cs, none, hJl, hcs, rfl, ?_⟩
    rw [hmg]
    refine blk_go ob_118 (fun _ => false) 30 ?_
    (conv => whnf)
    rw [m5]
    (conv => whnf)
    rw [h5m]
    refine vB (idx := 127) (mj := 20) (q := 1) (n := 2) [.ref 282, .ref 284] ((ob_118.1 31).trans rfl) rfl rfl (Nat.le_of_ble_eq_true rfl) rfl (m5) rfl rfl (hdd) (Nat.le_of_ble_eq_true rfl) (by omega) rfl (by omega) (Nat.le_of_ble_eq_true rfl) (fun v h1 e => ?_)
    obtain ⟨rfl, rfl⟩ := e
    refine blk_go ob_118 (fun _ => false) 30 ?_
    (conv => whnf)
    rw [m5]
    (conv => whnf)
    rw [h5m]
    (conv => whnf)
    rw [h5f]
    (conv => whnf); refine br_f (show ¬ ¬ (1 : Int32) = nI 1 by decide) ?_
    (conv => whnf)
    rw [m5]
    (conv => whnf)
    rw [m5]
    refine vB (idx := 96) (mj := 100) (q := 1) (n := 2) [.ref 104, .ref 283] ((ob_118.1 56).trans rfl) rfl rfl (Nat.le_of_ble_eq_true rfl) rfl (h5n) rfl rfl (hpl) (Nat.le_of_ble_eq_true rfl) (by omega) rfl (by omega) (Nat.le_of_ble_eq_true rfl) (fun v h1 e => ?_)
    obtain ⟨rfl, rfl⟩ := e
    refine blk_go ob_118 (fun _ => false) 30 ?_
    (conv => whnf)
    rw [m5]
    exact go_aret ((ob_118.1 63).trans rfl) rfl (Or.inl ⟨_, rfl⟩) ⟨_, _, rfl, rfl, rfl⟩
  · obtain ⟨v', h', e, e2⟩ := e
    cases e
set_option maxRecDepth 100000 in
set_option maxHeartbeats 4000000 in
theorem c_jsize {h : xH} {i j : Nat} (hd : dk h) (hi : i < 8) (hj : j < 8) : cR 117 0 0 [.ref (481 + 21 * i), .ref (481 + 21 * j)] h (fun v h' => h' = h ∧ v = some (.int 53)) := by
  intro fb lb _ _
  refine blk_go ob_117 (fun _ => false) 60 ?_
  (conv => whnf)
  rw [hd.2.2 j hj]
  (conv => whnf)
  rw [hd.2.2 i hi]
  (conv => whnf)
  rw [hd.2.2 i hi]
  (conv => whnf)
  rw [hd.2.2 j hj]
  (conv => whnf)
  rw [hd.2.2 j hj]
  refine go_iret ((ob_117.1 30).trans rfl) rfl (vp_nar_int _) ⟨_, _, rfl, rfl, ?_⟩
  decide
set_option maxRecDepth 100000 in
set_option maxHeartbeats 4000000 in
theorem c_great {h : xH} {i j : Nat} (hd : dk h) (hi : i < 8) (hj : j < 8) : cR 116 1 22 [.ref (481 + 21 * i), .ref (481 + 21 * j)] h (fun v h' => h' = h ∧ v = some (.int (nI 0))) := by
  intro fb lb _ _
  refine blk_go ob_116 (fun _ => false) 60 ?_
  (conv => whnf)
  rw [hd.2.2 i hi]
  (conv => whnf)
  rw [hd.2.2 j hj]
  (conv => whnf); refine br_f (show ¬ nI 6 < (1 : Int32) * 1 by decide) ?_
  refine vS (idx := 172) (mj := 117) (q := 2) (n := 2) [.ref (481 + 21 * i), .ref (481 + 21 * j)] ((ob_116.1 16).trans rfl) rfl (Nat.le_of_ble_eq_true rfl) rfl rfl (c_jsize hd hi hj) (Nat.le_of_ble_eq_true rfl) (by omega) rfl (by omega) (Nat.le_of_ble_eq_true rfl) (fun v h1 e => ?_)
  obtain ⟨rfl, rfl⟩ := e
  refine blk_go ob_116 (fun _ => false) 30 ?_
  (conv => whnf); refine br_t (show (53 : Int32) ≤ nI 130 by decide) ?_
  exact go_iret ((ob_116.1 30).trans rfl) rfl rfl ⟨_, _, rfl, rfl, rfl⟩
set_option maxRecDepth 100000 in
set_option maxHeartbeats 4000000 in
theorem settle_g {h5 : xH} {t i j : Nat} (hd : dk h5) (ht : t < 8) (hi : i < 8) (hj : j < 8) (ha : cR 97 4 120 [.ref (481 + 21 * t), .ref 283] h5 (fun v h' => v = none ∧ h' = h5)) (hw : cR 13 0 0 [.ref (481 + 21 * t), .int (1 * 1), .int 53] h5 (fun v _ => v = none)) : cR 132 5 145 [.ref (481 + 21 * t), .ref 283, .ref (481 + 21 * i), .ref (481 + 21 * j)] h5 (fun v _ => v = none) := by
  intro fb lb hf hl
  refine blk_go ob_132 (fun _ => false) 60 ?_
  (conv => whnf)
  rw [hd.2.2 i hi]
  (conv => whnf)
  rw [hd.2.2 j hj]
  refine vS (idx := 172) (mj := 117) (q := 2) (n := 2) [.ref (481 + 21 * i), .ref (481 + 21 * j)] ((ob_132.1 13).trans rfl) rfl (Nat.le_of_ble_eq_true rfl) rfl rfl (c_jsize hd hi hj) (Nat.le_of_ble_eq_true rfl) (by omega) rfl (by omega) (Nat.le_of_ble_eq_true rfl) (fun v h1 e => ?_)
  obtain ⟨rfl, rfl⟩ := e
  refine blk_go ob_132 (fun _ => false) 30 ?_
  refine vB (idx := 116) (mj := 97) (q := 1) (n := 2) [.ref (481 + 21 * t), .ref 283] ((ob_132.1 20).trans rfl) rfl rfl (Nat.le_of_ble_eq_true rfl) rfl (hd.2.2 t ht) rfl rfl (ha) (Nat.le_of_ble_eq_true rfl) (by omega) rfl (by omega) (Nat.le_of_ble_eq_true rfl) (fun v h1 e => ?_)
  obtain ⟨rfl, rfl⟩ := e
  refine blk_go ob_132 (fun _ => false) 30 ?_
  refine vB (idx := 83) (mj := 13) (q := 2) (n := 3) [.ref (481 + 21 * t), .int (1 * 1), .int 53] ((ob_132.1 28).trans rfl) rfl rfl (Nat.le_of_ble_eq_true rfl) rfl (hd.2.2 t ht) rfl rfl (hw) (Nat.le_of_ble_eq_true rfl) (by omega) rfl (by omega) (Nat.le_of_ble_eq_true rfl) (fun v h1 e => ?_)
  obtain rfl := e
  exact go_vret ((ob_132.1 31).trans rfl) rfl ⟨_, _, rfl, rfl⟩
set_option maxRecDepth 100000 in
set_option maxHeartbeats 4000000 in
theorem add_g {h h5 : xH} {t i j : Nat} (hd : dk h) (ht : t < 8) (hi : i < 8) (hj : j < 8) (hm : h[282]? = some mkC) (hJ : cR 118 7 280 [.ref 282, .ref (481 + 21 * i), .ref (481 + 21 * j), .int (nI 1)] h (fun v h' => v = some (.ref 283) ∧ h' = h5)) (hs : cR 132 5 145 [.ref (481 + 21 * t), .ref 283, .ref (481 + 21 * i), .ref (481 + 21 * j)] h5 (fun v _ => v = none)) : cR 115 8 310 [.ref 0, .int (nI t), .int (nI i), .int (nI j)] h (fun v _ => v = some (.int (nI 1))) := by
  intro fb lb hf hl
  refine blk_go ob_115 (fun _ => false) 30 ?_
  refine vB (idx := 101) (mj := 78) (q := 1) (n := 2) [.ref 0, .int (nI t)] ((ob_115.1 2).trans rfl) rfl rfl (Nat.le_of_ble_eq_true rfl) rfl (hd.1) rfl rfl (c_slotT hd ht) (Nat.le_of_ble_eq_true rfl) (by omega) rfl (by omega) (Nat.le_of_ble_eq_true rfl) (fun v h1 e => ?_)
  obtain ⟨rfl, rfl⟩ := e
  refine blk_go ob_115 (fun _ => false) 30 ?_
  refine vB (idx := 101) (mj := 78) (q := 1) (n := 2) [.ref 0, .int (nI i)] ((ob_115.1 9).trans rfl) rfl rfl (Nat.le_of_ble_eq_true rfl) rfl (hd.1) rfl rfl (c_slotT hd hi) (Nat.le_of_ble_eq_true rfl) (by omega) rfl (by omega) (Nat.le_of_ble_eq_true rfl) (fun v h1 e => ?_)
  obtain ⟨rfl, rfl⟩ := e
  refine blk_go ob_115 (fun _ => false) 30 ?_
  refine vB (idx := 101) (mj := 78) (q := 1) (n := 2) [.ref 0, .int (nI j)] ((ob_115.1 16).trans rfl) rfl rfl (Nat.le_of_ble_eq_true rfl) rfl (hd.1) rfl rfl (c_slotT hd hj) (Nat.le_of_ble_eq_true rfl) (by omega) rfl (by omega) (Nat.le_of_ble_eq_true rfl) (fun v h1 e => ?_)
  obtain ⟨rfl, rfl⟩ := e
  refine blk_go ob_115 (fun _ => false) 30 ?_
  refine vS (idx := 145) (mj := 116) (q := 2) (n := 2) [.ref (481 + 21 * i), .ref (481 + 21 * j)] ((ob_115.1 25).trans rfl) rfl (Nat.le_of_ble_eq_true rfl) rfl rfl (c_great hd hi hj) (Nat.le_of_ble_eq_true rfl) (by omega) rfl (by omega) (Nat.le_of_ble_eq_true rfl) (fun v h1 e => ?_)
  obtain ⟨rfl, rfl⟩ := e
  refine blk_go ob_115 (fun _ => false) 30 ?_
  (conv => whnf); refine br_t (show nI 0 = 0 by decide) ?_
  (conv => whnf)
  rw [hd.1]
  refine vB (idx := 149) (mj := 118) (q := 3) (n := 6) [.ref 282, .ref (481 + 21 * i), .ref (481 + 21 * j), .int (nI 1)] ((ob_115.1 44).trans rfl) rfl rfl (Nat.le_of_ble_eq_true rfl) rfl (hm) rfl rfl (hJ) (Nat.le_of_ble_eq_true rfl) (by omega) rfl (by omega) (Nat.le_of_ble_eq_true rfl) (fun v h1 e => ?_)
  obtain ⟨rfl, rfl⟩ := e
  refine blk_go ob_115 (fun _ => false) 30 ?_
  refine vS (idx := 153) (mj := 132) (q := 4) (n := 6) [.ref (481 + 21 * t), .ref 283, .ref (481 + 21 * i), .ref (481 + 21 * j)] ((ob_115.1 51).trans rfl) rfl (Nat.le_of_ble_eq_true rfl) rfl rfl (hs) (Nat.le_of_ble_eq_true rfl) (by omega) rfl (by omega) (Nat.le_of_ble_eq_true rfl) (fun v h1 e => ?_)
  obtain rfl := e
  refine blk_go ob_115 (fun _ => false) 30 ?_
  exact go_iret ((ob_115.1 55).trans rfl) rfl rfl ⟨_, _, rfl, rfl⟩
set_option maxRecDepth 100000 in
set_option maxHeartbeats 4000000 in
theorem multiply_g {h h5 : xH} {t i j : Nat} (hd : dk h) (ht : t < 8) (hi : i < 8) (hj : j < 8) (hm : h[282]? = some mkC) (hJ : cR 118 7 280 [.ref 282, .ref (481 + 21 * i), .ref (481 + 21 * j), .int (nI 0)] h (fun v h' => v = some (.ref 283) ∧ h' = h5)) (hs : cR 132 5 145 [.ref (481 + 21 * t), .ref 283, .ref (481 + 21 * i), .ref (481 + 21 * j)] h5 (fun v _ => v = none)) : cR 134 8 310 [.ref 0, .int (nI t), .int (nI i), .int (nI j)] h (fun v _ => v = some (.int (nI 1))) := by
  intro fb lb hf hl
  refine blk_go ob_134 (fun _ => false) 30 ?_
  refine vB (idx := 101) (mj := 78) (q := 1) (n := 2) [.ref 0, .int (nI t)] ((ob_134.1 2).trans rfl) rfl rfl (Nat.le_of_ble_eq_true rfl) rfl (hd.1) rfl rfl (c_slotT hd ht) (Nat.le_of_ble_eq_true rfl) (by omega) rfl (by omega) (Nat.le_of_ble_eq_true rfl) (fun v h1 e => ?_)
  obtain ⟨rfl, rfl⟩ := e
  refine blk_go ob_134 (fun _ => false) 30 ?_
  refine vB (idx := 101) (mj := 78) (q := 1) (n := 2) [.ref 0, .int (nI i)] ((ob_134.1 9).trans rfl) rfl rfl (Nat.le_of_ble_eq_true rfl) rfl (hd.1) rfl rfl (c_slotT hd hi) (Nat.le_of_ble_eq_true rfl) (by omega) rfl (by omega) (Nat.le_of_ble_eq_true rfl) (fun v h1 e => ?_)
  obtain ⟨rfl, rfl⟩ := e
  refine blk_go ob_134 (fun _ => false) 30 ?_
  refine vB (idx := 101) (mj := 78) (q := 1) (n := 2) [.ref 0, .int (nI j)] ((ob_134.1 16).trans rfl) rfl rfl (Nat.le_of_ble_eq_true rfl) rfl (hd.1) rfl rfl (c_slotT hd hj) (Nat.le_of_ble_eq_true rfl) (by omega) rfl (by omega) (Nat.le_of_ble_eq_true rfl) (fun v h1 e => ?_)
  obtain ⟨rfl, rfl⟩ := e
  refine blk_go ob_134 (fun _ => false) 30 ?_
  refine vS (idx := 145) (mj := 116) (q := 2) (n := 2) [.ref (481 + 21 * i), .ref (481 + 21 * j)] ((ob_134.1 25).trans rfl) rfl (Nat.le_of_ble_eq_true rfl) rfl rfl (c_great hd hi hj) (Nat.le_of_ble_eq_true rfl) (by omega) rfl (by omega) (Nat.le_of_ble_eq_true rfl) (fun v h1 e => ?_)
  obtain ⟨rfl, rfl⟩ := e
  refine blk_go ob_134 (fun _ => false) 30 ?_
  (conv => whnf); refine br_t (show nI 0 = 0 by decide) ?_
  (conv => whnf)
  rw [hd.1]
  refine vB (idx := 149) (mj := 118) (q := 3) (n := 6) [.ref 282, .ref (481 + 21 * i), .ref (481 + 21 * j), .int (nI 0)] ((ob_134.1 44).trans rfl) rfl rfl (Nat.le_of_ble_eq_true rfl) rfl (hm) rfl rfl (hJ) (Nat.le_of_ble_eq_true rfl) (by omega) rfl (by omega) (Nat.le_of_ble_eq_true rfl) (fun v h1 e => ?_)
  obtain ⟨rfl, rfl⟩ := e
  refine blk_go ob_134 (fun _ => false) 30 ?_
  refine vS (idx := 153) (mj := 132) (q := 4) (n := 6) [.ref (481 + 21 * t), .ref 283, .ref (481 + 21 * i), .ref (481 + 21 * j)] ((ob_134.1 51).trans rfl) rfl (Nat.le_of_ble_eq_true rfl) rfl rfl (hs) (Nat.le_of_ble_eq_true rfl) (by omega) rfl (by omega) (Nat.le_of_ble_eq_true rfl) (fun v h1 e => ?_)
  obtain rfl := e
  refine blk_go ob_134 (fun _ => false) 30 ?_
  exact go_iret ((ob_134.1 55).trans rfl) rfl rfl ⟨_, _, rfl, rfl⟩
set_option maxRecDepth 100000 in
set_option maxHeartbeats 4000000 in
theorem subtract_g {h h5 : xH} {t i j : Nat} (hd : dk h) (ht : t < 8) (hi : i < 8) (hj : j < 8) (hm : h[282]? = some mkC) (ho : cR 104 5 160 [.ref 282, .ref (481 + 21 * j)] h (fun v h' => v = some (.ref 304) ∧ h' = h)) (hJ : cR 118 7 280 [.ref 282, .ref (481 + 21 * i), .ref 304, .int (nI 1)] h (fun v h' => v = some (.ref 283) ∧ h' = h5)) (hs : cR 132 5 145 [.ref (481 + 21 * t), .ref 283, .ref (481 + 21 * i), .ref (481 + 21 * j)] h5 (fun v _ => v = none)) : cR 133 8 310 [.ref 0, .int (nI t), .int (nI i), .int (nI j)] h (fun v _ => v = some (.int (nI 1))) := by
  intro fb lb hf hl
  refine blk_go ob_133 (fun _ => false) 30 ?_
  refine vB (idx := 101) (mj := 78) (q := 1) (n := 2) [.ref 0, .int (nI t)] ((ob_133.1 2).trans rfl) rfl rfl (Nat.le_of_ble_eq_true rfl) rfl (hd.1) rfl rfl (c_slotT hd ht) (Nat.le_of_ble_eq_true rfl) (by omega) rfl (by omega) (Nat.le_of_ble_eq_true rfl) (fun v h1 e => ?_)
  obtain ⟨rfl, rfl⟩ := e
  refine blk_go ob_133 (fun _ => false) 30 ?_
  refine vB (idx := 101) (mj := 78) (q := 1) (n := 2) [.ref 0, .int (nI i)] ((ob_133.1 9).trans rfl) rfl rfl (Nat.le_of_ble_eq_true rfl) rfl (hd.1) rfl rfl (c_slotT hd hi) (Nat.le_of_ble_eq_true rfl) (by omega) rfl (by omega) (Nat.le_of_ble_eq_true rfl) (fun v h1 e => ?_)
  obtain ⟨rfl, rfl⟩ := e
  refine blk_go ob_133 (fun _ => false) 30 ?_
  refine vB (idx := 101) (mj := 78) (q := 1) (n := 2) [.ref 0, .int (nI j)] ((ob_133.1 16).trans rfl) rfl rfl (Nat.le_of_ble_eq_true rfl) rfl (hd.1) rfl rfl (c_slotT hd hj) (Nat.le_of_ble_eq_true rfl) (by omega) rfl (by omega) (Nat.le_of_ble_eq_true rfl) (fun v h1 e => ?_)
  obtain ⟨rfl, rfl⟩ := e
  refine blk_go ob_133 (fun _ => false) 30 ?_
  refine vS (idx := 145) (mj := 116) (q := 2) (n := 2) [.ref (481 + 21 * i), .ref (481 + 21 * j)] ((ob_133.1 25).trans rfl) rfl (Nat.le_of_ble_eq_true rfl) rfl rfl (c_great hd hi hj) (Nat.le_of_ble_eq_true rfl) (by omega) rfl (by omega) (Nat.le_of_ble_eq_true rfl) (fun v h1 e => ?_)
  obtain ⟨rfl, rfl⟩ := e
  refine blk_go ob_133 (fun _ => false) 30 ?_
  (conv => whnf); refine br_t (show nI 0 = 0 by decide) ?_
  (conv => whnf)
  rw [hd.1]
  (conv => whnf)
  rw [hd.1]
  refine vB (idx := 132) (mj := 104) (q := 1) (n := 2) [.ref 282, .ref (481 + 21 * j)] ((ob_133.1 47).trans rfl) rfl rfl (Nat.le_of_ble_eq_true rfl) rfl (hm) rfl rfl (ho) (Nat.le_of_ble_eq_true rfl) (by omega) rfl (by omega) (Nat.le_of_ble_eq_true rfl) (fun v h1 e => ?_)
  obtain ⟨rfl, rfl⟩ := e
  refine blk_go ob_133 (fun _ => false) 30 ?_
  refine vB (idx := 149) (mj := 118) (q := 3) (n := 6) [.ref 282, .ref (481 + 21 * i), .ref 304, .int (nI 1)] ((ob_133.1 51).trans rfl) rfl rfl (Nat.le_of_ble_eq_true rfl) rfl (hm) rfl rfl (hJ) (Nat.le_of_ble_eq_true rfl) (by omega) rfl (by omega) (Nat.le_of_ble_eq_true rfl) (fun v h1 e => ?_)
  obtain ⟨rfl, rfl⟩ := e
  refine blk_go ob_133 (fun _ => false) 30 ?_
  refine vS (idx := 153) (mj := 132) (q := 4) (n := 6) [.ref (481 + 21 * t), .ref 283, .ref (481 + 21 * i), .ref (481 + 21 * j)] ((ob_133.1 58).trans rfl) rfl (Nat.le_of_ble_eq_true rfl) rfl rfl (hs) (Nat.le_of_ble_eq_true rfl) (by omega) rfl (by omega) (Nat.le_of_ble_eq_true rfl) (fun v h1 e => ?_)
  obtain rfl := e
  refine blk_go ob_133 (fun _ => false) 30 ?_
  exact go_iret ((ob_133.1 62).trans rfl) rfl rfl ⟨_, _, rfl, rfl⟩
