theorem pr_H0' : H0[451]? = some prC := eqO_ok (by decide +kernel)
theorem sc_H0 : ∃ vs, H0[469]? = some (.inl (0, vs)) := ⟨_, eqO_ok (b := .inl (0, [.ref 470, .int 0, .int 0])) (by decide +kernel)⟩
set_option maxRecDepth 100000 in
set_option maxHeartbeats 4000000 in
theorem k_write_g {Hk Hk2 : xH} {vs : List Value} {kk X : Nat} (hvs : Hk[469]? = some (.inl (0, vs))) (hpr : Hk[451]? = some prC) (h0 : cR 4 1 30 [.ref 469, .long (lN 1)] Hk (fun v h => v = none ∧ h = Hk2)) (hloop : ∀ (fb lb : Nat) (Q : yR → Prop), 6 ≤ fb → 230 ≤ lb → (∀ h, Q (.inl (some (.int 1)), h, 0, 0)) → gX fb lb 146 10 [(3, .int (nI 0)), (0, .ref 451), (1, .ref X), (2, .int (nI kk))] [] Hk2 0 0 Q) : cR 146 6 230 [.ref 451, .ref X, .int (nI kk)] Hk (fun v _ => v = some (.int 1)) := by
  intro fb lb hf hl
  refine blk_go ob_146 (fun _ => false) 30 ?_
  (conv => whnf)
  rw [hpr]
  refine vB (idx := 56) (mj := 4) (q := 1) (n := 6) [.ref 469, .long (lN 1)] ((ob_146.1 5).trans rfl) rfl rfl (Nat.le_of_ble_eq_true rfl) rfl (hvs) rfl rfl (h0) (Nat.le_of_ble_eq_true rfl) (by omega) rfl (by omega) (Nat.le_of_ble_eq_true rfl) (fun v h1 e => ?_)
  obtain ⟨rfl, rfl⟩ := e
  refine blk_go ob_146 (fun pc => Nat.beq pc 10) 30 ?_
  exact hloop fb lb _ hf hl (fun h => ⟨_, _, rfl, rfl⟩)
theorem k_write {kk j : Nat} (hkk : kk ≤ 30) (hj : j < 8) : cR 146 6 230 [.ref 451, .ref (481 + 21 * j), .int (nI kk)] H0 (fun v _ => v = some (.int 1)) := by
  obtain ⟨vs, hvs⟩ := sc_H0
  exact k_write_g hvs pr_H0' k_sc0 (fun fb lb Q h1 h2 h3 => wr_loop h1 h2 hkk hj h3 kk 0 (Nat.zero_add kk))
set_option maxRecDepth 100000 in
set_option maxHeartbeats 4000000 in
theorem k_print {kk j : Nat} (hkk : kk ≤ 30) (hj : j < 8) : cR 145 7 260 [.ref 0, .int (nI j), .int (nI kk)] H0 (fun v _ => v = some (.int 1)) := by
  intro fb lb hf hl
  refine blk_go ob_145 (fun _ => false) 30 ?_
  refine vB (idx := 101) (mj := 78) (q := 1) (n := 2) [.ref 0, .int (nI j)] ((ob_145.1 2).trans rfl) rfl rfl (Nat.le_of_ble_eq_true rfl) rfl (dk_H0.1) rfl rfl (c_slotT dk_H0 hj) (Nat.le_of_ble_eq_true rfl) (by omega) rfl (by omega) (Nat.le_of_ble_eq_true rfl) (fun v h1 e => ?_)
  obtain ⟨rfl, rfl⟩ := e
  refine blk_go ob_145 (fun _ => false) 30 ?_
  (conv => whnf); refine br_f (show ¬ nI kk < 0 from nI_pos (by omega)) ?_
  (conv => whnf); refine br_t (show nI kk ≤ nI 30 from nI_le (by omega) (by decide)) ?_
  refine vB (idx := 161) (mj := 146) (q := 2) (n := 4) [.ref 451, .ref (481 + 21 * j), .int (nI kk)] ((ob_145.1 30).trans rfl) rfl rfl (Nat.le_of_ble_eq_true rfl) rfl (pr_H0') rfl rfl (k_write hkk hj) (Nat.le_of_ble_eq_true rfl) (by omega) rfl (by omega) (Nat.le_of_ble_eq_true rfl) (fun v h1 e => ?_)
  obtain rfl := e
  exact go_iret ((ob_145.1 33).trans rfl) rfl (vp_nar_int _) ⟨_, _, rfl, rfl⟩
