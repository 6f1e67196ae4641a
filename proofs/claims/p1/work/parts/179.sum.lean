/-! add, subtract, multiply on the fresh desk -/
theorem mk_H0 : H0[282]? = some mkC := eqO_ok (by decide +kernel)
theorem r283_H0 : H0[283]? = some (.inl (2, [.ref 284, .ref 300, .ref 302, .int 0, .int 0, .int 1, .int 1, .int 0])) := eqO_ok (by decide +kernel)
theorem r304_H0 : H0[304]? = some (.inl (2, [.ref 305, .ref 321, .ref 323, .int 0, .int 0, .int 1, .int 1, .int 0])) := eqO_ok (by decide +kernel)
theorem r367_H0 : H0[367]? = some (.inl (7, [.ref 35, .ref 368, .ref 369, .ref 370, .ref 371, .ref 372, .ref 374, .ref 376])) := eqO_ok (by decide +kernel)
def sameT (u : xT) (v : Option Value) (w : Option Value) (t : xT) : Bool := decide (w = v) && eqT t u
theorem cR_same {mj n F B : Nat} {avs : List Value} {h : xH} {u : xT} {v : Option Value} (R : rep u h) (hr : t_ok (run3 xX xB.1 xB.2.1 n F B mj 0 (lv_args 0 avs) [] u) (sameT u v) = true) : cR mj F B avs h (fun w h' => w = v ∧ h' = h) := (cR_run3 R hr).weak (fun w h' z => by
  obtain ⟨t', h1, h2, -⟩ := z
  unfold sameT at h1
  rw [Bool.and_eq_true] at h1
  rw [eqT_ok h1.2] at h2
  exact ⟨of_decide_eq_true h1.1, rep_inj h2 R⟩)
set_option maxRecDepth 1000000 in
theorem kr_opp : (List.range 8).all (fun j => t_ok (run3 xX xB.1 xB.2.1 400 5 160 104 0 (lv_args 0 [.ref 282, .ref (481 + 21 * j)]) [] H0T) (sameT H0T (some (.ref 304)))) = true := by decide +kernel
theorem k_opp {j : Nat} (hj : j < 8) : cR 104 5 160 [.ref 282, .ref (481 + 21 * j)] H0 (fun v h => v = some (.ref 304) ∧ h = H0) := cR_same H0T_rep (List.all_eq_true.mp kr_opp j (List.mem_range.mpr hj))
def H51T : xT := stT S51 H0T
set_option maxRecDepth 1000000 in
theorem H51_rep : rep H51T H51 := rep_sets H0T_rep (fun q hq => by rw [len_H0]; exact st_ok (n := 649) (by decide +kernel) q hq)
set_option maxRecDepth 1000000 in
theorem dk_H51 : dk H51 := dkB_ok (by decide +kernel)
theorem mk_H51 : H51[282]? = some mkC := eqO_ok (by decide +kernel)
theorem r283_H51 : H51[283]? = some (.inl (2, [.ref 284, .ref 300, .ref 302, .int 0, .int 0, .int 1, .int 1, .int 0])) := eqO_ok (by decide +kernel)
theorem r284_H51 : H51[284]? = some (.inl (1, [.ref 285, .int 1])) := eqO_ok (by decide +kernel)
theorem r104_H51 : H51[104]? = some (.inl (5, [.ref 35, .ref 105, .ref 107, .ref 109, .ref 111, .ref 113, .ref 115, .ref 117, .ref 119, .ref 121, .ref 123])) := eqO_ok (by decide +kernel)
set_option maxRecDepth 1000000 in
theorem kr_dd1 : t_ok (run3 xX xB.1 xB.2.1 400 4 150 20 0 (lv_args 0 [.ref 282, .ref 284]) [] H51T) (sameT H51T none) = true := by decide +kernel
set_option maxRecDepth 1000000 in
theorem kr_pl1 : t_ok (run3 xX xB.1 xB.2.1 400 4 150 100 0 (lv_args 0 [.ref 104, .ref 283]) [] H51T) (sameT H51T none) = true := by decide +kernel
set_option maxRecDepth 1000000 in
theorem kr_as1 : (List.range 8).all (fun j => t_ok (run3 xX xB.1 xB.2.1 300 4 120 97 0 (lv_args 0 [.ref (481 + 21 * j), .ref 283]) [] H51T) (sameT H51T none)) = true := by decide +kernel
set_option maxRecDepth 1000000 in
theorem kr_we1 : (List.range 8).all (fun j => t_ok (run3 xX xB.1 xB.2.1 30 0 0 13 0 (lv_args 0 [.ref (481 + 21 * j), .int (1 * 1), .int 53]) [] H51T) (fun v _ => v.isNone)) = true := by decide +kernel
theorem k_join1 {i j : Nat} (hi : i < 8) (hj : j < 8) : cR 118 7 280 [.ref 282, .ref (481 + 21 * i), .ref (481 + 21 * j), .int (nI 1)] H0 (fun v h => v = some (.ref 283) ∧ h = H51) := by
  by_cases e : i = j
  · subst e
    have h := List.all_eq_true.mp cutE i (List.mem_range.mpr hi)
    simp only [Bool.and_eq_true] at h
    obtain ⟨hc, h1, h0⟩ := h
    obtain ⟨l1, cs, l2, l3⟩ := bkB_ok h1
    exact join_g mk_H0 (dk_H0.2.2 i hi) (dk_H0.2.2 i hi) r283_H0 r367_H0 (cut_w (cutB_ok hc) (nI 1)) (Nat.le_of_ble_eq_true rfl) k_DE1 l1 l2 l3 mk_H51 r283_H51 r284_H51 r104_H51 (cR_same H51_rep kr_dd1) (cR_same H51_rep kr_pl1)
  · have h := List.all_eq_true.mp (cutN i hi) j (List.mem_range.mpr hj)
    simp only [Bool.or_eq_true, Bool.and_eq_true] at h
    rcases h with h | ⟨hc, h1, h0⟩
    · exact absurd (Nat.eq_of_beq_eq_true h) e
    · obtain ⟨l1, cs, l2, l3⟩ := bkB_ok h1
      exact join_g mk_H0 (dk_H0.2.2 i hi) (dk_H0.2.2 j hj) r283_H0 r367_H0 (cut_w (cutB_ok hc) (nI 1)) (Nat.le_of_ble_eq_true rfl) k_DN1 l1 l2 l3 mk_H51 r283_H51 r284_H51 r104_H51 (cR_same H51_rep kr_dd1) (cR_same H51_rep kr_pl1)
theorem k_set1 {t i j : Nat} (ht : t < 8) (hi : i < 8) (hj : j < 8) : cR 132 5 145 [.ref (481 + 21 * t), .ref 283, .ref (481 + 21 * i), .ref (481 + 21 * j)] H51 (fun v _ => v = none) := settle_g dk_H51 ht hi hj (cR_same H51_rep (List.all_eq_true.mp kr_as1 t (List.mem_range.mpr ht))) ((cR_run3 H51_rep (List.all_eq_true.mp kr_we1 t (List.mem_range.mpr ht))).weak (fun v h z => by
  obtain ⟨t', h1, -⟩ := z
  simpa using h1))
def H50T : xT := stT S50 H0T
set_option maxRecDepth 1000000 in
theorem H50_rep : rep H50T H50 := rep_sets H0T_rep (fun q hq => by rw [len_H0]; exact st_ok (n := 649) (by decide +kernel) q hq)
set_option maxRecDepth 1000000 in
theorem dk_H50 : dk H50 := dkB_ok (by decide +kernel)
theorem mk_H50 : H50[282]? = some mkC := eqO_ok (by decide +kernel)
theorem r283_H50 : H50[283]? = some (.inl (2, [.ref 284, .ref 300, .ref 302, .int 0, .int 0, .int 1, .int 1, .int 0])) := eqO_ok (by decide +kernel)
theorem r284_H50 : H50[284]? = some (.inl (1, [.ref 285, .int 1])) := eqO_ok (by decide +kernel)
theorem r104_H50 : H50[104]? = some (.inl (5, [.ref 35, .ref 105, .ref 107, .ref 109, .ref 111, .ref 113, .ref 115, .ref 117, .ref 119, .ref 121, .ref 123])) := eqO_ok (by decide +kernel)
set_option maxRecDepth 1000000 in
theorem kr_dd0 : t_ok (run3 xX xB.1 xB.2.1 400 4 150 20 0 (lv_args 0 [.ref 282, .ref 284]) [] H50T) (sameT H50T none) = true := by decide +kernel
set_option maxRecDepth 1000000 in
theorem kr_pl0 : t_ok (run3 xX xB.1 xB.2.1 400 4 150 100 0 (lv_args 0 [.ref 104, .ref 283]) [] H50T) (sameT H50T none) = true := by decide +kernel
set_option maxRecDepth 1000000 in
theorem kr_as0 : (List.range 8).all (fun j => t_ok (run3 xX xB.1 xB.2.1 300 4 120 97 0 (lv_args 0 [.ref (481 + 21 * j), .ref 283]) [] H50T) (sameT H50T none)) = true := by decide +kernel
set_option maxRecDepth 1000000 in
theorem kr_we0 : (List.range 8).all (fun j => t_ok (run3 xX xB.1 xB.2.1 30 0 0 13 0 (lv_args 0 [.ref (481 + 21 * j), .int (1 * 1), .int 53]) [] H50T) (fun v _ => v.isNone)) = true := by decide +kernel
theorem k_join0 {i j : Nat} (hi : i < 8) (hj : j < 8) : cR 118 7 280 [.ref 282, .ref (481 + 21 * i), .ref (481 + 21 * j), .int (nI 0)] H0 (fun v h => v = some (.ref 283) ∧ h = H50) := by
  by_cases e : i = j
  · subst e
    have h := List.all_eq_true.mp cutE i (List.mem_range.mpr hi)
    simp only [Bool.and_eq_true] at h
    obtain ⟨hc, h1, h0⟩ := h
    obtain ⟨l1, cs, l2, l3⟩ := bkB_ok h0
    exact join_g mk_H0 (dk_H0.2.2 i hi) (dk_H0.2.2 i hi) r283_H0 r367_H0 (cut_w (cutB_ok hc) (nI 0)) (Nat.le_of_ble_eq_true rfl) k_DE0 l1 l2 l3 mk_H50 r283_H50 r284_H50 r104_H50 (cR_same H50_rep kr_dd0) (cR_same H50_rep kr_pl0)
  · have h := List.all_eq_true.mp (cutN i hi) j (List.mem_range.mpr hj)
    simp only [Bool.or_eq_true, Bool.and_eq_true] at h
    rcases h with h | ⟨hc, h1, h0⟩
    · exact absurd (Nat.eq_of_beq_eq_true h) e
    · obtain ⟨l1, cs, l2, l3⟩ := bkB_ok h0
      exact join_g mk_H0 (dk_H0.2.2 i hi) (dk_H0.2.2 j hj) r283_H0 r367_H0 (cut_w (cutB_ok hc) (nI 0)) (Nat.le_of_ble_eq_true rfl) k_DN0 l1 l2 l3 mk_H50 r283_H50 r284_H50 r104_H50 (cR_same H50_rep kr_dd0) (cR_same H50_rep kr_pl0)
theorem k_set0 {t i j : Nat} (ht : t < 8) (hi : i < 8) (hj : j < 8) : cR 132 5 145 [.ref (481 + 21 * t), .ref 283, .ref (481 + 21 * i), .ref (481 + 21 * j)] H50 (fun v _ => v = none) := settle_g dk_H50 ht hi hj (cR_same H50_rep (List.all_eq_true.mp kr_as0 t (List.mem_range.mpr ht))) ((cR_run3 H50_rep (List.all_eq_true.mp kr_we0 t (List.mem_range.mpr ht))).weak (fun v h z => by
  obtain ⟨t', h1, -⟩ := z
  simpa using h1))
theorem k_joinS {i : Nat} (hi : i < 8) : cR 118 7 280 [.ref 282, .ref (481 + 21 * i), .ref 304, .int (nI 1)] H0 (fun v h => v = some (.ref 283) ∧ h = H51) := by
  have h := List.all_eq_true.mp cutS i (List.mem_range.mpr hi)
  simp only [Bool.and_eq_true] at h
  obtain ⟨hc, h1⟩ := h
  obtain ⟨l1, cs, l2, l3⟩ := bkB_ok h1
  exact join_g mk_H0 (dk_H0.2.2 i hi) r304_H0 r283_H0 r367_H0 (cutB_ok hc) (Nat.le_of_ble_eq_true rfl) k_DN1 l1 l2 l3 mk_H51 r283_H51 r284_H51 r104_H51 (cR_same H51_rep kr_dd1) (cR_same H51_rep kr_pl1)
theorem k_add {t i j : Nat} (ht : t < 8) (hi : i < 8) (hj : j < 8) : cR 115 8 310 [.ref 0, .int (nI t), .int (nI i), .int (nI j)] H0 (fun v _ => v = some (.int (nI 1))) := add_g dk_H0 ht hi hj mk_H0 (k_join1 hi hj) (k_set1 ht hi hj)
theorem k_multiply {t i j : Nat} (ht : t < 8) (hi : i < 8) (hj : j < 8) : cR 134 8 310 [.ref 0, .int (nI t), .int (nI i), .int (nI j)] H0 (fun v _ => v = some (.int (nI 1))) := multiply_g dk_H0 ht hi hj mk_H0 (k_join0 hi hj) (k_set0 ht hi hj)
theorem k_subtract {t i j : Nat} (ht : t < 8) (hi : i < 8) (hj : j < 8) : cR 133 8 310 [.ref 0, .int (nI t), .int (nI i), .int (nI j)] H0 (fun v _ => v = some (.int (nI 1))) := subtract_g dk_H0 ht hi hj mk_H0 (k_opp hj) (k_joinS hi) (k_set1 ht hi hj)
