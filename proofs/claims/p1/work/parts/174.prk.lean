/-! the fresh desk: print -/
/-- the powers of ten in the printer's scale -/
def scT : List (List (Nat × xC)) := [[(469, .inl (0, [.ref 470, .int 1, .int 1])), (470, .inr (.int, .inl [1, 0, 0, 0, 0, 0]))], [(469, .inl (0, [.ref 470, .int 1, .int 1])), (470, .inr (.int, .inl [10, 0, 0, 0, 0, 0]))], [(469, .inl (0, [.ref 470, .int 1, .int 1])), (470, .inr (.int, .inl [100, 0, 0, 0, 0, 0]))], [(469, .inl (0, [.ref 470, .int 1, .int 1])), (470, .inr (.int, .inl [1000, 0, 0, 0, 0, 0]))], [(469, .inl (0, [.ref 470, .int 1, .int 1])), (470, .inr (.int, .inl [10000, 0, 0, 0, 0, 0]))], [(469, .inl (0, [.ref 470, .int 1, .int 1])), (470, .inr (.int, .inl [100000, 0, 0, 0, 0, 0]))], [(469, .inl (0, [.ref 470, .int 1, .int 1])), (470, .inr (.int, .inl [1000000, 0, 0, 0, 0, 0]))], [(469, .inl (0, [.ref 470, .int 1, .int 1])), (470, .inr (.int, .inl [10000000, 0, 0, 0, 0, 0]))], [(469, .inl (0, [.ref 470, .int 1, .int 1])), (470, .inr (.int, .inl [100000000, 0, 0, 0, 0, 0]))], [(469, .inl (0, [.ref 470, .int 1, .int 1])), (470, .inr (.int, .inl [1000000000, 0, 0, 0, 0, 0]))], [(469, .inl (0, [.ref 470, .int 2, .int 1])), (470, .inr (.int, .inl [336323584, 9, 0, 0, 0, 0]))], [(469, .inl (0, [.ref 470, .int 2, .int 1])), (470, .inr (.int, .inl [142010368, 93, 0, 0, 0, 0]))], [(469, .inl (0, [.ref 470, .int 2, .int 1])), (470, .inr (.int, .inl [346361856, 931, 0, 0, 0, 0]))], [(469, .inl (0, [.ref 470, .int 2, .int 1])), (470, .inr (.int, .inl [242393088, 9313, 0, 0, 0, 0]))], [(469, .inl (0, [.ref 470, .int 2, .int 1])), (470, .inr (.int, .inl [276447232, 93132, 0, 0, 0, 0]))], [(469, .inl (0, [.ref 470, .int 2, .int 1])), (470, .inr (.int, .inl [616988672, 931322, 0, 0, 0, 0]))], [(469, .inl (0, [.ref 470, .int 2, .int 1])), (470, .inr (.int, .inl [801177600, 9313225, 0, 0, 0, 0]))], [(469, .inl (0, [.ref 470, .int 2, .int 1])), (470, .inr (.int, .inl [495583232, 93132257, 0, 0, 0, 0]))], [(469, .inl (0, [.ref 470, .int 2, .int 1])), (470, .inr (.int, .inl [660865024, 931322574, 0, 0, 0, 0]))], [(469, .inl (0, [.ref 470, .int 3, .int 1])), (470, .inr (.int, .inl [166199296, 723291154, 8, 0, 0, 0]))], [(469, .inl (0, [.ref 470, .int 3, .int 1])), (470, .inr (.int, .inl [588251136, 790460597, 86, 0, 0, 0]))], [(469, .inl (0, [.ref 470, .int 3, .int 1])), (470, .inr (.int, .inl [513802240, 388413207, 867, 0, 0, 0]))], [(469, .inl (0, [.ref 470, .int 3, .int 1])), (470, .inr (.int, .inl [843055104, 662906602, 8673, 0, 0, 0]))], [(469, .inl (0, [.ref 470, .int 3, .int 1])), (470, .inr (.int, .inl [914358272, 186615083, 86736, 0, 0, 0]))], [(469, .inl (0, [.ref 470, .int 3, .int 1])), (470, .inr (.int, .inl [553648128, 792409014, 867361, 0, 0, 0]))], [(469, .inl (0, [.ref 470, .int 3, .int 1])), (470, .inr (.int, .inl [167772160, 407897377, 8673617, 0, 0, 0]))], [(469, .inl (0, [.ref 470, .int 3, .int 1])), (470, .inr (.int, .inl [603979776, 857748299, 86736173, 0, 0, 0]))], [(469, .inl (0, [.ref 470, .int 3, .int 1])), (470, .inr (.int, .inl [671088640, 1061290227, 867361737, 0, 0, 0]))], [(469, .inl (0, [.ref 470, .int 4, .int 1])), (470, .inr (.int, .inl [268435456, 949225860, 83682787, 8, 0, 0]))], [(469, .inl (0, [.ref 470, .int 4, .int 1])), (470, .inr (.int, .inl [536870912, 902324010, 836827878, 80, 0, 0]))], [(469, .inl (0, [.ref 470, .int 4, .int 1])), (470, .inr (.int, .inl [0, 433305513, 852086020, 807, 0, 0]))]]
def HS (k : Nat) : xH := (scT.getD k []).foldl (fun h q => h.set q.1 q.2) H0
def HST (k : Nat) : xT := (scT.getD k []).foldl (fun t q => tset t q.1 q.2) H0T
theorem sc_lt : ∀ k, k < 31 → ∀ q ∈ scT.getD k [], q.1 < 649 := by
  have : (List.range 31).all (fun k => (scT.getD k []).all (fun q => Nat.blt q.1 649)) = true := by decide +kernel
  intro k hk q hq
  exact Nat.le_of_ble_eq_true (List.all_eq_true.mp (List.all_eq_true.mp this k (List.mem_range.mpr hk)) q hq)
theorem HS_rep {k : Nat} (hk : k < 31) : rep (HST k) (HS k) := rep_sets H0T_rep (fun q hq => by rw [len_H0]; exact sc_lt k hk q hq)
set_option maxRecDepth 1000000 in
theorem kr_sc0 : t_ok (run3 xX xB.1 xB.2.1 100 1 30 4 0 (lv_args 0 [.ref 469, .long (lN 1)]) [] H0T) (fun v t => v.isNone && eqT t (HST 0)) = true := by decide +kernel
theorem k_sc0 : cR 4 1 30 [.ref 469, .long (lN 1)] H0 (fun v h => v = none ∧ h = HS 0) := (cR_run3 H0T_rep kr_sc0).weak (fun v h z => by
  obtain ⟨t', h1, h2, -⟩ := z
  rw [Bool.and_eq_true] at h1
  rw [eqT_ok h1.2] at h2
  exact ⟨by simpa using h1.1, rep_inj h2 (HS_rep (by decide))⟩)
set_option maxRecDepth 1000000 in
theorem kr_sc : (List.range 30).all (fun k => t_ok (run3 xX xB.1 xB.2.1 200 2 60 40 0 (lv_args 0 [.ref 469, .int (nI 10)]) [] (HST k)) (fun v t => v.isNone && eqT t (HST (k + 1)))) = true := by decide +kernel
theorem k_sc {k : Nat} (hk : k < 30) : cR 40 2 60 [.ref 469, .int (nI 10)] (HS k) (fun v h => v = none ∧ h = HS (k + 1)) := (cR_run3 (HS_rep (by omega)) (List.all_eq_true.mp kr_sc k (List.mem_range.mpr hk))).weak (fun v h z => by
  obtain ⟨t', h1, h2, -⟩ := z
  rw [Bool.and_eq_true] at h1
  rw [eqT_ok h1.2] at h2
  exact ⟨by simpa using h1.1, rep_inj h2 (HS_rep (by omega))⟩)
set_option maxRecDepth 1000000 in
theorem kr_wr_0 : (List.range 8).all (fun j => t_ok (run3 xX xB.1 xB.2.1 300 5 180 146 30 [(3, .int (nI 0)), (0, .ref 451), (1, .ref (481 + 21 * j)), (2, .int (nI 0))] [] (HST 0)) (fun v _ => decide (v = some (.int 1)))) = true := by decide +kernel
set_option maxRecDepth 1000000 in
theorem kr_wr_1 : (List.range 8).all (fun j => t_ok (run3 xX xB.1 xB.2.1 300 5 180 146 30 [(3, .int (nI 1)), (0, .ref 451), (1, .ref (481 + 21 * j)), (2, .int (nI 1))] [] (HST 1)) (fun v _ => decide (v = some (.int 1)))) = true := by decide +kernel
set_option maxRecDepth 1000000 in
theorem kr_wr_2 : (List.range 8).all (fun j => t_ok (run3 xX xB.1 xB.2.1 300 5 180 146 30 [(3, .int (nI 2)), (0, .ref 451), (1, .ref (481 + 21 * j)), (2, .int (nI 2))] [] (HST 2)) (fun v _ => decide (v = some (.int 1)))) = true := by decide +kernel
set_option maxRecDepth 1000000 in
theorem kr_wr_3 : (List.range 8).all (fun j => t_ok (run3 xX xB.1 xB.2.1 300 5 180 146 30 [(3, .int (nI 3)), (0, .ref 451), (1, .ref (481 + 21 * j)), (2, .int (nI 3))] [] (HST 3)) (fun v _ => decide (v = some (.int 1)))) = true := by decide +kernel
set_option maxRecDepth 1000000 in
theorem kr_wr_4 : (List.range 8).all (fun j => t_ok (run3 xX xB.1 xB.2.1 300 5 180 146 30 [(3, .int (nI 4)), (0, .ref 451), (1, .ref (481 + 21 * j)), (2, .int (nI 4))] [] (HST 4)) (fun v _ => decide (v = some (.int 1)))) = true := by decide +kernel
set_option maxRecDepth 1000000 in
theorem kr_wr_5 : (List.range 8).all (fun j => t_ok (run3 xX xB.1 xB.2.1 300 5 180 146 30 [(3, .int (nI 5)), (0, .ref 451), (1, .ref (481 + 21 * j)), (2, .int (nI 5))] [] (HST 5)) (fun v _ => decide (v = some (.int 1)))) = true := by decide +kernel
set_option maxRecDepth 1000000 in
theorem kr_wr_6 : (List.range 8).all (fun j => t_ok (run3 xX xB.1 xB.2.1 300 5 180 146 30 [(3, .int (nI 6)), (0, .ref 451), (1, .ref (481 + 21 * j)), (2, .int (nI 6))] [] (HST 6)) (fun v _ => decide (v = some (.int 1)))) = true := by decide +kernel
set_option maxRecDepth 1000000 in
theorem kr_wr_7 : (List.range 8).all (fun j => t_ok (run3 xX xB.1 xB.2.1 300 5 180 146 30 [(3, .int (nI 7)), (0, .ref 451), (1, .ref (481 + 21 * j)), (2, .int (nI 7))] [] (HST 7)) (fun v _ => decide (v = some (.int 1)))) = true := by decide +kernel
set_option maxRecDepth 1000000 in
theorem kr_wr_8 : (List.range 8).all (fun j => t_ok (run3 xX xB.1 xB.2.1 300 5 180 146 30 [(3, .int (nI 8)), (0, .ref 451), (1, .ref (481 + 21 * j)), (2, .int (nI 8))] [] (HST 8)) (fun v _ => decide (v = some (.int 1)))) = true := by decide +kernel
set_option maxRecDepth 1000000 in
theorem kr_wr_9 : (List.range 8).all (fun j => t_ok (run3 xX xB.1 xB.2.1 300 5 180 146 30 [(3, .int (nI 9)), (0, .ref 451), (1, .ref (481 + 21 * j)), (2, .int (nI 9))] [] (HST 9)) (fun v _ => decide (v = some (.int 1)))) = true := by decide +kernel
set_option maxRecDepth 1000000 in
theorem kr_wr_10 : (List.range 8).all (fun j => t_ok (run3 xX xB.1 xB.2.1 300 5 180 146 30 [(3, .int (nI 10)), (0, .ref 451), (1, .ref (481 + 21 * j)), (2, .int (nI 10))] [] (HST 10)) (fun v _ => decide (v = some (.int 1)))) = true := by decide +kernel
set_option maxRecDepth 1000000 in
theorem kr_wr_11 : (List.range 8).all (fun j => t_ok (run3 xX xB.1 xB.2.1 300 5 180 146 30 [(3, .int (nI 11)), (0, .ref 451), (1, .ref (481 + 21 * j)), (2, .int (nI 11))] [] (HST 11)) (fun v _ => decide (v = some (.int 1)))) = true := by decide +kernel
set_option maxRecDepth 1000000 in
theorem kr_wr_12 : (List.range 8).all (fun j => t_ok (run3 xX xB.1 xB.2.1 300 5 180 146 30 [(3, .int (nI 12)), (0, .ref 451), (1, .ref (481 + 21 * j)), (2, .int (nI 12))] [] (HST 12)) (fun v _ => decide (v = some (.int 1)))) = true := by decide +kernel
set_option maxRecDepth 1000000 in
theorem kr_wr_13 : (List.range 8).all (fun j => t_ok (run3 xX xB.1 xB.2.1 300 5 180 146 30 [(3, .int (nI 13)), (0, .ref 451), (1, .ref (481 + 21 * j)), (2, .int (nI 13))] [] (HST 13)) (fun v _ => decide (v = some (.int 1)))) = true := by decide +kernel
set_option maxRecDepth 1000000 in
theorem kr_wr_14 : (List.range 8).all (fun j => t_ok (run3 xX xB.1 xB.2.1 300 5 180 146 30 [(3, .int (nI 14)), (0, .ref 451), (1, .ref (481 + 21 * j)), (2, .int (nI 14))] [] (HST 14)) (fun v _ => decide (v = some (.int 1)))) = true := by decide +kernel
set_option maxRecDepth 1000000 in
theorem kr_wr_15 : (List.range 8).all (fun j => t_ok (run3 xX xB.1 xB.2.1 300 5 180 146 30 [(3, .int (nI 15)), (0, .ref 451), (1, .ref (481 + 21 * j)), (2, .int (nI 15))] [] (HST 15)) (fun v _ => decide (v = some (.int 1)))) = true := by decide +kernel
set_option maxRecDepth 1000000 in
theorem kr_wr_16 : (List.range 8).all (fun j => t_ok (run3 xX xB.1 xB.2.1 300 5 180 146 30 [(3, .int (nI 16)), (0, .ref 451), (1, .ref (481 + 21 * j)), (2, .int (nI 16))] [] (HST 16)) (fun v _ => decide (v = some (.int 1)))) = true := by decide +kernel
set_option maxRecDepth 1000000 in
theorem kr_wr_17 : (List.range 8).all (fun j => t_ok (run3 xX xB.1 xB.2.1 300 5 180 146 30 [(3, .int (nI 17)), (0, .ref 451), (1, .ref (481 + 21 * j)), (2, .int (nI 17))] [] (HST 17)) (fun v _ => decide (v = some (.int 1)))) = true := by decide +kernel
set_option maxRecDepth 1000000 in
theorem kr_wr_18 : (List.range 8).all (fun j => t_ok (run3 xX xB.1 xB.2.1 300 5 180 146 30 [(3, .int (nI 18)), (0, .ref 451), (1, .ref (481 + 21 * j)), (2, .int (nI 18))] [] (HST 18)) (fun v _ => decide (v = some (.int 1)))) = true := by decide +kernel
set_option maxRecDepth 1000000 in
theorem kr_wr_19 : (List.range 8).all (fun j => t_ok (run3 xX xB.1 xB.2.1 300 5 180 146 30 [(3, .int (nI 19)), (0, .ref 451), (1, .ref (481 + 21 * j)), (2, .int (nI 19))] [] (HST 19)) (fun v _ => decide (v = some (.int 1)))) = true := by decide +kernel
set_option maxRecDepth 1000000 in
theorem kr_wr_20 : (List.range 8).all (fun j => t_ok (run3 xX xB.1 xB.2.1 300 5 180 146 30 [(3, .int (nI 20)), (0, .ref 451), (1, .ref (481 + 21 * j)), (2, .int (nI 20))] [] (HST 20)) (fun v _ => decide (v = some (.int 1)))) = true := by decide +kernel
set_option maxRecDepth 1000000 in
theorem kr_wr_21 : (List.range 8).all (fun j => t_ok (run3 xX xB.1 xB.2.1 300 5 180 146 30 [(3, .int (nI 21)), (0, .ref 451), (1, .ref (481 + 21 * j)), (2, .int (nI 21))] [] (HST 21)) (fun v _ => decide (v = some (.int 1)))) = true := by decide +kernel
set_option maxRecDepth 1000000 in
theorem kr_wr_22 : (List.range 8).all (fun j => t_ok (run3 xX xB.1 xB.2.1 300 5 180 146 30 [(3, .int (nI 22)), (0, .ref 451), (1, .ref (481 + 21 * j)), (2, .int (nI 22))] [] (HST 22)) (fun v _ => decide (v = some (.int 1)))) = true := by decide +kernel
set_option maxRecDepth 1000000 in
theorem kr_wr_23 : (List.range 8).all (fun j => t_ok (run3 xX xB.1 xB.2.1 300 5 180 146 30 [(3, .int (nI 23)), (0, .ref 451), (1, .ref (481 + 21 * j)), (2, .int (nI 23))] [] (HST 23)) (fun v _ => decide (v = some (.int 1)))) = true := by decide +kernel
set_option maxRecDepth 1000000 in
theorem kr_wr_24 : (List.range 8).all (fun j => t_ok (run3 xX xB.1 xB.2.1 300 5 180 146 30 [(3, .int (nI 24)), (0, .ref 451), (1, .ref (481 + 21 * j)), (2, .int (nI 24))] [] (HST 24)) (fun v _ => decide (v = some (.int 1)))) = true := by decide +kernel
set_option maxRecDepth 1000000 in
theorem kr_wr_25 : (List.range 8).all (fun j => t_ok (run3 xX xB.1 xB.2.1 300 5 180 146 30 [(3, .int (nI 25)), (0, .ref 451), (1, .ref (481 + 21 * j)), (2, .int (nI 25))] [] (HST 25)) (fun v _ => decide (v = some (.int 1)))) = true := by decide +kernel
set_option maxRecDepth 1000000 in
theorem kr_wr_26 : (List.range 8).all (fun j => t_ok (run3 xX xB.1 xB.2.1 300 5 180 146 30 [(3, .int (nI 26)), (0, .ref 451), (1, .ref (481 + 21 * j)), (2, .int (nI 26))] [] (HST 26)) (fun v _ => decide (v = some (.int 1)))) = true := by decide +kernel
set_option maxRecDepth 1000000 in
theorem kr_wr_27 : (List.range 8).all (fun j => t_ok (run3 xX xB.1 xB.2.1 300 5 180 146 30 [(3, .int (nI 27)), (0, .ref 451), (1, .ref (481 + 21 * j)), (2, .int (nI 27))] [] (HST 27)) (fun v _ => decide (v = some (.int 1)))) = true := by decide +kernel
set_option maxRecDepth 1000000 in
theorem kr_wr_28 : (List.range 8).all (fun j => t_ok (run3 xX xB.1 xB.2.1 300 5 180 146 30 [(3, .int (nI 28)), (0, .ref 451), (1, .ref (481 + 21 * j)), (2, .int (nI 28))] [] (HST 28)) (fun v _ => decide (v = some (.int 1)))) = true := by decide +kernel
set_option maxRecDepth 1000000 in
theorem kr_wr_29 : (List.range 8).all (fun j => t_ok (run3 xX xB.1 xB.2.1 300 5 180 146 30 [(3, .int (nI 29)), (0, .ref 451), (1, .ref (481 + 21 * j)), (2, .int (nI 29))] [] (HST 29)) (fun v _ => decide (v = some (.int 1)))) = true := by decide +kernel
set_option maxRecDepth 1000000 in
theorem kr_wr_30 : (List.range 8).all (fun j => t_ok (run3 xX xB.1 xB.2.1 300 5 180 146 30 [(3, .int (nI 30)), (0, .ref 451), (1, .ref (481 + 21 * j)), (2, .int (nI 30))] [] (HST 30)) (fun v _ => decide (v = some (.int 1)))) = true := by decide +kernel
theorem kr_wr : ∀ i, i < 31 → (List.range 8).all (fun j => t_ok (run3 xX xB.1 xB.2.1 300 5 180 146 30 [(3, .int (nI i)), (0, .ref 451), (1, .ref (481 + 21 * j)), (2, .int (nI i))] [] (HST i)) (fun v _ => decide (v = some (.int 1)))) = true := fun i h => match i, h with
  | 0, _ => kr_wr_0
  | 1, _ => kr_wr_1
  | 2, _ => kr_wr_2
  | 3, _ => kr_wr_3
  | 4, _ => kr_wr_4
  | 5, _ => kr_wr_5
  | 6, _ => kr_wr_6
  | 7, _ => kr_wr_7
  | 8, _ => kr_wr_8
  | 9, _ => kr_wr_9
  | 10, _ => kr_wr_10
  | 11, _ => kr_wr_11
  | 12, _ => kr_wr_12
  | 13, _ => kr_wr_13
  | 14, _ => kr_wr_14
  | 15, _ => kr_wr_15
  | 16, _ => kr_wr_16
  | 17, _ => kr_wr_17
  | 18, _ => kr_wr_18
  | 19, _ => kr_wr_19
  | 20, _ => kr_wr_20
  | 21, _ => kr_wr_21
  | 22, _ => kr_wr_22
  | 23, _ => kr_wr_23
  | 24, _ => kr_wr_24
  | 25, _ => kr_wr_25
  | 26, _ => kr_wr_26
  | 27, _ => kr_wr_27
  | 28, _ => kr_wr_28
  | 29, _ => kr_wr_29
  | 30, _ => kr_wr_30
  | k + 31, h => absurd h (by omega)
