/-! print of the fresh reference -/
set_option maxRecDepth 100000 in
set_option maxHeartbeats 4000000 in
theorem print_tail {fb lb : Nat} {x y z : Int32} {L C : List Int64} {S : List Int32} {Q : yR → Prop} (hf : 5 ≤ fb) (hl : 120 ≤ lb) (hL : L.length = 6000) (hS : S.length = 60) (hz : Zr 53 L) (hs : S.getD 53 0 = nI 0) (hq : ∀ h, FA h (nI 0) → Q (.inl (some (.int (nI 1))), h, 0, 0)) : gX fb lb 216 70 [(3, .int x), (0, .ref 0), (1, .int y), (2, .int z)] [] (mH (nI 0) 0 0 0 0 0 [0, 0, 0, 0, 0, 0, 0] [1, 1, 1, 1, 1, 1, 1, 1] [20, 20, 20, 20, 20, 20, 20, 20] [2230, 2230, 2230, 2230, 2230, 2230, 2230, 2230] (List.replicate 49 0) (List.replicate 400 0) L S C) 0 0 Q := by
  refine blk_go ob_216 (fun _ => false) 30 ?_
  refine vM (idx := 242) (mj := 217) (q := 0) (n := 1) [.ref 0] ((ob_216.1 71).trans rfl) rfl rfl (Nat.le_of_ble_eq_true rfl) rfl rfl rfl rfl (c_floorOf hL hS hz hs) (Nat.le_of_ble_eq_true rfl) (by omega) rfl (by omega) (Nat.le_of_ble_eq_true rfl) (fun v h1 e => ?_)
  obtain ⟨rfl, L1, S1, rfl, a1, a2, a3, a4⟩ := e
  refine blk_go ob_216 (fun _ => false) 40 ?_
  (conv => whnf); refine ⟨53, rfl, by omega, by omega, ?_⟩
  (conv => whnf); refine br_t (show 0 ≤ S1.getD 53 0 by rw [a4]; decide) ?_
  refine vM (idx := 245) (mj := 219) (q := 0) (n := 8) [.ref 0] ((ob_216.1 91).trans rfl) rfl rfl (Nat.le_of_ble_eq_true rfl) rfl rfl rfl rfl (c_digitsOf a1 a3 List.length_replicate) (Nat.le_of_ble_eq_true rfl) (by omega) rfl (by omega) (Nat.le_of_ble_eq_true rfl) (fun v h1 e => ?_)
  obtain ⟨rfl, L2, tx', rfl, b1⟩ := e
  refine blk_go ob_216 (fun pc => Nat.beq pc 99) 40 ?_
  refine blk_go ob_216 (fun pc => Nat.beq pc 99) 40 ?_
  (conv => whnf); refine br_f (show ¬ nI 1 ≤ nI 0 by decide) ?_
  (conv => whnf); refine br_t (show nI 0 = 0 by decide) ?_
  (conv => whnf); refine ⟨399, (show nI 400 - nI 1 + nI 0 = nI 399 by decide), by omega, by omega, ?_⟩
  (conv => whnf); refine ⟨0, (show nI 0 + nI 0 = nI 0 by decide), by omega, by omega, ?_⟩
  refine blk_go ob_216 (fun _ => false) 40 ?_
  (conv => whnf); refine br_t (show nI 1 ≤ nI 0 + Int32.ofInt 1 by decide) ?_
  (conv => whnf); refine br_t (show nI 0 = 0 by decide) ?_
  (conv => whnf); refine br_t (show nI 0 = 0 by decide) ?_
  exact go_iret ((ob_216.1 176).trans rfl) rfl (vp_nar_int _) (hq _ ⟨_, rfl⟩)
set_option maxRecDepth 100000 in
set_option maxHeartbeats 4000000 in
theorem print_loop {fb lb kk : Nat} {y : Int32} {C : List Int64} {Q : yR → Prop} (hf : 5 ≤ fb) (hl : 120 ≤ lb) (hkk : kk ≤ 30) (hq : ∀ h, FA h (nI 0) → Q (.inl (some (.int (nI 1))), h, 0, 0)) :
    ∀ (d j : Nat) (L : List Int64) (S : List Int32), j + d = kk → L.length = 6000 → S.length = 60 → Zr 53 L → S.getD 53 0 = nI 0 → gX fb lb 216 49 [(3, .int (nI j)), (0, .ref 0), (1, .int y), (2, .int (nI kk))] [] (mH (nI 0) 0 0 0 0 0 [0, 0, 0, 0, 0, 0, 0] [1, 1, 1, 1, 1, 1, 1, 1] [20, 20, 20, 20, 20, 20, 20, 20] [2230, 2230, 2230, 2230, 2230, 2230, 2230, 2230] (List.replicate 49 0) (List.replicate 400 0) L S C) 0 0 Q := by
  intro d
  induction d with
  | zero =>
    intro j L S hj hL hS hz hs
    have hj : j = kk := by omega
    subst hj
    refine blk_go ob_216 (fun pc => Nat.beq pc 49 || Nat.beq pc 70) 30 ?_
    (conv => whnf); refine br_t (nI_le (a := j) (b := j) (by omega) (by omega)) ?_
    exact print_tail hf hl hL hS hz hs hq
  | succ d ih =>
    intro j L S hj hL hS hz hs
    refine blk_go ob_216 (fun pc => Nat.beq pc 49 || Nat.beq pc 70) 30 ?_
    (conv => whnf); refine br_f (nI_ge (a := j) (b := kk) (by omega) (by omega)) ?_
    refine vM (idx := 95) (mj := 167) (q := 3) (n := 11) [.ref 0, .int (nI 53), .int (nI 53), .int (nI 46)] ((ob_216.1 61).trans rfl) rfl rfl (Nat.le_of_ble_eq_true rfl) rfl rfl rfl rfl (c_times0 (r := 53) (a := 53) (b := 46) (by omega) (by omega) (by omega) hL hS hs) (Nat.le_of_ble_eq_true rfl) (by omega) rfl (by omega) (Nat.le_of_ble_eq_true rfl) (fun v h1 e => ?_)
    obtain ⟨rfl, L1, rfl, a1, a2, a3⟩ := e
    refine blk_go ob_216 (fun pc => Nat.beq pc 49) 30 ?_
    show gX fb lb 216 49 [(3, .int (nI j + Int32.ofInt 1)), (0, .ref 0), (1, .int y), (2, .int (nI kk))] [] (mH (nI 0) 0 0 0 0 0 [0, 0, 0, 0, 0, 0, 0] [1, 1, 1, 1, 1, 1, 1, 1] [20, 20, 20, 20, 20, 20, 20, 20] [2230, 2230, 2230, 2230, 2230, 2230, 2230, 2230] (List.replicate 49 0) (List.replicate 400 0) L1 (S.set 53 (nI 0)) C) 0 0 Q
    rw [n_inc]
    exact ih (j + 1) L1 _ (by omega) a1 (by rw [List.length_set]; exact hS) a2 (gd_s (by omega))
set_option maxRecDepth 100000 in
set_option maxHeartbeats 4000000 in
theorem m_print (x k : Int32) : cR 216 5 120 [.ref 0, .int x, .int k] (mH 0 0 0 0 0 0 [0, 0, 0, 0, 0, 0, 0] [1, 1, 1, 1, 1, 1, 1, 1] [20, 20, 20, 20, 20, 20, 20, 20] [2230, 2230, 2230, 2230, 2230, 2230, 2230, 2230] (List.replicate 49 0) (List.replicate 400 0) L00 S00 C00) (fun v h => (sl x ∧ ¬ k < 0 ∧ ¬ nI 30 < k → v = some (.int (nI 1)) ∧ FA h (nI 0)) ∧ (¬ (sl x ∧ ¬ k < 0 ∧ ¬ nI 30 < k) → FA h (nI 1))) := by
  intro fb lb hf hl
  refine blk_go ob_216 (fun _ => false) 30 ?_
  by_cases hx : sl x
  · refine vS (idx := 194) (mj := 186) (q := 1) (n := 1) [.int x] ((ob_216.1 2).trans rfl) rfl (Nat.le_of_ble_eq_true rfl) rfl rfl (c_isSlotT hx) (Nat.le_of_ble_eq_true rfl) (by omega) rfl (by omega) (Nat.le_of_ble_eq_true rfl) (fun v h1 e => ?_)
    obtain ⟨rfl, rfl⟩ := e
    refine blk_go ob_216 (fun _ => false) 30 ?_
    (conv => whnf); refine br_f (show ¬ nI 1 = 0 by decide) ?_
    (conv => whnf); refine ⟨fun c1 => ?_, fun c1 => ?_⟩
    · refine vM (idx := 178) (mj := 155) (q := 1) (n := 2) [.ref 0, .int (nI 1)] ((ob_216.1 23).trans rfl) rfl rfl (Nat.le_of_ble_eq_true rfl) rfl rfl rfl rfl (c_refused1) (Nat.le_of_ble_eq_true rfl) (by omega) rfl (by omega) (Nat.le_of_ble_eq_true rfl) (fun v h1 e => ?_)
      obtain ⟨rfl, rfl⟩ := e
      refine blk_go ob_216 (fun _ => false) 30 ?_
      (conv => whnf); refine br_f (show ¬ nI 1 = 0 by decide) ?_
      exact go_iret ((ob_216.1 30).trans rfl) rfl (vp_nar_int _) ⟨_, _, rfl, fun z => absurd c1 z.2.1, fun _ => FA.mH⟩
    · (conv => whnf); refine ⟨fun c2 => ?_, fun c2 => ?_⟩
      · refine vM (idx := 178) (mj := 155) (q := 1) (n := 2) [.ref 0, .int (nI 1)] ((ob_216.1 23).trans rfl) rfl rfl (Nat.le_of_ble_eq_true rfl) rfl rfl rfl rfl (c_refused1) (Nat.le_of_ble_eq_true rfl) (by omega) rfl (by omega) (Nat.le_of_ble_eq_true rfl) (fun v h1 e => ?_)
        obtain ⟨rfl, rfl⟩ := e
        refine blk_go ob_216 (fun _ => false) 30 ?_
        (conv => whnf); refine br_f (show ¬ nI 1 = 0 by decide) ?_
        exact go_iret ((ob_216.1 30).trans rfl) rfl (vp_nar_int _) ⟨_, _, rfl, fun z => absurd c2 z.2.2, fun _ => FA.mH⟩
      · refine vM (idx := 178) (mj := 155) (q := 1) (n := 2) [.ref 0, .int (nI 0)] ((ob_216.1 23).trans rfl) rfl rfl (Nat.le_of_ble_eq_true rfl) rfl rfl rfl rfl (c_refused0) (Nat.le_of_ble_eq_true rfl) (by omega) rfl (by omega) (Nat.le_of_ble_eq_true rfl) (fun v h1 e => ?_)
        obtain ⟨rfl, rfl⟩ := e
        refine blk_go ob_216 (fun _ => false) 30 ?_
        (conv => whnf); refine br_t (show nI 0 = 0 by decide) ?_
        obtain ⟨a, ha, rfl⟩ := id hx
        obtain ⟨kk, hkk, rfl⟩ : ∃ j, j < 31 ∧ k = nI j := by
          rcases pk_ix k (n := 31) (by decide) with q | q | q
          · exact absurd q c1
          · exact absurd (show nI 30 < k from Int32.lt_of_lt_of_le (show nI 30 < nI 31 by decide) q) c2
          · exact q
        refine vM (idx := 91) (mj := 160) (q := 2) (n := 4) [.ref 0, .int (nI 53), .int (nI a)] ((ob_216.1 35).trans rfl) rfl rfl (Nat.le_of_ble_eq_true rfl) rfl rfl rfl rfl (c_load (r := 53) (a := a) (by omega) (by omega) L00_l S00_l) (Nat.le_of_ble_eq_true rfl) (by omega) rfl (by omega) (Nat.le_of_ble_eq_true rfl) (fun v h1 e => ?_)
        obtain ⟨rfl, L1, x1, rfl, a1, a2, a3, a4, a5⟩ := e
        have z53 : Zr 53 L1 := fun i hi => (a2 i hi).trans (L00_z a i hi)
        have hx1 := a5 (L00_z a)
        subst hx1
        refine blk_go ob_216 (fun _ => false) 30 ?_
        refine vM (idx := 110) (mj := 163) (q := 2) (n := 7) [.ref 0, .int (nI 46), .long (lN 10)] ((ob_216.1 44).trans rfl) rfl rfl (Nat.le_of_ble_eq_true rfl) rfl rfl rfl rfl (c_wholeP (r := 46) (n := 10) (by omega) (by decide) a1 (by rw [List.length_set]; exact S00_l)) (Nat.le_of_ble_eq_true rfl) (by omega) rfl (by omega) (Nat.le_of_ble_eq_true rfl) (fun v h1 e => ?_)
        obtain ⟨rfl, L2, x2, rfl, b1, b2, b3, b4⟩ := e
        refine blk_go ob_216 (fun pc => Nat.beq pc 49) 30 ?_
        exact print_loop (by omega) (by omega) (by omega) (fun h hF => ⟨_, _, rfl, fun _ => ⟨rfl, hF⟩, fun z => absurd ⟨hx, c1, c2⟩ z⟩) kk 0 L2 _ (by omega) b1 (by rw [List.length_set, List.length_set]; exact S00_l) (z53.keep b3 (by omega)) (by rw [gd_n (by omega), gd_s (by rw [S00_l]; decide)])
  · refine vS (idx := 194) (mj := 186) (q := 1) (n := 1) [.int x] ((ob_216.1 2).trans rfl) rfl (Nat.le_of_ble_eq_true rfl) rfl rfl (c_isSlotF hx) (Nat.le_of_ble_eq_true rfl) (by omega) rfl (by omega) (Nat.le_of_ble_eq_true rfl) (fun v h1 e => ?_)
    obtain ⟨rfl, rfl⟩ := e
    refine blk_go ob_216 (fun _ => false) 30 ?_
    (conv => whnf); refine br_t (show nI 0 = 0 by decide) ?_
    refine vM (idx := 178) (mj := 155) (q := 1) (n := 2) [.ref 0, .int (nI 1)] ((ob_216.1 23).trans rfl) rfl rfl (Nat.le_of_ble_eq_true rfl) rfl rfl rfl rfl (c_refused1) (Nat.le_of_ble_eq_true rfl) (by omega) rfl (by omega) (Nat.le_of_ble_eq_true rfl) (fun v h1 e => ?_)
    obtain ⟨rfl, rfl⟩ := e
    refine blk_go ob_216 (fun _ => false) 30 ?_
    (conv => whnf); refine br_f (show ¬ nI 1 = 0 by decide) ?_
    exact go_iret ((ob_216.1 30).trans rfl) rfl (vp_nar_int _) ⟨_, _, rfl, fun z => absurd z.1 hx, fun _ => FA.mH⟩
