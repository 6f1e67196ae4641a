section MDL
variable {fa fr kn dg rc pr : Int32} {co we si ex : List Int32} {le : List Int64} {tx : List Int32} {L C : List Int64} {S : List Int32}
theorem Zr.keep {r q : Nat} {L L' : List Int64} (h : Zr q L) (hf : Fr r L L') (hq : q ≠ r) : Zr q L' := fun i hi => (hf.at hq hi).trans (h i hi)
set_option maxRecDepth 100000 in
set_option maxHeartbeats 4000000 in
/-- 0, rounded down -/
theorem c_floorOf (hL : L.length = 6000) (hS : S.length = 60) (hz : Zr 53 L) (hs : S.getD 53 0 = nI 0) : cR 217 4 95 [.ref 0] (mH fa 0 kn dg rc pr co we si ex le tx L S C) (fun v h => v = none ∧ ∃ L' S', h = mH fa 0 kn dg rc pr co we si ex le tx L' S' C ∧ L'.length = 6000 ∧ S'.length = 60 ∧ Zr 53 L' ∧ S'.getD 53 0 = nI 0) := by
  intro fb lb hf hl
  refine blk_go ob_217 (fun _ => false) 30 ?_
  refine vM (idx := 110) (mj := 163) (q := 2) (n := 7) [.ref 0, .int (nI 45), .long (lN 1)] ((ob_217.1 4).trans rfl) rfl rfl (Nat.le_of_ble_eq_true rfl) rfl rfl rfl rfl (c_wholeP (r := 45) (n := 1) (by omega) (by decide) hL hS) (Nat.le_of_ble_eq_true rfl) (by omega) rfl (by omega) (Nat.le_of_ble_eq_true rfl) (fun v h1 e => ?_)
  obtain ⟨rfl, L1, x1, rfl, a1, a2, a3, a4⟩ := e
  have hS1 : (S.set 45 x1).length = 60 := by rw [List.length_set]; exact hS
  refine blk_go ob_217 (fun _ => false) 30 ?_
  refine vM (idx := 123) (mj := 176) (q := 3) (n := 12) [.ref 0, .int (nI 46), .int (nI 45), .int (nI 1)] ((ob_217.1 13).trans rfl) rfl rfl (Nat.le_of_ble_eq_true rfl) rfl rfl rfl rfl (c_shift1 (r := 46) (a := 45) (by omega) (by omega) (by omega) a1 hS1 a2) (Nat.le_of_ble_eq_true rfl) (by omega) rfl (by omega) (Nat.le_of_ble_eq_true rfl) (fun v h1 e => ?_)
  obtain ⟨rfl, L2, x2, rfl, b1, b2, b3, b4⟩ := e
  have hS2 : ((S.set 45 x1).set 46 x2).length = 60 := by rw [List.length_set]; exact hS1
  have z53 : Zr 53 L2 := (hz.keep a3 (by omega)).keep b3 (by omega)
  have s53 : ((S.set 45 x1).set 46 x2).getD 53 0 = nI 0 := by rw [gd_n (by omega), gd_n (by omega)]; exact hs
  have s46 : ((S.set 45 x1).set 46 x2).getD 46 0 = x2 := gd_s (by omega)
  have hx2 : x2 = nI 0 ∨ x2 = nI 1 := by
    rcases b4 with e | e
    · exact Or.inl e
    · rw [gd_s (by omega), a4] at e; exact Or.inr e
  refine blk_go ob_217 (fun _ => false) 30 ?_
  refine vM (idx := 79) (mj := 168) (q := 3) (n := 6) [.ref 0, .int (nI 46), .int (nI 53), .int (nI 46)] ((ob_217.1 23).trans rfl) rfl rfl (Nat.le_of_ble_eq_true rfl) rfl rfl rfl rfl (c_plus (r := 46) (a := 53) (b := 46) (by omega) (by omega) (by omega) b1 hS2 s53) (Nat.le_of_ble_eq_true rfl) (by omega) rfl (by omega) (Nat.le_of_ble_eq_true rfl) (fun v h1 e => ?_)
  obtain ⟨rfl, L3, x3, rfl, d1, d2, d3, d4, -, -⟩ := e
  have hJ : JP 53 46 (nI 1) L2 := ⟨z53, rfl, fun i hi => by
    by_cases e : i = 79
    · exact ⟨134217728, by decide, by rw [b2 i hi, if_pos e]⟩
    · exact ⟨0, by decide, by rw [b2 i hi, if_neg e]; rfl⟩⟩
  have hS3 : (((S.set 45 x1).set 46 x2).set 46 x3).length = 60 := by rw [List.length_set]; exact hS2
  have hx3 : 0 ≤ (((S.set 45 x1).set 46 x2).set 46 x3).getD 46 0 := by
    rw [gd_s (by omega)]
    rcases d4 with e | e
    · rw [e]; decide
    · rw [e, s46]
      rcases hx2 with e | e <;> rw [e] <;> decide
  refine blk_go ob_217 (fun _ => false) 30 ?_
  refine vM (idx := 239) (mj := 218) (q := 1) (n := 4) [.ref 0, .int (nI 46)] ((ob_217.1 29).trans rfl) rfl rfl (Nat.le_of_ble_eq_true rfl) rfl rfl rfl rfl (c_cutDown (r := 46) (by omega) d1 hS3 hx3) (Nat.le_of_ble_eq_true rfl) (by omega) rfl (by omega) (Nat.le_of_ble_eq_true rfl) (fun v h1 e => ?_)
  obtain ⟨rfl, L4, x4, rfl, e1, e2, e3⟩ := e
  obtain ⟨z46, rfl⟩ := e3 (fun i h1 h2 => by rw [d3 hJ i h2, b2 i h2, if_neg (by omega)])
  have z53 : Zr 53 L4 := (z53.keep d2 (by omega)).keep e2 (by omega)
  have hS4 : ((((S.set 45 x1).set 46 x2).set 46 x3).set 46 (nI 0)).length = 60 := by rw [List.length_set]; exact hS3
  have s53 : ((((S.set 45 x1).set 46 x2).set 46 x3).set 46 (nI 0)).getD 53 0 = nI 0 := by rw [gd_n (by omega), gd_n (by omega)]; exact s53
  have s46 : ((((S.set 45 x1).set 46 x2).set 46 x3).set 46 (nI 0)).getD 46 0 = nI 0 := gd_s (by omega)
  generalize ((((S.set 45 x1).set 46 x2).set 46 x3).set 46 (nI 0)) = S4 at hS4 s53 s46 ⊢
  refine blk_go ob_217 (fun _ => false) 30 ?_
  refine vM (idx := 98) (mj := 175) (q := 3) (n := 5) [.ref 0, .int (nI 44), .int (nI 53), .int (nI 46)] ((ob_217.1 39).trans rfl) rfl rfl (Nat.le_of_ble_eq_true rfl) rfl rfl rfl rfl (c_minus (r := 44) (a := 53) (b := 46) (by omega) (by omega) (by omega) (by omega) e1 hS4 s53 s46) (Nat.le_of_ble_eq_true rfl) (by omega) rfl (by omega) (Nat.le_of_ble_eq_true rfl) (fun v h1 e => ?_)
  obtain ⟨rfl, L5, S5, rfl, f1, f2, f3, f4, f5, f6⟩ := e
  have z44 : Zr 44 L5 := f6 z53 z46
  have z46 : Zr 46 L5 := z46.keep f3 (by omega)
  refine blk_go ob_217 (fun _ => false) 30 ?_
  refine vM (idx := 120) (mj := 171) (q := 1) (n := 4) [.ref 0, .int (nI 44)] ((ob_217.1 45).trans rfl) rfl rfl (Nat.le_of_ble_eq_true rfl) rfl rfl rfl rfl (c_height (by omega) f1) (Nat.le_of_ble_eq_true rfl) (by omega) rfl (by omega) (Nat.le_of_ble_eq_true rfl) (fun v h1 e => ?_)
  obtain ⟨rfl, u, rfl, hu⟩ := e
  have hu := hu z44
  subst hu
  refine blk_go ob_217 (fun _ => false) 30 ?_
  (conv => whnf); refine br_f (show ¬ -nI 1395 ≤ -nI 9999 by decide) ?_
  refine vM (idx := 91) (mj := 160) (q := 2) (n := 4) [.ref 0, .int (nI 53), .int (nI 46)] ((ob_217.1 59).trans rfl) rfl rfl (Nat.le_of_ble_eq_true rfl) rfl rfl rfl rfl (c_load (r := 53) (a := 46) (by omega) (by omega) f1 f2) (Nat.le_of_ble_eq_true rfl) (by omega) rfl (by omega) (Nat.le_of_ble_eq_true rfl) (fun v h1 e => ?_)
  obtain ⟨rfl, L6, x6, rfl, g1, g2, g3, g4, g5⟩ := e
  refine blk_go ob_217 (fun _ => false) 30 ?_
  exact go_vret ((ob_217.1 71).trans rfl) rfl ⟨none, _, rfl, rfl, L6, _, rfl, g1, by rw [List.length_set]; exact f2, fun i hi => (g2 i hi).trans (z46 i hi), by rw [gd_s (by omega)]; exact g5 z46⟩
set_option maxRecDepth 100000 in
set_option maxHeartbeats 4000000 in
theorem dig_loop {fb lb c s : Nat} {Q : yR → Prop} (hq : ∀ L', L'.length = 6000 → gX fb lb 219 91 [(5, .int (nI 79)), (2, .int (nI 0)), (3, .long (lN 0)), (1, .int (nI 0)), (0, .ref 0)] [] (mH fa 0 kn dg rc pr co we si ex le tx L' S C) c s Q) :
    ∀ (d : Nat) (L : List Int64), d ≤ 20 → L.length = 6000 → Zr 53 L → gX fb lb 219 16 [(5, .int (nI (79 + d))), (2, .int (nI 0)), (3, .long (lN 0)), (1, .int (nI 0)), (0, .ref 0)] [] (mH fa 0 kn dg rc pr co we si ex le tx L S C) c s Q := by
  intro d
  induction d with
  | zero =>
    intro L hd hL hz
    refine blk_go ob_219 (fun pc => Nat.beq pc 16 || Nat.beq pc 91) 30 ?_
    (conv => whnf); refine br_t (show nI 79 < nI 80 by decide) ?_
    exact hq L hL
  | succ d ih =>
    intro L hd hL hz
    have h0 : L.getD (5300 + (80 + d)) 0 = 0 := hz (80 + d) (by omega)
    have e0 : (lN 0 * 268435456 + L.getD (5300 + (80 + d)) 0 : Int64) = lN 0 := by rw [h0]; decide
    refine blk_go ob_219 (fun pc => Nat.beq pc 16 || Nat.beq pc 91) 60 ?_
    (conv => whnf); refine br_f (show ¬ nI (79 + (d + 1)) < nI 80 from nI_nlt (by omega) (by omega)) ?_
    (conv => whnf); refine ⟨5300 + (80 + d), (show nI 5300 + nI (79 + (d + 1)) = nI (5300 + (80 + d)) by rw [nI_add]; congr 1; omega), by omega, by omega, ?_⟩
    (conv => whnf); refine ⟨show ¬ (10 : Int64) = 0 by decide, ?_⟩
    (conv => whnf); refine ⟨5300 + (80 + d), (show nI 5300 + nI (79 + (d + 1)) = nI (5300 + (80 + d)) by rw [nI_add]; congr 1; omega), by omega, by omega, ?_⟩
    (conv => whnf); refine ⟨show ¬ (10 : Int64) = 0 by decide, ?_⟩
    (conv => whnf); refine br_f (show ¬ ¬ nI 0 = 0 by decide) ?_
    (conv => whnf); refine br_t (show lg_cmp (lN 0 * 268435456 + L.getD (5300 + (80 + d)) 0) 10 < 0 by rw [e0]; decide) ?_
    refine go_few [(5, .int (nI (79 + (d + 1)) + Int32.ofInt (-1))), (2, .int (nI 0)), (3, .long ((lN 0 * 268435456 + L.getD (5300 + (80 + d)) 0) - (lN 0 * 268435456 + L.getD (5300 + (80 + d)) 0) / 10 * 10)), (1, .int (nI 0)), (0, .ref 0)] ((ob_219.1 16).trans rfl) (by simp <;> rfl) ?_
    rw [show nI (79 + (d + 1)) + Int32.ofInt (-1) = nI (79 + d) from pk_m1 (79 + d), e0]
    refine ih _ (by omega) (by rw [List.length_set]; exact hL) (fun i hi => ?_)
    by_cases e : i = 80 + d
    · subst e
      rw [show 100 * 53 + (80 + d) = 5300 + (80 + d) by omega, gd_s (by omega)]
      show lN 0 / (10 : Int64) = 0
      decide
    · rw [gd_n (by omega)]; exact hz i hi
set_option maxRecDepth 100000 in
set_option maxHeartbeats 4000000 in
theorem c_digitsOf (hL : L.length = 6000) (hz : Zr 53 L) (ht : tx.length = 400) : cR 219 0 0 [.ref 0] (mH fa 0 kn dg rc pr co we si ex le tx L S C) (fun v h => v = some (.int (nI 1)) ∧ ∃ L' tx', h = mH fa 0 kn dg rc pr co we si ex le tx' L' S C ∧ tx'.length = 400) := by
  intro fb lb hf hl
  refine blk_go ob_219 (fun pc => Nat.beq pc 4) 30 ?_
  refine blk_go ob_219 (fun pc => Nat.beq pc 16) 30 ?_
  (conv => whnf); refine br_f (show ¬ nI 1 = 0 by decide) ?_
  refine dig_loop (fun L' h1 => ?_) 20 L (by omega) hL hz
  refine blk_go ob_219 (fun pc => Nat.beq pc 4) 30 ?_
  (conv => whnf); refine ⟨399, rfl, by omega, by omega, ?_⟩
  refine blk_go ob_219 (fun _ => false) 30 ?_
  (conv => whnf); refine br_t (show nI 0 = 0 by decide) ?_
  exact go_iret ((ob_219.1 115).trans rfl) rfl (vp_nar_int _) ⟨_, _, rfl, rfl, L', _, rfl, by rw [List.length_set]; exact ht⟩
end MDL
