section MDL
variable {fa fr kn dg rc pr : Int32} {co we si ex : List Int32} {le : List Int64} {tx : List Int32} {L C : List Int64} {S : List Int32}
/-- what top answers -/
def Tp (r : Nat) (L : List Int64) (v : Int32) : Prop := (v = -nI 1 ∧ Zr r L) ∨ ∃ k, k < 100 ∧ v = nI k ∧ L.getD (100 * r + k) 0 ≠ 0
set_option maxRecDepth 100000 in
set_option maxHeartbeats 4000000 in
theorem top_loop {fb lb c s r : Nat} (hr : r < 60) (hL : L.length = 6000) {Q : yR → Prop} (hq : ∀ v, Tp r L v → Q (.inl (some (.int v)), mH fa 0 kn dg rc pr co we si ex le tx L S C, c, s)) :
    ∀ (k : Nat), k < 100 → (∀ i, k < i → i < 100 → L.getD (100 * r + i) 0 = 0) → gX fb lb 162 3 [(2, .int (nI k)), (0, .ref 0), (1, .int (nI r))] [] (mH fa 0 kn dg rc pr co we si ex le tx L S C) c s Q := by
  intro k
  induction k with
  | zero =>
    intro hk hz
    refine blk_go ob_162 (fun pc => Nat.beq pc 3) 30 ?_
    (conv => whnf); refine br_f (show ¬ nI 0 < 0 by decide) ?_
    (conv => whnf); refine ⟨100 * r + 0, k100 r 0, by omega, by omega, ?_⟩
    (conv => whnf); refine ⟨fun hc => ?_, fun hc => ?_⟩
    · (conv => whnf); refine br_t (show 0 ≤ nI 0 by decide) ?_
      exact go_iret ((ob_162.1 46).trans rfl) rfl (vp_nar_int _) (hq _ (Or.inr ⟨0, by omega, rfl, fun e => hc ((lg_cmp_eq _ _).mpr e)⟩))
    · refine blk_go ob_162 (fun _ => false) 30 ?_
      (conv => whnf); refine br_t (show nI 0 + Int32.ofInt (-1) < 0 by decide) ?_
      (conv => whnf); refine br_f (show ¬ 0 ≤ nI 0 + Int32.ofInt (-1) by decide) ?_
      refine go_iret ((ob_162.1 46).trans rfl) rfl (vp_nar_int _) (hq _ (Or.inl ⟨rfl, fun i hi => ?_⟩))
      by_cases e : i = 0
      · subst e
        have hc : lg_cmp (L.getD (100 * r + 0) 0) (lN 0) = 0 := Classical.not_not.mp hc
        exact (lg_cmp_eq _ _).mp hc
      · exact hz i (by omega) hi
  | succ k ih =>
    intro hk hz
    refine blk_go ob_162 (fun pc => Nat.beq pc 3) 30 ?_
    (conv => whnf); refine br_f (show ¬ nI (k + 1) < 0 from nI_pos (by omega)) ?_
    (conv => whnf); refine ⟨100 * r + (k + 1), k100 r (k + 1), by omega, by omega, ?_⟩
    (conv => whnf); refine ⟨fun hc => ?_, fun hc => ?_⟩
    · (conv => whnf); refine br_t (show 0 ≤ nI (k + 1) from nI_pos' (by omega)) ?_
      exact go_iret ((ob_162.1 46).trans rfl) rfl (vp_nar_int _) (hq _ (Or.inr ⟨k + 1, by omega, rfl, fun e => hc ((lg_cmp_eq _ _).mpr e)⟩))
    · show gX fb lb 162 3 [(2, .int (nI (k + 1) + Int32.ofInt (-1))), (0, .ref 0), (1, .int (nI r))] [] (mH fa 0 kn dg rc pr co we si ex le tx L S C) c s Q
      rw [n_dec]
      refine ih (by omega) (fun i h1 h2 => ?_)
      by_cases e : i = k + 1
      · subst e
        have hc : lg_cmp (L.getD (100 * r + (k + 1)) 0) (lN 0) = 0 := Classical.not_not.mp hc
        exact (lg_cmp_eq _ _).mp hc
      · exact hz i (by omega) h2
theorem c_top {r : Nat} (hr : r < 60) (hL : L.length = 6000) : cR 162 0 0 [.ref 0, .int (nI r)] (mH fa 0 kn dg rc pr co we si ex le tx L S C) (fun v h => h = mH fa 0 kn dg rc pr co we si ex le tx L S C ∧ ∃ x, v = some (.int x) ∧ Tp r L x) := by
  intro fb lb _ _
  refine blk_go ob_162 (fun pc => Nat.beq pc 3) 30 ?_
  exact top_loop hr hL (fun v hv => ⟨_, _, rfl, rfl, v, rfl, hv⟩) 99 (by omega) (fun i h1 h2 => absurd h1 (by omega))
set_option maxRecDepth 100000 in
set_option maxHeartbeats 4000000 in
theorem c_trim {r : Nat} (hr : r < 60) (hL : L.length = 6000) (hS : S.length = 60) : cR 161 1 22 [.ref 0, .int (nI r)] (mH fa 0 kn dg rc pr co we si ex le tx L S C) (fun v h => v = none ∧ ∃ x, h = mH fa 0 kn dg rc pr co we si ex le tx L (S.set r x) C ∧ (x = nI 0 ∨ x = S.getD r 0) ∧ (Zr r L → x = nI 0) ∧ (¬ Zr r L → x = S.getD r 0)) := by
  intro fb lb hf hl
  refine blk_go ob_161 (fun _ => false) 30 ?_
  refine vM (idx := 65) (mj := 162) (q := 1) (n := 3) [.ref 0, .int (nI r)] ((ob_161.1 7).trans rfl) rfl rfl (Nat.le_of_ble_eq_true rfl) rfl rfl rfl rfl (c_top hr hL) (Nat.le_of_ble_eq_true rfl) (by omega) rfl (by omega) (Nat.le_of_ble_eq_true rfl) (fun v h1 e => ?_)
  obtain ⟨rfl, x, rfl, hx⟩ := e
  refine blk_go ob_161 (fun _ => false) 30 ?_
  (conv => whnf); refine ⟨fun hc => ?_, fun hc => ?_⟩
  · (conv => whnf); refine ⟨r, rfl, by omega, by omega, ?_⟩
    (conv => whnf); refine ⟨r, rfl, by omega, by omega, ?_⟩
    refine go_vret ((ob_161.1 24).trans rfl) rfl ⟨none, _, rfl, rfl, S.getD r 0, rfl, Or.inr rfl, fun hz => ?_, fun _ => rfl⟩
    rcases hx with ⟨rfl, -⟩ | ⟨k, h1, h2, h3⟩
    · exact absurd (show 0 ≤ -nI 1 from hc) (by decide)
    · exact absurd (hz k h1) h3
  · (conv => whnf); refine ⟨r, rfl, by omega, by omega, ?_⟩
    refine go_vret ((ob_161.1 24).trans rfl) rfl ⟨none, _, rfl, rfl, nI 0, rfl, Or.inl rfl, fun _ => rfl, fun hz => ?_⟩
    rcases hx with ⟨-, h⟩ | ⟨k, h1, h2, h3⟩
    · exact absurd h hz
    · exact absurd (show 0 ≤ x by rw [h2]; exact nI_pos' (by omega)) hc
end MDL
