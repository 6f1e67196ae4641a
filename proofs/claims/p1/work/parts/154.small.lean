/-! the reference's small methods -/
def hb (j : Nat) : Int32 := match j with
  | 0 => nI 27
  | j + 1 => hb j + Int32.ofInt (-1)
theorem hb_amt : ∀ j, j < 64 → ((hb j).toInt64 &&& 63) = lN ((91 - j) % 64) := by decide
/-- some bit of a number that isn't 0 stands -/
theorem hb_bit {x : Int64} (hx : x ≠ 0) : ∃ j, j < 64 ∧ ((x >>> ((hb j).toInt64 &&& 63)) &&& lN 1) ≠ lN 0 := by
  apply Classical.byContradiction
  intro hn
  apply hx
  apply Int64.toBitVec_inj.mp
  apply BitVec.eq_of_getLsbD_eq
  intro i hi
  have hj : ∃ j, j < 64 ∧ (91 - j) % 64 = i := by
    by_cases h : i ≤ 27
    · exact ⟨27 - i, by omega, by omega⟩
    · exact ⟨91 - i, by omega, by omega⟩
  obtain ⟨j, h1, h2⟩ := hj
  have h3 : ((x >>> ((hb j).toInt64 &&& 63)) &&& lN 1) = lN 0 := by
    apply Classical.byContradiction
    intro z
    exact hn ⟨j, h1, z⟩
  rw [hb_amt j h1, h2] at h3
  have h4 := congrArg (fun y : Int64 => y.toBitVec.getLsbD 0) h3
  have e1 : (lN i).toBitVec.smod 64 = BitVec.ofNat 64 i := by
    have : ∀ k, k < 64 → (lN k).toBitVec.smod 64 = BitVec.ofNat 64 k := by decide
    exact this i (by simpa using hi)
  have hi64 : i < 64 := by simpa using hi
  simp only [Int64.toBitVec_and, Int64.toBitVec_shiftRight, BitVec.getLsbD_and, e1] at h4
  have e2 : (lN 1).toBitVec.getLsbD 0 = true := by decide
  have e3 : (lN 0).toBitVec.getLsbD 0 = false := by decide
  rw [e2, e3, Bool.and_true, BitVec.sshiftRight_eq', BitVec.getLsbD_sshiftRight] at h4
  have e4 : (BitVec.ofNat 64 i).toNat = i := by
    rw [BitVec.toNat_ofNat]
    exact Nat.mod_eq_of_lt (by omega)
  rw [e4] at h4
  simp [hi64] at h4
  rw [BitVec.getLsbD_eq_getElem hi64, h4]
  simp
section MDL
variable {fa fr kn dg rc pr : Int32} {co we si ex : List Int32} {le : List Int64} {tx : List Int32} {L C : List Int64} {S : List Int32}
set_option maxRecDepth 100000 in
set_option maxHeartbeats 4000000 in
theorem height_loop {fb lb c s a t : Nat} (ha : a < 60) (ht : t < 100) (hL : L.length = 6000) {Q : yR → Prop} (hq : ∀ v, Q (.inl (some (.int v)), mH fa 0 kn dg rc pr co we si ex le tx L S C, c, s)) :
    ∀ (d j : Nat), (∃ e, e ≤ d ∧ ((L.getD (100 * a + t) 0 >>> ((hb (j + e)).toInt64 &&& 63)) &&& lN 1) ≠ lN 0) → gX fb lb 171 17 [(3, .int (hb j)), (2, .int (nI t)), (0, .ref 0), (1, .int (nI a))] [] (mH fa 0 kn dg rc pr co we si ex le tx L S C) c s Q := by
  intro d
  induction d with
  | zero =>
    rintro j ⟨e, h1, h2⟩
    have h1 : e = 0 := by omega
    subst h1
    refine blk_go ob_171 (fun pc => Nat.beq pc 17) 40 ?_
    (conv => whnf); refine ⟨100 * a + t, k100 a t, by omega, by omega, ?_⟩
    (conv => whnf); refine br_t (fun z => h2 ((lg_cmp_eq _ _).mp z)) ?_
    exact go_iret ((ob_171.1 52).trans rfl) rfl (vp_nar_int _) (hq _)
  | succ d ih =>
    rintro j ⟨e, h1, h2⟩
    refine blk_go ob_171 (fun pc => Nat.beq pc 17) 40 ?_
    (conv => whnf); refine ⟨100 * a + t, k100 a t, by omega, by omega, ?_⟩
    (conv => whnf); refine ⟨fun hc => ?_, fun hc => ?_⟩
    · exact go_iret ((ob_171.1 52).trans rfl) rfl (vp_nar_int _) (hq _)
    · show gX fb lb 171 17 [(3, .int (hb (j + 1))), (2, .int (nI t)), (0, .ref 0), (1, .int (nI a))] [] (mH fa 0 kn dg rc pr co we si ex le tx L S C) c s Q
      cases e with
      | zero => exact absurd (fun z => h2 ((lg_cmp_eq _ _).mp z)) hc
      | succ e => exact ih (j + 1) ⟨e, by omega, by rw [show j + 1 + e = j + (e + 1) by omega]; exact h2⟩
set_option maxRecDepth 100000 in
set_option maxHeartbeats 4000000 in
theorem c_height {a : Nat} (ha : a < 60) (hL : L.length = 6000) : cR 171 1 22 [.ref 0, .int (nI a)] (mH fa 0 kn dg rc pr co we si ex le tx L S C) (fun v h => h = mH fa 0 kn dg rc pr co we si ex le tx L S C ∧ ∃ x, v = some (.int x) ∧ (Zr a L → x = -nI 9999)) := by
  intro fb lb hf hl
  refine blk_go ob_171 (fun _ => false) 30 ?_
  refine vM (idx := 65) (mj := 162) (q := 1) (n := 3) [.ref 0, .int (nI a)] ((ob_171.1 2).trans rfl) rfl rfl (Nat.le_of_ble_eq_true rfl) rfl rfl rfl rfl (c_top ha hL) (Nat.le_of_ble_eq_true rfl) (by omega) rfl (by omega) (Nat.le_of_ble_eq_true rfl) (fun v h1 e => ?_)
  obtain ⟨rfl, x, rfl, hx⟩ := e
  refine blk_go ob_171 (fun pc => Nat.beq pc 17) 40 ?_
  (conv => whnf); refine ⟨fun hc => ?_, fun hc => ?_⟩
  · rcases hx with ⟨rfl, -⟩ | ⟨k, h1, rfl, h3⟩
    · exact absurd (show 0 ≤ -nI 1 from hc) (by decide)
    · obtain ⟨j, h4, h5⟩ := hb_bit h3
      refine height_loop ha h1 hL (fun v => ⟨_, _, rfl, rfl, v, rfl, fun z => absurd (z k h1) h3⟩) 64 0 ⟨j, by omega, by rw [Nat.zero_add]; exact h5⟩
  · exact go_iret ((ob_171.1 13).trans rfl) rfl (vp_nar_int _) ⟨_, _, rfl, rfl, _, rfl, fun _ => rfl⟩
set_option maxRecDepth 100000 in
theorem c_lesser {x y : Int32} {h : xH} : cR 192 0 0 [.ref 0, .int x, .int y] h (fun v h' => h' = h ∧ ∃ z, v = some (.int z)) := by
  intro fb lb hf hl
  refine blk_go ob_192 (fun _ => false) 30 ?_
  (conv => whnf); refine ⟨fun hc => ?_, fun hc => ?_⟩
  · exact go_iret ((ob_192.1 10).trans rfl) rfl (vp_nar_int _) ⟨_, _, rfl, rfl, _, rfl⟩
  · exact go_iret ((ob_192.1 10).trans rfl) rfl (vp_nar_int _) ⟨_, _, rfl, rfl, _, rfl⟩
set_option maxRecDepth 100000 in
theorem c_near {a : Nat} (ha : a < 8) (hL : L.length = 6000) (hS : S.length = 60) (hx : ex.length = 8) : cR 191 2 45 [.ref 0, .int (nI a)] (mH fa 0 kn dg rc pr co we si ex le tx L S C) (fun v h => h = mH fa 0 kn dg rc pr co we si ex le tx L S C ∧ ∃ x, v = some (.int x)) := by
  intro fb lb hf hl
  refine blk_go ob_191 (fun _ => false) 30 ?_
  (conv => whnf); refine ⟨a, rfl, by omega, by omega, ?_⟩
  (conv => whnf); refine ⟨fun hc => ?_, fun hc => ?_⟩
  · (conv => whnf); refine ⟨a, rfl, by omega, by omega, ?_⟩
    refine vM (idx := 120) (mj := 171) (q := 1) (n := 4) [.ref 0, .int (nI a)] ((ob_191.1 23).trans rfl) rfl rfl (Nat.le_of_ble_eq_true rfl) rfl rfl rfl rfl (c_height (by omega) hL) (Nat.le_of_ble_eq_true rfl) (by omega) rfl (by omega) (Nat.le_of_ble_eq_true rfl) (fun v h1 e => ?_)
    obtain ⟨rfl, x, rfl, -⟩ := e
    refine blk_go ob_191 (fun _ => false) 30 ?_
    exact go_iret ((ob_191.1 29).trans rfl) rfl (vp_nar_int _) ⟨_, _, rfl, rfl, _, rfl⟩
  · exact go_iret ((ob_191.1 29).trans rfl) rfl (vp_nar_int _) ⟨_, _, rfl, rfl, _, rfl⟩
set_option maxRecDepth 100000 in
theorem c_exactOf {a : Nat} {y : Int32} (ha : a < 60) (hL : L.length = 6000) : cR 195 2 45 [.ref 0, .int (nI a), .int y] (mH fa 0 kn dg rc pr co we si ex le tx L S C) (fun v h => h = mH fa 0 kn dg rc pr co we si ex le tx L S C ∧ ∃ x, v = some (.int x)) := by
  intro fb lb hf hl
  refine blk_go ob_195 (fun _ => false) 30 ?_
  refine vM (idx := 120) (mj := 171) (q := 1) (n := 4) [.ref 0, .int (nI a)] ((ob_195.1 3).trans rfl) rfl rfl (Nat.le_of_ble_eq_true rfl) rfl rfl rfl rfl (c_height ha hL) (Nat.le_of_ble_eq_true rfl) (by omega) rfl (by omega) (Nat.le_of_ble_eq_true rfl) (fun v h1 e => ?_)
  obtain ⟨rfl, x, rfl, -⟩ := e
  refine blk_go ob_195 (fun _ => false) 30 ?_
  exact go_iret ((ob_195.1 9).trans rfl) rfl (vp_nar_int _) ⟨_, _, rfl, rfl, _, rfl⟩
set_option maxRecDepth 100000 in
set_option maxHeartbeats 4000000 in
theorem c_tell {t r : Nat} {w z e0 : Int32} (ht : t < 8) (hr : r < 60) (hL : L.length = 6000) (hS : S.length = 60) (h8 : we.length = 8 ∧ si.length = 8 ∧ ex.length = 8) : cR 196 3 67 [.ref 0, .int (nI t), .int (nI r), .int w, .int z, .int e0] (mH fa 0 kn dg rc pr co we si ex le tx L S C) (fun v h => v = none ∧ ∃ L' x u, h = mH fa 0 kn dg rc pr co (we.set t w) (si.set t z) (ex.set t u) le tx L' (S.set t x) C ∧ L'.length = 6000) := by
  intro fb lb hf hl
  obtain ⟨hw, hs, hx⟩ := h8
  refine blk_go ob_196 (fun _ => false) 30 ?_
  refine vM (idx := 91) (mj := 160) (q := 2) (n := 4) [.ref 0, .int (nI t), .int (nI r)] ((ob_196.1 3).trans rfl) rfl rfl (Nat.le_of_ble_eq_true rfl) rfl rfl rfl rfl (c_load (by omega) hr hL hS) (Nat.le_of_ble_eq_true rfl) (by omega) rfl (by omega) (Nat.le_of_ble_eq_true rfl) (fun v h1 e => ?_)
  obtain ⟨rfl, L', x, rfl, h1, -⟩ := e
  refine blk_go ob_196 (fun _ => false) 60 ?_
  (conv => whnf); refine ⟨t, rfl, by omega, by omega, ?_⟩
  (conv => whnf); refine ⟨t, rfl, by omega, by omega, ?_⟩
  (conv => whnf); refine ⟨t, rfl, (by rw [List.length_set]; omega), (by rw [List.length_set]; omega), ?_⟩
  (conv => whnf); refine ⟨fun hc => ?_, fun hc => ?_⟩
  · (conv => whnf); refine ⟨t, rfl, by omega, by omega, ?_⟩
    exact go_vret ((ob_196.1 44).trans rfl) rfl ⟨none, _, rfl, rfl, L', x, _, rfl, h1⟩
  · (conv => whnf); refine ⟨t, rfl, by omega, by omega, ?_⟩
    exact go_vret ((ob_196.1 44).trans rfl) rfl ⟨none, _, rfl, rfl, L', x, _, rfl, h1⟩
/-- what fault holds -/
def FA (h : xH) (f : Int32) : Prop := ∃ vs, h[0]? = some (.inl (12, .int f :: vs))
theorem FA.mH : FA (mH fa fr kn dg rc pr co we si ex le tx L S C) fa := ⟨_, rfl⟩
set_option maxRecDepth 100000 in
theorem c_thrown {h : xH} {f : Int32} (hF : FA h f) : cR 153 0 0 [.ref 0] h (fun v h' => h' = h ∧ v = some (.int f)) := by
  intro fb lb _ _
  obtain ⟨vs, hv⟩ := hF
  refine blk_go ob_153 (fun _ => false) 30 ?_
  (conv => whnf)
  rw [hv]
  exact go_iret ((ob_153.1 4).trans rfl) rfl (vp_nar_int _) ⟨_, _, rfl, rfl, rfl⟩
set_option maxRecDepth 100000 in
theorem c_refused {f : Int32} : cR 155 0 0 [.ref 0, .int f] (mH fa fr kn dg rc pr co we si ex le tx L S C) (fun v h => h = mH f fr kn dg rc pr co we si ex le tx L S C ∧ v = some (.int (if f ≤ 0 then nI 0 else nI 1))) := by
  intro fb lb _ _
  refine blk_go ob_155 (fun _ => false) 30 ?_
  (conv => whnf); refine ⟨fun hc => ?_, fun hc => ?_⟩
  · have hc : f ≤ 0 := hc
    exact go_iret ((ob_155.1 14).trans rfl) rfl rfl ⟨_, _, rfl, rfl, by rw [if_pos hc]⟩
  · have hc : ¬ f ≤ 0 := hc
    exact go_iret ((ob_155.1 14).trans rfl) rfl rfl ⟨_, _, rfl, rfl, by rw [if_neg hc]⟩
set_option maxRecDepth 100000 in
theorem c_isSlot {x : Int32} {h : xH} : cR 186 0 0 [.int x] h (fun v h' => h' = h ∧ ((∃ j, j < 8 ∧ x = nI j) ∧ v = some (.int (nI 1)) ∨ (x < 0 ∨ nI 8 ≤ x) ∧ v = some (.int (nI 0)))) := by
  intro fb lb _ _
  refine blk_go ob_186 (fun _ => false) 30 ?_
  (conv => whnf); refine ⟨fun hc => ?_, fun hc => ?_⟩
  · exact go_iret ((ob_186.1 15).trans rfl) rfl rfl ⟨_, _, rfl, rfl, Or.inr ⟨Or.inl hc, rfl⟩⟩
  · (conv => whnf); refine ⟨fun hd => ?_, fun hd => ?_⟩
    · exact go_iret ((ob_186.1 15).trans rfl) rfl rfl ⟨_, _, rfl, rfl, Or.inr ⟨Or.inr hd, rfl⟩⟩
    · refine go_iret ((ob_186.1 15).trans rfl) rfl rfl ⟨_, _, rfl, rfl, Or.inl ⟨?_, rfl⟩⟩
      rcases pk_ix x (n := 8) (by decide) with q | q | q
      · exact absurd q hc
      · exact absurd q hd
      · exact q
end MDL
