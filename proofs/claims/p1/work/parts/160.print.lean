/-! print of the fresh reference -/
section MDL
variable {fa fr kn dg rc pr : Int32} {co we si ex : List Int32} {le : List Int64} {tx : List Int32} {L C : List Int64} {S : List Int32}
def V79 (r : Nat) (L : List Int64) : Prop := ∀ i, i < 100 → L.getD (100 * r + i) 0 = if i = 79 then lN 134217728 else 0
set_option maxRecDepth 100000 in
set_option maxHeartbeats 4000000 in
theorem shift_loop {fb lb c s r a : Nat} (hr : r < 60) (ha : a < 60) (hra : a ≠ r) (L0 : List Int64) (hw : W80 a 1 L0) {Q : yR → Prop} (hq : ∀ L', L'.length = 6000 → V79 r L' → Fr r L0 L' → gX fb lb 176 152 [(6, .int (nI 100)), (5, .int (nI 1)), (4, .int (nI 0)), (0, .ref 0), (1, .int (nI r)), (2, .int (nI a)), (3, .int (nI 1))] [] (mH fa 0 kn dg rc pr co we si ex le tx L' S C) c s Q) :
    ∀ (d k : Nat) (L : List Int64), k + d = 100 → L.length = 6000 → (∀ i, i < k → L.getD (100 * r + i) 0 = if i = 79 then lN 134217728 else 0) → Fr r L0 L → gX fb lb 176 15 [(6, .int (nI k)), (5, .int (nI 1)), (4, .int (nI 0)), (0, .ref 0), (1, .int (nI r)), (2, .int (nI a)), (3, .int (nI 1))] [] (mH fa 0 kn dg rc pr co we si ex le tx L S C) c s Q := by
  intro d
  induction d with
  | zero =>
    intro k L hk hL hz hf
    have hk : k = 100 := by omega
    subst hk
    refine blk_go ob_176 (fun pc => Nat.beq pc 15 || Nat.beq pc 152) 30 ?_
    (conv => whnf); refine br_t (show nI 100 ≤ nI 100 by decide) ?_
    exact hq L hL hz hf
  | succ d ih =>
    intro k L hk hL hz hf
    have hlo : L.getD (100 * a + k) 0 = if k = 80 then lN 1 else 0 := (hf.at hra (by omega)).trans (hw k (by omega))
    have fin : ∀ hi, hi = (if k + 1 = 80 then lN 1 else lN 0) → gX fb lb 176 101 [(8, .long (L.getD (100 * a + k) 0)), (7, .int (nI k + nI 0)), (6, .int (nI k)), (5, .int (nI 1)), (4, .int (nI 0)), (0, .ref 0), (1, .int (nI r)), (2, .int (nI a)), (3, .int (nI 1))] [.long hi] (mH fa 0 kn dg rc pr co we si ex le tx L S C) c s Q := by
      intro hi hhi
      refine blk_go ob_176 (fun pc => Nat.beq pc 15) 60 ?_
      (conv => whnf); refine br_t (show 0 ≤ nI k from nI_pos' (by omega)) ?_
      (conv => whnf); refine ⟨show ¬ (268435456 : Int64) = 0 by decide, ?_⟩
      (conv => whnf); refine ⟨100 * r + k, k100 r k, by omega, by omega, ?_⟩
      refine go_few [(6, .int (nI k + Int32.ofInt 1)), (5, .int (nI 1)), (4, .int (nI 0)), (0, .ref 0), (1, .int (nI r)), (2, .int (nI a)), (3, .int (nI 1))] ((ob_176.1 15).trans rfl) (by simp) ?_
      rw [n_inc]
      refine ih (k + 1) _ (by omega) (by rw [List.length_set]; exact hL) (fun i hi2 => ?_) (hf.set (by omega))
      by_cases e : i = k
      · subst e
        rw [gd_s (by omega), hhi, hlo]
        by_cases e1 : i = 79
        · subst e1; decide
        · by_cases e2 : i = 80
          · subst e2; decide
          · rw [if_neg (show ¬ i + 1 = 80 by omega), if_neg e1, if_neg e2]; decide
      · rw [gd_n (by omega)]; exact hz i (by omega)
    refine blk_go ob_176 (fun pc => Nat.beq pc 15 || Nat.beq pc 101 || Nat.beq pc 152) 60 ?_
    (conv => whnf); refine br_f (nI_ge (a := k) (b := 100) (by omega) (by omega)) ?_
    (conv => whnf); refine br_f (show ¬ nI 100 ≤ nI k + nI 0 by rw [nI_add]; exact nI_ge (by omega) (by omega)) ?_
    (conv => whnf); refine br_f (show ¬ nI k + nI 0 < 0 by rw [nI_add]; exact nI_pos (by omega)) ?_
    (conv => whnf); refine ⟨100 * a + k, (show nI 100 * nI a + (nI k + nI 0) = nI (100 * a + k) by rw [nI_add, pk_mul, nI_add]; rfl), by omega, by omega, ?_⟩
    (conv => whnf); refine ⟨fun hc => ?_, fun hc => ?_⟩
    · refine fin _ ?_
      have hc : nI 100 ≤ nI k + nI 0 + nI 1 := hc
      rw [nI_add, nI_add, nI_leI (by decide) (by omega)] at hc
      rw [if_neg (by omega)]
      rfl
    · (conv => whnf); refine br_f (show ¬ nI k + nI 0 + nI 1 < 0 by rw [nI_add, nI_add]; exact nI_pos (by omega)) ?_
      have hc : ¬ nI 100 ≤ nI k + nI 0 + nI 1 := hc
      rw [nI_add, nI_add, nI_leI (by decide) (by omega)] at hc
      (conv => whnf); refine ⟨100 * a + (k + 1), (show nI 100 * nI a + (nI k + nI 0) + nI 1 = nI (100 * a + (k + 1)) by rw [nI_add, pk_mul, nI_add, nI_add]; rfl), by omega, by omega, ?_⟩
      refine fin _ ?_
      rw [hf.at hra (by omega), hw (k + 1) (by omega)]
      rfl
set_option maxRecDepth 100000 in
set_option maxHeartbeats 4000000 in
theorem c_shift1 {r a : Nat} (hr : r < 60) (ha : a < 60) (hra : a ≠ r) (hL : L.length = 6000) (hS : S.length = 60) (hw : W80 a 1 L) : cR 176 2 43 [.ref 0, .int (nI r), .int (nI a), .int (nI 1)] (mH fa 0 kn dg rc pr co we si ex le tx L S C) (fun v h => v = none ∧ ∃ L' x, h = mH fa 0 kn dg rc pr co we si ex le tx L' (S.set r x) C ∧ L'.length = 6000 ∧ V79 r L' ∧ Fr r L L' ∧ (x = nI 0 ∨ x = S.getD a 0)) := by
  intro fb lb hf hl
  refine blk_go ob_176 (fun pc => Nat.beq pc 15) 30 ?_
  (conv => whnf); refine ⟨show ¬ nI 28 = 0 by decide, ?_⟩
  (conv => whnf); refine ⟨show ¬ nI 28 = 0 by decide, ?_⟩
  refine shift_loop hr ha hra L hw (fun L' h1 h2 h3 => ?_) 100 0 L (by omega) hL (fun i hi => absurd hi (by omega)) Fr.rf
  refine blk_go ob_176 (fun _ => false) 30 ?_
  (conv => whnf); refine ⟨a, rfl, by omega, by omega, ?_⟩
  (conv => whnf); refine ⟨r, rfl, by omega, by omega, ?_⟩
  refine vM (idx := 62) (mj := 161) (q := 1) (n := 2) [.ref 0, .int (nI r)] ((ob_176.1 166).trans rfl) rfl rfl (Nat.le_of_ble_eq_true rfl) rfl rfl rfl rfl (c_trim hr h1 (by rw [List.length_set]; exact hS)) (Nat.le_of_ble_eq_true rfl) (by omega) rfl (by omega) (Nat.le_of_ble_eq_true rfl) (fun v h1 e => ?_)
  obtain ⟨rfl, x, rfl, e1, -⟩ := e
  rw [gd_s (by omega)] at e1
  exact go_vret ((ob_176.1 169).trans rfl) rfl ⟨none, _, rfl, rfl, L', x, by rw [List.set_set], h1, h2, h3, e1⟩
set_option maxRecDepth 100000 in
set_option maxHeartbeats 4000000 in
theorem cut_loop {fb lb c s r : Nat} (hr : r < 60) (L0 : List Int64) {Q : yR → Prop} (hq : ∀ L' f, L'.length = 6000 → (∀ i, i < 80 → L'.getD (100 * r + i) 0 = 0) → (∀ i, 80 ≤ i → i < 100 → L'.getD (100 * r + i) 0 = L0.getD (100 * r + i) 0) → Fr r L0 L' → gX fb lb 218 54 [(3, .int (nI 80)), (2, .int f), (0, .ref 0), (1, .int (nI r))] [] (mH fa 0 kn dg rc pr co we si ex le tx L' S C) c s Q) :
    ∀ (d k : Nat) (L : List Int64) (f : Int32), k + d = 80 → L.length = 6000 → (∀ i, i < k → L.getD (100 * r + i) 0 = 0) → (∀ i, 80 ≤ i → i < 100 → L.getD (100 * r + i) 0 = L0.getD (100 * r + i) 0) → Fr r L0 L → gX fb lb 218 4 [(3, .int (nI k)), (2, .int f), (0, .ref 0), (1, .int (nI r))] [] (mH fa 0 kn dg rc pr co we si ex le tx L S C) c s Q := by
  intro d
  induction d with
  | zero =>
    intro k L f hk hL hz hy hf
    have hk : k = 80 := by omega
    subst hk
    refine blk_go ob_218 (fun pc => Nat.beq pc 4 || Nat.beq pc 54) 30 ?_
    (conv => whnf); refine br_t (show nI 80 ≤ nI 80 by decide) ?_
    exact hq L f hL hz hy hf
  | succ d ih =>
    intro k L f hk hL hz hy hf
    have fin : ∀ f', gX fb lb 218 35 [(3, .int (nI k)), (2, .int f), (0, .ref 0), (1, .int (nI r))] [.int f'] (mH fa 0 kn dg rc pr co we si ex le tx L S C) c s Q := by
      intro f'
      refine blk_go ob_218 (fun pc => Nat.beq pc 4) 40 ?_
      (conv => whnf); refine ⟨100 * r + k, k100 r k, by omega, by omega, ?_⟩
      show gX fb lb 218 4 [(3, .int (nI k + Int32.ofInt 1)), (2, .int f'), (0, .ref 0), (1, .int (nI r))] [] (mH fa 0 kn dg rc pr co we si ex le tx (L.set (100 * r + k) (lN 0)) S C) c s Q
      rw [n_inc]
      refine ih (k + 1) _ f' (by omega) (by rw [List.length_set]; exact hL) (fun i hi => ?_) (fun i h1 h2 => ?_) (hf.set (by omega))
      · by_cases e : i = k
        · subst e; rw [gd_s (by omega)]; rfl
        · rw [gd_n (by omega)]; exact hz i (by omega)
      · rw [gd_n (by omega)]; exact hy i h1 h2
    refine blk_go ob_218 (fun pc => Nat.beq pc 4 || Nat.beq pc 35 || Nat.beq pc 54) 40 ?_
    (conv => whnf); refine br_f (nI_ge (a := k) (b := 80) (by omega) (by omega)) ?_
    (conv => whnf); refine ⟨fun c1 => ?_, fun c1 => ?_⟩
    · exact fin _
    · (conv => whnf); refine ⟨100 * r + k, k100 r k, by omega, by omega, ?_⟩
      (conv => whnf); refine ⟨fun c2 => ?_, fun c2 => ?_⟩
      · exact fin _
      · exact fin _
set_option maxRecDepth 100000 in
set_option maxHeartbeats 4000000 in
theorem c_cutDown {r : Nat} (hr : r < 60) (hL : L.length = 6000) (hS : S.length = 60) (hn : 0 ≤ S.getD r 0) : cR 218 2 43 [.ref 0, .int (nI r)] (mH fa 0 kn dg rc pr co we si ex le tx L S C) (fun v h => v = none ∧ ∃ L' x, h = mH fa 0 kn dg rc pr co we si ex le tx L' (S.set r x) C ∧ L'.length = 6000 ∧ Fr r L L' ∧ ((∀ i, 80 ≤ i → i < 100 → L.getD (100 * r + i) 0 = 0) → Zr r L' ∧ x = nI 0)) := by
  intro fb lb hf hl
  refine blk_go ob_218 (fun pc => Nat.beq pc 4) 30 ?_
  refine cut_loop hr L (fun L' f h1 h2 h3 h4 => ?_) 80 0 L (nI 0) (by omega) hL (fun i hi => absurd hi (by omega)) (fun _ _ _ => rfl) Fr.rf
  have hz : (∀ i, 80 ≤ i → i < 100 → L.getD (100 * r + i) 0 = 0) → Zr r L' := fun z i hi => by
    by_cases e : i < 80
    · exact h2 i e
    · rw [h3 i (by omega) hi]; exact z i (by omega) hi
  have fin : gX fb lb 218 82 [(3, .int (nI 80)), (2, .int f), (0, .ref 0), (1, .int (nI r))] [] (mH fa 0 kn dg rc pr co we si ex le tx L' S C) 0 0 (fun r_1 => ∃ v h1, r_1 = (.inl v, h1, 0, 0) ∧ (fun v h => v = none ∧ ∃ L' x, h = mH fa 0 kn dg rc pr co we si ex le tx L' (S.set r x) C ∧ L'.length = 6000 ∧ Fr r L L' ∧ ((∀ i, 80 ≤ i → i < 100 → L.getD (100 * r + i) 0 = 0) → Zr r L' ∧ x = nI 0)) v h1) := by
    refine blk_go ob_218 (fun _ => false) 30 ?_
    refine vM (idx := 62) (mj := 161) (q := 1) (n := 2) [.ref 0, .int (nI r)] ((ob_218.1 84).trans rfl) rfl rfl (Nat.le_of_ble_eq_true rfl) rfl rfl rfl rfl (c_trim hr h1 hS) (Nat.le_of_ble_eq_true rfl) (by omega) rfl (by omega) (Nat.le_of_ble_eq_true rfl) (fun v h1 e => ?_)
    obtain ⟨rfl, x, rfl, e1, e2, -⟩ := e
    exact go_vret ((ob_218.1 87).trans rfl) rfl ⟨none, _, rfl, rfl, L', x, rfl, h1, h4, fun z => ⟨hz z, e2 (hz z)⟩⟩
  refine blk_go ob_218 (fun pc => Nat.beq pc 82) 30 ?_
  (conv => whnf); refine ⟨fun hc => ?_, fun hc => ?_⟩
  · exact fin
  · (conv => whnf); refine ⟨r, rfl, by omega, by omega, ?_⟩
    (conv => whnf); refine br_t (hn) ?_
    exact fin
end MDL
