section MDL
variable {fa fr kn dg rc pr : Int32} {co we si ex : List Int32} {le : List Int64} {tx : List Int32} {L C : List Int64} {S : List Int32}
set_option maxRecDepth 100000 in
set_option maxHeartbeats 4000000 in
theorem load_loop {fb lb c s r a : Nat} (hr : r < 60) (ha : a < 60) (L0 : List Int64) {Q : yR → Prop} (hq : ∀ L', L'.length = 6000 → (∀ i, i < 100 → L'.getD (100 * r + i) 0 = L0.getD (100 * a + i) 0) → Fr r L0 L' → gX fb lb 160 48 [(3, .int (nI 100)), (0, .ref 0), (1, .int (nI r)), (2, .int (nI a))] [] (mH fa 0 kn dg rc pr co we si ex le tx L' S C) c s Q) :
    ∀ (d k : Nat) (L : List Int64), k + d = 100 → L.length = 6000 → (∀ i, i < k → L.getD (100 * r + i) 0 = L0.getD (100 * a + i) 0) → (∀ i, k ≤ i → i < 100 → L.getD (100 * r + i) 0 = L0.getD (100 * r + i) 0) → Fr r L0 L → gX fb lb 160 2 [(3, .int (nI k)), (0, .ref 0), (1, .int (nI r)), (2, .int (nI a))] [] (mH fa 0 kn dg rc pr co we si ex le tx L S C) c s Q := by
  intro d
  induction d with
  | zero =>
    intro k L hk hL hz hy hf
    have hk : k = 100 := by omega
    subst hk
    refine blk_go ob_160 (fun pc => Nat.beq pc 2 || Nat.beq pc 48) 30 ?_
    (conv => whnf); refine br_t (show nI 100 ≤ nI 100 by decide) ?_
    exact hq L hL hz hf
  | succ d ih =>
    intro k L hk hL hz hy hf
    refine blk_go ob_160 (fun pc => Nat.beq pc 2 || Nat.beq pc 48) 40 ?_
    (conv => whnf); refine br_f (nI_ge (a := k) (b := 100) (by omega) (by omega)) ?_
    (conv => whnf); refine br_t (show 0 ≤ nI k from nI_pos' (by omega)) ?_
    (conv => whnf); refine ⟨100 * a + k, k100 a k, by omega, by omega, ?_⟩
    (conv => whnf); refine ⟨100 * r + k, k100 r k, by omega, by omega, ?_⟩
    show gX fb lb 160 2 [(3, .int (nI k + Int32.ofInt 1)), (0, .ref 0), (1, .int (nI r)), (2, .int (nI a))] [] (mH fa 0 kn dg rc pr co we si ex le tx (L.set (100 * r + k) (L.getD (100 * a + k) 0)) S C) c s Q
    rw [n_inc]
    have hv : L.getD (100 * a + k) 0 = L0.getD (100 * a + k) 0 := by
      by_cases e : a = r
      · subst e; exact hy k (by omega) (by omega)
      · exact hf.at e (by omega)
    refine ih (k + 1) _ (by omega) (by rw [List.length_set]; exact hL) (fun i hi => ?_) (fun i h1 h2 => ?_) (hf.set (by omega))
    · by_cases e : i = k
      · subst e; rw [gd_s (by omega)]; exact hv
      · rw [gd_n (by omega)]; exact hz i (by omega)
    · rw [gd_n (by omega)]; exact hy i (by omega) h2
/-- register r holds what a held -/
def Eq2 (r a : Nat) (L L' : List Int64) : Prop := ∀ i, i < 100 → L'.getD (100 * r + i) 0 = L.getD (100 * a + i) 0
set_option maxRecDepth 100000 in
set_option maxHeartbeats 4000000 in
theorem c_load {r a : Nat} (hr : r < 60) (ha : a < 60) (hL : L.length = 6000) (hS : S.length = 60) : cR 160 2 44 [.ref 0, .int (nI r), .int (nI a)] (mH fa 0 kn dg rc pr co we si ex le tx L S C) (fun v h => v = none ∧ ∃ L' x, h = mH fa 0 kn dg rc pr co we si ex le tx L' (S.set r x) C ∧ L'.length = 6000 ∧ Eq2 r a L L' ∧ Fr r L L' ∧ (x = nI 0 ∨ x = S.getD a 0) ∧ (Zr a L → x = nI 0)) := by
  intro fb lb hf hl
  refine blk_go ob_160 (fun pc => Nat.beq pc 2) 30 ?_
  refine load_loop hr ha L (fun L' h1 h2 h3 => ?_) 100 0 L (by omega) hL (fun i hi => absurd hi (by omega)) (fun _ _ _ => rfl) Fr.rf
  refine blk_go ob_160 (fun _ => false) 30 ?_
  (conv => whnf); refine ⟨a, rfl, by omega, by omega, ?_⟩
  (conv => whnf); refine ⟨r, rfl, by omega, by omega, ?_⟩
  refine vM (idx := 62) (mj := 161) (q := 1) (n := 2) [.ref 0, .int (nI r)] ((ob_160.1 62).trans rfl) rfl rfl (Nat.le_of_ble_eq_true rfl) rfl rfl rfl rfl (c_trim hr h1 (by rw [List.length_set]; exact hS)) (Nat.le_of_ble_eq_true rfl) (by omega) rfl (by omega) (Nat.le_of_ble_eq_true rfl) (fun v h1 e => ?_)
  obtain ⟨rfl, x, rfl, e1, e2, -⟩ := e
  refine go_vret ((ob_160.1 65).trans rfl) rfl ⟨none, _, rfl, rfl, L', x, by rw [List.set_set], h1, h2, h3, ?_, fun hz => e2 (fun i hi => (h2 i hi).trans (hz i hi))⟩
  rw [gd_s (by omega)] at e1
  exact e1
/-- a small number's place -/
def W80 (r n : Nat) (L : List Int64) : Prop := ∀ i, i < 100 → L.getD (100 * r + i) 0 = if i = 80 then lN n else 0
theorem lN_nn {n : Nat} (h : n < 2 ^ 63) : (0 : Int64) ≤ lN n := by rw [show (0 : Int64) = lN 0 from rfl, pk_lLE (by decide) h]; omega
theorem lN_np {n : Nat} (h : n < 2 ^ 63) : lN n ≤ (0 : Int64) ↔ n = 0 := by rw [show (0 : Int64) = lN 0 from rfl, pk_lLE h (by decide)]; omega
theorem lN_neg {n : Nat} (h : n < 2 ^ 62) (h0 : 0 < n) : -lN n < (0 : Int64) := by
  rw [Int64.lt_iff_toInt_lt, show (-lN n).toInt = -(n : Int) from Int64.toInt_neg_ofNat_of_le (by omega)]
  show -(n : Int) < 0
  omega
set_option maxRecDepth 100000 in
set_option maxHeartbeats 4000000 in
/-- the loop that lays a small number down, from its head on -/
theorem whole_tail {fb lb c s r n : Nat} {v : Int64} {Q : yR → Prop} (hr : r < 60) (hn : n < 2 ^ 28) (hL : L.length = 6000) (hz : Zr r L) (hq : ∀ L', L'.length = 6000 → W80 r n L' → Fr r L L' → Q (.inl none, mH fa fr kn dg rc pr co we si ex le tx L' S C, c, s)) : gX fb lb 163 50 [(6, .int (nI 80)), (4, .long (lN n)), (0, .ref 0), (1, .int (nI r)), (2, .long v)] [] (mH fa fr kn dg rc pr co we si ex le tx L S C) c s Q := by
  have hn63 : n < 2 ^ 63 := by omega
  refine blk_go ob_163 (fun pc => Nat.beq pc 50) 40 ?_
  (conv => whnf); refine ⟨fun hc => ?_, fun hc => ?_⟩
  · have h0 : n = 0 := (lN_np hn63).mp ((lg_cmp_le _ _).mp hc)
    subst h0
    refine go_vret ((ob_163.1 89).trans rfl) rfl (hq L hL (fun i hi => ?_) Fr.rf)
    rw [hz i hi]; split <;> rfl
  · (conv => whnf); refine ⟨show ¬ (268435456 : Int64) = 0 by decide, ?_⟩
    (conv => whnf); refine ⟨100 * r + 80, k100 r 80, by omega, by omega, ?_⟩
    (conv => whnf); refine ⟨show ¬ (268435456 : Int64) = 0 by decide, ?_⟩
    have e1 : lN n - lN n / (268435456 : Int64) * 268435456 = lN n := by
      rw [show (268435456 : Int64) = lN 268435456 from rfl, pk_lRem hn63 (by decide) (by decide), Nat.mod_eq_of_lt hn]
    have e2 : lN n / (268435456 : Int64) = lN 0 := by
      rw [show (268435456 : Int64) = lN 268435456 from rfl, pk_lDiv hn63 (by decide) (by decide), Nat.div_eq_of_lt hn]
    show gX fb lb 163 50 [(6, .int (nI 80 + Int32.ofInt 1)), (4, .long (lN n / 268435456)), (0, .ref 0), (1, .int (nI r)), (2, .long v)] [] (mH fa fr kn dg rc pr co we si ex le tx (L.set (100 * r + 80) (lN n - lN n / (268435456 : Int64) * 268435456)) S C) c s Q
    rw [e1, e2]
    refine blk_go ob_163 (fun pc => Nat.beq pc 50) 40 ?_
    (conv => whnf); refine br_t (show lg_cmp (lN 0) (lN 0) ≤ 0 by decide) ?_
    refine go_vret ((ob_163.1 89).trans rfl) rfl (hq _ (by rw [List.length_set]; exact hL) (fun i hi => ?_) (Fr.set Fr.rf (by omega)))
    by_cases e : i = 80
    · subst e; rw [gd_s (by omega), if_pos rfl]
    · rw [gd_n (by omega), if_neg e]; exact hz i hi
set_option maxRecDepth 100000 in
set_option maxHeartbeats 4000000 in
theorem c_wholeP {r n : Nat} (hr : r < 60) (hn : n < 2 ^ 28) (hL : L.length = 6000) (hS : S.length = 60) : cR 163 1 22 [.ref 0, .int (nI r), .long (lN n)] (mH fa fr kn dg rc pr co we si ex le tx L S C) (fun v h => v = none ∧ ∃ L' x, h = mH fa fr kn dg rc pr co we si ex le tx L' (S.set r x) C ∧ L'.length = 6000 ∧ W80 r n L' ∧ Fr r L L' ∧ x = (if n = 0 then nI 0 else nI 1)) := by
  intro fb lb hf hl
  have hn63 : n < 2 ^ 63 := by omega
  refine blk_go ob_163 (fun _ => false) 30 ?_
  refine vM (idx := 53) (mj := 164) (q := 1) (n := 3) [.ref 0, .int (nI r)] ((ob_163.1 2).trans rfl) rfl rfl (Nat.le_of_ble_eq_true rfl) rfl rfl rfl rfl (c_zero hr hL hS) (Nat.le_of_ble_eq_true rfl) (by omega) rfl (by omega) (Nat.le_of_ble_eq_true rfl) (fun v h1 e => ?_)
  obtain ⟨rfl, L1, rfl, h1, h2, h3⟩ := e
  refine blk_go ob_163 (fun pc => Nat.beq pc 50) 60 ?_
  (conv => whnf); refine br_t ((lg_cmp_ge _ _).mpr (lN_nn hn63)) ?_
  (conv => whnf); refine br_t ((lg_cmp_ge _ _).mpr (lN_nn hn63)) ?_
  (conv => whnf); refine ⟨fun hc => ?_, fun hc => ?_⟩
  · have h0 : n = 0 := (lN_np hn63).mp ((lg_cmp_le _ _).mp hc)
    (conv => whnf); refine ⟨r, rfl, (by rw [List.length_set]; omega), (by rw [List.length_set]; omega), ?_⟩
    refine whole_tail hr hn h1 h2 (fun L' k1 k2 k3 => ⟨none, _, rfl, rfl, L', _, by rw [List.set_set], k1, k2, h3.tr k3, by rw [if_pos h0]⟩)
  · have h0 : ¬ n = 0 := fun z => hc ((lg_cmp_le _ _).mpr ((lN_np hn63).mpr z))
    (conv => whnf); refine ⟨r, rfl, (by rw [List.length_set]; omega), (by rw [List.length_set]; omega), ?_⟩
    refine whole_tail hr hn h1 h2 (fun L' k1 k2 k3 => ⟨none, _, rfl, rfl, L', _, by rw [List.set_set], k1, k2, h3.tr k3, by rw [if_neg h0]⟩)
set_option maxRecDepth 100000 in
set_option maxHeartbeats 4000000 in
theorem c_wholeN {r n : Nat} (hr : r < 60) (hn : n < 2 ^ 28) (h0 : 0 < n) (hL : L.length = 6000) (hS : S.length = 60) : cR 163 1 22 [.ref 0, .int (nI r), .long (-lN n)] (mH fa fr kn dg rc pr co we si ex le tx L S C) (fun v h => v = none ∧ ∃ L' x, h = mH fa fr kn dg rc pr co we si ex le tx L' (S.set r x) C ∧ L'.length = 6000 ∧ W80 r n L' ∧ Fr r L L' ∧ x = -nI 1) := by
  intro fb lb hf hl
  have hneg : ¬ 0 ≤ lg_cmp (-lN n) (lN 0) := fun z => absurd ((lg_cmp_ge _ _).mp z) (by rw [Int64.not_le]; exact lN_neg (by omega) h0)
  refine blk_go ob_163 (fun _ => false) 30 ?_
  refine vM (idx := 53) (mj := 164) (q := 1) (n := 3) [.ref 0, .int (nI r)] ((ob_163.1 2).trans rfl) rfl rfl (Nat.le_of_ble_eq_true rfl) rfl rfl rfl rfl (c_zero hr hL hS) (Nat.le_of_ble_eq_true rfl) (by omega) rfl (by omega) (Nat.le_of_ble_eq_true rfl) (fun v h1 e => ?_)
  obtain ⟨rfl, L1, rfl, h1, h2, h3⟩ := e
  refine blk_go ob_163 (fun pc => Nat.beq pc 50) 60 ?_
  (conv => whnf); refine br_f (hneg) ?_
  (conv => whnf); refine br_f (hneg) ?_
  (conv => whnf); refine ⟨r, rfl, (by rw [List.length_set]; omega), (by rw [List.length_set]; omega), ?_⟩
  show gX fb lb 163 50 [(6, .int (nI 80)), (4, .long (- -lN n)), (0, .ref 0), (1, .int (nI r)), (2, .long (-lN n))] [] (mH fa fr kn dg rc pr co we si ex le tx L1 ((S.set r (nI 0)).set r (-nI 1)) C) 0 0 _
  rw [Int64.neg_neg]
  exact whole_tail hr hn h1 h2 (fun L' k1 k2 k3 => ⟨none, _, rfl, rfl, L', _, by rw [List.set_set], k1, k2, h3.tr k3, rfl⟩)
end MDL
