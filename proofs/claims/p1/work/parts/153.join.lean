section MDL
variable {fa fr kn dg rc pr : Int32} {co we si ex : List Int32} {le : List Int64} {tx : List Int32} {L C : List Int64} {S : List Int32}
/-- 0 and a number of limbs as they ought to be are joined -/
def JP (a b : Nat) (y : Int32) (L : List Int64) : Prop := Zr a L ∧ y = nI 1 ∧ ∀ i, i < 100 → ∃ n, n < 2 ^ 28 ∧ L.getD (100 * b + i) 0 = lN n
set_option maxRecDepth 100000 in
set_option maxHeartbeats 4000000 in
theorem join_loop {fb lb c s r a b : Nat} {y : Int32} (hr : r < 60) (ha : a < 60) (hb : b < 60) (L0 : List Int64) {Q : yR → Prop} (hq : ∀ L', L'.length = 6000 → Fr r L0 L' → (JP a b y L0 → Eq2 r b L0 L') → Q (.inl none, mH fa 0 kn dg rc pr co we si ex le tx L' S C, c, s)) :
    ∀ (d k : Nat) (L : List Int64) (cy : Int64) (T : xL), k + d = 100 → L.length = 6000 → Fr r L0 L → (∀ i, k ≤ i → i < 100 → L.getD (100 * r + i) 0 = L0.getD (100 * r + i) 0) → (JP a b y L0 → cy = lN 0 ∧ ∀ i, i < k → L.getD (100 * r + i) 0 = L0.getD (100 * b + i) 0) →
      (T = [(0, .ref 0), (1, .int (nI r)), (2, .int (nI a)), (3, .int (nI b)), (4, .int y)] ∨ ∃ w, T = [(8, .long w), (0, .ref 0), (1, .int (nI r)), (2, .int (nI a)), (3, .int (nI b)), (4, .int y)]) →
      gX fb lb 169 6 ((7, .int (nI k)) :: (5, .long cy) :: T) [] (mH fa 0 kn dg rc pr co we si ex le tx L S C) c s Q := by
  intro d
  induction d with
  | zero =>
    intro k L cy T hk hL hf hy hp hT
    have hk : k = 100 := by omega
    subst hk
    rcases hT with rfl | ⟨w, rfl⟩
    · refine blk_go ob_169 (fun pc => Nat.beq pc 6) 30 ?_
      (conv => whnf); refine br_t (show nI 100 ≤ nI 100 by decide) ?_
      exact go_vret ((ob_169.1 116).trans rfl) rfl (hq L hL hf (fun z i hi => (hp z).2 i hi))
    · refine blk_go ob_169 (fun pc => Nat.beq pc 6) 30 ?_
      (conv => whnf); refine br_t (show nI 100 ≤ nI 100 by decide) ?_
      exact go_vret ((ob_169.1 116).trans rfl) rfl (hq L hL hf (fun z i hi => (hp z).2 i hi))
  | succ d ih =>
    intro k L cy T hk hL hf hy hp hT
    have rd : ∀ q, L.getD (100 * q + k) 0 = L0.getD (100 * q + k) 0 := fun q => by
      by_cases e : q = r
      · subst e; exact hy k (by omega) (by omega)
      · exact hf.at e (by omega)
    obtain ⟨v, hv⟩ : ∃ v, v = L.getD (100 * a + k) 0 + y.toInt64 * L.getD (100 * b + k) 0 + cy := ⟨_, rfl⟩
    have hJ : JP a b y L0 → ∃ n, n < 2 ^ 28 ∧ v = lN n ∧ L0.getD (100 * b + k) 0 = lN n := by
      intro z
      obtain ⟨n, h1, h2⟩ := z.2.2 k (by omega)
      refine ⟨n, h1, ?_, h2⟩
      rw [hv, rd a, rd b, h2, z.1 k (by omega), z.2.1, (hp z).1, show (nI 1).toInt64 = 1 from rfl, Int64.one_mul, Int64.zero_add]
      show lN n + lN 0 = lN n
      rw [lN_add]
      rfl
    have fin : ∀ cy', (JP a b y L0 → cy' = lN 0) → gX fb lb 169 87 [(8, .long v), (7, .int (nI k)), (5, .long cy), (0, .ref 0), (1, .int (nI r)), (2, .int (nI a)), (3, .int (nI b)), (4, .int y)] [.long cy'] (mH fa 0 kn dg rc pr co we si ex le tx L S C) c s Q := by
      intro cy' hcy
      refine blk_go ob_169 (fun pc => Nat.beq pc 6) 40 ?_
      (conv => whnf); refine ⟨100 * r + k, k100 r k, by omega, by omega, ?_⟩
      show gX fb lb 169 6 [(7, .int (nI k + Int32.ofInt 1)), (5, .long cy'), (8, .long v), (0, .ref 0), (1, .int (nI r)), (2, .int (nI a)), (3, .int (nI b)), (4, .int y)] [] (mH fa 0 kn dg rc pr co we si ex le tx (L.set (100 * r + k) (v - cy' * 268435456)) S C) c s Q
      rw [n_inc]
      refine ih (k + 1) _ cy' _ (by omega) (by rw [List.length_set]; exact hL) (hf.set (by omega)) (fun i h1 h2 => ?_) (fun z => ⟨hcy z, fun i hi => ?_⟩) (Or.inr ⟨v, rfl⟩)
      · rw [gd_n (by omega)]; exact hy i (by omega) h2
      · by_cases e : i = k
        · subst e
          obtain ⟨n, h1, h2, h3⟩ := hJ z
          rw [gd_s (by omega), h3, h2, hcy z]
          show lN n - 0 * 268435456 = lN n
          rw [Int64.zero_mul, Int64.sub_zero]
        · rw [gd_n (by omega)]; exact (hp z).2 i (by omega)
    have hsm : ∀ n, n < 2 ^ 28 → v = lN n → 0 ≤ lg_cmp v (lN 0) ∧ lg_cmp v 268435456 < 0 := by
      rintro n h1 rfl
      refine ⟨(lg_cmp_ge _ _).mpr (lN_nn (by omega)), (lg_cmp_lt _ _).mpr ?_⟩
      rw [show (268435456 : Int64) = lN 268435456 from rfl, pk_lLT (by omega) (by decide)]
      exact h1
    subst hv
    rcases hT with rfl | ⟨w, rfl⟩
    · refine blk_go ob_169 (fun pc => Nat.beq pc 6 || Nat.beq pc 87) 60 ?_
      (conv => whnf); refine br_f (nI_ge (a := k) (b := 100) (by omega) (by omega)) ?_
      (conv => whnf); refine br_t (show 0 ≤ nI k from nI_pos' (by omega)) ?_
      (conv => whnf); refine ⟨100 * a + k, k100 a k, by omega, by omega, ?_⟩
      (conv => whnf); refine ⟨100 * b + k, k100 b k, by omega, by omega, ?_⟩
      (conv => whnf); refine ⟨fun hc => ?_, fun hc => ?_⟩
      · (conv => whnf); refine ⟨fun hd => ?_, fun hd => ?_⟩
        · exact fin _ (fun _ => rfl)
        · refine fin _ (fun z => ?_)
          obtain ⟨n, h1, h2, -⟩ := hJ z
          exact absurd (hsm n h1 h2).2 hd
      · refine fin _ (fun z => ?_)
        obtain ⟨n, h1, h2, -⟩ := hJ z
        exact absurd (hsm n h1 h2).1 hc
    · refine blk_go ob_169 (fun pc => Nat.beq pc 6 || Nat.beq pc 87) 60 ?_
      (conv => whnf); refine br_f (nI_ge (a := k) (b := 100) (by omega) (by omega)) ?_
      (conv => whnf); refine br_t (show 0 ≤ nI k from nI_pos' (by omega)) ?_
      (conv => whnf); refine ⟨100 * a + k, k100 a k, by omega, by omega, ?_⟩
      (conv => whnf); refine ⟨100 * b + k, k100 b k, by omega, by omega, ?_⟩
      (conv => whnf); refine ⟨fun hc => ?_, fun hc => ?_⟩
      · (conv => whnf); refine ⟨fun hd => ?_, fun hd => ?_⟩
        · exact fin _ (fun _ => rfl)
        · refine fin _ (fun z => ?_)
          obtain ⟨n, h1, h2, -⟩ := hJ z
          exact absurd (hsm n h1 h2).2 hd
      · refine fin _ (fun z => ?_)
        obtain ⟨n, h1, h2, -⟩ := hJ z
        exact absurd (hsm n h1 h2).1 hc
theorem c_join {r a b : Nat} {y : Int32} (hr : r < 60) (ha : a < 60) (hb : b < 60) (hL : L.length = 6000) : cR 169 0 0 [.ref 0, .int (nI r), .int (nI a), .int (nI b), .int y] (mH fa 0 kn dg rc pr co we si ex le tx L S C) (fun v h => v = none ∧ ∃ L', h = mH fa 0 kn dg rc pr co we si ex le tx L' S C ∧ L'.length = 6000 ∧ Fr r L L' ∧ (JP a b y L → Eq2 r b L L')) := by
  intro fb lb _ _
  refine blk_go ob_169 (fun pc => Nat.beq pc 6) 30 ?_
  exact join_loop hr ha hb L (fun L' h1 h2 h3 => ⟨none, _, rfl, rfl, L', rfl, h1, h2, h3⟩) 100 0 L (lN 0) _ (by omega) hL Fr.rf (fun _ _ _ => rfl) (fun _ => ⟨rfl, fun i hi => absurd hi (by omega)⟩) (Or.inl rfl)
set_option maxRecDepth 100000 in
set_option maxHeartbeats 4000000 in
/-- 0 and a number -/
theorem c_plus {r a b : Nat} (hr : r < 60) (ha : a < 60) (hb : b < 60) (hL : L.length = 6000) (hS : S.length = 60) (hsa : S.getD a 0 = nI 0) : cR 168 2 43 [.ref 0, .int (nI r), .int (nI a), .int (nI b)] (mH fa 0 kn dg rc pr co we si ex le tx L S C) (fun v h => v = none ∧ ∃ L' x, h = mH fa 0 kn dg rc pr co we si ex le tx L' (S.set r x) C ∧ L'.length = 6000 ∧ Fr r L L' ∧ (JP a b (nI 1) L → Eq2 r b L L') ∧ (x = nI 0 ∨ x = S.getD b 0) ∧ (Zr r L' → x = nI 0) ∧ (¬ Zr r L' → x = S.getD b 0)) := by
  intro fb lb hf hl
  refine blk_go ob_168 (fun _ => false) 60 ?_
  (conv => whnf); refine ⟨a, rfl, by omega, by omega, ?_⟩
  (conv => whnf); refine ⟨b, rfl, by omega, by omega, ?_⟩
  (conv => whnf); refine br_f (show ¬ S.getD a 0 * S.getD b 0 < 0 by rw [hsa, show nI 0 = 0 from rfl, Int32.zero_mul]; decide) ?_
  refine vM (idx := 75) (mj := 169) (q := 4) (n := 10) [.ref 0, .int (nI r), .int (nI a), .int (nI b), .int (nI 1)] ((ob_168.1 29).trans rfl) rfl rfl (Nat.le_of_ble_eq_true rfl) rfl rfl rfl rfl (c_join hr ha hb hL) (Nat.le_of_ble_eq_true rfl) (by omega) rfl (by omega) (Nat.le_of_ble_eq_true rfl) (fun v h1 e => ?_)
  obtain ⟨rfl, L', rfl, h1, h2, h3⟩ := e
  refine blk_go ob_168 (fun _ => false) 60 ?_
  (conv => whnf); refine br_f (show ¬ ¬ S.getD a 0 = 0 from fun z => z hsa) ?_
  (conv => whnf); refine ⟨r, rfl, by omega, by omega, ?_⟩
  refine vM (idx := 62) (mj := 161) (q := 1) (n := 2) [.ref 0, .int (nI r)] ((ob_168.1 99).trans rfl) rfl rfl (Nat.le_of_ble_eq_true rfl) rfl rfl rfl rfl (c_trim hr h1 (by rw [List.length_set]; exact hS)) (Nat.le_of_ble_eq_true rfl) (by omega) rfl (by omega) (Nat.le_of_ble_eq_true rfl) (fun v h1 e => ?_)
  obtain ⟨rfl, x, rfl, e1, e2, e3⟩ := e
  rw [gd_s (by omega)] at e1 e3
  exact go_vret ((ob_168.1 102).trans rfl) rfl ⟨none, _, rfl, rfl, L', x, by rw [List.set_set], h1, h2, h3, e1, e2, e3⟩
set_option maxRecDepth 100000 in
set_option maxHeartbeats 4000000 in
/-- 0 less 0 -/
theorem c_minus {r a b : Nat} (hr : r < 60) (ha : a < 60) (hb : b < 60) (hrb : r ≠ b) (hL : L.length = 6000) (hS : S.length = 60) (hsa : S.getD a 0 = nI 0) (hsb : S.getD b 0 = nI 0) : cR 175 3 68 [.ref 0, .int (nI r), .int (nI a), .int (nI b)] (mH fa 0 kn dg rc pr co we si ex le tx L S C) (fun v h => v = none ∧ ∃ L' S', h = mH fa 0 kn dg rc pr co we si ex le tx L' S' C ∧ L'.length = 6000 ∧ S'.length = 60 ∧ Fr r L L' ∧ S'.getD r 0 = nI 0 ∧ (∀ j, j ≠ r → S'.getD j 0 = S.getD j 0) ∧ (Zr a L → Zr b L → Zr r L')) := by
  intro fb lb hf hl
  refine blk_go ob_175 (fun _ => false) 60 ?_
  (conv => whnf); refine ⟨fun hc => ?_, fun hc => ?_⟩
  · have hab : a ≠ b := fun e => hc (by rw [e])
    (conv => whnf); refine ⟨b, rfl, by omega, by omega, ?_⟩
    (conv => whnf); refine ⟨b, rfl, by omega, by omega, ?_⟩
    refine vM (idx := 79) (mj := 168) (q := 3) (n := 6) [.ref 0, .int (nI r), .int (nI a), .int (nI b)] ((ob_175.1 32).trans rfl) rfl rfl (Nat.le_of_ble_eq_true rfl) rfl rfl rfl rfl (c_plus hr ha hb hL (S := S.set b (-S.getD b 0)) (by rw [List.length_set]; exact hS) (by rw [gd_n (fun e => hab e.symm)]; exact hsa)) (Nat.le_of_ble_eq_true rfl) (by omega) rfl (by omega) (Nat.le_of_ble_eq_true rfl) (fun v h1 e => ?_)
    obtain ⟨rfl, L', x, rfl, h1, h2, h3, e1, e2, e3⟩ := e
    have hx : x = nI 0 := by
      rcases e1 with e | e
      · exact e
      · rw [e, gd_s (by omega), hsb]; rfl
    subst hx
    refine blk_go ob_175 (fun _ => false) 60 ?_
    (conv => whnf); refine br_f (fun e => hrb ((nI_eq (by omega) (by omega)).mp e)) ?_
    (conv => whnf); refine ⟨b, rfl, (by rw [List.length_set, List.length_set]; omega), (by rw [List.length_set, List.length_set]; omega), ?_⟩
    refine go_vret ((ob_175.1 48).trans rfl) rfl ⟨none, _, rfl, rfl, L', _, rfl, h1, by rw [List.length_set, List.length_set, List.length_set]; exact hS, h2, ?_, fun j hj => ?_, fun za zb => ?_⟩
    · rw [gd_n (fun e => hrb e.symm), gd_s (by rw [List.length_set]; omega)]
    · by_cases e : j = b
      · subst e; rw [gd_s (by rw [List.length_set, List.length_set]; omega)]
      · rw [gd_n (fun z => e z.symm), gd_n (fun z => hj z.symm), gd_n (fun z => e z.symm)]
    · intro i hi
      rw [h3 ⟨za, rfl, fun i hi => ⟨0, by decide, zb i hi⟩⟩ i hi]
      exact zb i hi
  · refine vM (idx := 53) (mj := 164) (q := 1) (n := 3) [.ref 0, .int (nI r)] ((ob_175.1 7).trans rfl) rfl rfl (Nat.le_of_ble_eq_true rfl) rfl rfl rfl rfl (c_zero hr hL hS) (Nat.le_of_ble_eq_true rfl) (by omega) rfl (by omega) (Nat.le_of_ble_eq_true rfl) (fun v h1 e => ?_)
    obtain ⟨rfl, L', rfl, h1, h2, h3⟩ := e
    exact go_vret ((ob_175.1 10).trans rfl) rfl ⟨none, _, rfl, rfl, L', _, rfl, h1, by rw [List.length_set]; exact hS, h3, gd_s (by omega), fun j hj => gd_n (fun z => hj z.symm), fun _ _ => h2⟩
end MDL
