/-! small whole numbers of the desk: the leaves, on two, four or six cells -/
def bH (u s : Int32) (l : List Int32) : xH := [.inl (0, [.ref 1, .int u, .int s]), .inr (.int, .inl l)]
def bH2 (u s : Int32) (l : List Int32) (u1 s1 : Int32) (l1 : List Int32) : xH := [.inl (0, [.ref 1, .int u, .int s]), .inr (.int, .inl l), .inl (0, [.ref 3, .int u1, .int s1]), .inr (.int, .inl l1)]
def bH3 (u s : Int32) (l : List Int32) (u1 s1 : Int32) (l1 : List Int32) (u2 s2 : Int32) (l2 : List Int32) : xH := [.inl (0, [.ref 1, .int u, .int s]), .inr (.int, .inl l), .inl (0, [.ref 3, .int u1, .int s1]), .inr (.int, .inl l1), .inl (0, [.ref 5, .int u2, .int s2]), .inr (.int, .inl l2)]
/-- 0, or of one limb, at most N -/
def Bv (N : Nat) (u s : Int32) (l : List Int32) : Prop := l.length = 6 ∧ ((u = 0 ∧ s = 0) ∨ ∃ n, 0 < n ∧ n ≤ N ∧ u = 1 ∧ (s = 1 ∨ s = -1) ∧ l.getD 0 0 = nI n)
/-- the same, its sign of no account where it is 0 -/
def Bt (N : Nat) (u s : Int32) (l : List Int32) : Prop := l.length = 6 ∧ (u = 0 ∨ ∃ n, 0 < n ∧ n ≤ N ∧ u = 1 ∧ (s = 1 ∨ s = -1) ∧ l.getD 0 0 = nI n)
theorem Bv.le {N M : Nat} {u s : Int32} {l : List Int32} (h : Bv N u s l) (hM : N ≤ M) : Bv M u s l := by
  obtain ⟨h1, h2⟩ := h
  refine ⟨h1, ?_⟩
  rcases h2 with h2 | ⟨n, a, b, c⟩
  · exact Or.inl h2
  · exact Or.inr ⟨n, a, by omega, c⟩
theorem len6 {l : List Int32} (h : l.length = 6) : ∃ a b c d e f, l = [a, b, c, d, e, f] := by
  rcases l with _ | ⟨a, _ | ⟨b, _ | ⟨c, _ | ⟨d, _ | ⟨e, _ | ⟨f, _ | ⟨g, t⟩⟩⟩⟩⟩⟩⟩ <;> first | exact ⟨_, _, _, _, _, _, rfl⟩ | (exfalso; simp only [List.length_cons, List.length_nil] at h <;> omega)
theorem len5 {l : List Int32} (h : l.length = 5) : ∃ b c d e f, l = [b, c, d, e, f] := by
  rcases l with _ | ⟨b, _ | ⟨c, _ | ⟨d, _ | ⟨e, _ | ⟨f, _ | ⟨g, t⟩⟩⟩⟩⟩⟩ <;> first | exact ⟨_, _, _, _, _, rfl⟩ | (exfalso; simp only [List.length_cons, List.length_nil] at h <;> omega)
theorem Bv.cs {N : Nat} {u s : Int32} {l : List Int32} (h : Bv N u s l) : ∃ a b c d e f, l = [a, b, c, d, e, f] ∧ ((u = 0 ∧ s = 0) ∨ ∃ n, 0 < n ∧ n ≤ N ∧ u = 1 ∧ (s = 1 ∨ s = -1) ∧ a = nI n) := by
  obtain ⟨h1, h2⟩ := h
  obtain ⟨a, b, c, d, e, f, rfl⟩ := len6 h1
  exact ⟨a, b, c, d, e, f, rfl, h2⟩
theorem Bt.cs {N : Nat} {u s : Int32} {l : List Int32} (h : Bt N u s l) : ∃ a b c d e f, l = [a, b, c, d, e, f] ∧ (u = 0 ∨ ∃ n, 0 < n ∧ n ≤ N ∧ u = 1 ∧ (s = 1 ∨ s = -1) ∧ a = nI n) := by
  obtain ⟨h1, h2⟩ := h
  obtain ⟨a, b, c, d, e, f, rfl⟩ := len6 h1
  exact ⟨a, b, c, d, e, f, rfl, h2⟩
theorem Bv.z {N : Nat} {u s : Int32} {l : List Int32} (h : l.length = 6) (hu : u = 0) (hs : s = 0) : Bv N u s l := ⟨h, Or.inl ⟨hu, hs⟩⟩
theorem Bv.n {N n : Nat} {u s a b c d e f : Int32} (h0 : 0 < n) (hn : n ≤ N) (hu : u = 1) (hs : s = 1 ∨ s = -1) (ha : a = nI n) : Bv N u s [a, b, c, d, e, f] := ⟨rfl, Or.inr ⟨n, h0, hn, hu, hs, ha⟩⟩
theorem Bv.neg {N : Nat} {u s : Int32} {l : List Int32} (h : Bv N u s l) : Bv N u (-s) l := by
  obtain ⟨h1, h2⟩ := h
  refine ⟨h1, ?_⟩
  rcases h2 with ⟨rfl, rfl⟩ | ⟨n, a, b, c, d, e⟩
  · exact Or.inl ⟨rfl, by decide⟩
  · refine Or.inr ⟨n, a, b, c, ?_, e⟩
    rcases d with rfl | rfl
    · exact Or.inr rfl
    · exact Or.inl (by decide)
theorem Bv.zero {N : Nat} {u s : Int32} {l : List Int32} (h : Bv N u s l) : Bv N 0 0 l := ⟨h.1, Or.inl ⟨rfl, rfl⟩⟩
set_option maxRecDepth 100000 in
set_option maxHeartbeats 4000000 in
theorem bg_clear {u s : Int32} {l : List Int32} : cR 22 0 0 [.ref 0] (bH u s l) (fun v h => v = none ∧ h = bH 0 0 l) := by
  intro fb lb _ _
  refine blk_go ob_22 (fun _ => false) 30 ?_
  exact go_vret ((ob_22.1 10).trans rfl) rfl ⟨_, _, rfl, rfl, rfl⟩
set_option maxRecDepth 100000 in
set_option maxHeartbeats 4000000 in
theorem bg_flip {u s : Int32} {l : List Int32} : cR 38 0 0 [.ref 0] (bH u s l) (fun v h => v = none ∧ h = bH u (-s) l) := by
  intro fb lb _ _
  refine blk_go ob_38 (fun _ => false) 30 ?_
  exact go_vret ((ob_38.1 9).trans rfl) rfl ⟨_, _, rfl, rfl, rfl⟩
set_option maxRecDepth 100000 in
set_option maxHeartbeats 4000000 in
theorem bg_isOne {u s : Int32} {l : List Int32} (hl : l.length = 6) : cR 23 0 0 [.ref 0] (bH u s l) (fun v h => h = bH u s l ∧ ∃ b, v = some (.int b) ∧ (b = nI 0 ∨ b = nI 1)) := by
  intro fb lb _ _
  refine blk_go ob_23 (fun _ => false) 30 ?_
  (conv => whnf); refine ⟨fun h1 => ?_, fun h1 => ?_⟩
  · exact go_iret ((ob_23.1 30).trans rfl) rfl rfl ⟨_, _, rfl, rfl, _, rfl, Or.inl rfl⟩
  · (conv => whnf); refine ⟨fun h2 => ?_, fun h2 => ?_⟩
    · exact go_iret ((ob_23.1 30).trans rfl) rfl rfl ⟨_, _, rfl, rfl, _, rfl, Or.inl rfl⟩
    · (conv => whnf); refine ⟨0, rfl, by omega, by omega, ?_⟩
      (conv => whnf); refine ⟨fun h3 => ?_, fun h3 => ?_⟩
      · exact go_iret ((ob_23.1 30).trans rfl) rfl rfl ⟨_, _, rfl, rfl, _, rfl, Or.inl rfl⟩
      · exact go_iret ((ob_23.1 30).trans rfl) rfl rfl ⟨_, _, rfl, rfl, _, rfl, Or.inr rfl⟩
theorem lN_30 {n : Nat} (h : n < 2 ^ 30) : ((lN n).toUInt64 >>> ((nI 30).toInt64.toUInt64 &&& Int64.toUInt64 63)).toInt64 = lN 0 := by
  have e : (lN n).toUInt64 >>> ((nI 30).toInt64.toUInt64 &&& Int64.toUInt64 63) = 0 := by
    apply UInt64.toNat_inj.mp
    rw [show (nI 30).toInt64.toUInt64 &&& Int64.toUInt64 63 = 30 by decide, UInt64.toNat_shiftRight]
    rw [show (lN n).toUInt64.toNat = n by
      show (BitVec.ofNat 64 n).toNat = n
      rw [BitVec.toNat_ofNat]
      omega]
    rw [Nat.shiftRight_eq_div_pow]
    exact Nat.div_eq_of_lt (show n < 2 ^ 30 from h)
  rw [e]
  rfl
theorem lN_and {n : Nat} (h : n < 2 ^ 30) : lN n &&& (1073741823 : Int64) = lN n := by
  apply Int64.toBitVec.inj
  rw [Int64.toBitVec_and]
  apply BitVec.eq_of_toNat_eq
  rw [BitVec.toNat_and]
  show (BitVec.ofNat 64 n).toNat &&& (2 ^ 30 - 1) = (BitVec.ofNat 64 n).toNat
  rw [Nat.and_two_pow_sub_one_eq_mod, BitVec.toNat_ofNat]
  omega
set_option maxRecDepth 100000 in
set_option maxHeartbeats 4000000 in
theorem bg_aL0 {u s : Int32} {l : List Int32} : cR 4 0 0 [.ref 0, .long (lN 0)] (bH u s l) (fun v h => v = none ∧ h = bH 0 0 l) := by
  intro fb lb _ _
  refine blk_go ob_4 (fun _ => false) 60 ?_
  (conv => whnf); refine br_t (show lg_cmp (lN 0) (lN 0) ≤ 0 by decide) ?_
  (conv => whnf); refine br_t (show 0 ≤ lg_cmp (lN 0) (lN 0) by decide) ?_
  (conv => whnf); refine br_t (show 0 ≤ lg_cmp (lN 0) (lN 0) by decide) ?_
  (conv => whnf); refine br_f (show ¬ nI 3 ≤ nI 0 by decide) ?_
  (conv => whnf); refine br_t (show lg_cmp (lN 0) (lN 0) = 0 by decide) ?_
  exact go_vret ((ob_4.1 92).trans rfl) rfl ⟨_, _, rfl, rfl, rfl⟩
set_option maxRecDepth 100000 in
set_option maxHeartbeats 4000000 in
theorem bg_aLP {n : Nat} {u s : Int32} {l : List Int32} (h0 : 0 < n) (hn : n < 2 ^ 30) (hl : l.length = 6) : cR 4 0 0 [.ref 0, .long (lN n)] (bH u s l) (fun v h => v = none ∧ h = bH 1 1 (l.set 0 (nI n))) := by
  intro fb lb _ _
  have hn63 : n < 2 ^ 63 := by omega
  have hne : lN n ≠ lN 0 := fun z => absurd ((lN_np hn63).mp (by rw [z]; decide)) (by omega)
  refine blk_go ob_4 (fun _ => false) 60 ?_
  (conv => whnf); refine br_f (fun z => absurd ((lN_np hn63).mp ((lg_cmp_le _ _).mp z)) (by omega)) ?_
  (conv => whnf); refine br_t ((lg_cmp_ge _ _).mpr (lN_nn hn63)) ?_
  (conv => whnf); refine br_f (show ¬ nI 3 ≤ nI 0 by decide) ?_
  (conv => whnf); refine br_f (fun z => hne ((lg_cmp_eq _ _).mp z)) ?_
  (conv => whnf); refine ⟨0, rfl, by omega, by omega, ?_⟩
  (conv => whnf); refine br_f (show ¬ nI 3 ≤ nI 0 + Int32.ofInt 1 by decide) ?_
  (conv => whnf); refine br_t ((lg_cmp_eq _ _).mpr (lN_30 hn)) ?_
  refine go_vret ((ob_4.1 92).trans rfl) rfl ⟨_, _, rfl, rfl, ?_⟩
  show bH 1 1 (l.set 0 (lN n &&& (1073741823 : Int64)).toInt32) = _
  rw [lN_and hn, lN_i]
set_option maxRecDepth 100000 in
set_option maxHeartbeats 4000000 in
theorem bg_aLN {n : Nat} {u s : Int32} {l : List Int32} (h0 : 0 < n) (hn : n < 2 ^ 30) (hl : l.length = 6) : cR 4 0 0 [.ref 0, .long (-lN n)] (bH u s l) (fun v h => v = none ∧ h = bH 1 (-1) (l.set 0 (nI n))) := by
  intro fb lb _ _
  have hn63 : n < 2 ^ 63 := by omega
  have hneg : ¬ 0 ≤ lg_cmp (-lN n) (lN 0) := fun z => absurd ((lg_cmp_ge _ _).mp z) (by rw [Int64.not_le]; exact lN_neg (by omega) h0)
  have hne : - -lN n ≠ lN 0 := fun z => absurd ((lN_np hn63).mp (by rw [Int64.neg_neg] at z; rw [z]; decide)) (by omega)
  refine blk_go ob_4 (fun _ => false) 60 ?_
  (conv => whnf); refine br_t ((lg_cmp_le _ _).mpr (Int64.le_of_lt (lN_neg (by omega) h0))) ?_
  (conv => whnf); refine br_f (hneg) ?_
  (conv => whnf); refine br_f (hneg) ?_
  (conv => whnf); refine br_f (show ¬ nI 3 ≤ nI 0 by decide) ?_
  (conv => whnf); refine br_f (fun z => hne ((lg_cmp_eq _ _).mp z)) ?_
  (conv => whnf); refine ⟨0, rfl, by omega, by omega, ?_⟩
  (conv => whnf); refine br_f (show ¬ nI 3 ≤ nI 0 + Int32.ofInt 1 by decide) ?_
  (conv => whnf); refine br_t ((lg_cmp_eq _ _).mpr (by rw [Int64.neg_neg]; exact lN_30 hn)) ?_
  refine go_vret ((ob_4.1 92).trans rfl) rfl ⟨_, _, rfl, rfl, ?_⟩
  show bH 1 (-1) (l.set 0 (- -lN n &&& (1073741823 : Int64)).toInt32) = _
  rw [Int64.neg_neg, lN_and hn, lN_i]
set_option maxRecDepth 100000 in
set_option maxHeartbeats 4000000 in
theorem bg_aL {n N : Nat} {u s : Int32} {l : List Int32} {v : Int64} (hn : n ≤ N) (hN : N < 2 ^ 30) (hl : l.length = 6) (hv : v = lN n ∨ v = -lN n) : cR 4 0 0 [.ref 0, .long v] (bH u s l) (fun v h => v = none ∧ ∃ u' s' l', h = bH u' s' l' ∧ Bv N u' s' l') := by
  by_cases h0 : n = 0
  · subst h0
    have hv : v = lN 0 := by
      rcases hv with rfl | rfl
      · rfl
      · decide
    subst hv
    refine cR.weak bg_aL0 (fun v h e => ⟨e.1, _, _, _, e.2, Bv.z hl rfl rfl⟩)
  · obtain ⟨a, b, c, d, e, f, rfl⟩ := len6 hl
    rcases hv with rfl | rfl
    · exact cR.weak (bg_aLP (by omega) (by omega) hl) (fun v h e => ⟨e.1, _, _, _, e.2, Bv.n (n := n) (by omega) hn rfl (Or.inl rfl) rfl⟩)
    · exact cR.weak (bg_aLN (by omega) (by omega) hl) (fun v h e => ⟨e.1, _, _, _, e.2, Bv.n (n := n) (by omega) hn rfl (Or.inr rfl) rfl⟩)
set_option maxRecDepth 100000 in
set_option maxHeartbeats 4000000 in
theorem bg_assign {N : Nat} {u s u1 s1 : Int32} {l l1 : List Int32} (hl : l.length = 6) (h1 : Bv N u1 s1 l1) : cR 19 0 0 [.ref 0, .ref 2] (bH2 u s l u1 s1 l1) (fun v h => v = none ∧ ∃ l', h = bH2 u1 s1 l' u1 s1 l1 ∧ Bv N u1 s1 l') := by
  intro fb lb _ _
  obtain ⟨a, b, c, d, e, f, rfl⟩ := len6 hl
  obtain ⟨a1, b1, c1, d1, e1, f1, rfl, hc⟩ := h1.cs
  rcases hc with ⟨rfl, rfl⟩ | ⟨n, n0, n1, rfl, hs, rfl⟩
  · refine blk_go ob_19 (fun _ => false) 60 ?_
    (conv => whnf); refine br_f (show ¬ (2 : Nat) = 0 by decide) ?_
    (conv => whnf); refine br_t (show (0 : Int32) ≤ Int32.ofNat 6 by decide) ?_
    (conv => whnf); refine br_t (show (0 : Int32) ≤ nI 0 by decide) ?_
    exact go_vret ((ob_19.1 79).trans rfl) rfl ⟨_, _, rfl, rfl, _, rfl, Bv.z rfl rfl rfl⟩
  · refine blk_go ob_19 (fun _ => false) 60 ?_
    (conv => whnf); refine br_f (show ¬ (2 : Nat) = 0 by decide) ?_
    (conv => whnf); refine br_t (show (1 : Int32) ≤ Int32.ofNat 6 by decide) ?_
    (conv => whnf); refine br_f (show ¬ (1 : Int32) ≤ nI 0 by decide) ?_
    (conv => whnf); refine ⟨0, rfl, show 0 < 6 by decide, show 6 < 2 ^ 31 by decide, ?_⟩
    (conv => whnf); refine ⟨0, rfl, show 0 < 6 by decide, show 6 < 2 ^ 31 by decide, ?_⟩
    (conv => whnf); refine br_t (show (1 : Int32) ≤ nI 0 + Int32.ofInt 1 by decide) ?_
    exact go_vret ((ob_19.1 79).trans rfl) rfl ⟨_, _, rfl, rfl, _, rfl, Bv.n n0 n1 rfl hs rfl⟩
theorem dv_1 {n : Nat} (hn : n < 2 ^ 30) : lN 0 <<< ((nI 30).toInt64 &&& 63) ||| (nI n).toInt64 = lN n := by
  rw [show lN 0 <<< ((nI 30).toInt64 &&& 63) = 0 by decide, nI_l (by omega)]
  exact Int64.zero_or
theorem dv_2 {n d : Nat} (hn : n < 2 ^ 30) (h0 : 0 < d) (hd : d < 2 ^ 30) : ((lN 0 <<< ((nI 30).toInt64 &&& 63) ||| (nI n).toInt64) / (nI d).toInt64).toInt32 = nI (n / d) := by
  rw [dv_1 hn, nI_l (by omega), pk_lDiv (by omega) h0 (by omega), lN_i]
theorem dv_3 {n d : Nat} (hn : n < 2 ^ 30) (h0 : 0 < d) (hd : d < 2 ^ 30) : ((lN 0 <<< ((nI 30).toInt64 &&& 63) ||| (nI n).toInt64) - (lN 0 <<< ((nI 30).toInt64 &&& 63) ||| (nI n).toInt64) / (nI d).toInt64 * (nI d).toInt64).toInt32 = nI (n % d) := by
  rw [dv_1 hn, nI_l (by omega), pk_lRem (by omega) h0 (by omega), lN_i]
theorem dv_0 {d : Nat} (h0 : 0 < d) (hd : d < 2 ^ 30) : ¬ (nI d).toInt64 = 0 := by
  rw [nI_l (by omega)]
  intro z
  exact absurd ((lN_np (n := d) (by omega)).mp (by rw [z]; decide)) (by omega)
set_option maxRecDepth 100000 in
set_option maxHeartbeats 4000000 in
theorem bg_div {N d : Nat} {u s : Int32} {l : List Int32} (hN : N < 2 ^ 30) (d0 : 0 < d) (dN : d ≤ N) (h1 : Bv N u s l) : cR 26 0 0 [.ref 0, .int (nI d)] (bH u s l) (fun v h => ∃ r u' s' l', v = some (.int (nI r)) ∧ r ≤ N ∧ h = bH u' s' l' ∧ Bv N u' s' l') := by
  intro fb lb _ _
  obtain ⟨a1, b1, c1, d1, e1, f1, rfl, hc⟩ := h1.cs
  rcases hc with ⟨rfl, rfl⟩ | ⟨n, n0, n1, rfl, hs, rfl⟩
  · refine blk_go ob_26 (fun _ => false) 60 ?_
    (conv => whnf); refine br_t (show ¬ nI d = 0 from nI_ne0 d0 (by omega)) ?_
    (conv => whnf); refine br_t (show (0 : Int32) - nI 1 < 0 by decide) ?_
    (conv => whnf); refine br_t (show (0 : Int32) ≤ 0 by decide) ?_
    (conv => whnf); refine br_f (show ¬ ¬ (0 : Int32) = 0 by decide) ?_
    exact go_iret ((ob_26.1 110).trans rfl) rfl (vp_nar_int _) ⟨_, _, rfl, 0, _, _, _, congrArg (fun z => some (Value.int z)) (lN_i 0), Nat.zero_le _, rfl, Bv.z rfl rfl rfl⟩
  · refine blk_go ob_26 (fun _ => false) 90 ?_
    (conv => whnf); refine br_t (show ¬ nI d = 0 from nI_ne0 d0 (by omega)) ?_
    (conv => whnf); refine br_f (show ¬ (1 : Int32) - nI 1 < 0 by decide) ?_
    (conv => whnf); refine ⟨0, show (1 : Int32) - nI 1 = nI 0 by decide, show 0 < 6 by decide, show 6 < 2 ^ 31 by decide, ?_⟩
    (conv => whnf); refine ⟨dv_0 d0 (by omega), ?_⟩
    (conv => whnf); refine ⟨0, show (1 : Int32) - nI 1 = nI 0 by decide, show 0 < 6 by decide, show 6 < 2 ^ 31 by decide, ?_⟩
    (conv => whnf); refine ⟨dv_0 d0 (by omega), ?_⟩
    (conv => whnf); refine br_t (show (1 : Int32) - nI 1 + Int32.ofInt (-1) < 0 by decide) ?_
    (conv => whnf); refine br_f (show ¬ (1 : Int32) ≤ 0 by decide) ?_
    (conv => whnf); refine ⟨0, show (1 : Int32) - nI 1 = nI 0 by decide, show 0 < 6 by decide, show 6 < 2 ^ 31 by decide, ?_⟩
    have hq := dv_2 (n := n) (d := d) (by omega) d0 (by omega)
    have hr := dv_3 (n := n) (d := d) (by omega) d0 (by omega)
    have hlt : n / d ≤ n := Nat.div_le_self _ _
    (conv => whnf); refine ⟨fun h => ?_, fun h => ?_⟩
    · (conv => whnf); refine br_t (show ¬ (1 : Int32) = 0 by decide) ?_
      refine go_iret ((ob_26.1 110).trans rfl) rfl (vp_nar_int _) ⟨_, _, rfl, n % d, _, _, _, congrArg (fun z => some (Value.int z)) hr, Nat.le_trans (Nat.mod_le _ _) n1, rfl, Bv.n (n := n / d) ?_ (by omega) rfl hs hq⟩
      have h : ¬ ((lN 0 <<< ((nI 30).toInt64 &&& 63) ||| (nI n).toInt64) / (nI d).toInt64).toInt32 = 0 := h
      rw [hq] at h
      exact Nat.pos_of_ne_zero (fun z => h (by rw [z]; rfl))
    · (conv => whnf); refine br_f (show ¬ ¬ (1 : Int32) - nI 1 = 0 by decide) ?_
      exact go_iret ((ob_26.1 110).trans rfl) rfl (vp_nar_int _) ⟨_, _, rfl, n % d, _, _, _, congrArg (fun z => some (Value.int z)) hr, Nat.le_trans (Nat.mod_le _ _) n1, rfl, Bv.z rfl (by decide) rfl⟩
set_option maxRecDepth 100000 in
set_option maxHeartbeats 4000000 in
theorem bg_trim {N : Nat} {u s : Int32} {l : List Int32} (hN : N < 2 ^ 30) (h1 : Bt N u s l) : cR 32 0 0 [.ref 0] (bH u s l) (fun v h => v = none ∧ ∃ s', h = bH u s' l ∧ Bv N u s' l) := by
  intro fb lb _ _
  obtain ⟨a1, b1, c1, d1, e1, f1, rfl, hc⟩ := h1.cs
  rcases hc with rfl | ⟨n, n0, n1, rfl, hs, rfl⟩
  · refine blk_go ob_32 (fun _ => false) 60 ?_
    (conv => whnf); refine br_t (show (0 : Int32) ≤ 0 by decide) ?_
    (conv => whnf); refine br_f (show ¬ ¬ (0 : Int32) = 0 by decide) ?_
    exact go_vret ((ob_32.1 46).trans rfl) rfl ⟨_, _, rfl, rfl, _, rfl, Bv.z rfl rfl rfl⟩
  · refine blk_go ob_32 (fun _ => false) 60 ?_
    (conv => whnf); refine br_f (show ¬ (1 : Int32) ≤ 0 by decide) ?_
    (conv => whnf); refine ⟨0, show (1 : Int32) - nI 1 = nI 0 by decide, show 0 < 6 by decide, show 6 < 2 ^ 31 by decide, ?_⟩
    (conv => whnf); refine br_t (show ¬ nI n = 0 from nI_ne0 n0 (by omega)) ?_
    (conv => whnf); refine br_t (show ¬ (1 : Int32) = 0 by decide) ?_
    exact go_vret ((ob_32.1 46).trans rfl) rfl ⟨_, _, rfl, rfl, _, rfl, Bv.n n0 n1 rfl hs rfl⟩
set_option maxRecDepth 100000 in
set_option maxHeartbeats 4000000 in
theorem bg_small {N : Nat} {u s : Int32} {l : List Int32} (hN : N < 2 ^ 30) (h1 : Bv N u s l) : cR 33 0 0 [.ref 0] (bH u s l) (fun v h => h = bH u s l ∧ ∃ n, n ≤ N ∧ v = some (.long (lN n))) := by
  intro fb lb _ _
  obtain ⟨a1, b1, c1, d1, e1, f1, rfl, hc⟩ := h1.cs
  rcases hc with ⟨rfl, rfl⟩ | ⟨n, n0, n1, rfl, hs, rfl⟩
  · refine blk_go ob_33 (fun _ => false) 60 ?_
    (conv => whnf); refine br_t (show (0 : Int32) ≤ 0 by decide) ?_
    (conv => whnf); refine br_t (show (0 : Int32) ≤ nI 1 by decide) ?_
    exact go_lret ((ob_33.1 43).trans rfl) rfl ⟨_, _, rfl, rfl, 0, Nat.zero_le _, rfl⟩
  · refine blk_go ob_33 (fun _ => false) 60 ?_
    (conv => whnf); refine br_f (show ¬ (1 : Int32) ≤ 0 by decide) ?_
    (conv => whnf); refine ⟨0, rfl, show 0 < 6 by decide, show 6 < 2 ^ 31 by decide, ?_⟩
    (conv => whnf); refine br_t (show (1 : Int32) ≤ nI 1 by decide) ?_
    exact go_lret ((ob_33.1 43).trans rfl) rfl ⟨_, _, rfl, rfl, n, n1, congrArg (fun z => some (Value.long z)) (nI_l (n := n) (by omega))⟩
set_option maxRecDepth 100000 in
set_option maxHeartbeats 4000000 in
theorem low_loop {fb lb c s n : Nat} {sg b1 c1 d1 e1 f1 : Int32} {Q : yR → Prop} (hq : ∀ k : Nat, k ≤ 30 → Q (.inl (some (.int (nI 0 * nI 30 + nI k))), bH 1 sg [nI n, b1, c1, d1, e1, f1], c, s)) :
    ∀ (j k : Nat), k + j = 30 → gX fb lb 70 37 [(2, .int (nI k)), (1, .int (nI 0)), (0, .ref 0)] [] (bH 1 sg [nI n, b1, c1, d1, e1, f1]) c s Q := by
  intro j
  induction j with
  | zero =>
    intro k hk
    have hk : k = 30 := by omega
    subst hk
    refine blk_go ob_70 (fun pc => Nat.beq pc 37) 30 ?_
    (conv => whnf); refine br_t (show nI 30 ≤ nI 30 by decide) ?_
    exact go_iret ((ob_70.1 68).trans rfl) rfl (vp_nar_int _) (hq 30 (by omega))
  | succ j ih =>
    intro k hk
    refine blk_go ob_70 (fun pc => Nat.beq pc 37) 30 ?_
    (conv => whnf); refine br_f (nI_ge (a := k) (b := 30) (by omega) (by omega)) ?_
    (conv => whnf); refine ⟨0, rfl, show 0 < 6 by decide, show 6 < 2 ^ 31 by decide, ?_⟩
    (conv => whnf); refine ⟨fun h => ?_, fun h => ?_⟩
    · exact go_iret ((ob_70.1 68).trans rfl) rfl (vp_nar_int _) (hq k (by omega))
    · show gX fb lb 70 37 [(2, .int (nI k + Int32.ofInt 1)), (1, .int (nI 0)), (0, .ref 0)] [] (bH 1 sg [nI n, b1, c1, d1, e1, f1]) c s Q
      rw [n_inc]
      exact ih (k + 1) (by omega)
set_option maxRecDepth 100000 in
set_option maxHeartbeats 4000000 in
theorem bg_low {N : Nat} {u s : Int32} {l : List Int32} (hN : N < 2 ^ 30) (h1 : Bv N u s l) : cR 70 0 0 [.ref 0] (bH u s l) (fun v h => h = bH u s l ∧ ∃ k, k ≤ 30 ∧ v = some (.int (nI k))) := by
  intro fb lb _ _
  obtain ⟨a1, b1, c1, d1, e1, f1, rfl, hc⟩ := h1.cs
  rcases hc with ⟨rfl, rfl⟩ | ⟨n, n0, n1, rfl, hs, rfl⟩
  · refine blk_go ob_70 (fun _ => false) 60 ?_
    (conv => whnf); refine br_t (show (0 : Int32) ≤ nI 0 by decide) ?_
    (conv => whnf); refine br_f (show ¬ nI 0 < (0 : Int32) by decide) ?_
    exact go_iret ((ob_70.1 34).trans rfl) rfl rfl ⟨_, _, rfl, rfl, 0, by omega, rfl⟩
  · refine blk_go ob_70 (fun pc => Nat.beq pc 37) 60 ?_
    (conv => whnf); refine br_f (show ¬ (1 : Int32) ≤ nI 0 by decide) ?_
    (conv => whnf); refine ⟨0, rfl, show 0 < 6 by decide, show 6 < 2 ^ 31 by decide, ?_⟩
    (conv => whnf); refine br_t (show ¬ nI n = 0 from nI_ne0 n0 (by omega)) ?_
    (conv => whnf); refine br_t (show nI 0 < (1 : Int32) by decide) ?_
    refine low_loop (fun k hk => ⟨_, _, rfl, rfl, k, hk, ?_⟩) 30 0 (by omega)
    rw [pk_mul, nI_add, Nat.zero_mul, Nat.zero_add]
set_option maxRecDepth 100000 in
set_option maxHeartbeats 4000000 in
theorem bg_down {u s : Int32} {l : List Int32} : cR 71 0 0 [.ref 0, .int (nI 0)] (bH u s l) (fun v h => v = none ∧ h = bH u s l) := by
  intro fb lb _ _
  refine blk_go ob_71 (fun _ => false) 30 ?_
  (conv => whnf); refine ⟨fun h => ?_, fun h => ?_⟩
  · exact go_vret ((ob_71.1 11).trans rfl) rfl ⟨_, _, rfl, rfl, rfl⟩
  · (conv => whnf); refine br_f (show ¬ 0 < nI 0 by decide) ?_
    exact go_vret ((ob_71.1 11).trans rfl) rfl ⟨_, _, rfl, rfl, rfl⟩
set_option maxRecDepth 100000 in
set_option maxHeartbeats 4000000 in
theorem bg_up {u s : Int32} {l : List Int32} : cR 61 0 0 [.ref 0, .int (nI 0)] (bH u s l) (fun v h => v = none ∧ h = bH u s l) := by
  intro fb lb _ _
  refine blk_go ob_61 (fun _ => false) 30 ?_
  (conv => whnf); refine ⟨fun h => ?_, fun h => ?_⟩
  · exact go_vret ((ob_61.1 11).trans rfl) rfl ⟨_, _, rfl, rfl, rfl⟩
  · (conv => whnf); refine br_f (show ¬ 0 < nI 0 by decide) ?_
    exact go_vret ((ob_61.1 11).trans rfl) rfl ⟨_, _, rfl, rfl, rfl⟩
set_option maxRecDepth 100000 in
set_option maxHeartbeats 4000000 in
theorem bg_power {N : Nat} {u s : Int32} {l : List Int32} (h1 : 1 ≤ N) (hN : N < 2 ^ 30) (hl : l.length = 6) : cR 73 1 30 [.ref 0, .int (nI 0)] (bH u s l) (fun v h => v = none ∧ ∃ u' s' l', h = bH u' s' l' ∧ Bv N u' s' l') := by
  intro fb lb _ _
  refine blk_go ob_73 (fun _ => false) 30 ?_
  refine vB (idx := 22) (mj := 4) (q := 1) (n := 6) [.ref 0, .long (lN 1)] ((ob_73.1 2).trans rfl) rfl rfl (Nat.le_of_ble_eq_true rfl) rfl (rfl) rfl rfl (bg_aL (n := 1) h1 hN hl (Or.inl rfl)) (Nat.le_of_ble_eq_true rfl) (by omega) rfl (by omega) (Nat.le_of_ble_eq_true rfl) (fun v h1 e => ?_)
  obtain ⟨rfl, u', s', l', rfl, hB⟩ := e
  refine blk_go ob_73 (fun _ => false) 30 ?_
  refine vB (idx := 26) (mj := 61) (q := 1) (n := 8) [.ref 0, .int (nI 0)] ((ob_73.1 7).trans rfl) rfl rfl (Nat.le_of_ble_eq_true rfl) rfl (rfl) rfl rfl (bg_up) (Nat.le_of_ble_eq_true rfl) (by omega) rfl (by omega) (Nat.le_of_ble_eq_true rfl) (fun v h1 e => ?_)
  obtain ⟨rfl, rfl⟩ := e
  refine blk_go ob_73 (fun _ => false) 30 ?_
  exact go_vret ((ob_73.1 10).trans rfl) rfl ⟨_, _, rfl, rfl, _, _, _, rfl, hB⟩
theorem ad_and {n m : Nat} (h : n + m < 2 ^ 30) : (nI n + nI 0 + nI m) &&& 1073741823 = nI (n + m) := by
  rw [nI_add, nI_add, pk_andN (by omega) 30 (by decide), Nat.mod_eq_of_lt (by omega)]
  rfl
theorem ad_shr {n m : Nat} (h : n + m < 2 ^ 30) : ((nI n + nI 0 + nI m).toUInt32 >>> ((nI 30).toUInt32 &&& Int32.toUInt32 31)).toInt32 = nI 0 := by
  rw [nI_add, nI_add, pk_ushrN (by omega) _ 30 (by decide), Nat.div_eq_of_lt (by omega)]
theorem tk_p {n m : Nat} (h : m ≤ n) : nI n - nI m - nI 0 = nI (n - m) := by
  rw [pk_sub h, pk_sub (Nat.zero_le _)]
  rfl
theorem tk_n {n m : Nat} (h : n < m) (hm : m < 2 ^ 30) : nI n - nI m - nI 0 = nI (2 ^ 32 - (m - n)) := by
  have e : nI (2 ^ 32 - (m - n)) + nI m = nI n := by
    rw [nI_add, show 2 ^ 32 - (m - n) + m = 2 ^ 32 + n by omega, ← nI_add, show nI (2 ^ 32) = 0 by decide, Int32.zero_add]
  rw [← e, Int32.add_sub_cancel, show nI 0 = 0 from rfl, Int32.sub_zero]
theorem tk_p1 {n m : Nat} (h : m ≤ n) (hn : n < 2 ^ 30) : ((nI n - nI m - nI 0).toUInt32 >>> ((nI 31).toUInt32 &&& Int32.toUInt32 31)).toInt32 = nI 0 := by
  rw [tk_p h, pk_ushrN (by omega) _ 31 (by decide), Nat.div_eq_of_lt (by omega)]
theorem tk_p2 {n m : Nat} (h : m ≤ n) (hn : n < 2 ^ 30) : (nI n - nI m - nI 0) &&& 1073741823 = nI (n - m) := by
  rw [tk_p h, pk_andN (by omega) 30 (by decide), Nat.mod_eq_of_lt (by omega)]
theorem tk_n1 {n m : Nat} (h : n < m) (hm : m < 2 ^ 30) : ((nI n - nI m - nI 0).toUInt32 >>> ((nI 31).toUInt32 &&& Int32.toUInt32 31)).toInt32 = nI 1 := by
  rw [tk_n h hm, pk_ushrN (by omega) _ 31 (by decide)]
  congr 1
  omega
theorem tk_n2 {n m : Nat} (h : n < m) (hm : m < 2 ^ 30) : (nI n - nI m - nI 0) &&& 1073741823 = nI (2 ^ 30 - (m - n)) := by
  rw [tk_n h hm, pk_andN (by omega) 30 (by decide)]
  congr 1
  omega
theorem tk_n3 {n m : Nat} (h : n < m) (hm : m < 2 ^ 30) : (1073741823 - ((nI n - nI m - nI 0) &&& 1073741823) + ((nI n - nI m - nI 0).toUInt32 >>> ((nI 31).toUInt32 &&& Int32.toUInt32 31)).toInt32) &&& 1073741823 = nI (m - n) := by
  rw [tk_n2 h hm, tk_n1 h hm, show (1073741823 : Int32) - nI (2 ^ 30 - (m - n)) = nI (1073741823 - (2 ^ 30 - (m - n))) from pk_sub (a := 1073741823) (by omega), nI_add, pk_andN (by omega) 30 (by decide)]
  congr 1
  omega
set_option maxRecDepth 100000 in
set_option maxHeartbeats 4000000 in
theorem bg_add4 {N : Nat} {ua sa ub sb sg : Int32} {xa xb : List Int32} (hN : 2 * N < 2 ^ 30) (ha : Bv N ua sa xa) (hb : Bv N ub sb xb) : cR 52 0 0 [.ref 0, .ref 0, .ref 2, .int sg] (bH2 ua sa xa ub sb xb) (fun v h => v = none ∧ ∃ u' l', h = bH2 u' sg l' ub sb xb ∧ l'.length = 6 ∧ ((u' = 0 ∧ ua = 0 ∧ ub = 0) ∨ (u' = 1 ∧ (ua = 1 ∨ ub = 1) ∧ ∃ k, 0 < k ∧ k ≤ 2 * N ∧ l'.getD 0 0 = nI k))) := by
  intro fb lb _ _
  obtain ⟨a1, b1, c1, d1, e1, f1, rfl, hca⟩ := ha.cs
  obtain ⟨a2, b2, c2, d2, e2, f2, rfl, hcb⟩ := hb.cs
  rcases hca with ⟨rfl, rfl⟩ | ⟨n, n0, n1, rfl, hs1, rfl⟩
  · rcases hcb with ⟨rfl, rfl⟩ | ⟨m, m0, m1, rfl, hs2, rfl⟩
    · refine blk_go ob_52 (fun _ => false) 130 ?_
      (conv => whnf); refine br_f (show ¬ (0 : Int32) < 0 by decide) ?_
      (conv => whnf); refine br_f (show ¬ (0 : Int32) < 0 by decide) ?_
      (conv => whnf); refine br_f (show ¬ (0 : Int32) < 0 by decide) ?_
      (conv => whnf); refine br_f (show ¬ (0 : Int32) < 0 by decide) ?_
      (conv => whnf); refine br_t (show (0 : Int32) < Int32.ofNat 6 by decide) ?_
      (conv => whnf); refine br_t (show (0 : Int32) ≤ nI 0 by decide) ?_
      (conv => whnf); refine ⟨0, show (0 : Int32) = nI 0 from rfl, show 0 < 6 by decide, show 6 < 2 ^ 31 by decide, ?_⟩
      exact go_vret ((ob_52.1 209).trans rfl) rfl ⟨_, _, rfl, rfl, _, _, rfl, rfl, Or.inl ⟨by decide, rfl, rfl⟩⟩
    · refine blk_go ob_52 (fun _ => false) 130 ?_
      (conv => whnf); refine br_t (show (0 : Int32) < 1 by decide) ?_
      (conv => whnf); refine br_t (show (0 : Int32) < 1 by decide) ?_
      (conv => whnf); refine br_t (show (0 : Int32) < 1 by decide) ?_
      (conv => whnf); refine br_t (show (0 : Int32) < 1 by decide) ?_
      (conv => whnf); refine br_t (show (1 : Int32) < Int32.ofNat 6 by decide) ?_
      (conv => whnf); refine br_f (show ¬ (1 : Int32) ≤ nI 0 by decide) ?_
      (conv => whnf); refine ⟨0, rfl, show 0 < 6 by decide, show 6 < 2 ^ 31 by decide, ?_⟩
      (conv => whnf); refine br_t (show (0 : Int32) ≤ nI 0 by decide) ?_
      (conv => whnf); refine ⟨0, rfl, show 0 < 6 by decide, show 6 < 2 ^ 31 by decide, ?_⟩
      (conv => whnf); refine br_t (show (1 : Int32) ≤ nI 0 + Int32.ofInt 1 by decide) ?_
      (conv => whnf); refine ⟨1, show (1 : Int32) = nI 1 from rfl, show 1 < 6 by decide, show 6 < 2 ^ 31 by decide, ?_⟩
      have hx := ad_and (n := m) (m := 0) (by omega)
      have hy := ad_shr (n := m) (m := 0) (by omega)
      exact go_vret ((ob_52.1 209).trans rfl) rfl ⟨_, _, rfl, rfl, _, _, rfl, rfl, Or.inr ⟨(congrArg (fun z => (1 : Int32) + z) hy).trans (by decide), by decide, m + 0, by omega, by omega, hx⟩⟩
  · rcases hcb with ⟨rfl, rfl⟩ | ⟨m, m0, m1, rfl, hs2, rfl⟩
    · refine blk_go ob_52 (fun _ => false) 130 ?_
      (conv => whnf); refine br_f (show ¬ (1 : Int32) < 0 by decide) ?_
      (conv => whnf); refine br_f (show ¬ (1 : Int32) < 0 by decide) ?_
      (conv => whnf); refine br_f (show ¬ (1 : Int32) < 0 by decide) ?_
      (conv => whnf); refine br_f (show ¬ (1 : Int32) < 0 by decide) ?_
      (conv => whnf); refine br_t (show (1 : Int32) < Int32.ofNat 6 by decide) ?_
      (conv => whnf); refine br_f (show ¬ (1 : Int32) ≤ nI 0 by decide) ?_
      (conv => whnf); refine ⟨0, rfl, show 0 < 6 by decide, show 6 < 2 ^ 31 by decide, ?_⟩
      (conv => whnf); refine br_t (show (0 : Int32) ≤ nI 0 by decide) ?_
      (conv => whnf); refine ⟨0, rfl, show 0 < 6 by decide, show 6 < 2 ^ 31 by decide, ?_⟩
      (conv => whnf); refine br_t (show (1 : Int32) ≤ nI 0 + Int32.ofInt 1 by decide) ?_
      (conv => whnf); refine ⟨1, show (1 : Int32) = nI 1 from rfl, show 1 < 6 by decide, show 6 < 2 ^ 31 by decide, ?_⟩
      have hx := ad_and (n := n) (m := 0) (by omega)
      have hy := ad_shr (n := n) (m := 0) (by omega)
      exact go_vret ((ob_52.1 209).trans rfl) rfl ⟨_, _, rfl, rfl, _, _, rfl, rfl, Or.inr ⟨(congrArg (fun z => (1 : Int32) + z) hy).trans (by decide), by decide, n + 0, by omega, by omega, hx⟩⟩
    · refine blk_go ob_52 (fun _ => false) 130 ?_
      (conv => whnf); refine br_f (show ¬ (1 : Int32) < 1 by decide) ?_
      (conv => whnf); refine br_f (show ¬ (1 : Int32) < 1 by decide) ?_
      (conv => whnf); refine br_f (show ¬ (1 : Int32) < 1 by decide) ?_
      (conv => whnf); refine br_f (show ¬ (1 : Int32) < 1 by decide) ?_
      (conv => whnf); refine br_t (show (1 : Int32) < Int32.ofNat 6 by decide) ?_
      (conv => whnf); refine br_f (show ¬ (1 : Int32) ≤ nI 0 by decide) ?_
      (conv => whnf); refine ⟨0, rfl, show 0 < 6 by decide, show 6 < 2 ^ 31 by decide, ?_⟩
      (conv => whnf); refine br_f (show ¬ (1 : Int32) ≤ nI 0 by decide) ?_
      (conv => whnf); refine ⟨0, rfl, show 0 < 6 by decide, show 6 < 2 ^ 31 by decide, ?_⟩
      (conv => whnf); refine ⟨0, rfl, show 0 < 6 by decide, show 6 < 2 ^ 31 by decide, ?_⟩
      (conv => whnf); refine br_t (show (1 : Int32) ≤ nI 0 + Int32.ofInt 1 by decide) ?_
      (conv => whnf); refine ⟨1, show (1 : Int32) = nI 1 from rfl, show 1 < 6 by decide, show 6 < 2 ^ 31 by decide, ?_⟩
      have hx := ad_and (n := n) (m := m) (by omega)
      have hy := ad_shr (n := n) (m := m) (by omega)
      exact go_vret ((ob_52.1 209).trans rfl) rfl ⟨_, _, rfl, rfl, _, _, rfl, rfl, Or.inr ⟨(congrArg (fun z => (1 : Int32) + z) hy).trans (by decide), by decide, n + m, by omega, by omega, hx⟩⟩
set_option maxRecDepth 100000 in
set_option maxHeartbeats 4000000 in
theorem bg_take4 {N n m : Nat} {sa sb sg : Int32} {xa xb : List Int32} (hN : 2 * N < 2 ^ 30) (n0 : 0 < n) (n1 : n ≤ N) (m0 : 0 < m) (m1 : m ≤ N) (hla : xa.length = 5) (hlb : xb.length = 5) (hsg : sg = 1 ∨ sg = -1) : cR 53 0 0 [.ref 0, .ref 0, .ref 2, .int sg] (bH2 1 sa (nI n :: xa) 1 sb (nI m :: xb)) (fun v h => v = none ∧ ∃ u' s' l', h = bH2 u' s' l' 1 sb (nI m :: xb) ∧ Bv (2 * N) u' s' l') := by
  intro fb lb _ _
  obtain ⟨b1, c1, d1, e1, f1, rfl⟩ := len5 hla
  obtain ⟨b2, c2, d2, e2, f2, rfl⟩ := len5 hlb
  have hsn : -sg = 1 ∨ -sg = -1 := by
    rcases hsg with rfl | rfl
    · exact Or.inr rfl
    · exact Or.inl (by decide)
  by_cases hnm : m ≤ n
  · have k1 := tk_p1 hnm (by omega)
    have k2 := tk_p2 hnm (by omega)
    refine blk_go ob_53 (fun _ => false) 170 ?_
    (conv => whnf); refine br_f (show ¬ (1 : Int32) < 1 by decide) ?_
    (conv => whnf); refine br_t (show (1 : Int32) ≤ Int32.ofNat 6 by decide) ?_
    (conv => whnf); refine br_f (show ¬ (1 : Int32) ≤ nI 0 by decide) ?_
    (conv => whnf); refine br_f (show ¬ (1 : Int32) ≤ nI 0 by decide) ?_
    (conv => whnf); refine ⟨0, rfl, show 0 < 6 by decide, show 6 < 2 ^ 31 by decide, ?_⟩
    (conv => whnf); refine br_f (show ¬ (1 : Int32) ≤ nI 0 by decide) ?_
    (conv => whnf); refine ⟨0, rfl, show 0 < 6 by decide, show 6 < 2 ^ 31 by decide, ?_⟩
    (conv => whnf); refine ⟨0, rfl, show 0 < 6 by decide, show 6 < 2 ^ 31 by decide, ?_⟩
    (conv => whnf); refine br_t (show (1 : Int32) ≤ nI 0 + Int32.ofInt 1 by decide) ?_
    (conv => whnf); refine br_f (fun z => z k1) ?_
    (conv => whnf); refine br_f (show ¬ (1 : Int32) ≤ nI 0 by decide) ?_
    (conv => whnf); refine br_t (k1) ?_
    (conv => whnf); refine br_f (show ¬ (1 : Int32) ≤ 0 by decide) ?_
    (conv => whnf); refine ⟨0, show (1 : Int32) - nI 1 = nI 0 by decide, show 0 < 6 by decide, show 6 < 2 ^ 31 by decide, ?_⟩
    (conv => whnf); refine ⟨fun h => ?_, fun h => ?_⟩
    · (conv => whnf); refine br_t (show ¬ (1 : Int32) = 0 by decide) ?_
      refine go_vret ((ob_53.1 274).trans rfl) rfl ⟨_, _, rfl, rfl, _, _, _, rfl, Bv.n (n := n - m) ?_ (by omega) rfl hsg k2⟩
      have h : ¬ (nI n - nI m - nI 0) &&& 1073741823 = 0 := h
      rw [k2] at h
      exact Nat.pos_of_ne_zero (fun z => h (by rw [z]; rfl))
    · (conv => whnf); refine br_t (show (1 : Int32) - nI 1 ≤ 0 by decide) ?_
      (conv => whnf); refine br_f (show ¬ ¬ (1 : Int32) - nI 1 = 0 by decide) ?_
      exact go_vret ((ob_53.1 274).trans rfl) rfl ⟨_, _, rfl, rfl, _, _, _, rfl, Bv.z rfl (by decide) rfl⟩
  · have hlt : n < m := by omega
    have k1 := tk_n1 hlt (by omega)
    have k3 := tk_n3 hlt (by omega)
    have k0 : ¬ ((nI n - nI m - nI 0).toUInt32 >>> ((nI 31).toUInt32 &&& Int32.toUInt32 31)).toInt32 = 0 := by rw [k1]; decide
    refine blk_go ob_53 (fun _ => false) 170 ?_
    (conv => whnf); refine br_f (show ¬ (1 : Int32) < 1 by decide) ?_
    (conv => whnf); refine br_t (show (1 : Int32) ≤ Int32.ofNat 6 by decide) ?_
    (conv => whnf); refine br_f (show ¬ (1 : Int32) ≤ nI 0 by decide) ?_
    (conv => whnf); refine br_f (show ¬ (1 : Int32) ≤ nI 0 by decide) ?_
    (conv => whnf); refine ⟨0, rfl, show 0 < 6 by decide, show 6 < 2 ^ 31 by decide, ?_⟩
    (conv => whnf); refine br_f (show ¬ (1 : Int32) ≤ nI 0 by decide) ?_
    (conv => whnf); refine ⟨0, rfl, show 0 < 6 by decide, show 6 < 2 ^ 31 by decide, ?_⟩
    (conv => whnf); refine ⟨0, rfl, show 0 < 6 by decide, show 6 < 2 ^ 31 by decide, ?_⟩
    (conv => whnf); refine br_t (show (1 : Int32) ≤ nI 0 + Int32.ofInt 1 by decide) ?_
    (conv => whnf); refine br_t (k0) ?_
    (conv => whnf); refine br_f (show ¬ (1 : Int32) ≤ nI 0 by decide) ?_
    (conv => whnf); refine br_f (k0) ?_
    (conv => whnf); refine ⟨0, rfl, show 0 < 6 by decide, show 6 < 2 ^ 31 by decide, ?_⟩
    (conv => whnf); refine ⟨0, rfl, show 0 < 6 by decide, show 6 < 2 ^ 31 by decide, ?_⟩
    (conv => whnf); refine br_t (show (1 : Int32) ≤ nI 0 + Int32.ofInt 1 by decide) ?_
    (conv => whnf); refine br_f (show ¬ (1 : Int32) ≤ 0 by decide) ?_
    (conv => whnf); refine ⟨0, show (1 : Int32) - nI 1 = nI 0 by decide, show 0 < 6 by decide, show 6 < 2 ^ 31 by decide, ?_⟩
    (conv => whnf); refine br_t (fun z => nI_ne0 (n := m - n) (by omega) (by omega) (k3.symm.trans z)) ?_
    (conv => whnf); refine br_t (show ¬ (1 : Int32) = 0 by decide) ?_
    exact go_vret ((ob_53.1 274).trans rfl) rfl ⟨_, _, rfl, rfl, _, _, _, rfl, Bv.n (n := m - n) (by omega) (by omega) rfl hsn k3⟩
set_option maxRecDepth 100000 in
set_option maxHeartbeats 4000000 in
theorem bg_plus4 {N : Nat} {ua sa ub sb : Int32} {xa xb : List Int32} (hN : 2 * N < 2 ^ 30) (ha : Bv N ua sa xa) (hb : Bv N ub sb xb) : cR 51 1 40 [.ref 0, .ref 0, .ref 2] (bH2 ua sa xa ub sb xb) (fun v h => v = none ∧ ∃ u' s' l', h = bH2 u' s' l' ub sb xb ∧ Bv (2 * N) u' s' l') := by
  intro fb lb _ _
  have ha0 := ha
  have hb0 := hb
  obtain ⟨a1, b1, c1, d1, e1, f1, rfl, hca⟩ := ha.cs
  obtain ⟨a2, b2, c2, d2, e2, f2, rfl, hcb⟩ := hb.cs
  have hsa : sa = 0 ∨ sa = 1 ∨ sa = -1 := by
    rcases hca with ⟨-, z⟩ | ⟨_, _, _, _, z, _⟩
    · exact Or.inl z
    · exact Or.inr z
  have hsb : sb = 0 ∨ sb = 1 ∨ sb = -1 := by
    rcases hcb with ⟨-, z⟩ | ⟨_, _, _, _, z, _⟩
    · exact Or.inl z
    · exact Or.inr z
  rcases hsa with rfl | rfl | rfl
  · rcases hsb with rfl | rfl | rfl
    · refine blk_go ob_51 (fun _ => false) 60 ?_
      (conv => whnf); refine br_t (show (0 : Int32) = 0 by decide) ?_
      (conv => whnf); refine br_f (show ¬ (0 : Int32) * (0 : Int32) < 0 by decide) ?_
      refine vB (idx := 34) (mj := 52) (q := 3) (n := 11) [.ref 0, .ref 0, .ref 2, .int (0 : Int32)] ((ob_51.1 35).trans rfl) rfl rfl (Nat.le_of_ble_eq_true rfl) rfl (rfl) rfl rfl (bg_add4  hN ha0 hb0) (Nat.le_of_ble_eq_true rfl) (by omega) rfl (by omega) (Nat.le_of_ble_eq_true rfl) (fun v h1 e => ?_)
      obtain ⟨rfl, u', l', rfl, hl, hB⟩ := e
      refine blk_go ob_51 (fun _ => false) 30 ?_
      refine go_vret ((ob_51.1 48).trans rfl) rfl ⟨_, _, rfl, rfl, _, _, _, rfl, hl, ?_⟩
      rcases hB with ⟨z, -, -⟩ | ⟨z, hw, -⟩
      · exact Or.inl ⟨z, by decide⟩
      · exfalso
        have u1 : ua = 0 := by
          rcases hca with ⟨q, -⟩ | ⟨_, _, _, _, q, _⟩
          · exact q
          · exact absurd q (by decide)
        have u2 : ub = 0 := by
          rcases hcb with ⟨q, -⟩ | ⟨_, _, _, _, q, _⟩
          · exact q
          · exact absurd q (by decide)
        rcases hw with q | q
        · rw [u1] at q; exact absurd q (by decide)
        · rw [u2] at q; exact absurd q (by decide)
    · refine blk_go ob_51 (fun _ => false) 60 ?_
      (conv => whnf); refine br_t (show (0 : Int32) = 0 by decide) ?_
      (conv => whnf); refine br_f (show ¬ (0 : Int32) * (1 : Int32) < 0 by decide) ?_
      refine vB (idx := 34) (mj := 52) (q := 3) (n := 11) [.ref 0, .ref 0, .ref 2, .int (1 : Int32)] ((ob_51.1 35).trans rfl) rfl rfl (Nat.le_of_ble_eq_true rfl) rfl (rfl) rfl rfl (bg_add4  hN ha0 hb0) (Nat.le_of_ble_eq_true rfl) (by omega) rfl (by omega) (Nat.le_of_ble_eq_true rfl) (fun v h1 e => ?_)
      obtain ⟨rfl, u', l', rfl, hl, hB⟩ := e
      refine blk_go ob_51 (fun _ => false) 30 ?_
      refine go_vret ((ob_51.1 48).trans rfl) rfl ⟨_, _, rfl, rfl, _, _, _, rfl, hl, ?_⟩
      rcases hB with ⟨-, z, w⟩ | ⟨z, -, k, k0, k1, k2⟩
      · exfalso
        rcases hcb with ⟨-, q⟩ | ⟨n, n0, n1, q, -, -⟩
        · exact absurd q (by decide)
        · rw [w] at q; exact absurd q (by decide)
      · exact Or.inr ⟨k, k0, k1, z, by decide, k2⟩
    · refine blk_go ob_51 (fun _ => false) 60 ?_
      (conv => whnf); refine br_t (show (0 : Int32) = 0 by decide) ?_
      (conv => whnf); refine br_f (show ¬ (0 : Int32) * (-1 : Int32) < 0 by decide) ?_
      refine vB (idx := 34) (mj := 52) (q := 3) (n := 11) [.ref 0, .ref 0, .ref 2, .int (-1 : Int32)] ((ob_51.1 35).trans rfl) rfl rfl (Nat.le_of_ble_eq_true rfl) rfl (rfl) rfl rfl (bg_add4  hN ha0 hb0) (Nat.le_of_ble_eq_true rfl) (by omega) rfl (by omega) (Nat.le_of_ble_eq_true rfl) (fun v h1 e => ?_)
      obtain ⟨rfl, u', l', rfl, hl, hB⟩ := e
      refine blk_go ob_51 (fun _ => false) 30 ?_
      refine go_vret ((ob_51.1 48).trans rfl) rfl ⟨_, _, rfl, rfl, _, _, _, rfl, hl, ?_⟩
      rcases hB with ⟨-, z, w⟩ | ⟨z, -, k, k0, k1, k2⟩
      · exfalso
        rcases hcb with ⟨-, q⟩ | ⟨n, n0, n1, q, -, -⟩
        · exact absurd q (by decide)
        · rw [w] at q; exact absurd q (by decide)
      · exact Or.inr ⟨k, k0, k1, z, by decide, k2⟩
  · rcases hsb with rfl | rfl | rfl
    · refine blk_go ob_51 (fun _ => false) 60 ?_
      (conv => whnf); refine br_f (show ¬ (1 : Int32) = 0 by decide) ?_
      (conv => whnf); refine br_f (show ¬ (1 : Int32) * (0 : Int32) < 0 by decide) ?_
      refine vB (idx := 34) (mj := 52) (q := 3) (n := 11) [.ref 0, .ref 0, .ref 2, .int (1 : Int32)] ((ob_51.1 35).trans rfl) rfl rfl (Nat.le_of_ble_eq_true rfl) rfl (rfl) rfl rfl (bg_add4  hN ha0 hb0) (Nat.le_of_ble_eq_true rfl) (by omega) rfl (by omega) (Nat.le_of_ble_eq_true rfl) (fun v h1 e => ?_)
      obtain ⟨rfl, u', l', rfl, hl, hB⟩ := e
      refine blk_go ob_51 (fun _ => false) 30 ?_
      refine go_vret ((ob_51.1 48).trans rfl) rfl ⟨_, _, rfl, rfl, _, _, _, rfl, hl, ?_⟩
      rcases hB with ⟨-, z, w⟩ | ⟨z, -, k, k0, k1, k2⟩
      · exfalso
        rcases hca with ⟨-, q⟩ | ⟨n, n0, n1, q, -, -⟩
        · exact absurd q (by decide)
        · rw [z] at q; exact absurd q (by decide)
      · exact Or.inr ⟨k, k0, k1, z, by decide, k2⟩
    · refine blk_go ob_51 (fun _ => false) 60 ?_
      (conv => whnf); refine br_f (show ¬ (1 : Int32) = 0 by decide) ?_
      (conv => whnf); refine br_f (show ¬ (1 : Int32) * (1 : Int32) < 0 by decide) ?_
      refine vB (idx := 34) (mj := 52) (q := 3) (n := 11) [.ref 0, .ref 0, .ref 2, .int (1 : Int32)] ((ob_51.1 35).trans rfl) rfl rfl (Nat.le_of_ble_eq_true rfl) rfl (rfl) rfl rfl (bg_add4  hN ha0 hb0) (Nat.le_of_ble_eq_true rfl) (by omega) rfl (by omega) (Nat.le_of_ble_eq_true rfl) (fun v h1 e => ?_)
      obtain ⟨rfl, u', l', rfl, hl, hB⟩ := e
      refine blk_go ob_51 (fun _ => false) 30 ?_
      refine go_vret ((ob_51.1 48).trans rfl) rfl ⟨_, _, rfl, rfl, _, _, _, rfl, hl, ?_⟩
      rcases hB with ⟨-, z, w⟩ | ⟨z, -, k, k0, k1, k2⟩
      · exfalso
        rcases hca with ⟨-, q⟩ | ⟨n, n0, n1, q, -, -⟩
        · exact absurd q (by decide)
        · rw [z] at q; exact absurd q (by decide)
      · exact Or.inr ⟨k, k0, k1, z, by decide, k2⟩
    · refine blk_go ob_51 (fun _ => false) 60 ?_
      (conv => whnf); refine br_f (show ¬ (1 : Int32) = 0 by decide) ?_
      (conv => whnf); refine br_t (show (1 : Int32) * (-1 : Int32) < 0 by decide) ?_
      rcases hca with ⟨-, z⟩ | ⟨n, n0, n1, rfl, -, rfl⟩
      · exact absurd z (by decide)
      rcases hcb with ⟨-, z⟩ | ⟨m, m0, m1, rfl, -, rfl⟩
      · exact absurd z (by decide)
      refine vB (idx := 38) (mj := 53) (q := 3) (n := 13) [.ref 0, .ref 0, .ref 2, .int (1 : Int32)] ((ob_51.1 45).trans rfl) rfl rfl (Nat.le_of_ble_eq_true rfl) rfl (rfl) rfl rfl (bg_take4  hN n0 n1 m0 m1 rfl rfl (by decide)) (Nat.le_of_ble_eq_true rfl) (by omega) rfl (by omega) (Nat.le_of_ble_eq_true rfl) (fun v h1 e => ?_)
      obtain ⟨rfl, u', s', l', rfl, hB⟩ := e
      refine blk_go ob_51 (fun _ => false) 30 ?_
      exact go_vret ((ob_51.1 48).trans rfl) rfl ⟨_, _, rfl, rfl, _, _, _, rfl, hB⟩
  · rcases hsb with rfl | rfl | rfl
    · refine blk_go ob_51 (fun _ => false) 60 ?_
      (conv => whnf); refine br_f (show ¬ (-1 : Int32) = 0 by decide) ?_
      (conv => whnf); refine br_f (show ¬ (-1 : Int32) * (0 : Int32) < 0 by decide) ?_
      refine vB (idx := 34) (mj := 52) (q := 3) (n := 11) [.ref 0, .ref 0, .ref 2, .int (-1 : Int32)] ((ob_51.1 35).trans rfl) rfl rfl (Nat.le_of_ble_eq_true rfl) rfl (rfl) rfl rfl (bg_add4  hN ha0 hb0) (Nat.le_of_ble_eq_true rfl) (by omega) rfl (by omega) (Nat.le_of_ble_eq_true rfl) (fun v h1 e => ?_)
      obtain ⟨rfl, u', l', rfl, hl, hB⟩ := e
      refine blk_go ob_51 (fun _ => false) 30 ?_
      refine go_vret ((ob_51.1 48).trans rfl) rfl ⟨_, _, rfl, rfl, _, _, _, rfl, hl, ?_⟩
      rcases hB with ⟨-, z, w⟩ | ⟨z, -, k, k0, k1, k2⟩
      · exfalso
        rcases hca with ⟨-, q⟩ | ⟨n, n0, n1, q, -, -⟩
        · exact absurd q (by decide)
        · rw [z] at q; exact absurd q (by decide)
      · exact Or.inr ⟨k, k0, k1, z, by decide, k2⟩
    · refine blk_go ob_51 (fun _ => false) 60 ?_
      (conv => whnf); refine br_f (show ¬ (-1 : Int32) = 0 by decide) ?_
      (conv => whnf); refine br_t (show (-1 : Int32) * (1 : Int32) < 0 by decide) ?_
      rcases hca with ⟨-, z⟩ | ⟨n, n0, n1, rfl, -, rfl⟩
      · exact absurd z (by decide)
      rcases hcb with ⟨-, z⟩ | ⟨m, m0, m1, rfl, -, rfl⟩
      · exact absurd z (by decide)
      refine vB (idx := 38) (mj := 53) (q := 3) (n := 13) [.ref 0, .ref 0, .ref 2, .int (-1 : Int32)] ((ob_51.1 45).trans rfl) rfl rfl (Nat.le_of_ble_eq_true rfl) rfl (rfl) rfl rfl (bg_take4  hN n0 n1 m0 m1 rfl rfl (by decide)) (Nat.le_of_ble_eq_true rfl) (by omega) rfl (by omega) (Nat.le_of_ble_eq_true rfl) (fun v h1 e => ?_)
      obtain ⟨rfl, u', s', l', rfl, hB⟩ := e
      refine blk_go ob_51 (fun _ => false) 30 ?_
      exact go_vret ((ob_51.1 48).trans rfl) rfl ⟨_, _, rfl, rfl, _, _, _, rfl, hB⟩
    · refine blk_go ob_51 (fun _ => false) 60 ?_
      (conv => whnf); refine br_f (show ¬ (-1 : Int32) = 0 by decide) ?_
      (conv => whnf); refine br_f (show ¬ (-1 : Int32) * (-1 : Int32) < 0 by decide) ?_
      refine vB (idx := 34) (mj := 52) (q := 3) (n := 11) [.ref 0, .ref 0, .ref 2, .int (-1 : Int32)] ((ob_51.1 35).trans rfl) rfl rfl (Nat.le_of_ble_eq_true rfl) rfl (rfl) rfl rfl (bg_add4  hN ha0 hb0) (Nat.le_of_ble_eq_true rfl) (by omega) rfl (by omega) (Nat.le_of_ble_eq_true rfl) (fun v h1 e => ?_)
      obtain ⟨rfl, u', l', rfl, hl, hB⟩ := e
      refine blk_go ob_51 (fun _ => false) 30 ?_
      refine go_vret ((ob_51.1 48).trans rfl) rfl ⟨_, _, rfl, rfl, _, _, _, rfl, hl, ?_⟩
      rcases hB with ⟨-, z, w⟩ | ⟨z, -, k, k0, k1, k2⟩
      · exfalso
        rcases hca with ⟨-, q⟩ | ⟨n, n0, n1, q, -, -⟩
        · exact absurd q (by decide)
        · rw [z] at q; exact absurd q (by decide)
      · exact Or.inr ⟨k, k0, k1, z, by decide, k2⟩
set_option maxRecDepth 100000 in
set_option maxHeartbeats 4000000 in
theorem bg_minus4 {N : Nat} {ua sa ub sb : Int32} {xa xb : List Int32} (hN : 2 * N < 2 ^ 30) (ha : Bv N ua sa xa) (hb : Bv N ub sb xb) : cR 56 1 40 [.ref 0, .ref 0, .ref 2] (bH2 ua sa xa ub sb xb) (fun v h => v = none ∧ ∃ u' s' l', h = bH2 u' s' l' ub sb xb ∧ Bv (2 * N) u' s' l') := by
  intro fb lb _ _
  have ha0 := ha
  have hb0 := hb
  obtain ⟨a1, b1, c1, d1, e1, f1, rfl, hca⟩ := ha.cs
  obtain ⟨a2, b2, c2, d2, e2, f2, rfl, hcb⟩ := hb.cs
  have hsa : sa = 0 ∨ sa = 1 ∨ sa = -1 := by
    rcases hca with ⟨-, z⟩ | ⟨_, _, _, _, z, _⟩
    · exact Or.inl z
    · exact Or.inr z
  have hsb : sb = 0 ∨ sb = 1 ∨ sb = -1 := by
    rcases hcb with ⟨-, z⟩ | ⟨_, _, _, _, z, _⟩
    · exact Or.inl z
    · exact Or.inr z
  rcases hsa with rfl | rfl | rfl
  · rcases hsb with rfl | rfl | rfl
    · refine blk_go ob_56 (fun _ => false) 60 ?_
      (conv => whnf); refine br_t (show (0 : Int32) = 0 by decide) ?_
      (conv => whnf); refine br_f (show ¬ 0 < (0 : Int32) * (0 : Int32) by decide) ?_
      refine vB (idx := 34) (mj := 52) (q := 3) (n := 11) [.ref 0, .ref 0, .ref 2, .int (-(0 : Int32))] ((ob_56.1 36).trans rfl) rfl rfl (Nat.le_of_ble_eq_true rfl) rfl (rfl) rfl rfl (bg_add4  hN ha0 hb0) (Nat.le_of_ble_eq_true rfl) (by omega) rfl (by omega) (Nat.le_of_ble_eq_true rfl) (fun v h1 e => ?_)
      obtain ⟨rfl, u', l', rfl, hl, hB⟩ := e
      refine blk_go ob_56 (fun _ => false) 30 ?_
      refine go_vret ((ob_56.1 49).trans rfl) rfl ⟨_, _, rfl, rfl, _, _, _, rfl, hl, ?_⟩
      rcases hB with ⟨z, -, -⟩ | ⟨z, hw, -⟩
      · exact Or.inl ⟨z, by decide⟩
      · exfalso
        have u1 : ua = 0 := by
          rcases hca with ⟨q, -⟩ | ⟨_, _, _, _, q, _⟩
          · exact q
          · exact absurd q (by decide)
        have u2 : ub = 0 := by
          rcases hcb with ⟨q, -⟩ | ⟨_, _, _, _, q, _⟩
          · exact q
          · exact absurd q (by decide)
        rcases hw with q | q
        · rw [u1] at q; exact absurd q (by decide)
        · rw [u2] at q; exact absurd q (by decide)
    · refine blk_go ob_56 (fun _ => false) 60 ?_
      (conv => whnf); refine br_t (show (0 : Int32) = 0 by decide) ?_
      (conv => whnf); refine br_f (show ¬ 0 < (0 : Int32) * (1 : Int32) by decide) ?_
      refine vB (idx := 34) (mj := 52) (q := 3) (n := 11) [.ref 0, .ref 0, .ref 2, .int (-(1 : Int32))] ((ob_56.1 36).trans rfl) rfl rfl (Nat.le_of_ble_eq_true rfl) rfl (rfl) rfl rfl (bg_add4  hN ha0 hb0) (Nat.le_of_ble_eq_true rfl) (by omega) rfl (by omega) (Nat.le_of_ble_eq_true rfl) (fun v h1 e => ?_)
      obtain ⟨rfl, u', l', rfl, hl, hB⟩ := e
      refine blk_go ob_56 (fun _ => false) 30 ?_
      refine go_vret ((ob_56.1 49).trans rfl) rfl ⟨_, _, rfl, rfl, _, _, _, rfl, hl, ?_⟩
      rcases hB with ⟨-, z, w⟩ | ⟨z, -, k, k0, k1, k2⟩
      · exfalso
        rcases hcb with ⟨-, q⟩ | ⟨n, n0, n1, q, -, -⟩
        · exact absurd q (by decide)
        · rw [w] at q; exact absurd q (by decide)
      · exact Or.inr ⟨k, k0, k1, z, by decide, k2⟩
    · refine blk_go ob_56 (fun _ => false) 60 ?_
      (conv => whnf); refine br_t (show (0 : Int32) = 0 by decide) ?_
      (conv => whnf); refine br_f (show ¬ 0 < (0 : Int32) * (-1 : Int32) by decide) ?_
      refine vB (idx := 34) (mj := 52) (q := 3) (n := 11) [.ref 0, .ref 0, .ref 2, .int (-(-1 : Int32))] ((ob_56.1 36).trans rfl) rfl rfl (Nat.le_of_ble_eq_true rfl) rfl (rfl) rfl rfl (bg_add4  hN ha0 hb0) (Nat.le_of_ble_eq_true rfl) (by omega) rfl (by omega) (Nat.le_of_ble_eq_true rfl) (fun v h1 e => ?_)
      obtain ⟨rfl, u', l', rfl, hl, hB⟩ := e
      refine blk_go ob_56 (fun _ => false) 30 ?_
      refine go_vret ((ob_56.1 49).trans rfl) rfl ⟨_, _, rfl, rfl, _, _, _, rfl, hl, ?_⟩
      rcases hB with ⟨-, z, w⟩ | ⟨z, -, k, k0, k1, k2⟩
      · exfalso
        rcases hcb with ⟨-, q⟩ | ⟨n, n0, n1, q, -, -⟩
        · exact absurd q (by decide)
        · rw [w] at q; exact absurd q (by decide)
      · exact Or.inr ⟨k, k0, k1, z, by decide, k2⟩
  · rcases hsb with rfl | rfl | rfl
    · refine blk_go ob_56 (fun _ => false) 60 ?_
      (conv => whnf); refine br_f (show ¬ (1 : Int32) = 0 by decide) ?_
      (conv => whnf); refine br_f (show ¬ 0 < (1 : Int32) * (0 : Int32) by decide) ?_
      refine vB (idx := 34) (mj := 52) (q := 3) (n := 11) [.ref 0, .ref 0, .ref 2, .int (1 : Int32)] ((ob_56.1 36).trans rfl) rfl rfl (Nat.le_of_ble_eq_true rfl) rfl (rfl) rfl rfl (bg_add4  hN ha0 hb0) (Nat.le_of_ble_eq_true rfl) (by omega) rfl (by omega) (Nat.le_of_ble_eq_true rfl) (fun v h1 e => ?_)
      obtain ⟨rfl, u', l', rfl, hl, hB⟩ := e
      refine blk_go ob_56 (fun _ => false) 30 ?_
      refine go_vret ((ob_56.1 49).trans rfl) rfl ⟨_, _, rfl, rfl, _, _, _, rfl, hl, ?_⟩
      rcases hB with ⟨-, z, w⟩ | ⟨z, -, k, k0, k1, k2⟩
      · exfalso
        rcases hca with ⟨-, q⟩ | ⟨n, n0, n1, q, -, -⟩
        · exact absurd q (by decide)
        · rw [z] at q; exact absurd q (by decide)
      · exact Or.inr ⟨k, k0, k1, z, by decide, k2⟩
    · refine blk_go ob_56 (fun _ => false) 60 ?_
      (conv => whnf); refine br_f (show ¬ (1 : Int32) = 0 by decide) ?_
      (conv => whnf); refine br_t (show 0 < (1 : Int32) * (1 : Int32) by decide) ?_
      rcases hca with ⟨-, z⟩ | ⟨n, n0, n1, rfl, -, rfl⟩
      · exact absurd z (by decide)
      rcases hcb with ⟨-, z⟩ | ⟨m, m0, m1, rfl, -, rfl⟩
      · exact absurd z (by decide)
      refine vB (idx := 38) (mj := 53) (q := 3) (n := 13) [.ref 0, .ref 0, .ref 2, .int (1 : Int32)] ((ob_56.1 46).trans rfl) rfl rfl (Nat.le_of_ble_eq_true rfl) rfl (rfl) rfl rfl (bg_take4  hN n0 n1 m0 m1 rfl rfl (by decide)) (Nat.le_of_ble_eq_true rfl) (by omega) rfl (by omega) (Nat.le_of_ble_eq_true rfl) (fun v h1 e => ?_)
      obtain ⟨rfl, u', s', l', rfl, hB⟩ := e
      refine blk_go ob_56 (fun _ => false) 30 ?_
      exact go_vret ((ob_56.1 49).trans rfl) rfl ⟨_, _, rfl, rfl, _, _, _, rfl, hB⟩
    · refine blk_go ob_56 (fun _ => false) 60 ?_
      (conv => whnf); refine br_f (show ¬ (1 : Int32) = 0 by decide) ?_
      (conv => whnf); refine br_f (show ¬ 0 < (1 : Int32) * (-1 : Int32) by decide) ?_
      refine vB (idx := 34) (mj := 52) (q := 3) (n := 11) [.ref 0, .ref 0, .ref 2, .int (1 : Int32)] ((ob_56.1 36).trans rfl) rfl rfl (Nat.le_of_ble_eq_true rfl) rfl (rfl) rfl rfl (bg_add4  hN ha0 hb0) (Nat.le_of_ble_eq_true rfl) (by omega) rfl (by omega) (Nat.le_of_ble_eq_true rfl) (fun v h1 e => ?_)
      obtain ⟨rfl, u', l', rfl, hl, hB⟩ := e
      refine blk_go ob_56 (fun _ => false) 30 ?_
      refine go_vret ((ob_56.1 49).trans rfl) rfl ⟨_, _, rfl, rfl, _, _, _, rfl, hl, ?_⟩
      rcases hB with ⟨-, z, w⟩ | ⟨z, -, k, k0, k1, k2⟩
      · exfalso
        rcases hca with ⟨-, q⟩ | ⟨n, n0, n1, q, -, -⟩
        · exact absurd q (by decide)
        · rw [z] at q; exact absurd q (by decide)
      · exact Or.inr ⟨k, k0, k1, z, by decide, k2⟩
  · rcases hsb with rfl | rfl | rfl
    · refine blk_go ob_56 (fun _ => false) 60 ?_
      (conv => whnf); refine br_f (show ¬ (-1 : Int32) = 0 by decide) ?_
      (conv => whnf); refine br_f (show ¬ 0 < (-1 : Int32) * (0 : Int32) by decide) ?_
      refine vB (idx := 34) (mj := 52) (q := 3) (n := 11) [.ref 0, .ref 0, .ref 2, .int (-1 : Int32)] ((ob_56.1 36).trans rfl) rfl rfl (Nat.le_of_ble_eq_true rfl) rfl (rfl) rfl rfl (bg_add4  hN ha0 hb0) (Nat.le_of_ble_eq_true rfl) (by omega) rfl (by omega) (Nat.le_of_ble_eq_true rfl) (fun v h1 e => ?_)
      obtain ⟨rfl, u', l', rfl, hl, hB⟩ := e
      refine blk_go ob_56 (fun _ => false) 30 ?_
      refine go_vret ((ob_56.1 49).trans rfl) rfl ⟨_, _, rfl, rfl, _, _, _, rfl, hl, ?_⟩
      rcases hB with ⟨-, z, w⟩ | ⟨z, -, k, k0, k1, k2⟩
      · exfalso
        rcases hca with ⟨-, q⟩ | ⟨n, n0, n1, q, -, -⟩
        · exact absurd q (by decide)
        · rw [z] at q; exact absurd q (by decide)
      · exact Or.inr ⟨k, k0, k1, z, by decide, k2⟩
    · refine blk_go ob_56 (fun _ => false) 60 ?_
      (conv => whnf); refine br_f (show ¬ (-1 : Int32) = 0 by decide) ?_
      (conv => whnf); refine br_f (show ¬ 0 < (-1 : Int32) * (1 : Int32) by decide) ?_
      refine vB (idx := 34) (mj := 52) (q := 3) (n := 11) [.ref 0, .ref 0, .ref 2, .int (-1 : Int32)] ((ob_56.1 36).trans rfl) rfl rfl (Nat.le_of_ble_eq_true rfl) rfl (rfl) rfl rfl (bg_add4  hN ha0 hb0) (Nat.le_of_ble_eq_true rfl) (by omega) rfl (by omega) (Nat.le_of_ble_eq_true rfl) (fun v h1 e => ?_)
      obtain ⟨rfl, u', l', rfl, hl, hB⟩ := e
      refine blk_go ob_56 (fun _ => false) 30 ?_
      refine go_vret ((ob_56.1 49).trans rfl) rfl ⟨_, _, rfl, rfl, _, _, _, rfl, hl, ?_⟩
      rcases hB with ⟨-, z, w⟩ | ⟨z, -, k, k0, k1, k2⟩
      · exfalso
        rcases hca with ⟨-, q⟩ | ⟨n, n0, n1, q, -, -⟩
        · exact absurd q (by decide)
        · rw [z] at q; exact absurd q (by decide)
      · exact Or.inr ⟨k, k0, k1, z, by decide, k2⟩
    · refine blk_go ob_56 (fun _ => false) 60 ?_
      (conv => whnf); refine br_f (show ¬ (-1 : Int32) = 0 by decide) ?_
      (conv => whnf); refine br_t (show 0 < (-1 : Int32) * (-1 : Int32) by decide) ?_
      rcases hca with ⟨-, z⟩ | ⟨n, n0, n1, rfl, -, rfl⟩
      · exact absurd z (by decide)
      rcases hcb with ⟨-, z⟩ | ⟨m, m0, m1, rfl, -, rfl⟩
      · exact absurd z (by decide)
      refine vB (idx := 38) (mj := 53) (q := 3) (n := 13) [.ref 0, .ref 0, .ref 2, .int (-1 : Int32)] ((ob_56.1 46).trans rfl) rfl rfl (Nat.le_of_ble_eq_true rfl) rfl (rfl) rfl rfl (bg_take4  hN n0 n1 m0 m1 rfl rfl (by decide)) (Nat.le_of_ble_eq_true rfl) (by omega) rfl (by omega) (Nat.le_of_ble_eq_true rfl) (fun v h1 e => ?_)
      obtain ⟨rfl, u', s', l', rfl, hB⟩ := e
      refine blk_go ob_56 (fun _ => false) 30 ?_
      exact go_vret ((ob_56.1 49).trans rfl) rfl ⟨_, _, rfl, rfl, _, _, _, rfl, hB⟩
set_option maxRecDepth 100000 in
set_option maxHeartbeats 4000000 in
theorem bg_add6 {N : Nat} {ua sa ub sb sg : Int32} {xa xb : List Int32} {ut st : Int32} {xt : List Int32} (ht : xt.length = 6) (hN : 2 * N < 2 ^ 30) (ha : Bv N ua sa xa) (hb : Bv N ub sb xb) : cR 52 0 0 [.ref 0, .ref 2, .ref 4, .int sg] (bH3 ut st xt ua sa xa ub sb xb) (fun v h => v = none ∧ ∃ u' l', h = bH3 u' sg l' ua sa xa ub sb xb ∧ l'.length = 6 ∧ ((u' = 0 ∧ ua = 0 ∧ ub = 0) ∨ (u' = 1 ∧ (ua = 1 ∨ ub = 1) ∧ ∃ k, 0 < k ∧ k ≤ 2 * N ∧ l'.getD 0 0 = nI k))) := by
  intro fb lb _ _
  obtain ⟨a0, b0, c0, d0, e0, f0, rfl⟩ := len6 ht
  obtain ⟨a1, b1, c1, d1, e1, f1, rfl, hca⟩ := ha.cs
  obtain ⟨a2, b2, c2, d2, e2, f2, rfl, hcb⟩ := hb.cs
  rcases hca with ⟨rfl, rfl⟩ | ⟨n, n0, n1, rfl, hs1, rfl⟩
  · rcases hcb with ⟨rfl, rfl⟩ | ⟨m, m0, m1, rfl, hs2, rfl⟩
    · refine blk_go ob_52 (fun _ => false) 130 ?_
      (conv => whnf); refine br_f (show ¬ (0 : Int32) < 0 by decide) ?_
      (conv => whnf); refine br_f (show ¬ (0 : Int32) < 0 by decide) ?_
      (conv => whnf); refine br_f (show ¬ (0 : Int32) < 0 by decide) ?_
      (conv => whnf); refine br_f (show ¬ (0 : Int32) < 0 by decide) ?_
      (conv => whnf); refine br_t (show (0 : Int32) < Int32.ofNat 6 by decide) ?_
      (conv => whnf); refine br_t (show (0 : Int32) ≤ nI 0 by decide) ?_
      (conv => whnf); refine ⟨0, show (0 : Int32) = nI 0 from rfl, show 0 < 6 by decide, show 6 < 2 ^ 31 by decide, ?_⟩
      exact go_vret ((ob_52.1 209).trans rfl) rfl ⟨_, _, rfl, rfl, _, _, rfl, rfl, Or.inl ⟨by decide, rfl, rfl⟩⟩
    · refine blk_go ob_52 (fun _ => false) 130 ?_
      (conv => whnf); refine br_t (show (0 : Int32) < 1 by decide) ?_
      (conv => whnf); refine br_t (show (0 : Int32) < 1 by decide) ?_
      (conv => whnf); refine br_t (show (0 : Int32) < 1 by decide) ?_
      (conv => whnf); refine br_t (show (0 : Int32) < 1 by decide) ?_
      (conv => whnf); refine br_t (show (1 : Int32) < Int32.ofNat 6 by decide) ?_
      (conv => whnf); refine br_f (show ¬ (1 : Int32) ≤ nI 0 by decide) ?_
      (conv => whnf); refine ⟨0, rfl, show 0 < 6 by decide, show 6 < 2 ^ 31 by decide, ?_⟩
      (conv => whnf); refine br_t (show (0 : Int32) ≤ nI 0 by decide) ?_
      (conv => whnf); refine ⟨0, rfl, show 0 < 6 by decide, show 6 < 2 ^ 31 by decide, ?_⟩
      (conv => whnf); refine br_t (show (1 : Int32) ≤ nI 0 + Int32.ofInt 1 by decide) ?_
      (conv => whnf); refine ⟨1, show (1 : Int32) = nI 1 from rfl, show 1 < 6 by decide, show 6 < 2 ^ 31 by decide, ?_⟩
      have hx := ad_and (n := m) (m := 0) (by omega)
      have hy := ad_shr (n := m) (m := 0) (by omega)
      exact go_vret ((ob_52.1 209).trans rfl) rfl ⟨_, _, rfl, rfl, _, _, rfl, rfl, Or.inr ⟨(congrArg (fun z => (1 : Int32) + z) hy).trans (by decide), by decide, m + 0, by omega, by omega, hx⟩⟩
  · rcases hcb with ⟨rfl, rfl⟩ | ⟨m, m0, m1, rfl, hs2, rfl⟩
    · refine blk_go ob_52 (fun _ => false) 130 ?_
      (conv => whnf); refine br_f (show ¬ (1 : Int32) < 0 by decide) ?_
      (conv => whnf); refine br_f (show ¬ (1 : Int32) < 0 by decide) ?_
      (conv => whnf); refine br_f (show ¬ (1 : Int32) < 0 by decide) ?_
      (conv => whnf); refine br_f (show ¬ (1 : Int32) < 0 by decide) ?_
      (conv => whnf); refine br_t (show (1 : Int32) < Int32.ofNat 6 by decide) ?_
      (conv => whnf); refine br_f (show ¬ (1 : Int32) ≤ nI 0 by decide) ?_
      (conv => whnf); refine ⟨0, rfl, show 0 < 6 by decide, show 6 < 2 ^ 31 by decide, ?_⟩
      (conv => whnf); refine br_t (show (0 : Int32) ≤ nI 0 by decide) ?_
      (conv => whnf); refine ⟨0, rfl, show 0 < 6 by decide, show 6 < 2 ^ 31 by decide, ?_⟩
      (conv => whnf); refine br_t (show (1 : Int32) ≤ nI 0 + Int32.ofInt 1 by decide) ?_
      (conv => whnf); refine ⟨1, show (1 : Int32) = nI 1 from rfl, show 1 < 6 by decide, show 6 < 2 ^ 31 by decide, ?_⟩
      have hx := ad_and (n := n) (m := 0) (by omega)
      have hy := ad_shr (n := n) (m := 0) (by omega)
      exact go_vret ((ob_52.1 209).trans rfl) rfl ⟨_, _, rfl, rfl, _, _, rfl, rfl, Or.inr ⟨(congrArg (fun z => (1 : Int32) + z) hy).trans (by decide), by decide, n + 0, by omega, by omega, hx⟩⟩
    · refine blk_go ob_52 (fun _ => false) 130 ?_
      (conv => whnf); refine br_f (show ¬ (1 : Int32) < 1 by decide) ?_
      (conv => whnf); refine br_f (show ¬ (1 : Int32) < 1 by decide) ?_
      (conv => whnf); refine br_f (show ¬ (1 : Int32) < 1 by decide) ?_
      (conv => whnf); refine br_f (show ¬ (1 : Int32) < 1 by decide) ?_
      (conv => whnf); refine br_t (show (1 : Int32) < Int32.ofNat 6 by decide) ?_
      (conv => whnf); refine br_f (show ¬ (1 : Int32) ≤ nI 0 by decide) ?_
      (conv => whnf); refine ⟨0, rfl, show 0 < 6 by decide, show 6 < 2 ^ 31 by decide, ?_⟩
      (conv => whnf); refine br_f (show ¬ (1 : Int32) ≤ nI 0 by decide) ?_
      (conv => whnf); refine ⟨0, rfl, show 0 < 6 by decide, show 6 < 2 ^ 31 by decide, ?_⟩
      (conv => whnf); refine ⟨0, rfl, show 0 < 6 by decide, show 6 < 2 ^ 31 by decide, ?_⟩
      (conv => whnf); refine br_t (show (1 : Int32) ≤ nI 0 + Int32.ofInt 1 by decide) ?_
      (conv => whnf); refine ⟨1, show (1 : Int32) = nI 1 from rfl, show 1 < 6 by decide, show 6 < 2 ^ 31 by decide, ?_⟩
      have hx := ad_and (n := n) (m := m) (by omega)
      have hy := ad_shr (n := n) (m := m) (by omega)
      exact go_vret ((ob_52.1 209).trans rfl) rfl ⟨_, _, rfl, rfl, _, _, rfl, rfl, Or.inr ⟨(congrArg (fun z => (1 : Int32) + z) hy).trans (by decide), by decide, n + m, by omega, by omega, hx⟩⟩
set_option maxRecDepth 100000 in
set_option maxHeartbeats 4000000 in
theorem bg_take6 {N n m : Nat} {sa sb sg : Int32} {xa xb : List Int32} {ut st : Int32} {xt : List Int32} (ht : xt.length = 6) (hN : 2 * N < 2 ^ 30) (n0 : 0 < n) (n1 : n ≤ N) (m0 : 0 < m) (m1 : m ≤ N) (hla : xa.length = 5) (hlb : xb.length = 5) (hsg : sg = 1 ∨ sg = -1) : cR 53 0 0 [.ref 0, .ref 2, .ref 4, .int sg] (bH3 ut st xt 1 sa (nI n :: xa) 1 sb (nI m :: xb)) (fun v h => v = none ∧ ∃ u' s' l', h = bH3 u' s' l' 1 sa (nI n :: xa) 1 sb (nI m :: xb) ∧ Bv (2 * N) u' s' l') := by
  intro fb lb _ _
  obtain ⟨b1, c1, d1, e1, f1, rfl⟩ := len5 hla
  obtain ⟨b2, c2, d2, e2, f2, rfl⟩ := len5 hlb
  obtain ⟨a0, b0, c0, d0, e0, f0, rfl⟩ := len6 ht
  have hsn : -sg = 1 ∨ -sg = -1 := by
    rcases hsg with rfl | rfl
    · exact Or.inr rfl
    · exact Or.inl (by decide)
  by_cases hnm : m ≤ n
  · have k1 := tk_p1 hnm (by omega)
    have k2 := tk_p2 hnm (by omega)
    refine blk_go ob_53 (fun _ => false) 170 ?_
    (conv => whnf); refine br_f (show ¬ (1 : Int32) < 1 by decide) ?_
    (conv => whnf); refine br_t (show (1 : Int32) ≤ Int32.ofNat 6 by decide) ?_
    (conv => whnf); refine br_f (show ¬ (1 : Int32) ≤ nI 0 by decide) ?_
    (conv => whnf); refine br_f (show ¬ (1 : Int32) ≤ nI 0 by decide) ?_
    (conv => whnf); refine ⟨0, rfl, show 0 < 6 by decide, show 6 < 2 ^ 31 by decide, ?_⟩
    (conv => whnf); refine br_f (show ¬ (1 : Int32) ≤ nI 0 by decide) ?_
    (conv => whnf); refine ⟨0, rfl, show 0 < 6 by decide, show 6 < 2 ^ 31 by decide, ?_⟩
    (conv => whnf); refine ⟨0, rfl, show 0 < 6 by decide, show 6 < 2 ^ 31 by decide, ?_⟩
    (conv => whnf); refine br_t (show (1 : Int32) ≤ nI 0 + Int32.ofInt 1 by decide) ?_
    (conv => whnf); refine br_f (fun z => z k1) ?_
    (conv => whnf); refine br_f (show ¬ (1 : Int32) ≤ nI 0 by decide) ?_
    (conv => whnf); refine br_t (k1) ?_
    (conv => whnf); refine br_f (show ¬ (1 : Int32) ≤ 0 by decide) ?_
    (conv => whnf); refine ⟨0, show (1 : Int32) - nI 1 = nI 0 by decide, show 0 < 6 by decide, show 6 < 2 ^ 31 by decide, ?_⟩
    (conv => whnf); refine ⟨fun h => ?_, fun h => ?_⟩
    · (conv => whnf); refine br_t (show ¬ (1 : Int32) = 0 by decide) ?_
      refine go_vret ((ob_53.1 274).trans rfl) rfl ⟨_, _, rfl, rfl, _, _, _, rfl, Bv.n (n := n - m) ?_ (by omega) rfl hsg k2⟩
      have h : ¬ (nI n - nI m - nI 0) &&& 1073741823 = 0 := h
      rw [k2] at h
      exact Nat.pos_of_ne_zero (fun z => h (by rw [z]; rfl))
    · (conv => whnf); refine br_t (show (1 : Int32) - nI 1 ≤ 0 by decide) ?_
      (conv => whnf); refine br_f (show ¬ ¬ (1 : Int32) - nI 1 = 0 by decide) ?_
      exact go_vret ((ob_53.1 274).trans rfl) rfl ⟨_, _, rfl, rfl, _, _, _, rfl, Bv.z rfl (by decide) rfl⟩
  · have hlt : n < m := by omega
    have k1 := tk_n1 hlt (by omega)
    have k3 := tk_n3 hlt (by omega)
    have k0 : ¬ ((nI n - nI m - nI 0).toUInt32 >>> ((nI 31).toUInt32 &&& Int32.toUInt32 31)).toInt32 = 0 := by rw [k1]; decide
    refine blk_go ob_53 (fun _ => false) 170 ?_
    (conv => whnf); refine br_f (show ¬ (1 : Int32) < 1 by decide) ?_
    (conv => whnf); refine br_t (show (1 : Int32) ≤ Int32.ofNat 6 by decide) ?_
    (conv => whnf); refine br_f (show ¬ (1 : Int32) ≤ nI 0 by decide) ?_
    (conv => whnf); refine br_f (show ¬ (1 : Int32) ≤ nI 0 by decide) ?_
    (conv => whnf); refine ⟨0, rfl, show 0 < 6 by decide, show 6 < 2 ^ 31 by decide, ?_⟩
    (conv => whnf); refine br_f (show ¬ (1 : Int32) ≤ nI 0 by decide) ?_
    (conv => whnf); refine ⟨0, rfl, show 0 < 6 by decide, show 6 < 2 ^ 31 by decide, ?_⟩
    (conv => whnf); refine ⟨0, rfl, show 0 < 6 by decide, show 6 < 2 ^ 31 by decide, ?_⟩
    (conv => whnf); refine br_t (show (1 : Int32) ≤ nI 0 + Int32.ofInt 1 by decide) ?_
    (conv => whnf); refine br_t (k0) ?_
    (conv => whnf); refine br_f (show ¬ (1 : Int32) ≤ nI 0 by decide) ?_
    (conv => whnf); refine br_f (k0) ?_
    (conv => whnf); refine ⟨0, rfl, show 0 < 6 by decide, show 6 < 2 ^ 31 by decide, ?_⟩
    (conv => whnf); refine ⟨0, rfl, show 0 < 6 by decide, show 6 < 2 ^ 31 by decide, ?_⟩
    (conv => whnf); refine br_t (show (1 : Int32) ≤ nI 0 + Int32.ofInt 1 by decide) ?_
    (conv => whnf); refine br_f (show ¬ (1 : Int32) ≤ 0 by decide) ?_
    (conv => whnf); refine ⟨0, show (1 : Int32) - nI 1 = nI 0 by decide, show 0 < 6 by decide, show 6 < 2 ^ 31 by decide, ?_⟩
    (conv => whnf); refine br_t (fun z => nI_ne0 (n := m - n) (by omega) (by omega) (k3.symm.trans z)) ?_
    (conv => whnf); refine br_t (show ¬ (1 : Int32) = 0 by decide) ?_
    exact go_vret ((ob_53.1 274).trans rfl) rfl ⟨_, _, rfl, rfl, _, _, _, rfl, Bv.n (n := m - n) (by omega) (by omega) rfl hsn k3⟩
set_option maxRecDepth 100000 in
set_option maxHeartbeats 4000000 in
theorem bg_plus6 {N : Nat} {ua sa ub sb : Int32} {xa xb : List Int32} {ut st : Int32} {xt : List Int32} (ht : xt.length = 6) (hN : 2 * N < 2 ^ 30) (ha : Bv N ua sa xa) (hb : Bv N ub sb xb) : cR 51 1 40 [.ref 0, .ref 2, .ref 4] (bH3 ut st xt ua sa xa ub sb xb) (fun v h => v = none ∧ ∃ u' s' l', h = bH3 u' s' l' ua sa xa ub sb xb ∧ Bv (2 * N) u' s' l') := by
  intro fb lb _ _
  have ha0 := ha
  have hb0 := hb
  obtain ⟨a1, b1, c1, d1, e1, f1, rfl, hca⟩ := ha.cs
  obtain ⟨a2, b2, c2, d2, e2, f2, rfl, hcb⟩ := hb.cs
  have hsa : sa = 0 ∨ sa = 1 ∨ sa = -1 := by
    rcases hca with ⟨-, z⟩ | ⟨_, _, _, _, z, _⟩
    · exact Or.inl z
    · exact Or.inr z
  have hsb : sb = 0 ∨ sb = 1 ∨ sb = -1 := by
    rcases hcb with ⟨-, z⟩ | ⟨_, _, _, _, z, _⟩
    · exact Or.inl z
    · exact Or.inr z
  rcases hsa with rfl | rfl | rfl
  · rcases hsb with rfl | rfl | rfl
    · refine blk_go ob_51 (fun _ => false) 60 ?_
      (conv => whnf); refine br_t (show (0 : Int32) = 0 by decide) ?_
      (conv => whnf); refine br_f (show ¬ (0 : Int32) * (0 : Int32) < 0 by decide) ?_
      refine vB (idx := 34) (mj := 52) (q := 3) (n := 11) [.ref 0, .ref 2, .ref 4, .int (0 : Int32)] ((ob_51.1 35).trans rfl) rfl rfl (Nat.le_of_ble_eq_true rfl) rfl (rfl) rfl rfl (bg_add6 ht hN ha0 hb0) (Nat.le_of_ble_eq_true rfl) (by omega) rfl (by omega) (Nat.le_of_ble_eq_true rfl) (fun v h1 e => ?_)
      obtain ⟨rfl, u', l', rfl, hl, hB⟩ := e
      refine blk_go ob_51 (fun _ => false) 30 ?_
      refine go_vret ((ob_51.1 48).trans rfl) rfl ⟨_, _, rfl, rfl, _, _, _, rfl, hl, ?_⟩
      rcases hB with ⟨z, -, -⟩ | ⟨z, hw, -⟩
      · exact Or.inl ⟨z, by decide⟩
      · exfalso
        have u1 : ua = 0 := by
          rcases hca with ⟨q, -⟩ | ⟨_, _, _, _, q, _⟩
          · exact q
          · exact absurd q (by decide)
        have u2 : ub = 0 := by
          rcases hcb with ⟨q, -⟩ | ⟨_, _, _, _, q, _⟩
          · exact q
          · exact absurd q (by decide)
        rcases hw with q | q
        · rw [u1] at q; exact absurd q (by decide)
        · rw [u2] at q; exact absurd q (by decide)
    · refine blk_go ob_51 (fun _ => false) 60 ?_
      (conv => whnf); refine br_t (show (0 : Int32) = 0 by decide) ?_
      (conv => whnf); refine br_f (show ¬ (0 : Int32) * (1 : Int32) < 0 by decide) ?_
      refine vB (idx := 34) (mj := 52) (q := 3) (n := 11) [.ref 0, .ref 2, .ref 4, .int (1 : Int32)] ((ob_51.1 35).trans rfl) rfl rfl (Nat.le_of_ble_eq_true rfl) rfl (rfl) rfl rfl (bg_add6 ht hN ha0 hb0) (Nat.le_of_ble_eq_true rfl) (by omega) rfl (by omega) (Nat.le_of_ble_eq_true rfl) (fun v h1 e => ?_)
      obtain ⟨rfl, u', l', rfl, hl, hB⟩ := e
      refine blk_go ob_51 (fun _ => false) 30 ?_
      refine go_vret ((ob_51.1 48).trans rfl) rfl ⟨_, _, rfl, rfl, _, _, _, rfl, hl, ?_⟩
      rcases hB with ⟨-, z, w⟩ | ⟨z, -, k, k0, k1, k2⟩
      · exfalso
        rcases hcb with ⟨-, q⟩ | ⟨n, n0, n1, q, -, -⟩
        · exact absurd q (by decide)
        · rw [w] at q; exact absurd q (by decide)
      · exact Or.inr ⟨k, k0, k1, z, by decide, k2⟩
    · refine blk_go ob_51 (fun _ => false) 60 ?_
      (conv => whnf); refine br_t (show (0 : Int32) = 0 by decide) ?_
      (conv => whnf); refine br_f (show ¬ (0 : Int32) * (-1 : Int32) < 0 by decide) ?_
      refine vB (idx := 34) (mj := 52) (q := 3) (n := 11) [.ref 0, .ref 2, .ref 4, .int (-1 : Int32)] ((ob_51.1 35).trans rfl) rfl rfl (Nat.le_of_ble_eq_true rfl) rfl (rfl) rfl rfl (bg_add6 ht hN ha0 hb0) (Nat.le_of_ble_eq_true rfl) (by omega) rfl (by omega) (Nat.le_of_ble_eq_true rfl) (fun v h1 e => ?_)
      obtain ⟨rfl, u', l', rfl, hl, hB⟩ := e
      refine blk_go ob_51 (fun _ => false) 30 ?_
      refine go_vret ((ob_51.1 48).trans rfl) rfl ⟨_, _, rfl, rfl, _, _, _, rfl, hl, ?_⟩
      rcases hB with ⟨-, z, w⟩ | ⟨z, -, k, k0, k1, k2⟩
      · exfalso
        rcases hcb with ⟨-, q⟩ | ⟨n, n0, n1, q, -, -⟩
        · exact absurd q (by decide)
        · rw [w] at q; exact absurd q (by decide)
      · exact Or.inr ⟨k, k0, k1, z, by decide, k2⟩
  · rcases hsb with rfl | rfl | rfl
    · refine blk_go ob_51 (fun _ => false) 60 ?_
      (conv => whnf); refine br_f (show ¬ (1 : Int32) = 0 by decide) ?_
      (conv => whnf); refine br_f (show ¬ (1 : Int32) * (0 : Int32) < 0 by decide) ?_
      refine vB (idx := 34) (mj := 52) (q := 3) (n := 11) [.ref 0, .ref 2, .ref 4, .int (1 : Int32)] ((ob_51.1 35).trans rfl) rfl rfl (Nat.le_of_ble_eq_true rfl) rfl (rfl) rfl rfl (bg_add6 ht hN ha0 hb0) (Nat.le_of_ble_eq_true rfl) (by omega) rfl (by omega) (Nat.le_of_ble_eq_true rfl) (fun v h1 e => ?_)
      obtain ⟨rfl, u', l', rfl, hl, hB⟩ := e
      refine blk_go ob_51 (fun _ => false) 30 ?_
      refine go_vret ((ob_51.1 48).trans rfl) rfl ⟨_, _, rfl, rfl, _, _, _, rfl, hl, ?_⟩
      rcases hB with ⟨-, z, w⟩ | ⟨z, -, k, k0, k1, k2⟩
      · exfalso
        rcases hca with ⟨-, q⟩ | ⟨n, n0, n1, q, -, -⟩
        · exact absurd q (by decide)
        · rw [z] at q; exact absurd q (by decide)
      · exact Or.inr ⟨k, k0, k1, z, by decide, k2⟩
    · refine blk_go ob_51 (fun _ => false) 60 ?_
      (conv => whnf); refine br_f (show ¬ (1 : Int32) = 0 by decide) ?_
      (conv => whnf); refine br_f (show ¬ (1 : Int32) * (1 : Int32) < 0 by decide) ?_
      refine vB (idx := 34) (mj := 52) (q := 3) (n := 11) [.ref 0, .ref 2, .ref 4, .int (1 : Int32)] ((ob_51.1 35).trans rfl) rfl rfl (Nat.le_of_ble_eq_true rfl) rfl (rfl) rfl rfl (bg_add6 ht hN ha0 hb0) (Nat.le_of_ble_eq_true rfl) (by omega) rfl (by omega) (Nat.le_of_ble_eq_true rfl) (fun v h1 e => ?_)
      obtain ⟨rfl, u', l', rfl, hl, hB⟩ := e
      refine blk_go ob_51 (fun _ => false) 30 ?_
      refine go_vret ((ob_51.1 48).trans rfl) rfl ⟨_, _, rfl, rfl, _, _, _, rfl, hl, ?_⟩
      rcases hB with ⟨-, z, w⟩ | ⟨z, -, k, k0, k1, k2⟩
      · exfalso
        rcases hca with ⟨-, q⟩ | ⟨n, n0, n1, q, -, -⟩
        · exact absurd q (by decide)
        · rw [z] at q; exact absurd q (by decide)
      · exact Or.inr ⟨k, k0, k1, z, by decide, k2⟩
    · refine blk_go ob_51 (fun _ => false) 60 ?_
      (conv => whnf); refine br_f (show ¬ (1 : Int32) = 0 by decide) ?_
      (conv => whnf); refine br_t (show (1 : Int32) * (-1 : Int32) < 0 by decide) ?_
      rcases hca with ⟨-, z⟩ | ⟨n, n0, n1, rfl, -, rfl⟩
      · exact absurd z (by decide)
      rcases hcb with ⟨-, z⟩ | ⟨m, m0, m1, rfl, -, rfl⟩
      · exact absurd z (by decide)
      refine vB (idx := 38) (mj := 53) (q := 3) (n := 13) [.ref 0, .ref 2, .ref 4, .int (1 : Int32)] ((ob_51.1 45).trans rfl) rfl rfl (Nat.le_of_ble_eq_true rfl) rfl (rfl) rfl rfl (bg_take6 ht hN n0 n1 m0 m1 rfl rfl (by decide)) (Nat.le_of_ble_eq_true rfl) (by omega) rfl (by omega) (Nat.le_of_ble_eq_true rfl) (fun v h1 e => ?_)
      obtain ⟨rfl, u', s', l', rfl, hB⟩ := e
      refine blk_go ob_51 (fun _ => false) 30 ?_
      exact go_vret ((ob_51.1 48).trans rfl) rfl ⟨_, _, rfl, rfl, _, _, _, rfl, hB⟩
  · rcases hsb with rfl | rfl | rfl
    · refine blk_go ob_51 (fun _ => false) 60 ?_
      (conv => whnf); refine br_f (show ¬ (-1 : Int32) = 0 by decide) ?_
      (conv => whnf); refine br_f (show ¬ (-1 : Int32) * (0 : Int32) < 0 by decide) ?_
      refine vB (idx := 34) (mj := 52) (q := 3) (n := 11) [.ref 0, .ref 2, .ref 4, .int (-1 : Int32)] ((ob_51.1 35).trans rfl) rfl rfl (Nat.le_of_ble_eq_true rfl) rfl (rfl) rfl rfl (bg_add6 ht hN ha0 hb0) (Nat.le_of_ble_eq_true rfl) (by omega) rfl (by omega) (Nat.le_of_ble_eq_true rfl) (fun v h1 e => ?_)
      obtain ⟨rfl, u', l', rfl, hl, hB⟩ := e
      refine blk_go ob_51 (fun _ => false) 30 ?_
      refine go_vret ((ob_51.1 48).trans rfl) rfl ⟨_, _, rfl, rfl, _, _, _, rfl, hl, ?_⟩
      rcases hB with ⟨-, z, w⟩ | ⟨z, -, k, k0, k1, k2⟩
      · exfalso
        rcases hca with ⟨-, q⟩ | ⟨n, n0, n1, q, -, -⟩
        · exact absurd q (by decide)
        · rw [z] at q; exact absurd q (by decide)
      · exact Or.inr ⟨k, k0, k1, z, by decide, k2⟩
    · refine blk_go ob_51 (fun _ => false) 60 ?_
      (conv => whnf); refine br_f (show ¬ (-1 : Int32) = 0 by decide) ?_
      (conv => whnf); refine br_t (show (-1 : Int32) * (1 : Int32) < 0 by decide) ?_
      rcases hca with ⟨-, z⟩ | ⟨n, n0, n1, rfl, -, rfl⟩
      · exact absurd z (by decide)
      rcases hcb with ⟨-, z⟩ | ⟨m, m0, m1, rfl, -, rfl⟩
      · exact absurd z (by decide)
      refine vB (idx := 38) (mj := 53) (q := 3) (n := 13) [.ref 0, .ref 2, .ref 4, .int (-1 : Int32)] ((ob_51.1 45).trans rfl) rfl rfl (Nat.le_of_ble_eq_true rfl) rfl (rfl) rfl rfl (bg_take6 ht hN n0 n1 m0 m1 rfl rfl (by decide)) (Nat.le_of_ble_eq_true rfl) (by omega) rfl (by omega) (Nat.le_of_ble_eq_true rfl) (fun v h1 e => ?_)
      obtain ⟨rfl, u', s', l', rfl, hB⟩ := e
      refine blk_go ob_51 (fun _ => false) 30 ?_
      exact go_vret ((ob_51.1 48).trans rfl) rfl ⟨_, _, rfl, rfl, _, _, _, rfl, hB⟩
    · refine blk_go ob_51 (fun _ => false) 60 ?_
      (conv => whnf); refine br_f (show ¬ (-1 : Int32) = 0 by decide) ?_
      (conv => whnf); refine br_f (show ¬ (-1 : Int32) * (-1 : Int32) < 0 by decide) ?_
      refine vB (idx := 34) (mj := 52) (q := 3) (n := 11) [.ref 0, .ref 2, .ref 4, .int (-1 : Int32)] ((ob_51.1 35).trans rfl) rfl rfl (Nat.le_of_ble_eq_true rfl) rfl (rfl) rfl rfl (bg_add6 ht hN ha0 hb0) (Nat.le_of_ble_eq_true rfl) (by omega) rfl (by omega) (Nat.le_of_ble_eq_true rfl) (fun v h1 e => ?_)
      obtain ⟨rfl, u', l', rfl, hl, hB⟩ := e
      refine blk_go ob_51 (fun _ => false) 30 ?_
      refine go_vret ((ob_51.1 48).trans rfl) rfl ⟨_, _, rfl, rfl, _, _, _, rfl, hl, ?_⟩
      rcases hB with ⟨-, z, w⟩ | ⟨z, -, k, k0, k1, k2⟩
      · exfalso
        rcases hca with ⟨-, q⟩ | ⟨n, n0, n1, q, -, -⟩
        · exact absurd q (by decide)
        · rw [z] at q; exact absurd q (by decide)
      · exact Or.inr ⟨k, k0, k1, z, by decide, k2⟩
