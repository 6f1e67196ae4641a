/-! a valid fraction of the fresh desk -/
set_option maxRecDepth 100000 in
set_option maxHeartbeats 8000000 in
theorem q_tail {fb lb t N a q r : Nat} {h : xH} (hfb : 1 ≤ fb) (hlb : 22 ≤ lb) (ht : t < 8) (hF : FW N (481 + 21 * t) h) (ma : a ∈ BL (481 + 21 * t)) (mq : q ∈ BL (481 + 21 * t)) (mr : r ∈ BL (481 + 21 * t)) (ra : r ≠ a) : gX fb lb 25 25 [(1, .ref a), (3, .ref q), (4, .ref r)] [] h 0 0 (fun x => ∃ v h1, x = (.inl v, h1, 0, 0) ∧ v = none ∧ FW N (481 + 21 * t) h1) := by
  refine blk_go ob_25 (fun _ => false) 10 ?_
  refine fC ht hF mq ((ob_25.1 26).trans rfl) rfl (Nat.le_of_ble_eq_true rfl) hfb (by omega) (fun h1 hF1 _ => ?_)
  refine blk_go ob_25 (fun _ => false) 10 ?_
  refine fA ht hF1 mr ma ra ((ob_25.1 32).trans rfl) rfl (Nat.le_of_ble_eq_true rfl) hfb hlb (fun h2 hF2 _ => ?_)
  refine blk_go ob_25 (fun _ => false) 10 ?_
  exact go_vret ((ob_25.1 35).trans rfl) rfl ⟨_, _, rfl, rfl, hF2⟩
set_option maxRecDepth 100000 in
set_option maxHeartbeats 8000000 in
theorem c_quot {t N a b q r : Nat} {h : xH} (ht : t < 8) (hN : N < 2 ^ 30) (hF : FW N (481 + 21 * t) h) (ma : a ∈ BL (481 + 21 * t)) (mb : b ∈ BL (481 + 21 * t)) (mq : q ∈ BL (481 + 21 * t)) (mr : r ∈ BL (481 + 21 * t)) (qa : q ≠ a) (qb : q ≠ b) (ra : r ≠ a) (rb : r ≠ b) (qr : q ≠ r) : cR 25 1 40 [.ref 35, .ref a, .ref b, .ref q, .ref r] h (fun v h' => v = none ∧ FW N (481 + 21 * t) h') := by
  intro fb lb hf hl
  obtain ⟨ua, sa, la, ha, hva⟩ := hF.1 a ma
  obtain ⟨ub, sb, xb, hb, hvb⟩ := hF.1 b mb
  obtain ⟨b0, b1, b2, b3, b4, b5, rfl, hcb⟩ := hvb.cs
  obtain ⟨a0, a1, a2, a3, a4, a5, rfl, hca⟩ := hva.cs
  rcases hcb with ⟨rfl, rfl⟩ | ⟨n, n0, n1, rfl, hsb, rfl⟩
  · refine blk_go ob_25 (fun pc => Nat.beq pc 25) 30 ?_
    (conv => whnf); rw [hb.1]
    (conv => whnf); rw [ha.1]
    (conv => whnf); refine br_t (show (0 : Int32) = 0 by decide) ?_
    refine go_few [(1, .ref a), (3, .ref q), (4, .ref r)] ((ob_25.1 25).trans rfl) (by first | (simp <;> rfl) | (simp [Value.category] <;> rfl) | simp [Value.category]) ?_
    exact q_tail hf (by omega) ht hF ma mq mr ra
  · rcases hca with ⟨rfl, rfl⟩ | ⟨m, m0, m1, rfl, hsa, rfl⟩
    · refine blk_go ob_25 (fun pc => Nat.beq pc 25) 30 ?_
      (conv => whnf); rw [hb.1]
      (conv => whnf); rw [ha.1]
      (conv => whnf); refine br_f (show ¬ (1 : Int32) = 0 by decide) ?_
      (conv => whnf); refine br_f (show ¬ 0 ≤ (0 : Int32) - 1 by decide) ?_
      refine go_few [(1, .ref a), (3, .ref q), (4, .ref r)] ((ob_25.1 25).trans rfl) (by first | (simp <;> rfl) | (simp [Value.category] <;> rfl) | simp [Value.category]) ?_
      exact q_tail hf (by omega) ht hF ma mq mr ra
    · refine blk_go ob_25 (fun _ => false) 40 ?_
      (conv => whnf); rw [hb.1]
      (conv => whnf); rw [ha.1]
      (conv => whnf); refine br_f (show ¬ (1 : Int32) = 0 by decide) ?_
      (conv => whnf); refine br_t (show 0 ≤ (1 : Int32) - 1 by decide) ?_
      (conv => whnf); refine br_f (show ¬ ¬ (1 : Int32) = nI 1 by decide) ?_
      refine fA ht hF mq ma qa ((ob_25.1 44).trans rfl) rfl (Nat.le_of_ble_eq_true rfl) hf (by omega) (fun h1 hF1 e1 => ?_)
      obtain ⟨u1, s1, l1, l2, -, -, -, e1⟩ := e1
      obtain ⟨na1, na2, na3⟩ := FW.ne ht ma mq qa
      obtain ⟨nb1, nb2, nb3⟩ := FW.ne ht mb mq qb
      obtain ⟨ma1, ma2, ma3⟩ := FW.ne ht ma mr ra
      obtain ⟨mb1, mb2, mb3⟩ := FW.ne ht mb mr rb
      obtain ⟨rq1, rq2, rq3⟩ := FW.ne ht mr mq qr
      have ha1 : bgA h1 a 1 sa [nI m, a1, a2, a3, a4, a5] := by rw [e1]; exact bgA_ne ha na1 na2 na3
      have hb1 : bgA h1 b 1 sb [nI n, b1, b2, b3, b4, b5] := by rw [e1]; exact bgA_ne hb nb1 nb2 nb3
      refine blk_go ob_25 (fun _ => false) 40 ?_
      (conv => whnf); rw [hb1.1]
      (conv => whnf); rw [hb1.2]
      (conv => whnf); refine ⟨0, rfl, show 0 < 6 by decide, show 6 < 2 ^ 31 by decide, ?_⟩
      obtain ⟨uq, sq, lq, hq1, hvq⟩ := hF1.1 q mq
      refine vb1 (idx := 60) (mj := 26) (q := 1) (n := 5) (w := [.int (nI n)]) ((ob_25.1 56).trans rfl) rfl rfl (Nat.le_of_ble_eq_true rfl) rfl hq1 rfl rfl (fun _ => rfl) (bg_div hN n0 n1 hvq) (Nat.le_of_ble_eq_true rfl) (by omega) rfl (by omega) (Nat.le_of_ble_eq_true rfl) (fun v h2 e => ?_)
      obtain ⟨k, u', s', l', rfl, hk, rfl, hB⟩ := e
      refine ⟨_, _, _, rfl, fun _ => rfl, ?_⟩
      have hF2 := FW.st ht hF1 mq hB
      have ha2 := bgA_ne (u := u') (s := s') (l := l') ha1 na1 na2 na3
      have hb2 := bgA_ne (u := u') (s := s') (l := l') hb1 nb1 nb2 nb3
      have hq2 := bgA_st (u := u') (s := s') (l := l') hq1
      generalize st2 h1 q u' s' l' = h2 at hF2 ha2 hb2 hq2 ⊢
      refine blk_go ob_25 (fun _ => false) 40 ?_
      refine fLg (n := k) ht hN hF2 mr hk (Or.inl (nI_l (by omega))) ((ob_25.1 60).trans rfl) rfl (Nat.le_of_ble_eq_true rfl) hf (by omega) (fun h3 hF3 e3 => ?_)
      obtain ⟨u3, s3, l3, hB3, e3⟩ := e3
      have ha3 : bgA h3 a 1 sa [nI m, a1, a2, a3, a4, a5] := by rw [e3]; exact bgA_ne ha2 ma1 ma2 ma3
      have hb3 : bgA h3 b 1 sb [nI n, b1, b2, b3, b4, b5] := by rw [e3]; exact bgA_ne hb2 mb1 mb2 mb3
      have hq3 : bgA h3 q u' s' l' := by rw [e3]; exact bgA_ne hq2 (Ne.symm rq1) rq3 rq2
      have hr3 : bgA h3 r u3 s3 l3 := by
        obtain ⟨_, _, _, z, _⟩ := hF2.1 r mr
        rw [e3]; exact bgA_st z
      refine blk_go ob_25 (fun _ => false) 40 ?_
      (conv => whnf); rw [ha3.1]
      (conv => whnf); rw [hb3.1]
      (conv => whnf); rw [hq3.1]
      refine vb1 (idx := 86) (mj := 32) (q := 0) (n := 1) (w := []) (u := u') (sg := sa * sb) (l := l') ((ob_25.1 207).trans rfl) rfl rfl (Nat.zero_le _) rfl (bgA_set hq3) rfl rfl (fun _ => rfl) (bg_trim hN (Bt.of hB (sg_mul hsa hsb))) (Nat.le_of_ble_eq_true rfl) (by omega) rfl (by omega) (Nat.le_of_ble_eq_true rfl) (fun v h4 e => ?_)
      obtain ⟨rfl, s4, rfl, hB4⟩ := e
      refine ⟨_, _, _, rfl, fun _ => rfl, ?_⟩
      have e4 : st2 (h3.set q (.inl (0, [.ref (q + 1), .int u', .int (sa * sb)]))) q u' s4 l' = st2 h3 q u' s4 l' := st2_set
      have hF4 := FW.st ht hF3 mq hB4
      have ha4 := bgA_ne (u := u') (s := s4) (l := l') ha3 na1 na2 na3
      have hr4 := bgA_ne (u := u') (s := s4) (l := l') hr3 rq1 rq2 rq3
      change gX fb lb 25 (207 + 3) _ _ (st2 (h3.set q (.inl (0, [.ref (q + 1), .int u', .int (sa * sb)]))) q u' s4 l') 0 0 _
      rw [e4]
      refine blk_go ob_25 (fun _ => false) 40 ?_
      (conv => whnf); rw [hr4.1]
      (conv => whnf); rw [ha4.1]
      (conv => whnf); rw [hr4.1]
      exact go_vret ((ob_25.1 224).trans rfl) rfl ⟨_, _, rfl, rfl, FW.set1 ht hF4 mr hr4 (hB3.mul hsa)⟩
set_option maxRecDepth 100000 in
set_option maxHeartbeats 8000000 in
theorem c_qd {t N a b q r : Nat} {h : xH} (ht : t < 8) (hN : 4 * N < 2 ^ 30) (hF : FW N (481 + 21 * t) h) (ma : a ∈ BL (481 + 21 * t)) (mb : b ∈ BL (481 + 21 * t)) (mq : q ∈ BL (481 + 21 * t)) (mr : r ∈ BL (481 + 21 * t)) (qa : q ≠ a) (qb : q ≠ b) (ra : r ≠ a) (rb : r ≠ b) (qr : q ≠ r) (q1 : q ≠ 38) : cR 101 3 90 [.ref 35, .ref a, .ref b, .ref q, .ref r] h (fun v h' => v = none ∧ FW (4 * N) (481 + 21 * t) h') := by
  intro fb lb hf hl
  refine blk_go ob_101 (fun _ => false) 20 ?_
  refine vB (idx := 90) (mj := 25) (q := 4) (n := 9) [.ref 35, .ref a, .ref b, .ref q, .ref r] ((ob_101.1 6).trans rfl) rfl rfl (Nat.le_of_ble_eq_true rfl) rfl (hF.2.1) rfl rfl (c_quot ht (by omega) hF ma mb mq mr qa qb ra rb qr) (Nat.le_of_ble_eq_true rfl) (by omega) rfl (by omega) (Nat.le_of_ble_eq_true rfl) (fun v h1 e => ?_)
  obtain ⟨rfl, hF1⟩ := e
  obtain ⟨ur, sr, lr, hr, hvr⟩ := hF1.1 r mr
  refine blk_go ob_101 (fun _ => false) 20 ?_
  (conv => whnf); rw [hr.1]
  (conv => whnf); refine ⟨fun hh => ?_, fun hh => ?_⟩
  · exact go_vret ((ob_101.1 34).trans rfl) rfl ⟨_, _, rfl, rfl, hF1.le (by omega)⟩
  · (conv => whnf); rw [hF1.2.1]
    obtain ⟨uq, sq, lq, hq, hvq⟩ := hF1.1 q mq
    obtain ⟨uo, so, lo, ho, hvo⟩ := hF1.1 38 (by simp [BL])
    refine vb2 (idx := 94) (mj := 56) (q := 2) (n := 4) (bvs := [.ref 0, .ref 0, .ref 2]) [.ref q, .ref q, .ref 38] ((ob_101.1 23).trans rfl) rfl rfl (Nat.le_of_ble_eq_true rfl) rfl hq ho (FW.ne ht (by simp [BL]) mq q1) rfl rfl (fun f h0 h2 => rvs_j (rv_r h0) (rvs_j (rv_r h0) (rvs_j (rv_r h2) rfl))) (bg_minus4 (by omega) hvq hvo) (Nat.le_of_ble_eq_true rfl) (by omega) rfl (by omega) (Nat.le_of_ble_eq_true rfl) (fun v h2 e => ?_)
    obtain ⟨rfl, u', s', l', rfl, hB⟩ := e
    refine ⟨_, _, _, rfl, fun _ => rfl, ?_⟩
    have hF2 := FW.st ht (hF1.le (show N ≤ 2 * N by omega)) mq hB
    generalize st2 h1 q u' s' l' = h2 at hF2 ⊢
    obtain ⟨ur, sr, lr, hr, hvr⟩ := hF2.1 r mr
    obtain ⟨ub, sb, xb, hb, hvb⟩ := hF2.1 b mb
    refine blk_go ob_101 (fun _ => false) 20 ?_
    refine vb2 (idx := 98) (mj := 51) (q := 2) (n := 4) (bvs := [.ref 0, .ref 0, .ref 2]) [.ref r, .ref r, .ref b] ((ob_101.1 31).trans rfl) rfl rfl (Nat.le_of_ble_eq_true rfl) rfl hr hb (FW.ne ht mb mr rb) rfl rfl (fun f h0 h2 => rvs_j (rv_r h0) (rvs_j (rv_r h0) (rvs_j (rv_r h2) rfl))) (bg_plus4 (by omega) hvr hvb) (Nat.le_of_ble_eq_true rfl) (by omega) rfl (by omega) (Nat.le_of_ble_eq_true rfl) (fun v h3 e => ?_)
    obtain ⟨rfl, u3, s3, l3, rfl, hB3⟩ := e
    refine ⟨_, _, _, rfl, fun _ => rfl, ?_⟩
    have hF3 := FW.st ht (hF2.le (show 2 * N ≤ 4 * N by omega)) mr (hB3.le (by omega))
    refine blk_go ob_101 (fun _ => false) 20 ?_
    exact go_vret ((ob_101.1 34).trans rfl) rfl ⟨_, _, rfl, rfl, hF3⟩
set_option maxRecDepth 100000 in
set_option maxHeartbeats 8000000 in
theorem cs_loop {fb lb c s N : Nat} {h : xH} {Q : yR → Prop} (hN : N < 2 ^ 30) (hq : ∀ n, n ≤ N → Q (.inl (some (.long (lN n))), h, c, s)) : ∀ (j i u v : Nat), i + j = 200 → u ≤ N → v ≤ N → gX fb lb 34 9 [(8, .int (nI i)), (6, .long (lN v)), (4, .long (lN u))] [] h c s Q := by
  intro j
  induction j with
  | zero =>
    intro i u v hi hu hv
    have hi : i = 200 := by omega
    subst hi
    refine blk_go ob_34 (fun pc => Nat.beq pc 9) 30 ?_
    (conv => whnf); refine br_t (show nI 200 ≤ nI 200 by decide) ?_
    exact go_lret ((ob_34.1 47).trans rfl) rfl (hq u hu)
  | succ j ih =>
    intro i u v hi hu hv
    refine blk_go ob_34 (fun pc => Nat.beq pc 9) 30 ?_
    (conv => whnf); refine br_f (nI_ge (a := i) (b := 200) (by omega) (by omega)) ?_
    (conv => whnf); refine ⟨fun h0 => ?_, fun h0 => ?_⟩
    · exact go_lret ((ob_34.1 47).trans rfl) rfl (hq u hu)
    · have hv0 : v ≠ 0 := fun z => h0 ((lg_cmp_eq _ _).mpr (by rw [z]; rfl))
      (conv => whnf); refine ⟨fun z => hv0 ((lN_np (n := v) (by omega)).mp (by rw [z]; decide)), ?_⟩
      refine go_few [(8, .int (nI i + Int32.ofInt 1)), (6, .long (lN u - lN u / lN v * lN v)), (4, .long (lN v))] ((ob_34.1 9).trans rfl) (by first | (simp <;> rfl) | (simp [Value.category] <;> rfl) | simp [Value.category]) ?_
      rw [n_inc, pk_lRem (by omega) (by omega) (by omega)]
      exact ih (i + 1) v (u % v) (by omega) hv (Nat.le_trans (Nat.mod_le _ _) hu)
set_option maxRecDepth 100000 in
set_option maxHeartbeats 8000000 in
theorem c_cs {N a b : Nat} {h : xH} (hN : N < 2 ^ 30) (ha : a ≤ N) (hb : b ≤ N) : cR 34 0 0 [.long (lN a), .long (lN b)] h (fun v h' => h' = h ∧ ∃ n, n ≤ N ∧ v = some (.long (lN n))) := by
  intro fb lb _ _
  refine blk_go ob_34 (fun pc => Nat.beq pc 9) 30 ?_
  refine go_few [(8, .int (nI 0)), (6, .long (lN b)), (4, .long (lN a))] ((ob_34.1 9).trans rfl) (by first | (simp <;> rfl) | (simp [Value.category] <;> rfl) | simp [Value.category]) ?_
  exact cs_loop hN (fun n hn => ⟨_, _, rfl, rfl, n, hn, rfl⟩) 200 0 a b (by omega) ha hb
set_option maxRecDepth 100000 in
set_option maxHeartbeats 8000000 in
theorem c_common {t N a : Nat} {h : xH} (ht : t < 8) (hN : N < 2 ^ 30) (hF : FW N (481 + 21 * t) h) (ma : a ∈ BL (481 + 21 * t)) (h1 : 59 ≠ a) : cR 24 1 60 [.ref 35, .ref a, .ref 40, .ref 40] h (fun v h' => v = none ∧ FW N (481 + 21 * t) h') := by
  intro fb lb hf hl
  refine blk_go ob_24 (fun _ => false) 20 ?_
  (conv => whnf); rw [hF.2.1]
  refine fA ht hF (b := 59) (by simp [BL]) ma h1 ((ob_24.1 5).trans rfl) rfl (Nat.le_of_ble_eq_true rfl) hf (by omega) (fun h1 hF1 _ => ?_)
  refine blk_go ob_24 (fun _ => false) 20 ?_
  (conv => whnf); rw [hF1.2.1]
  refine fA ht hF1 (b := 61) (a := 40) (by simp [BL]) (by simp [BL]) (by decide) ((ob_24.1 13).trans rfl) rfl (Nat.le_of_ble_eq_true rfl) hf (by omega) (fun h2 hF2 _ => ?_)
  obtain ⟨ux, sx, lx, hx, hvx⟩ := hF2.1 59 (by simp [BL])
  obtain ⟨uy, sy, ly, hy, hvy⟩ := hF2.1 61 (by simp [BL])
  obtain ⟨b0, b1, b2, b3, b4, b5, rfl, hcy⟩ := hvy.cs
  rcases hcy with ⟨rfl, rfl⟩ | ⟨n, n0, n1, rfl, hsy, rfl⟩
  · refine blk_go ob_24 (fun _ => false) 60 ?_
    (conv => whnf); refine br_f (show ¬ (1000000 : Int32) ≤ nI 0 by decide) ?_
    (conv => whnf); rw [hF2.2.1]
    (conv => whnf); rw [hy.1]
    (conv => whnf); refine br_t (show (0 : Int32) = 0 by decide) ?_
    (conv => whnf); rw [hF2.2.1]
    (conv => whnf); rw [hy.1]
    (conv => whnf); refine br_t (show (0 : Int32) = 0 by decide) ?_
    (conv => whnf); rw [hF2.2.1]
    refine fA ht hF2 (b := 40) (a := 59) (by simp [BL]) (by simp [BL]) (by decide) ((ob_24.1 151).trans rfl) rfl (Nat.le_of_ble_eq_true rfl) hf (by omega) (fun h3 hF3 e3 => ?_)
    obtain ⟨u1, s1, l1, l2, k1, k2, k3, e3⟩ := e3
    have hx3 : bgA h3 59 u1 s1 l1 := by rw [e3]; exact bgA_ne k1 (by decide) (by decide) (by decide)
    have hc3 : bgA h3 40 u1 s1 l2 := by
      obtain ⟨_, _, _, z, _⟩ := hF2.1 40 (by simp [BL])
      rw [e3]; exact bgA_st z
    refine blk_go ob_24 (fun _ => false) 20 ?_
    (conv => whnf); rw [hF3.2.1]
    (conv => whnf); rw [hx3.1]
    refine go_math (idx := 114) (q := 12) (w := (if 0 ≤ s1 then s1 else 0 - s1, [.ref 40])) ((ob_24.1 162).trans rfl) rfl rfl hf (by show 1 + 13 ≤ lb; omega) ?_
    refine blk_go ob_24 (fun _ => false) 20 ?_
    (conv => whnf); rw [hc3.1]
    exact go_vret ((ob_24.1 168).trans rfl) rfl ⟨_, _, rfl, rfl, FW.set1 ht hF3 (by simp [BL]) hc3 k3.abs⟩
  · have hy0 : ¬ sy = 0 := by rcases hsy with rfl | rfl <;> decide
    have hux : ¬ nI 2 < ux := by
      obtain ⟨_, q⟩ := hvx
      rcases q with ⟨rfl, _⟩ | ⟨_, _, _, rfl, _⟩ <;> decide
    refine blk_go ob_24 (fun _ => false) 60 ?_
    (conv => whnf); refine br_f (show ¬ (1000000 : Int32) ≤ nI 0 by decide) ?_
    (conv => whnf); rw [hF2.2.1]
    (conv => whnf); rw [hy.1]
    (conv => whnf); refine br_f (hy0) ?_
    (conv => whnf); rw [hF2.2.1]
    (conv => whnf); rw [hx.1]
    (conv => whnf); refine br_f (hux) ?_
    (conv => whnf); rw [hF2.2.1]
    (conv => whnf); rw [hy.1]
    (conv => whnf); refine br_t (show (1 : Int32) ≤ nI 2 by decide) ?_
    (conv => whnf); rw [hF2.2.1]
    (conv => whnf); rw [hy.1]
    (conv => whnf); refine br_f (hy0) ?_
    (conv => whnf); rw [hF2.2.1]
    refine fS hN hF2 (b := 59) (by simp [BL]) ((ob_24.1 127).trans rfl) rfl (Nat.le_of_ble_eq_true rfl) hf (by omega) (fun n1 hn1 => ?_)
    refine blk_go ob_24 (fun _ => false) 20 ?_
    (conv => whnf); rw [hF2.2.1]
    refine fS hN hF2 (b := 61) (by simp [BL]) ((ob_24.1 134).trans rfl) rfl (Nat.le_of_ble_eq_true rfl) hf (by omega) (fun n2 hn2 => ?_)
    refine blk_go ob_24 (fun _ => false) 20 ?_
    refine vS (idx := 110) (mj := 34) (q := 2) (n := 11) [.long (lN n1), .long (lN n2)] ((ob_24.1 137).trans rfl) rfl (Nat.le_of_ble_eq_true rfl) rfl rfl (c_cs hN hn1 hn2) (Nat.le_of_ble_eq_true rfl) (by omega) rfl (by omega) (Nat.le_of_ble_eq_true rfl) (fun v h1 e => ?_)
    obtain ⟨rfl, n3, hn3, rfl⟩ := e
    refine blk_go ob_24 (fun _ => false) 20 ?_
    refine fLg (n := n3) (b := 40) ht hN hF2 (by simp [BL]) hn3 (Or.inl rfl) ((ob_24.1 140).trans rfl) rfl (Nat.le_of_ble_eq_true rfl) hf (by omega) (fun h3 hF3 _ => ?_)
    refine blk_go ob_24 (fun _ => false) 20 ?_
    exact go_vret ((ob_24.1 168).trans rfl) rfl ⟨_, _, rfl, rfl, hF3⟩
set_option maxRecDepth 100000 in
set_option maxHeartbeats 8000000 in
theorem c_divAll {t N : Nat} {h : xH} (ht : t < 8) (hN : N < 2 ^ 30) (hF : FW N (481 + 21 * t) h) : cR 35 2 80 [.ref 35, .ref 284, .ref 40] h (fun v h' => v = none ∧ FW N (481 + 21 * t) h') := by
  intro fb lb hf hl
  refine blk_go ob_35 (fun _ => false) 20 ?_
  refine fO hF (b := 40) (by simp [BL]) ((ob_35.1 1).trans rfl) rfl (Nat.le_of_ble_eq_true rfl) (by omega) (by omega) (fun v hv => ?_)
  rcases hv with rfl | rfl
  · refine blk_go ob_35 (fun _ => false) 40 ?_
    (conv => whnf); refine br_t (show nI 0 = 0 by decide) ?_
    (conv => whnf); rw [hF.2.2.2.2.1]
    (conv => whnf); refine br_f (show ¬ (1 : Int32) < nI 0 by decide) ?_
    (conv => whnf); rw [hF.2.2.2.2.1]
    (conv => whnf); rw [hF.2.2.2.2.2.1]
    (conv => whnf); refine ⟨0, show nI 0 = nI 0 by decide, show 0 < 7 by decide, show 7 < 2 ^ 31 by decide, ?_⟩
    (conv => whnf); rw [hF.2.1]
    (conv => whnf); rw [hF.2.1]
    refine vB (idx := 90) (mj := 25) (q := 4) (n := 9) [.ref 35, .ref 286, .ref 40, .ref 36, .ref 63] ((ob_35.1 34).trans rfl) rfl rfl (Nat.le_of_ble_eq_true rfl) rfl (hF.2.1) rfl rfl (c_quot ht hN hF (by simp [BL]) (by simp [BL]) (by simp [BL]) (by simp [BL]) (by decide) (by decide) (by decide) (by decide) (by decide)) (Nat.le_of_ble_eq_true rfl) (by omega) rfl (by omega) (Nat.le_of_ble_eq_true rfl) (fun v h1 e => ?_)
    clear hF
    obtain ⟨rfl, hF⟩ := e
    refine blk_go ob_35 (fun _ => false) 40 ?_
    (conv => whnf); rw [hF.2.2.2.2.1]
    (conv => whnf); rw [hF.2.2.2.2.2.1]
    (conv => whnf); refine ⟨0, show nI 0 = nI 0 by decide, show 0 < 7 by decide, show 7 < 2 ^ 31 by decide, ?_⟩
    (conv => whnf); rw [hF.2.1]
    refine fA ht hF (b := 286) (a := 36) (by simp [BL]) (by simp [BL]) (by decide) ((ob_35.1 47).trans rfl) rfl (Nat.le_of_ble_eq_true rfl) (by omega) (by omega) (fun h5 hF _ => ?_)
    refine blk_go ob_35 (fun _ => false) 40 ?_
    (conv => whnf); rw [hF.2.2.2.2.1]
    (conv => whnf); refine br_f (show ¬ (1 : Int32) < nI 0 + Int32.ofInt 1 by decide) ?_
    (conv => whnf); rw [hF.2.2.2.2.1]
    (conv => whnf); rw [hF.2.2.2.2.2.1]
    (conv => whnf); refine ⟨1, show nI 0 + Int32.ofInt 1 = nI 1 by decide, show 1 < 7 by decide, show 7 < 2 ^ 31 by decide, ?_⟩
    (conv => whnf); rw [hF.2.1]
    (conv => whnf); rw [hF.2.1]
    refine vB (idx := 90) (mj := 25) (q := 4) (n := 9) [.ref 35, .ref 288, .ref 40, .ref 36, .ref 63] ((ob_35.1 34).trans rfl) rfl rfl (Nat.le_of_ble_eq_true rfl) rfl (hF.2.1) rfl rfl (c_quot ht hN hF (by simp [BL]) (by simp [BL]) (by simp [BL]) (by simp [BL]) (by decide) (by decide) (by decide) (by decide) (by decide)) (Nat.le_of_ble_eq_true rfl) (by omega) rfl (by omega) (Nat.le_of_ble_eq_true rfl) (fun v h1 e => ?_)
    clear hF
    obtain ⟨rfl, hF⟩ := e
    refine blk_go ob_35 (fun _ => false) 40 ?_
    (conv => whnf); rw [hF.2.2.2.2.1]
    (conv => whnf); rw [hF.2.2.2.2.2.1]
    (conv => whnf); refine ⟨1, show nI 0 + Int32.ofInt 1 = nI 1 by decide, show 1 < 7 by decide, show 7 < 2 ^ 31 by decide, ?_⟩
    (conv => whnf); rw [hF.2.1]
    refine fA ht hF (b := 288) (a := 36) (by simp [BL]) (by simp [BL]) (by decide) ((ob_35.1 47).trans rfl) rfl (Nat.le_of_ble_eq_true rfl) (by omega) (by omega) (fun h6 hF _ => ?_)
    refine blk_go ob_35 (fun _ => false) 40 ?_
    (conv => whnf); rw [hF.2.2.2.2.1]
    (conv => whnf); refine br_t (show (1 : Int32) < nI 0 + Int32.ofInt 1 + Int32.ofInt 1 by decide) ?_
    exact go_vret ((ob_35.1 56).trans rfl) rfl ⟨_, _, rfl, rfl, hF⟩
  · refine blk_go ob_35 (fun _ => false) 40 ?_
    (conv => whnf); refine br_f (show ¬ nI 1 = 0 by decide) ?_
    exact go_vret ((ob_35.1 7).trans rfl) rfl ⟨_, _, rfl, rfl, hF⟩
set_option maxRecDepth 100000 in
set_option maxHeartbeats 8000000 in
theorem c_lead {t N : Nat} {h : xH} (hF : FW N (481 + 21 * t) h) : cR 37 1 20 [.ref 284] h (fun v h' => v = some (.ref 288) ∧ h' = h) := by
  intro fb lb hf hl
  refine blk_go ob_37 (fun _ => false) 20 ?_
  (conv => whnf); rw [hF.2.2.2.2.1]
  (conv => whnf); rw [hF.2.2.2.2.1]
  refine go_math (idx := 33) (q := 10) (w := (if nI 0 < 1 then 1 else nI 0, [.ref 285])) ((ob_37.1 9).trans rfl) rfl rfl hf (by show 1 + 13 ≤ lb; omega) ?_
  refine blk_go ob_37 (fun _ => false) 20 ?_
  (conv => whnf); rw [hF.2.2.2.2.2.1]
  (conv => whnf); refine ⟨1, show (if nI 0 < (1 : Int32) then 1 else nI 0) = nI 1 by decide, show 1 < 7 by decide, show 7 < 2 ^ 31 by decide, ?_⟩
  exact go_aret ((ob_37.1 13).trans rfl) rfl (Or.inl ⟨_, rfl⟩) ⟨_, _, rfl, rfl, rfl⟩
set_option maxRecDepth 100000 in
set_option maxHeartbeats 8000000 in
theorem c_raise {t N : Nat} {h : xH} (ht : t < 8) (hN : N < 2 ^ 30) (hF : FW N (481 + 21 * t) h) : cR 36 2 50 [.ref 284] h (fun v h' => v = none ∧ FW N (481 + 21 * t) h') := by
  intro fb lb hf hl
  refine blk_go ob_36 (fun _ => false) 20 ?_
  refine vB (idx := 43) (mj := 37) (q := 0) (n := 1) [.ref 284] ((ob_36.1 1).trans rfl) rfl rfl (Nat.le_of_ble_eq_true rfl) rfl (hF.2.2.2.2.1) rfl rfl (c_lead hF) (Nat.le_of_ble_eq_true rfl) (by omega) rfl (by omega) (Nat.le_of_ble_eq_true rfl) (fun v h1 e => ?_)
  obtain ⟨rfl, rfl⟩ := e
  obtain ⟨u, s, l, hb, -⟩ := hF.1 288 (by simp [BL])
  refine blk_go ob_36 (fun _ => false) 40 ?_
  (conv => whnf); rw [hb.1]
  (conv => whnf); refine ⟨fun hh => ?_, fun hh => ?_⟩
  · exact go_vret ((ob_36.1 35).trans rfl) rfl ⟨_, _, rfl, rfl, hF⟩
  · clear hb
    (conv => whnf); rw [hF.2.2.2.2.1]
    (conv => whnf); refine br_f (show ¬ (1 : Int32) < nI 0 by decide) ?_
    (conv => whnf); rw [hF.2.2.2.2.1]
    (conv => whnf); rw [hF.2.2.2.2.2.1]
    (conv => whnf); refine ⟨0, show nI 0 = nI 0 by decide, show 0 < 7 by decide, show 7 < 2 ^ 31 by decide, ?_⟩
    refine fF ht hF (b := 286) (by simp [BL]) ((ob_36.1 26).trans rfl) rfl (Nat.le_of_ble_eq_true rfl) (by omega) (by omega) (fun h5 hF _ => ?_)
    refine blk_go ob_36 (fun _ => false) 40 ?_
    (conv => whnf); rw [hF.2.2.2.2.1]
    (conv => whnf); refine br_f (show ¬ (1 : Int32) < nI 0 + Int32.ofInt 1 by decide) ?_
    (conv => whnf); rw [hF.2.2.2.2.1]
    (conv => whnf); rw [hF.2.2.2.2.2.1]
    (conv => whnf); refine ⟨1, show nI 0 + Int32.ofInt 1 = nI 1 by decide, show 1 < 7 by decide, show 7 < 2 ^ 31 by decide, ?_⟩
    refine fF ht hF (b := 288) (by simp [BL]) ((ob_36.1 26).trans rfl) rfl (Nat.le_of_ble_eq_true rfl) (by omega) (by omega) (fun h6 hF _ => ?_)
    refine blk_go ob_36 (fun _ => false) 40 ?_
    (conv => whnf); rw [hF.2.2.2.2.1]
    (conv => whnf); refine br_t (show (1 : Int32) < nI 0 + Int32.ofInt 1 + Int32.ofInt 1 by decide) ?_
    exact go_vret ((ob_36.1 35).trans rfl) rfl ⟨_, _, rfl, rfl, hF⟩
set_option maxRecDepth 100000 in
set_option maxHeartbeats 8000000 in
theorem mp62 {fb lb t N : Nat} {h : xH} (hfb : 3 ≤ fb) (hlb : 110 ≤ lb) (ht : t < 8) (hN : N < 2 ^ 30) (hF : FW N (481 + 21 * t) h) : gX fb lb 21 62 [(0, .ref 35), (1, .ref 284)] [] h 0 0 (fun x => ∃ v h1, x = (.inl v, h1, 0, 0) ∧ v = none ∧ FW N (481 + 21 * t) h1) := by
  refine blk_go ob_21 (fun _ => false) 20 ?_
  (conv => whnf); rw [hF.2.1]
  refine vB (idx := 134) (mj := 35) (q := 2) (n := 4) [.ref 35, .ref 284, .ref 40] ((ob_21.1 68).trans rfl) rfl rfl (Nat.le_of_ble_eq_true rfl) rfl (hF.2.1) rfl rfl (c_divAll ht hN hF) (Nat.le_of_ble_eq_true rfl) (by omega) rfl (by omega) (Nat.le_of_ble_eq_true rfl) (fun v h1 e => ?_)
  clear hF
  obtain ⟨rfl, hF⟩ := e
  refine blk_go ob_21 (fun _ => false) 20 ?_
  refine vB (idx := 138) (mj := 36) (q := 0) (n := 2) [.ref 284] ((ob_21.1 72).trans rfl) rfl rfl (Nat.le_of_ble_eq_true rfl) rfl (hF.2.2.2.2.1) rfl rfl (c_raise ht hN hF) (Nat.le_of_ble_eq_true rfl) (by omega) rfl (by omega) (Nat.le_of_ble_eq_true rfl) (fun v h1 e => ?_)
  clear hF
  obtain ⟨rfl, hF⟩ := e
  exact go_vret ((ob_21.1 75).trans rfl) rfl ⟨_, _, rfl, rfl, hF⟩
set_option maxRecDepth 100000 in
set_option maxHeartbeats 8000000 in
theorem mp12_m {fb lb t N : Nat} {h : xH} (hfb : 3 ≤ fb) (hlb : 110 ≤ lb) (ht : t < 8) (hN : N < 2 ^ 30) (hF : FW N (481 + 21 * t) h) : gX fb lb 21 12 [(2, .int (nI 0 + Int32.ofInt (-1))), (0, .ref 35), (1, .ref 284)] [] h 0 0 (fun x => ∃ v h1, x = (.inl v, h1, 0, 0) ∧ v = none ∧ FW N (481 + 21 * t) h1) := by
  refine blk_go ob_21 (fun pc => Nat.beq pc 62) 20 ?_
  (conv => whnf); refine br_t (show nI 0 + Int32.ofInt (-1) < 0 by decide) ?_
  refine go_few [(0, .ref 35), (1, .ref 284)] ((ob_21.1 62).trans rfl) (by first | (simp <;> rfl) | (simp [Value.category] <;> rfl) | simp [Value.category]) ?_
  exact mp62 hfb hlb ht hN hF
set_option maxRecDepth 100000 in
set_option maxHeartbeats 8000000 in
theorem mp12_0 {fb lb t N : Nat} {h : xH} (hfb : 3 ≤ fb) (hlb : 110 ≤ lb) (ht : t < 8) (hN : N < 2 ^ 30) (hF : FW N (481 + 21 * t) h) : gX fb lb 21 12 [(2, .int (nI 0)), (0, .ref 35), (1, .ref 284)] [] h 0 0 (fun x => ∃ v h1, x = (.inl v, h1, 0, 0) ∧ v = none ∧ FW N (481 + 21 * t) h1) := by
  refine blk_go ob_21 (fun pc => Nat.beq pc 12 || Nat.beq pc 62) 20 ?_
  (conv => whnf); refine br_f (show ¬ nI 0 < 0 by decide) ?_
  (conv => whnf); rw [hF.2.1]
  refine fO hF (b := 40) (by simp [BL]) ((ob_21.1 20).trans rfl) rfl (Nat.le_of_ble_eq_true rfl) (by omega) (by omega) (fun v hv => ?_)
  rcases hv with rfl | rfl
  · obtain ⟨u, s, l, hb, -⟩ := hF.1 286 (by simp [BL])
    refine blk_go ob_21 (fun pc => Nat.beq pc 12 || Nat.beq pc 62) 30 ?_
    (conv => whnf); refine br_f (show ¬ ¬ nI 0 = 0 by decide) ?_
    (conv => whnf); rw [hF.2.2.2.2.1]
    (conv => whnf); rw [hF.2.2.2.2.2.1]
    (conv => whnf); refine ⟨0, rfl, show 0 < 7 by decide, show 7 < 2 ^ 31 by decide, ?_⟩
    (conv => whnf); rw [hb.1]
    (conv => whnf); refine ⟨fun hh => ?_, fun hh => ?_⟩
    · refine go_few [(2, .int (nI 0 + Int32.ofInt (-1))), (0, .ref 35), (1, .ref 284)] ((ob_21.1 12).trans rfl) (by first | (simp <;> rfl) | (simp [Value.category] <;> rfl) | simp [Value.category]) ?_
      exact mp12_m hfb hlb ht hN hF
    · (conv => whnf); rw [hF.2.2.2.2.1]
      (conv => whnf); rw [hF.2.2.2.2.2.1]
      (conv => whnf); refine ⟨0, rfl, show 0 < 7 by decide, show 7 < 2 ^ 31 by decide, ?_⟩
      (conv => whnf); rw [hF.2.1]
      (conv => whnf); rw [hF.2.1]
      refine vB (idx := 130) (mj := 24) (q := 3) (n := 6) [.ref 35, .ref 286, .ref 40, .ref 40] ((ob_21.1 53).trans rfl) rfl rfl (Nat.le_of_ble_eq_true rfl) rfl (hF.2.1) rfl rfl (c_common ht hN hF (by simp [BL]) (by decide)) (Nat.le_of_ble_eq_true rfl) (by omega) rfl (by omega) (Nat.le_of_ble_eq_true rfl) (fun v h1 e => ?_)
      clear hF hb
      obtain ⟨rfl, hF⟩ := e
      refine blk_go ob_21 (fun pc => Nat.beq pc 12) 20 ?_
      refine go_few [(2, .int (nI 0 + Int32.ofInt (-1))), (0, .ref 35), (1, .ref 284)] ((ob_21.1 12).trans rfl) (by first | (simp <;> rfl) | (simp [Value.category] <;> rfl) | simp [Value.category]) ?_
      exact mp12_m hfb hlb ht hN hF
  · refine blk_go ob_21 (fun pc => Nat.beq pc 12 || Nat.beq pc 62) 30 ?_
    (conv => whnf); refine br_t (show ¬ nI 1 = 0 by decide) ?_
    refine go_few [(0, .ref 35), (1, .ref 284)] ((ob_21.1 62).trans rfl) (by first | (simp <;> rfl) | (simp [Value.category] <;> rfl) | simp [Value.category]) ?_
    exact mp62 hfb hlb ht hN hF
set_option maxRecDepth 100000 in
set_option maxHeartbeats 8000000 in
theorem mp12_1 {fb lb t N : Nat} {h : xH} (hfb : 3 ≤ fb) (hlb : 110 ≤ lb) (ht : t < 8) (hN : N < 2 ^ 30) (hF : FW N (481 + 21 * t) h) : gX fb lb 21 12 [(2, .int (nI 1)), (0, .ref 35), (1, .ref 284)] [] h 0 0 (fun x => ∃ v h1, x = (.inl v, h1, 0, 0) ∧ v = none ∧ FW N (481 + 21 * t) h1) := by
  refine blk_go ob_21 (fun pc => Nat.beq pc 12 || Nat.beq pc 62) 20 ?_
  (conv => whnf); refine br_f (show ¬ nI 1 < 0 by decide) ?_
  (conv => whnf); rw [hF.2.1]
  refine fO hF (b := 40) (by simp [BL]) ((ob_21.1 20).trans rfl) rfl (Nat.le_of_ble_eq_true rfl) (by omega) (by omega) (fun v hv => ?_)
  rcases hv with rfl | rfl
  · obtain ⟨u, s, l, hb, -⟩ := hF.1 288 (by simp [BL])
    refine blk_go ob_21 (fun pc => Nat.beq pc 12 || Nat.beq pc 62) 30 ?_
    (conv => whnf); refine br_f (show ¬ ¬ nI 0 = 0 by decide) ?_
    (conv => whnf); rw [hF.2.2.2.2.1]
    (conv => whnf); rw [hF.2.2.2.2.2.1]
    (conv => whnf); refine ⟨1, rfl, show 1 < 7 by decide, show 7 < 2 ^ 31 by decide, ?_⟩
    (conv => whnf); rw [hb.1]
    (conv => whnf); refine ⟨fun hh => ?_, fun hh => ?_⟩
    · refine go_few [(2, .int (nI 1 + Int32.ofInt (-1))), (0, .ref 35), (1, .ref 284)] ((ob_21.1 12).trans rfl) (by first | (simp <;> rfl) | (simp [Value.category] <;> rfl) | simp [Value.category]) ?_
      rw [n_dec]
      exact mp12_0 hfb hlb ht hN hF
    · (conv => whnf); rw [hF.2.2.2.2.1]
      (conv => whnf); rw [hF.2.2.2.2.2.1]
      (conv => whnf); refine ⟨1, rfl, show 1 < 7 by decide, show 7 < 2 ^ 31 by decide, ?_⟩
      (conv => whnf); rw [hF.2.1]
      (conv => whnf); rw [hF.2.1]
      refine vB (idx := 130) (mj := 24) (q := 3) (n := 6) [.ref 35, .ref 288, .ref 40, .ref 40] ((ob_21.1 53).trans rfl) rfl rfl (Nat.le_of_ble_eq_true rfl) rfl (hF.2.1) rfl rfl (c_common ht hN hF (by simp [BL]) (by decide)) (Nat.le_of_ble_eq_true rfl) (by omega) rfl (by omega) (Nat.le_of_ble_eq_true rfl) (fun v h1 e => ?_)
      clear hF hb
      obtain ⟨rfl, hF⟩ := e
      refine blk_go ob_21 (fun pc => Nat.beq pc 12) 20 ?_
      refine go_few [(2, .int (nI 1 + Int32.ofInt (-1))), (0, .ref 35), (1, .ref 284)] ((ob_21.1 12).trans rfl) (by first | (simp <;> rfl) | (simp [Value.category] <;> rfl) | simp [Value.category]) ?_
      rw [n_dec]
      exact mp12_0 hfb hlb ht hN hF
  · refine blk_go ob_21 (fun pc => Nat.beq pc 12 || Nat.beq pc 62) 30 ?_
    (conv => whnf); refine br_t (show ¬ nI 1 = 0 by decide) ?_
    refine go_few [(0, .ref 35), (1, .ref 284)] ((ob_21.1 62).trans rfl) (by first | (simp <;> rfl) | (simp [Value.category] <;> rfl) | simp [Value.category]) ?_
    exact mp62 hfb hlb ht hN hF
set_option maxRecDepth 100000 in
set_option maxHeartbeats 8000000 in
theorem c_mp {t N : Nat} {h : xH} (ht : t < 8) (hN : N < 2 ^ 30) (hF : FW N (481 + 21 * t) h) : cR 21 3 110 [.ref 35, .ref 284] h (fun v h' => v = none ∧ FW N (481 + 21 * t) h') := by
  intro fb lb hf hl
  refine blk_go ob_21 (fun _ => false) 20 ?_
  (conv => whnf); rw [hF.2.1]
  refine fC ht hF (b := 40) (by simp [BL]) ((ob_21.1 4).trans rfl) rfl (Nat.le_of_ble_eq_true rfl) (by omega) (by omega) (fun h1 hF _ => ?_)
  refine blk_go ob_21 (fun pc => Nat.beq pc 12) 20 ?_
  (conv => whnf); rw [hF.2.2.2.2.1]
  refine go_few [(2, .int (nI 1)), (0, .ref 35), (1, .ref 284)] ((ob_21.1 12).trans rfl) (by first | (simp <;> rfl) | (simp [Value.category] <;> rfl) | simp [Value.category]) ?_
  exact mp12_1 hf hl ht hN hF
set_option maxRecDepth 100000 in
set_option maxHeartbeats 8000000 in
theorem bp49 {fb lb t N : Nat} {h : xH} {lo he bu ex : Int32} (hfb : 3 ≤ fb) (hlb : 90 ≤ lb) (ht : t < 8) (h1N : 1 ≤ N) (hN : N < 2 ^ 30) (hF : FW N (481 + 21 * t) h) (h3 : h[283]? = some (rM (nI 0) lo ex he bu)) : gX fb lb 69 49 [(0, .ref 283)] [] h 0 0 (fun x => ∃ v h1, x = (.inl v, h1, 0, 0) ∧ v = none ∧ FW N (481 + 21 * t) h1) := by
  refine blk_go ob_69 (fun _ => false) 20 ?_
  (conv => whnf); rw [h3]
  (conv => whnf); rw [h3]
  refine fA ht hF (b := 302) (a := 300) (by simp [BL]) (by simp [BL]) (by decide) ((ob_69.1 57).trans rfl) rfl (Nat.le_of_ble_eq_true rfl) (by omega) (by omega) (fun h4 hF4 e4 => ?_)
  obtain ⟨u1, s1, l1, l2, -, -, -, e4⟩ := e4
  have h5 : h4[283]? = some (rM (nI 0) lo ex he bu) := by rw [e4]; exact FW.k ht (by simp [BL]) (by simp [fX]) h3
  refine blk_go ob_69 (fun pc => Nat.beq pc 65) 20 ?_
  (conv => whnf); rw [h5]
  (conv => whnf); refine ⟨⟨rfl, rfl⟩, ?_⟩
  have hF5 := FW.rm ht hF4 (nI 0) lo (nI 1) he bu (Or.inr rfl)
  have h6 : (h4.set 283 (rM (nI 0) lo (nI 1) he bu))[283]? = some (rM (nI 0) lo (nI 1) he bu) := List.getElem?_set_self (List.getElem?_eq_some_iff.mp h5).1
  change gX fb lb 69 65 [(0, .ref 283)] [] (h4.set 283 (rM (nI 0) lo (nI 1) he bu)) 0 0 _
  generalize h4.set 283 (rM (nI 0) lo (nI 1) he bu) = h7 at hF5 h6 ⊢
  refine blk_go ob_69 (fun _ => false) 20 ?_
  (conv => whnf); rw [h6]
  (conv => whnf); rw [hF5.2.2.2.2.1]
  (conv => whnf); rw [hF5.2.2.2.2.2.1]
  (conv => whnf); refine ⟨0, rfl, show 0 < 7 by decide, show 7 < 2 ^ 31 by decide, ?_⟩
  (conv => whnf); rw [h6]
  refine fA ht hF5 (b := 286) (a := 300) (by simp [BL]) (by simp [BL]) (by decide) ((ob_69.1 78).trans rfl) rfl (Nat.le_of_ble_eq_true rfl) (by omega) (by omega) (fun h8 hF8 e8 => ?_)
  obtain ⟨u1, s1, l1, l2, -, -, -, e8⟩ := e8
  have h9 : h8[283]? = some (rM (nI 0) lo (nI 1) he bu) := by rw [e8]; exact FW.k ht (by simp [BL]) (by simp [fX]) h6
  refine blk_go ob_69 (fun _ => false) 20 ?_
  (conv => whnf); rw [h9]
  (conv => whnf); rw [hF8.2.2.2.2.1]
  (conv => whnf); rw [hF8.2.2.2.2.2.1]
  (conv => whnf); refine ⟨0, rfl, show 0 < 7 by decide, show 7 < 2 ^ 31 by decide, ?_⟩
  refine fF ht hF8 (b := 286) (by simp [BL]) ((ob_69.1 90).trans rfl) rfl (Nat.le_of_ble_eq_true rfl) (by omega) (by omega) (fun h10 hF10 e10 => ?_)
  obtain ⟨u1, s1, l1, e10⟩ := e10
  have h11 : h10[283]? = some (rM (nI 0) lo (nI 1) he bu) := by rw [e10]; exact FW.k ht (by simp [BL]) (by simp [fX]) h9
  refine blk_go ob_69 (fun _ => false) 20 ?_
  (conv => whnf); rw [h11]
  (conv => whnf); rw [hF10.2.2.2.2.1]
  (conv => whnf); rw [hF10.2.2.2.2.2.1]
  (conv => whnf); refine ⟨1, rfl, show 1 < 7 by decide, show 7 < 2 ^ 31 by decide, ?_⟩
  (conv => whnf); rw [h11]
  refine fP ht h1N hN hF10 (b := 288) (by simp [BL]) ((ob_69.1 106).trans rfl) rfl (Nat.le_of_ble_eq_true rfl) (by omega) (by omega) (fun h12 hF12 e12 => ?_)
  obtain ⟨u1, s1, l1, e12⟩ := e12
  have h13 : h12[283]? = some (rM (nI 0) lo (nI 1) he bu) := by rw [e12]; exact FW.k ht (by simp [BL]) (by simp [fX]) h11
  refine blk_go ob_69 (fun pc => Nat.beq pc 117) 20 ?_
  (conv => whnf); rw [h13]
  (conv => whnf); rw [hF12.2.2.2.2.1]
  change gX fb lb 69 117 _ [] (h12.set 284 (.inl (1, [.ref 285, .int 1]))) 0 0 _
  rw [set_same hF12.2.2.2.2.1]
  exact go_vret ((ob_69.1 117).trans rfl) rfl ⟨_, _, rfl, rfl, hF12⟩
set_option maxRecDepth 100000 in
set_option maxHeartbeats 8000000 in
theorem c_bp {t N : Nat} {h : xH} (ht : t < 8) (h1N : 1 ≤ N) (hN : N < 2 ^ 30) (hF : FW N (481 + 21 * t) h) : cR 69 3 90 [.ref 283, .ref 121, .int (nI 0)] h (fun v h' => v = none ∧ FW N (481 + 21 * t) h') := by
  intro fb lb hf hl
  obtain ⟨e, lo, ex, he, bu, h3, hex⟩ := hF.2.2.2.2.2.2.2.2.1
  refine blk_go ob_69 (fun _ => false) 20 ?_
  (conv => whnf); rw [h3]
  refine fA ht hF (b := 300) (a := 121) (by simp [BL]) (by simp [BL]) (by decide) ((ob_69.1 5).trans rfl) rfl (Nat.le_of_ble_eq_true rfl) (by omega) (by omega) (fun h4 hF4 e4 => ?_)
  obtain ⟨u1, s1, l1, l2, -, -, -, e4⟩ := e4
  have h5 : h4[283]? = some (rM e lo ex he bu) := by rw [e4]; exact FW.k ht (by simp [BL]) (by simp [fX]) h3
  clear hF e4
  refine blk_go ob_69 (fun _ => false) 20 ?_
  (conv => whnf); rw [h5]
  refine fZ hN hF4 (b := 300) (by simp [BL]) ((ob_69.1 13).trans rfl) rfl (Nat.le_of_ble_eq_true rfl) (by omega) (by omega) (fun k hk => ?_)
  refine go_math (idx := 68) (q := 11) (w := (nI 0, [])) ((ob_69.1 16).trans rfl) rfl (by
    show some ((if nI k < nI 0 then nI k else nI 0), ([] : List Value)) = _
    rw [if_neg (show ¬ nI k < nI 0 from nI_nlt (Nat.zero_le _) (by omega))]) (by omega) (by show 0 + 13 ≤ lb; omega) ?_
  refine blk_go ob_69 (fun _ => false) 20 ?_
  (conv => whnf); rw [h5]
  refine fD hF4 (b := 300) (by simp [BL]) ((ob_69.1 25).trans rfl) rfl (Nat.le_of_ble_eq_true rfl) (by omega) (by omega) ?_
  obtain ⟨u, s, l, hb, -⟩ := hF4.1 300 (by simp [BL])
  refine blk_go ob_69 (fun pc => Nat.beq pc 49) 20 ?_
  (conv => whnf); rw [h5]
  (conv => whnf); rw [hb.1]
  (conv => whnf); refine ⟨fun hh => ?_, fun hh => ?_⟩
  · (conv => whnf); rw [h5]
    refine go_few [(0, .ref 283)] ((ob_69.1 49).trans rfl) (by first | (simp <;> rfl) | (simp [Value.category] <;> rfl) | simp [Value.category]) ?_
    have hlt := (List.getElem?_eq_some_iff.mp h5).1
    exact bp49 hf hl ht h1N hN (FW.rm ht hF4 (nI 0) lo ex he bu hex) (List.getElem?_set_self hlt)
  · (conv => whnf); rw [h5]
    refine go_few [(0, .ref 283)] ((ob_69.1 49).trans rfl) (by first | (simp <;> rfl) | (simp [Value.category] <;> rfl) | simp [Value.category]) ?_
    have hlt := (List.getElem?_eq_some_iff.mp h5).1
    exact bp49 hf hl ht h1N hN (FW.rm ht hF4 (nI 0) lo ex he bu hex) (List.getElem?_set_self hlt)
set_option maxRecDepth 100000 in
set_option maxHeartbeats 8000000 in
theorem c_pl {t N : Nat} {h : xH} (ht : t < 8) (h1N : 1 ≤ N) (hN : 8 * N < 2 ^ 30) (hF : FW N (481 + 21 * t) h) : cR 100 4 140 [.ref 104, .ref 283] h (fun v h' => v = none ∧ FW (8 * N) (481 + 21 * t) h') := by
  intro fb lb hf hl
  obtain ⟨e0, lo, ex, he, bu, h3, hex⟩ := hF.2.2.2.2.2.2.2.2.1
  refine blk_go ob_100 (fun _ => false) 20 ?_
  (conv => whnf); rw [hF.2.2.1]
  (conv => whnf); rw [h3]
  (conv => whnf); rw [hF.2.2.2.2.1]
  (conv => whnf); rw [hF.2.2.2.2.2.1]
  (conv => whnf); refine ⟨0, rfl, show 0 < 7 by decide, show 7 < 2 ^ 31 by decide, ?_⟩
  refine fA ht hF (b := 117) (a := 286) (by simp [BL]) (by simp [BL]) (by decide) ((ob_100.1 13).trans rfl) rfl (Nat.le_of_ble_eq_true rfl) (by omega) (by omega) (fun h4 hF4 e4 => ?_)
  clear hF h3 e4
  refine blk_go ob_100 (fun _ => false) 20 ?_
  (conv => whnf); rw [hF4.2.2.1]
  refine fF ht hF4 (b := 117) (by simp [BL]) ((ob_100.1 20).trans rfl) rfl (Nat.le_of_ble_eq_true rfl) (by omega) (by omega) (fun h5 hF5 e5 => ?_)
  clear hF4 e5
  obtain ⟨e0, lo, ex, he, bu, h3, hex⟩ := hF5.2.2.2.2.2.2.2.2.1
  refine blk_go ob_100 (fun _ => false) 30 ?_
  (conv => whnf); rw [hF5.2.2.1]
  (conv => whnf); rw [hF5.2.2.1]
  (conv => whnf); rw [h3]
  (conv => whnf); rw [hF5.2.2.2.2.1]
  (conv => whnf); rw [hF5.2.2.2.2.2.1]
  (conv => whnf); refine ⟨1, rfl, show 1 < 7 by decide, show 7 < 2 ^ 31 by decide, ?_⟩
  (conv => whnf); rw [hF5.2.2.1]
  (conv => whnf); rw [hF5.2.2.1]
  refine vB (idx := 162) (mj := 101) (q := 4) (n := 5) [.ref 35, .ref 117, .ref 288, .ref 121, .ref 113] ((ob_100.1 48).trans rfl) rfl rfl (Nat.le_of_ble_eq_true rfl) rfl (hF5.2.1) rfl rfl (c_qd ht (by omega) hF5 (by simp [BL]) (by simp [BL]) (by simp [BL]) (by simp [BL]) (by decide) (by decide) (by decide) (by decide) (by decide) (by decide)) (Nat.le_of_ble_eq_true rfl) (by omega) rfl (by omega) (Nat.le_of_ble_eq_true rfl) (fun v h1 e => ?_)
  clear hF5 h3
  obtain ⟨rfl, hF5⟩ := e
  obtain ⟨e0, lo, ex, he, bu, h3, hex⟩ := hF5.2.2.2.2.2.2.2.2.1
  obtain ⟨u, s, l, hb, -⟩ := hF5.1 113 (by simp [BL])
  refine blk_go ob_100 (fun _ => false) 30 ?_
  (conv => whnf); rw [hF5.2.2.1]
  (conv => whnf); rw [hb.1]
  (conv => whnf); refine ⟨fun hh => ?_, fun hh => ?_⟩
  · (conv => whnf); rw [h3]
    (conv => whnf); rw [hF5.2.2.1]
    refine fA ht hF5 (b := 300) (a := 121) (by simp [BL]) (by simp [BL]) (by decide) ((ob_100.1 79).trans rfl) rfl (Nat.le_of_ble_eq_true rfl) (by omega) (by omega) (fun h6 hF6 e6 => ?_)
    clear hF5 h3 hb e6
    refine blk_go ob_100 (fun _ => false) 20 ?_
    (conv => whnf); rw [hF6.2.2.1]
    refine fLg (n := 1) (b := 113) ht (by omega) hF6 (by simp [BL]) (by omega) (Or.inl rfl) ((ob_100.1 87).trans rfl) rfl (Nat.le_of_ble_eq_true rfl) (by omega) (by omega) (fun h7 hF7 e7 => ?_)
    clear hF6 e7
    obtain ⟨e0, lo, ex, he, bu, h3, hex⟩ := hF7.2.2.2.2.2.2.2.2.1
    obtain ⟨uh, sh, lh, hbh, hvh⟩ := hF7.1 302 (by simp [BL])
    obtain ⟨ug, sg, lg, hbg, hvg⟩ := hF7.1 121 (by simp [BL])
    obtain ⟨um, sm, lm, hbm, hvm⟩ := hF7.1 113 (by simp [BL])
    refine blk_go ob_100 (fun _ => false) 20 ?_
    (conv => whnf); rw [h3]
    (conv => whnf); rw [hF7.2.2.1]
    (conv => whnf); rw [hF7.2.2.1]
    refine vb3 (idx := 73) (mj := 51) (q := 2) (n := 4) (bvs := [.ref 0, .ref 2, .ref 4]) [.ref 302, .ref 121, .ref 113] ((ob_100.1 102).trans rfl) rfl rfl (Nat.le_of_ble_eq_true rfl) rfl hbh hbg hbm (by decide) (by decide) (by decide) rfl rfl (fun f h0 h2 h4 => rvs_j (rv_r h0) (rvs_j (rv_r h2) (rvs_j (rv_r h4) rfl))) (bg_plus6 hvh.1 (by omega) hvg hvm) (Nat.le_of_ble_eq_true rfl) (by omega) rfl (by omega) (Nat.le_of_ble_eq_true rfl) (fun v h8 e => ?_)
    obtain ⟨rfl, u', s', l', rfl, hB⟩ := e
    refine ⟨_, _, _, rfl, fun _ => rfl, ?_⟩
    have hF8 := FW.st ht (hF7.le (show 4 * N ≤ 8 * N by omega)) (b := 302) (by simp [BL]) (hB.le (by omega))
    have h9 : (st2 h7 302 u' s' l')[283]? = some (rM e0 lo ex he bu) := FW.k ht (by simp [BL]) (by simp [fX]) h3
    generalize st2 h7 302 u' s' l' = h8 at hF8 h9 ⊢
    have hlt := (List.getElem?_eq_some_iff.mp h9).1
    refine blk_go ob_100 (fun _ => false) 30 ?_
    (conv => whnf); rw [h9]
    (conv => whnf); rw [List.getElem?_set_self hlt]
    (conv => whnf); rw [List.getElem?_set_self (by rw [List.length_set]; exact hlt)]
    (conv => whnf); refine ⟨⟨rfl, rfl⟩, ?_⟩
    exact go_vret ((ob_100.1 120).trans rfl) rfl ⟨_, _, rfl, rfl, FW.rm ht (FW.rm ht (FW.rm ht hF8 (nI 0) lo ex he bu hex) (nI 0) (-nI 1) ex he bu hex) (nI 0) (-nI 1) (nI 0) he bu (Or.inl rfl)⟩
  · (conv => whnf); rw [hF5.2.2.1]
    refine vB (idx := 106) (mj := 69) (q := 2) (n := 4) [.ref 283, .ref 121, .int (nI 0)] ((ob_100.1 67).trans rfl) rfl rfl (Nat.le_of_ble_eq_true rfl) rfl (h3) rfl rfl (c_bp ht (by omega) (by omega) hF5) (Nat.le_of_ble_eq_true rfl) (by omega) rfl (by omega) (Nat.le_of_ble_eq_true rfl) (fun v h1 e => ?_)
    obtain ⟨rfl, hF6⟩ := e
    refine blk_go ob_100 (fun _ => false) 20 ?_
    exact go_vret ((ob_100.1 70).trans rfl) rfl ⟨_, _, rfl, rfl, hF6.le (by omega)⟩
set_option maxRecDepth 100000 in
set_option maxHeartbeats 8000000 in
theorem c_ratio {t n m : Nat} {h : xH} {p : Int32} (ht : t < 8) (hp : p = nI n ∨ p = -nI n) (hn : n ≤ 1000000) (hm : m ≤ 1000000) (hF : FW 1000000 (481 + 21 * t) h) : cR 99 5 170 [.ref 282, .int p, .int (nI m)] h (fun v h' => v = some (.ref 283) ∧ FW 8000000 (481 + 21 * t) h') := by
  intro fb lb hf hl
  have hv : (-p).toInt64 = lN n ∨ (-p).toInt64 = -lN n := by
    rcases hp with rfl | rfl
    · exact Or.inr (neg_l (by omega))
    · rw [Int32.neg_neg]; exact Or.inl (nI_l (by omega))
  obtain ⟨e0, lo, ex, he, bu, h3, hex⟩ := hF.2.2.2.2.2.2.2.2.1
  refine blk_go ob_99 (fun _ => false) 20 ?_
  (conv => whnf); rw [hF.2.2.2.1]
  (conv => whnf); rw [h3]
  (conv => whnf); rw [hF.2.2.2.2.1]
  (conv => whnf); rw [hF.2.2.2.2.2.1]
  (conv => whnf); refine ⟨0, rfl, show 0 < 7 by decide, show 7 < 2 ^ 31 by decide, ?_⟩
  refine fLg (n := n) (b := 286) ht (by omega) hF (by simp [BL]) hn hv ((ob_99.1 15).trans rfl) rfl (Nat.le_of_ble_eq_true rfl) (by omega) (by omega) (fun h4 hF4 _ => ?_)
  clear hF h3
  obtain ⟨e0, lo, ex, he, bu, h3, hex⟩ := hF4.2.2.2.2.2.2.2.2.1
  refine blk_go ob_99 (fun _ => false) 20 ?_
  (conv => whnf); rw [hF4.2.2.2.1]
  (conv => whnf); rw [h3]
  (conv => whnf); rw [hF4.2.2.2.2.1]
  (conv => whnf); rw [hF4.2.2.2.2.2.1]
  (conv => whnf); refine ⟨1, rfl, show 1 < 7 by decide, show 7 < 2 ^ 31 by decide, ?_⟩
  refine fLg (n := m) (b := 288) ht (by omega) hF4 (by simp [BL]) hm (Or.inl (nI_l (by omega))) ((ob_99.1 32).trans rfl) rfl (Nat.le_of_ble_eq_true rfl) (by omega) (by omega) (fun h5 hF5 _ => ?_)
  clear hF4 h3
  obtain ⟨e0, lo, ex, he, bu, h3, hex⟩ := hF5.2.2.2.2.2.2.2.2.1
  refine blk_go ob_99 (fun pc => Nat.beq pc 46) 20 ?_
  (conv => whnf); rw [hF5.2.2.2.1]
  (conv => whnf); rw [h3]
  (conv => whnf); rw [hF5.2.2.2.2.1]
  change gX fb lb 99 46 _ [] (h5.set 284 (.inl (1, [.ref 285, .int 1]))) 0 0 _
  rw [set_same hF5.2.2.2.2.1]
  refine blk_go ob_99 (fun _ => false) 20 ?_
  (conv => whnf); rw [hF5.2.2.2.1]
  (conv => whnf); rw [hF5.2.2.2.1]
  (conv => whnf); rw [h3]
  refine vB (idx := 90) (mj := 21) (q := 1) (n := 3) [.ref 35, .ref 284] ((ob_99.1 57).trans rfl) rfl rfl (Nat.le_of_ble_eq_true rfl) rfl (hF5.2.1) rfl rfl (c_mp ht (by omega) hF5) (Nat.le_of_ble_eq_true rfl) (by omega) rfl (by omega) (Nat.le_of_ble_eq_true rfl) (fun v h1 e => ?_)
  clear hF5 h3
  obtain ⟨rfl, hF5⟩ := e
  refine blk_go ob_99 (fun _ => false) 20 ?_
  (conv => whnf); rw [hF5.2.2.2.1]
  (conv => whnf); rw [hF5.2.2.2.1]
  refine vB (idx := 96) (mj := 100) (q := 1) (n := 2) [.ref 104, .ref 283] ((ob_99.1 68).trans rfl) rfl rfl (Nat.le_of_ble_eq_true rfl) rfl (hF5.2.2.1) rfl rfl (c_pl ht (by omega) (by omega) hF5) (Nat.le_of_ble_eq_true rfl) (by omega) rfl (by omega) (Nat.le_of_ble_eq_true rfl) (fun v h1 e => ?_)
  clear hF5
  obtain ⟨rfl, hF5⟩ := e
  refine blk_go ob_99 (fun _ => false) 20 ?_
  (conv => whnf); rw [hF5.2.2.2.1]
  exact go_aret ((ob_99.1 75).trans rfl) rfl (Or.inl ⟨_, rfl⟩) ⟨_, _, rfl, rfl, hF5⟩
set_option maxRecDepth 100000 in
set_option maxHeartbeats 8000000 in
theorem c_pa {t N : Nat} {h : xH} (ht : t < 8) (hN : N < 2 ^ 30) (hF : FW N (481 + 21 * t) h) : cR 18 1 30 [.ref (481 + 21 * t + 1), .ref 284] h (fun v h' => v = none ∧ FW N (481 + 21 * t) h') := by
  intro fb lb hf hl
  refine blk_go ob_18 (fun pc => Nat.beq pc 8) 20 ?_
  (conv => whnf); rw [hF.2.2.2.2.1]
  (conv => whnf); rw [hF.2.2.2.2.2.2.1]
  change gX fb lb 18 8 _ [] (h.set (481 + 21 * t + 1) (.inl (1, [.ref (481 + 21 * t + 2), .int 1]))) 0 0 _
  rw [set_same hF.2.2.2.2.2.2.1]
  refine blk_go ob_18 (fun _ => false) 40 ?_
  (conv => whnf); rw [hF.2.2.2.2.2.2.1]
  (conv => whnf); refine br_f (show ¬ (1 : Int32) < nI 0 by decide) ?_
  (conv => whnf); rw [hF.2.2.2.2.2.2.1]
  (conv => whnf); rw [hF.2.2.2.2.2.2.2.1]
  (conv => whnf); refine ⟨0, show nI 0 = nI 0 by decide, show 0 < 7 by decide, show 7 < 2 ^ 31 by decide, ?_⟩
  (conv => whnf); rw [hF.2.2.2.2.1]
  (conv => whnf); rw [hF.2.2.2.2.2.1]
  (conv => whnf); refine ⟨0, show nI 0 = nI 0 by decide, show 0 < 7 by decide, show 7 < 2 ^ 31 by decide, ?_⟩
  refine fA ht hF (b := 481 + 21 * t + 3) (a := 286) (by simp [BL]) (by simp [BL]) (by omega) ((ob_18.1 30).trans rfl) rfl (Nat.le_of_ble_eq_true rfl) (by omega) (by omega) (fun h5 hF _ => ?_)
  refine blk_go ob_18 (fun _ => false) 40 ?_
  (conv => whnf); rw [hF.2.2.2.2.2.2.1]
  (conv => whnf); refine br_f (show ¬ (1 : Int32) < nI 0 + Int32.ofInt 1 by decide) ?_
  (conv => whnf); rw [hF.2.2.2.2.2.2.1]
  (conv => whnf); rw [hF.2.2.2.2.2.2.2.1]
  (conv => whnf); refine ⟨1, show nI 0 + Int32.ofInt 1 = nI 1 by decide, show 1 < 7 by decide, show 7 < 2 ^ 31 by decide, ?_⟩
  (conv => whnf); rw [hF.2.2.2.2.1]
  (conv => whnf); rw [hF.2.2.2.2.2.1]
  (conv => whnf); refine ⟨1, show nI 0 + Int32.ofInt 1 = nI 1 by decide, show 1 < 7 by decide, show 7 < 2 ^ 31 by decide, ?_⟩
  refine fA ht hF (b := 481 + 21 * t + 5) (a := 288) (by simp [BL]) (by simp [BL]) (by omega) ((ob_18.1 30).trans rfl) rfl (Nat.le_of_ble_eq_true rfl) (by omega) (by omega) (fun h6 hF _ => ?_)
  refine blk_go ob_18 (fun _ => false) 40 ?_
  (conv => whnf); rw [hF.2.2.2.2.2.2.1]
  (conv => whnf); refine br_t (show (1 : Int32) < nI 0 + Int32.ofInt 1 + Int32.ofInt 1 by decide) ?_
  exact go_vret ((ob_18.1 39).trans rfl) rfl ⟨_, _, rfl, rfl, hF⟩
set_option maxRecDepth 100000 in
set_option maxHeartbeats 8000000 in
theorem c_ra {t N : Nat} {h : xH} (ht : t < 8) (hN : N < 2 ^ 30) (hF : FW N (481 + 21 * t) h) : cR 97 2 60 [.ref (481 + 21 * t), .ref 283] h (fun v h' => v = none ∧ FW N (481 + 21 * t) h') := by
  intro fb lb hf hl
  obtain ⟨e0, lo, ex, he, bu, h3, hex⟩ := hF.2.2.2.2.2.2.2.2.1
  obtain ⟨e1, lo1, ex1, he1, bu1, h4⟩ := hF.2.2.2.2.2.2.2.2.2
  refine blk_go ob_97 (fun _ => false) 20 ?_
  (conv => whnf); rw [h4]
  (conv => whnf); rw [h3]
  refine vB (idx := 54) (mj := 18) (q := 1) (n := 3) [.ref (481 + 21 * t + 1), .ref 284] ((ob_97.1 8).trans rfl) rfl rfl (Nat.le_of_ble_eq_true rfl) rfl (hF.2.2.2.2.2.2.1) rfl rfl (c_pa ht hN hF) (Nat.le_of_ble_eq_true rfl) (by omega) rfl (by omega) (Nat.le_of_ble_eq_true rfl) (fun v h1 e => ?_)
  clear hF h3 h4
  obtain ⟨rfl, hF⟩ := e
  obtain ⟨e0, lo, ex, he, bu, h3, hex⟩ := hF.2.2.2.2.2.2.2.2.1
  obtain ⟨e1, lo1, ex1, he1, bu1, h4⟩ := hF.2.2.2.2.2.2.2.2.2
  refine blk_go ob_97 (fun _ => false) 20 ?_
  (conv => whnf); rw [h4]
  (conv => whnf); rw [h3]
  refine fA ht hF (b := 481 + 21 * t + 17) (a := 300) (by simp [BL]) (by simp [BL]) (by omega) ((ob_97.1 19).trans rfl) rfl (Nat.le_of_ble_eq_true rfl) (by omega) (by omega) (fun h5 hF5 _ => ?_)
  clear hF h3 h4
  obtain ⟨e0, lo, ex, he, bu, h3, hex⟩ := hF5.2.2.2.2.2.2.2.2.1
  obtain ⟨e1, lo1, ex1, he1, bu1, h4⟩ := hF5.2.2.2.2.2.2.2.2.2
  refine blk_go ob_97 (fun _ => false) 20 ?_
  (conv => whnf); rw [h4]
  (conv => whnf); rw [h3]
  refine fA ht hF5 (b := 481 + 21 * t + 19) (a := 302) (by simp [BL]) (by simp [BL]) (by omega) ((ob_97.1 30).trans rfl) rfl (Nat.le_of_ble_eq_true rfl) (by omega) (by omega) (fun h6 hF6 _ => ?_)
  clear hF5 h3 h4
  obtain ⟨e0, lo, ex, he, bu, h3, hex⟩ := hF6.2.2.2.2.2.2.2.2.1
  obtain ⟨e1, lo1, ex1, he1, bu1, h4⟩ := hF6.2.2.2.2.2.2.2.2.2
  have hlt := (List.getElem?_eq_some_iff.mp h4).1
  have hne : 481 + 21 * t ≠ 283 := by omega
  refine blk_go ob_97 (fun _ => false) 40 ?_
  (conv => whnf); rw [h3]
  (conv => whnf); rw [h4]
  (conv => whnf); rw [List.getElem?_set_ne hne, h3]
  (conv => whnf); rw [List.getElem?_set_self hlt]
  (conv => whnf); rw [List.getElem?_set_ne hne, List.getElem?_set_ne hne, h3]
  (conv => whnf); rw [List.getElem?_set_self (by rw [List.length_set]; exact hlt)]
  (conv => whnf); refine ⟨by rcases hex with rfl | rfl <;> exact ⟨rfl, rfl⟩, ?_⟩
  exact go_vret ((ob_97.1 57).trans rfl) rfl ⟨_, _, rfl, rfl, FW.rs ht (FW.rs ht (FW.rs ht hF6 e0 lo1 ex1 he1 bu1) e0 lo ex1 he1 bu1) e0 lo ex he1 bu1⟩
set_option maxRecDepth 100000 in
set_option maxHeartbeats 8000000 in
theorem c_we {t N : Nat} {h : xH} {x y : Int32} (hF : FW N (481 + 21 * t) h) : cR 13 0 0 [.ref (481 + 21 * t), .int x, .int y] h (fun v _ => v = none) := by
  intro fb lb _ _
  obtain ⟨e1, lo1, ex1, he1, bu1, h4⟩ := hF.2.2.2.2.2.2.2.2.2
  have hlt := (List.getElem?_eq_some_iff.mp h4).1
  refine blk_go ob_13 (fun _ => false) 20 ?_
  (conv => whnf); rw [h4]
  (conv => whnf); rw [List.getElem?_set_self hlt]
  exact go_vret ((ob_13.1 10).trans rfl) rfl ⟨_, _, rfl, rfl⟩
set_option maxRecDepth 100000 in
set_option maxHeartbeats 8000000 in
theorem c_frac {t n m : Nat} {h : xH} {p : Int32} (ht : t < 8) (hd : dk h) (hp : p = nI n ∨ p = -nI n) (hn : n ≤ 1000000) (hm1 : 1 ≤ m) (hm : m ≤ 1000000) (hp1 : ¬ p < -1000000) (hp2 : ¬ 1000000 < p) (hF : FW 1000000 (481 + 21 * t) h) : cR 98 6 200 [.ref 0, .int (nI t), .int p, .int (nI m)] h (fun v _ => v = none) := by
  intro fb lb hf hl
  refine blk_go ob_98 (fun _ => false) 20 ?_
  refine vB (idx := 101) (mj := 78) (q := 1) (n := 2) [.ref 0, .int (nI t)] ((ob_98.1 2).trans rfl) rfl rfl (Nat.le_of_ble_eq_true rfl) rfl (hd.1) rfl rfl (c_slotT hd ht) (Nat.le_of_ble_eq_true rfl) (by omega) rfl (by omega) (Nat.le_of_ble_eq_true rfl) (fun v h1 e => ?_)
  obtain ⟨rfl, rfl⟩ := e
  refine blk_go ob_98 (fun _ => false) 40 ?_
  (conv => whnf); refine br_f (hp1) ?_
  (conv => whnf); refine br_f (hp2) ?_
  (conv => whnf); refine br_f (show ¬ nI m < nI 1 from nI_nlt hm1 (by omega)) ?_
  (conv => whnf); refine br_t (show nI m ≤ (1000000 : Int32) from nI_le (a := m) (b := 1000000) hm (by decide)) ?_
  (conv => whnf); rw [hd.1]
  refine vB (idx := 122) (mj := 99) (q := 2) (n := 3) [.ref 282, .int p, .int (nI m)] ((ob_98.1 46).trans rfl) rfl rfl (Nat.le_of_ble_eq_true rfl) rfl (hF.2.2.2.1) rfl rfl (c_ratio ht hp hn hm hF) (Nat.le_of_ble_eq_true rfl) (by omega) rfl (by omega) (Nat.le_of_ble_eq_true rfl) (fun v h1 e => ?_)
  clear hF
  obtain ⟨rfl, hF⟩ := e
  obtain ⟨e1, lo1, ex1, he1, bu1, h4⟩ := hF.2.2.2.2.2.2.2.2.2
  refine blk_go ob_98 (fun _ => false) 20 ?_
  refine vB (idx := 116) (mj := 97) (q := 1) (n := 2) [.ref (481 + 21 * t), .ref 283] ((ob_98.1 49).trans rfl) rfl rfl (Nat.le_of_ble_eq_true rfl) rfl (h4) rfl rfl (c_ra ht (by omega) hF) (Nat.le_of_ble_eq_true rfl) (by omega) rfl (by omega) (Nat.le_of_ble_eq_true rfl) (fun v h1 e => ?_)
  clear hF h4
  obtain ⟨rfl, hF⟩ := e
  obtain ⟨e1, lo1, ex1, he1, bu1, h4⟩ := hF.2.2.2.2.2.2.2.2.2
  refine blk_go ob_98 (fun _ => false) 20 ?_
  refine vB (idx := 83) (mj := 13) (q := 2) (n := 3) [.ref (481 + 21 * t), .int (nI 1), .int (nI 20)] ((ob_98.1 57).trans rfl) rfl rfl (Nat.le_of_ble_eq_true rfl) rfl (h4) rfl rfl (c_we hF) (Nat.le_of_ble_eq_true rfl) (by omega) rfl (by omega) (Nat.le_of_ble_eq_true rfl) (fun v h1 e => ?_)
  obtain rfl := e
  exact go_vret ((ob_98.1 60).trans rfl) rfl ⟨_, _, rfl, rfl⟩
/-- the fresh desk keeps it -/
def zB (h : xH) (b : Nat) : Bool := (eqO h[b]? (.inl (0, [.ref (b + 1), .int 0, .int 0])) && eqO h[b + 1]? (.inr (.int, .inl [0, 0, 0, 0, 0, 0]))) || (eqO h[b]? (.inl (0, [.ref (b + 1), .int 1, .int 1])) && eqO h[b + 1]? (.inr (.int, .inl [1, 0, 0, 0, 0, 0])))
theorem zB_ok {h : xH} {b : Nat} (e : zB h b = true) : ∃ u s l, bgA h b u s l ∧ Bv 1000000 u s l := by
  unfold zB at e
  rcases Bool.or_eq_true _ _ ▸ e with e | e
  · rw [Bool.and_eq_true] at e
    exact ⟨_, _, _, ⟨eqO_ok e.1, eqO_ok e.2⟩, Bv.z rfl rfl rfl⟩
  · rw [Bool.and_eq_true] at e
    exact ⟨_, _, _, ⟨eqO_ok e.1, eqO_ok e.2⟩, Bv.n (n := 1) (by decide) (by decide) rfl (Or.inl rfl) rfl⟩
def fwB (S : Nat) (h : xH) : Bool := (BL S).all (zB h) && (eqO h[35]? dvC && (eqO h[104]? nrC && (eqO h[282]? mkD && (eqO h[284]? (.inl (1, [.ref 285, .int 1])) && (eqO h[285]? c284 && (eqO h[S + 1]? (.inl (1, [.ref (S + 2), .int 1])) && (eqO h[S + 2]? (cArr S) && (eqO h[283]? (rM 0 0 1 1 0) && eqO h[S]? (rS S 0 0 1 1 20)))))))))
theorem fwB_ok {S : Nat} {h : xH} (e : fwB S h = true) : FW 1000000 S h := by
  unfold fwB at e
  simp only [Bool.and_eq_true] at e
  obtain ⟨e1, e2, e3, e4, e5, e6, e7, e8, e9, e10⟩ := e
  exact ⟨fun b hb => zB_ok (List.all_eq_true.mp e1 b hb), eqO_ok e2, eqO_ok e3, eqO_ok e4, eqO_ok e5, eqO_ok e6, eqO_ok e7, eqO_ok e8, ⟨_, _, _, _, _, eqO_ok e9, Or.inr rfl⟩, _, _, _, _, _, eqO_ok e10⟩
set_option maxRecDepth 1000000 in
theorem fw_all : (List.range 8).all (fun t => fwB (481 + 21 * t) H0) = true := by decide +kernel
theorem fw_H0 {t : Nat} (ht : t < 8) : FW 1000000 (481 + 21 * t) H0 := fwB_ok (List.all_eq_true.mp fw_all t (List.mem_range.mpr ht))
theorem k_fraction {t : Nat} {p q : Int32} (ht : t < 8) (h1 : ¬ p < -1000000) (h2 : ¬ 1000000 < p) (h3 : ¬ q < nI 1) (h4 : ¬ 1000000 < q) : cR 98 6 200 [.ref 0, .int (nI t), .int p, .int q] H0 (fun v _ => v = none) := by
  have hq0 : ¬ q < 0 := fun z => h3 (Int32.lt_trans z (by decide))
  obtain ⟨m, hm, rfl⟩ := nI_of hq0
  have hm1 : 1 ≤ m := by
    rcases Nat.eq_zero_or_pos m with z | z
    · subst z; exact absurd (show nI 0 < nI 1 by decide) h3
    · exact z
  have hm2 : m ≤ 1000000 := by
    rcases Nat.lt_or_ge 1000000 m with z | z
    · exact absurd (show (1000000 : Int32) < nI m from nI_lt (a := 1000000) z hm) h4
    · exact z
  rcases pq_of h1 h2 with ⟨n, hn, rfl⟩ | ⟨n, n0, hn, rfl⟩
  · exact c_frac ht dk_H0 (Or.inl rfl) hn hm1 hm2 h1 h2 (fw_H0 ht)
  · exact c_frac ht dk_H0 (Or.inr rfl) hn hm1 hm2 h1 h2 (fw_H0 ht)
