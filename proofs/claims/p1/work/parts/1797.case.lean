/-! the law: sums and products -/
set_option maxRecDepth 100000 in
set_option maxHeartbeats 4000000 in
theorem case_add {p : Program} {l : Launch} {e : Env} {s : State} {m : MethodId} {below : List Frame} {meth : Method} {c : Code} {H : Heap} {locs : List Loc} {cells slots b : Nat} {xs : Nat → Int32} {D : va_G} {as : List Nat} {tys : List (ClassId × FieldType)} {ws : va_W} {ls : Array Slot} {am a0 o : Nat} (C : LC p l s m b meth c 4 xs) (G : sg D xcl (AA s) s (H0 ++ (Ms ++ [outC 0])) as tys ws H locs) (h0 : as[0]? = some a0) (hm : as[649]? = some am) (ho : as[662]? = some o) (hl : lv_has ls 7 [(4, .int 0), (3, .ref o), (2, .ref am), (1, .ref a0), (0, .ref b)]) (hc1 : cells + 1 ≤ 10000) (hs1 : slots + 6 ≤ 100000) : W p l e room_1 s m #[Value.ref b] below meth c H locs cells slots (lw_Z below #[Value.ref b] s) (F0 m 633 ls []) := by
  obtain ⟨hx, hb, hr, hml, hown, hts, hX, hbl, hlocks, hN, hTs, hNC, hl0⟩ := id C
  refine lv_aload_n hx hb d_633 rfl (lv_at hl 3 rfl) ?_
  refine rd C (k := 1) (by decide) (by decide) d_634 d_635 d_637 d_638 d_639 (lv_at hl 4 rfl) (lv_at hl 0 rfl) G.2.2.2.2.1 ?_
  refine rd C (k := 2) (by decide) (by decide) d_640 d_641 d_643 d_644 d_645 (lv_at hl 4 rfl) (lv_at hl 0 rfl) G.2.2.2.2.1 ?_
  refine rd C (k := 3) (by decide) (by decide) d_646 d_647 d_649 d_650 d_651 (lv_at hl 4 rfl) (lv_at hl 0 rfl) G.2.2.2.2.1 ?_
  refine lv_aload_n hx hb d_652 rfl (lv_at hl 1 rfl) ?_
  by_cases hv : sl (xs 1) ∧ sl (xs 2) ∧ sl (xs 3)
  · refine lw_S (k := (nI 0)) (h1 := mI ++ [outC 1]) (cvs := [.ref a0, .int (xs 1), .int (xs 2), .int (xs 3), .ref o]) C (w_add_v hl0 hv G.1 h0 ho) FB2 (fun U hU hW => lw_preW G hN hTs U hU hW) wc_add wi_law wl_add wt_add (by decide) (show (parseMethodDescriptor nw_add.desc).map (fun d => d.parameters.length) = some 5 by decide +kernel) (by decide) G (by omega) (by omega) hl.1 rfl d_653 (fun as1 tys1 ws1 H1 locs1 k1 G1 => ?_)
    have hm1 : as1[0]? = some am := by
      obtain ⟨tt, rfl⟩ := k1
      exact getl (asJ_at (k := 0) rfl hm)
    have ho1 : as1[13]? = some o := by
      obtain ⟨tt, rfl⟩ := k1
      exact getl (asJ_at (k := 13) rfl ho)
    exact aft_add C (k := (nI 0)) (V := 1) (Bb := (nI 1)) (by decide) ((m_add (xs 1) (xs 2) (xs 3)).weak (fun v h' z => ⟨(z.1 hv).2, fun _ => (z.1 hv).1⟩)) G1 hm1 ho1 hl hc1 hs1
  · refine lw_S (k := (nI 1)) (h1 := mI ++ [outC 0]) (cvs := [.ref a0, .int (xs 1), .int (xs 2), .int (xs 3), .ref o]) C (w_add_t hl0 hv G.1 h0 ho) FB2 (fun U hU hW => lw_preW G hN hTs U hU hW) wc_add wi_law wl_add wt_add (by decide) (show (parseMethodDescriptor nw_add.desc).map (fun d => d.parameters.length) = some 5 by decide +kernel) (by decide) G (by omega) (by omega) hl.1 rfl d_653 (fun as1 tys1 ws1 H1 locs1 k1 G1 => ?_)
    have hm1 : as1[0]? = some am := by
      obtain ⟨tt, rfl⟩ := k1
      exact getl (asJ_at (k := 0) rfl hm)
    have ho1 : as1[13]? = some o := by
      obtain ⟨tt, rfl⟩ := k1
      exact getl (asJ_at (k := 13) rfl ho)
    exact aft_add C (k := (nI 1)) (V := 0) (Bb := 0) (by decide) ((m_add (xs 1) (xs 2) (xs 3)).weak (fun v h' z => ⟨(z.2 hv).2, fun q => absurd q (by decide)⟩)) G1 hm1 ho1 hl hc1 hs1
set_option maxRecDepth 100000 in
set_option maxHeartbeats 4000000 in
theorem case_subtract {p : Program} {l : Launch} {e : Env} {s : State} {m : MethodId} {below : List Frame} {meth : Method} {c : Code} {H : Heap} {locs : List Loc} {cells slots b : Nat} {xs : Nat → Int32} {D : va_G} {as : List Nat} {tys : List (ClassId × FieldType)} {ws : va_W} {ls : Array Slot} {am a0 o : Nat} (C : LC p l s m b meth c 4 xs) (G : sg D xcl (AA s) s (H0 ++ (Ms ++ [outC 0])) as tys ws H locs) (h0 : as[0]? = some a0) (hm : as[649]? = some am) (ho : as[662]? = some o) (hl : lv_has ls 7 [(4, .int 0), (3, .ref o), (2, .ref am), (1, .ref a0), (0, .ref b)]) (hc1 : cells + 1 ≤ 10000) (hs1 : slots + 6 ≤ 100000) : W p l e room_1 s m #[Value.ref b] below meth c H locs cells slots (lw_Z below #[Value.ref b] s) (F0 m 720 ls []) := by
  obtain ⟨hx, hb, hr, hml, hown, hts, hX, hbl, hlocks, hN, hTs, hNC, hl0⟩ := id C
  refine lv_aload_n hx hb d_720 rfl (lv_at hl 3 rfl) ?_
  refine rd C (k := 1) (by decide) (by decide) d_721 d_722 d_724 d_725 d_726 (lv_at hl 4 rfl) (lv_at hl 0 rfl) G.2.2.2.2.1 ?_
  refine rd C (k := 2) (by decide) (by decide) d_727 d_728 d_730 d_731 d_732 (lv_at hl 4 rfl) (lv_at hl 0 rfl) G.2.2.2.2.1 ?_
  refine rd C (k := 3) (by decide) (by decide) d_733 d_734 d_736 d_737 d_738 (lv_at hl 4 rfl) (lv_at hl 0 rfl) G.2.2.2.2.1 ?_
  refine lv_aload_n hx hb d_739 rfl (lv_at hl 1 rfl) ?_
  by_cases hv : sl (xs 1) ∧ sl (xs 2) ∧ sl (xs 3)
  · refine lw_S (k := (nI 0)) (h1 := mI ++ [outC 1]) (cvs := [.ref a0, .int (xs 1), .int (xs 2), .int (xs 3), .ref o]) C (w_subtract_v hl0 hv G.1 h0 ho) FB2 (fun U hU hW => lw_preW G hN hTs U hU hW) wc_subtract wi_law wl_subtract wt_subtract (by decide) (show (parseMethodDescriptor nw_subtract.desc).map (fun d => d.parameters.length) = some 5 by decide +kernel) (by decide) G (by omega) (by omega) hl.1 rfl d_740 (fun as1 tys1 ws1 H1 locs1 k1 G1 => ?_)
    have hm1 : as1[0]? = some am := by
      obtain ⟨tt, rfl⟩ := k1
      exact getl (asJ_at (k := 0) rfl hm)
    have ho1 : as1[13]? = some o := by
      obtain ⟨tt, rfl⟩ := k1
      exact getl (asJ_at (k := 13) rfl ho)
    exact aft_subtract C (k := (nI 0)) (V := 1) (Bb := (nI 1)) (by decide) ((m_subtract (xs 1) (xs 2) (xs 3)).weak (fun v h' z => ⟨(z.1 hv).2, fun _ => (z.1 hv).1⟩)) G1 hm1 ho1 hl hc1 hs1
  · refine lw_S (k := (nI 1)) (h1 := mI ++ [outC 0]) (cvs := [.ref a0, .int (xs 1), .int (xs 2), .int (xs 3), .ref o]) C (w_subtract_t hl0 hv G.1 h0 ho) FB2 (fun U hU hW => lw_preW G hN hTs U hU hW) wc_subtract wi_law wl_subtract wt_subtract (by decide) (show (parseMethodDescriptor nw_subtract.desc).map (fun d => d.parameters.length) = some 5 by decide +kernel) (by decide) G (by omega) (by omega) hl.1 rfl d_740 (fun as1 tys1 ws1 H1 locs1 k1 G1 => ?_)
    have hm1 : as1[0]? = some am := by
      obtain ⟨tt, rfl⟩ := k1
      exact getl (asJ_at (k := 0) rfl hm)
    have ho1 : as1[13]? = some o := by
      obtain ⟨tt, rfl⟩ := k1
      exact getl (asJ_at (k := 13) rfl ho)
    exact aft_subtract C (k := (nI 1)) (V := 0) (Bb := 0) (by decide) ((m_subtract (xs 1) (xs 2) (xs 3)).weak (fun v h' z => ⟨(z.2 hv).2, fun q => absurd q (by decide)⟩)) G1 hm1 ho1 hl hc1 hs1
set_option maxRecDepth 100000 in
set_option maxHeartbeats 4000000 in
theorem case_multiply {p : Program} {l : Launch} {e : Env} {s : State} {m : MethodId} {below : List Frame} {meth : Method} {c : Code} {H : Heap} {locs : List Loc} {cells slots b : Nat} {xs : Nat → Int32} {D : va_G} {as : List Nat} {tys : List (ClassId × FieldType)} {ws : va_W} {ls : Array Slot} {am a0 o : Nat} (C : LC p l s m b meth c 4 xs) (G : sg D xcl (AA s) s (H0 ++ (Ms ++ [outC 0])) as tys ws H locs) (h0 : as[0]? = some a0) (hm : as[649]? = some am) (ho : as[662]? = some o) (hl : lv_has ls 7 [(4, .int 0), (3, .ref o), (2, .ref am), (1, .ref a0), (0, .ref b)]) (hc1 : cells + 1 ≤ 10000) (hs1 : slots + 6 ≤ 100000) : W p l e room_1 s m #[Value.ref b] below meth c H locs cells slots (lw_Z below #[Value.ref b] s) (F0 m 807 ls []) := by
  obtain ⟨hx, hb, hr, hml, hown, hts, hX, hbl, hlocks, hN, hTs, hNC, hl0⟩ := id C
  refine lv_aload_n hx hb d_807 rfl (lv_at hl 3 rfl) ?_
  refine rd C (k := 1) (by decide) (by decide) d_808 d_809 d_811 d_812 d_813 (lv_at hl 4 rfl) (lv_at hl 0 rfl) G.2.2.2.2.1 ?_
  refine rd C (k := 2) (by decide) (by decide) d_814 d_815 d_817 d_818 d_819 (lv_at hl 4 rfl) (lv_at hl 0 rfl) G.2.2.2.2.1 ?_
  refine rd C (k := 3) (by decide) (by decide) d_820 d_821 d_823 d_824 d_825 (lv_at hl 4 rfl) (lv_at hl 0 rfl) G.2.2.2.2.1 ?_
  refine lv_aload_n hx hb d_826 rfl (lv_at hl 1 rfl) ?_
  by_cases hv : sl (xs 1) ∧ sl (xs 2) ∧ sl (xs 3)
  · refine lw_S (k := (nI 0)) (h1 := mI ++ [outC 1]) (cvs := [.ref a0, .int (xs 1), .int (xs 2), .int (xs 3), .ref o]) C (w_multiply_v hl0 hv G.1 h0 ho) FB2 (fun U hU hW => lw_preW G hN hTs U hU hW) wc_multiply wi_law wl_multiply wt_multiply (by decide) (show (parseMethodDescriptor nw_multiply.desc).map (fun d => d.parameters.length) = some 5 by decide +kernel) (by decide) G (by omega) (by omega) hl.1 rfl d_827 (fun as1 tys1 ws1 H1 locs1 k1 G1 => ?_)
    have hm1 : as1[0]? = some am := by
      obtain ⟨tt, rfl⟩ := k1
      exact getl (asJ_at (k := 0) rfl hm)
    have ho1 : as1[13]? = some o := by
      obtain ⟨tt, rfl⟩ := k1
      exact getl (asJ_at (k := 13) rfl ho)
    exact aft_multiply C (k := (nI 0)) (V := 1) (Bb := (nI 1)) (by decide) ((m_multiply (xs 1) (xs 2) (xs 3)).weak (fun v h' z => ⟨(z.1 hv).2, fun _ => (z.1 hv).1⟩)) G1 hm1 ho1 hl hc1 hs1
  · refine lw_S (k := (nI 1)) (h1 := mI ++ [outC 0]) (cvs := [.ref a0, .int (xs 1), .int (xs 2), .int (xs 3), .ref o]) C (w_multiply_t hl0 hv G.1 h0 ho) FB2 (fun U hU hW => lw_preW G hN hTs U hU hW) wc_multiply wi_law wl_multiply wt_multiply (by decide) (show (parseMethodDescriptor nw_multiply.desc).map (fun d => d.parameters.length) = some 5 by decide +kernel) (by decide) G (by omega) (by omega) hl.1 rfl d_827 (fun as1 tys1 ws1 H1 locs1 k1 G1 => ?_)
    have hm1 : as1[0]? = some am := by
      obtain ⟨tt, rfl⟩ := k1
      exact getl (asJ_at (k := 0) rfl hm)
    have ho1 : as1[13]? = some o := by
      obtain ⟨tt, rfl⟩ := k1
      exact getl (asJ_at (k := 13) rfl ho)
    exact aft_multiply C (k := (nI 1)) (V := 0) (Bb := 0) (by decide) ((m_multiply (xs 1) (xs 2) (xs 3)).weak (fun v h' z => ⟨(z.2 hv).2, fun q => absurd q (by decide)⟩)) G1 hm1 ho1 hl hc1 hs1
