/-! the law: its cases -/
set_option maxRecDepth 100000 in
set_option maxHeartbeats 4000000 in
theorem case_coefficient {p : Program} {l : Launch} {e : Env} {s : State} {m : MethodId} {below : List Frame} {meth : Method} {c : Code} {H : Heap} {locs : List Loc} {cells slots b : Nat} {xs : Nat → Int32} {D : va_G} {as : List Nat} {tys : List (ClassId × FieldType)} {ws : va_W} {ls : Array Slot} {am a0 o : Nat} (C : LC p l s m b meth c 4 xs) (G : sg D xcl (AA s) s (H0 ++ (Ms ++ [outC 0])) as tys ws H locs) (h0 : as[0]? = some a0) (hm : as[649]? = some am) (ho : as[662]? = some o) (hl : lv_has ls 7 [(4, .int 0), (3, .ref o), (2, .ref am), (1, .ref a0), (0, .ref b)]) (hc1 : cells + 1 ≤ 10000) (hs1 : slots + 6 ≤ 100000) : W p l e room_1 s m #[Value.ref b] below meth c H locs cells slots (lw_Z below #[Value.ref b] s) (F0 m 136 ls []) := by
  obtain ⟨hx, hb, hr, hml, hown, hts, hX, hbl, hlocks, hN, hTs, hNC, hl0⟩ := id C
  refine lv_aload_n hx hb d_136 rfl (lv_at hl 3 rfl) ?_
  refine rd C (k := 1) (by decide) (by decide) d_137 d_138 d_140 d_141 d_142 (lv_at hl 4 rfl) (lv_at hl 0 rfl) G.2.2.2.2.1 ?_
  refine rd C (k := 2) (by decide) (by decide) d_143 d_144 d_146 d_147 d_148 (lv_at hl 4 rfl) (lv_at hl 0 rfl) G.2.2.2.2.1 ?_
  refine lv_aload_n hx hb d_149 rfl (lv_at hl 1 rfl) ?_
  by_cases hv : cv (xs 1) (xs 2)
  · refine lw_S (k := (nI 0)) (h1 := mI ++ [outC (0 : Int32).toInt64]) (cvs := [.ref a0, .int (xs 1), .int (xs 2), .ref o]) C (w_coefficient_v hl0 hv G.1 h0 ho) FB2 (fun U hU hW => lw_preW G hN hTs U hU hW) wc_coefficient wi_law wl_coefficient wt_coefficient (by decide) (show (parseMethodDescriptor nw_coefficient.desc).map (fun d => d.parameters.length) = some 4 by decide +kernel) (by decide) G (by omega) (by omega) hl.1 rfl d_150 (fun as1 tys1 ws1 H1 locs1 k1 G1 => ?_)
    have hm1 : as1[0]? = some am := by
      obtain ⟨tt, rfl⟩ := k1
      exact getl (asJ_at (k := 0) rfl hm)
    have ho1 : as1[13]? = some o := by
      obtain ⟨tt, rfl⟩ := k1
      exact getl (asJ_at (k := 13) rfl ho)
    exact aft_coefficient C (k := (nI 0)) (V := (0 : Int32).toInt64) (Bb := 0) (by decide) ((m_coefficient (xs 1) (xs 2)).weak (fun v h' z => ⟨z.2.1 hv, fun _ => z.1⟩)) G1 hm1 ho1 hl hc1 hs1
  · refine lw_S (k := (nI 1)) (h1 := mI ++ [outC 0]) (cvs := [.ref a0, .int (xs 1), .int (xs 2), .ref o]) C (w_coefficient_t hl0 hv G.1 h0 ho) FB2 (fun U hU hW => lw_preW G hN hTs U hU hW) wc_coefficient wi_law wl_coefficient wt_coefficient (by decide) (show (parseMethodDescriptor nw_coefficient.desc).map (fun d => d.parameters.length) = some 4 by decide +kernel) (by decide) G (by omega) (by omega) hl.1 rfl d_150 (fun as1 tys1 ws1 H1 locs1 k1 G1 => ?_)
    have hm1 : as1[0]? = some am := by
      obtain ⟨tt, rfl⟩ := k1
      exact getl (asJ_at (k := 0) rfl hm)
    have ho1 : as1[13]? = some o := by
      obtain ⟨tt, rfl⟩ := k1
      exact getl (asJ_at (k := 13) rfl ho)
    exact aft_coefficient C (k := (nI 1)) (V := 0) (Bb := 0) (by decide) ((m_coefficient (xs 1) (xs 2)).weak (fun v h' z => ⟨z.2.2 hv, fun q => absurd q (by decide)⟩)) G1 hm1 ho1 hl hc1 hs1
set_option maxRecDepth 100000 in
set_option maxHeartbeats 4000000 in
theorem case_rootsIn {p : Program} {l : Launch} {e : Env} {s : State} {m : MethodId} {below : List Frame} {meth : Method} {c : Code} {H : Heap} {locs : List Loc} {cells slots b : Nat} {xs : Nat → Int32} {D : va_G} {as : List Nat} {tys : List (ClassId × FieldType)} {ws : va_W} {ls : Array Slot} {am a0 o : Nat} (C : LC p l s m b meth c 4 xs) (G : sg D xcl (AA s) s (H0 ++ (Ms ++ [outC 0])) as tys ws H locs) (h0 : as[0]? = some a0) (hm : as[649]? = some am) (ho : as[662]? = some o) (hl : lv_has ls 7 [(4, .int 0), (3, .ref o), (2, .ref am), (1, .ref a0), (0, .ref b)]) (hc1 : cells + 1 ≤ 10000) (hs1 : slots + 6 ≤ 100000) : W p l e room_1 s m #[Value.ref b] below meth c H locs cells slots (lw_Z below #[Value.ref b] s) (F0 m 230 ls []) := by
  obtain ⟨hx, hb, hr, hml, hown, hts, hX, hbl, hlocks, hN, hTs, hNC, hl0⟩ := id C
  refine lv_aload_n hx hb d_230 rfl (lv_at hl 3 rfl) ?_
  refine rd C (k := 1) (by decide) (by decide) d_231 d_232 d_234 d_235 d_236 (lv_at hl 4 rfl) (lv_at hl 0 rfl) G.2.2.2.2.1 ?_
  refine rd C (k := 2) (by decide) (by decide) d_237 d_238 d_240 d_241 d_242 (lv_at hl 4 rfl) (lv_at hl 0 rfl) G.2.2.2.2.1 ?_
  refine lv_aload_n hx hb d_243 rfl (lv_at hl 1 rfl) ?_
  by_cases hv : sl (xs 1) ∧ sl (xs 2)
  · refine lw_S (k := (nI 0)) (h1 := mI ++ [outC (-1 : Int32).toInt64]) (cvs := [.ref a0, .int (xs 1), .int (xs 2), .ref o]) C (w_rootsIn_v hl0 hv G.1 h0 ho) FB2 (fun U hU hW => lw_preW G hN hTs U hU hW) wc_rootsIn wi_law wl_rootsIn wt_rootsIn (by decide) (show (parseMethodDescriptor nw_rootsIn.desc).map (fun d => d.parameters.length) = some 4 by decide +kernel) (by decide) G (by omega) (by omega) hl.1 rfl d_244 (fun as1 tys1 ws1 H1 locs1 k1 G1 => ?_)
    have hm1 : as1[0]? = some am := by
      obtain ⟨tt, rfl⟩ := k1
      exact getl (asJ_at (k := 0) rfl hm)
    have ho1 : as1[13]? = some o := by
      obtain ⟨tt, rfl⟩ := k1
      exact getl (asJ_at (k := 13) rfl ho)
    exact aft_rootsIn C (k := (nI 0)) (V := (-1 : Int32).toInt64) (Bb := (-nI 1)) (by decide) ((m_rootsIn (xs 1) (xs 2)).weak (fun v h' z => ⟨(z.1 hv).2, fun _ => (z.1 hv).1⟩)) G1 hm1 ho1 hl hc1 hs1
  · refine lw_S (k := (nI 1)) (h1 := mI ++ [outC 0]) (cvs := [.ref a0, .int (xs 1), .int (xs 2), .ref o]) C (w_rootsIn_t hl0 hv G.1 h0 ho) FB2 (fun U hU hW => lw_preW G hN hTs U hU hW) wc_rootsIn wi_law wl_rootsIn wt_rootsIn (by decide) (show (parseMethodDescriptor nw_rootsIn.desc).map (fun d => d.parameters.length) = some 4 by decide +kernel) (by decide) G (by omega) (by omega) hl.1 rfl d_244 (fun as1 tys1 ws1 H1 locs1 k1 G1 => ?_)
    have hm1 : as1[0]? = some am := by
      obtain ⟨tt, rfl⟩ := k1
      exact getl (asJ_at (k := 0) rfl hm)
    have ho1 : as1[13]? = some o := by
      obtain ⟨tt, rfl⟩ := k1
      exact getl (asJ_at (k := 13) rfl ho)
    exact aft_rootsIn C (k := (nI 1)) (V := 0) (Bb := 0) (by decide) ((m_rootsIn (xs 1) (xs 2)).weak (fun v h' z => ⟨(z.2 hv).2, fun q => absurd q (by decide)⟩)) G1 hm1 ho1 hl hc1 hs1
set_option maxRecDepth 100000 in
set_option maxHeartbeats 4000000 in
theorem case_signAt {p : Program} {l : Launch} {e : Env} {s : State} {m : MethodId} {below : List Frame} {meth : Method} {c : Code} {H : Heap} {locs : List Loc} {cells slots b : Nat} {xs : Nat → Int32} {D : va_G} {as : List Nat} {tys : List (ClassId × FieldType)} {ws : va_W} {ls : Array Slot} {am a0 o : Nat} (C : LC p l s m b meth c 4 xs) (G : sg D xcl (AA s) s (H0 ++ (Ms ++ [outC 0])) as tys ws H locs) (h0 : as[0]? = some a0) (hm : as[649]? = some am) (ho : as[662]? = some o) (hl : lv_has ls 7 [(4, .int 0), (3, .ref o), (2, .ref am), (1, .ref a0), (0, .ref b)]) (hc1 : cells + 1 ≤ 10000) (hs1 : slots + 6 ≤ 100000) : W p l e room_1 s m #[Value.ref b] below meth c H locs cells slots (lw_Z below #[Value.ref b] s) (F0 m 298 ls []) := by
  obtain ⟨hx, hb, hr, hml, hown, hts, hX, hbl, hlocks, hN, hTs, hNC, hl0⟩ := id C
  refine lv_aload_n hx hb d_298 rfl (lv_at hl 3 rfl) ?_
  refine rd C (k := 1) (by decide) (by decide) d_299 d_300 d_302 d_303 d_304 (lv_at hl 4 rfl) (lv_at hl 0 rfl) G.2.2.2.2.1 ?_
  refine lv_aload_n hx hb d_305 rfl (lv_at hl 1 rfl) ?_
  by_cases hv : sl (xs 1)
  · refine lw_S (k := (nI 0)) (h1 := mI ++ [outC (0 : Int32).toInt64]) (cvs := [.ref a0, .int (xs 1), .ref o]) C (w_signAt_v hl0 hv G.1 h0 ho) FB2 (fun U hU hW => lw_preW G hN hTs U hU hW) wc_signAt wi_law wl_signAt wt_signAt (by decide) (show (parseMethodDescriptor nw_signAt.desc).map (fun d => d.parameters.length) = some 3 by decide +kernel) (by decide) G (by omega) (by omega) hl.1 rfl d_306 (fun as1 tys1 ws1 H1 locs1 k1 G1 => ?_)
    have hm1 : as1[0]? = some am := by
      obtain ⟨tt, rfl⟩ := k1
      exact getl (asJ_at (k := 0) rfl hm)
    have ho1 : as1[13]? = some o := by
      obtain ⟨tt, rfl⟩ := k1
      exact getl (asJ_at (k := 13) rfl ho)
    exact aft_signAt C (k := (nI 0)) (V := (0 : Int32).toInt64) (Bb := (nI 0)) (by decide) ((m_signAt (xs 1)).weak (fun v h' z => ⟨(z.1 hv).2, fun _ => (z.1 hv).1⟩)) G1 hm1 ho1 hl hc1 hs1
  · refine lw_S (k := (nI 1)) (h1 := mI ++ [outC 0]) (cvs := [.ref a0, .int (xs 1), .ref o]) C (w_signAt_t hl0 hv G.1 h0 ho) FB2 (fun U hU hW => lw_preW G hN hTs U hU hW) wc_signAt wi_law wl_signAt wt_signAt (by decide) (show (parseMethodDescriptor nw_signAt.desc).map (fun d => d.parameters.length) = some 3 by decide +kernel) (by decide) G (by omega) (by omega) hl.1 rfl d_306 (fun as1 tys1 ws1 H1 locs1 k1 G1 => ?_)
    have hm1 : as1[0]? = some am := by
      obtain ⟨tt, rfl⟩ := k1
      exact getl (asJ_at (k := 0) rfl hm)
    have ho1 : as1[13]? = some o := by
      obtain ⟨tt, rfl⟩ := k1
      exact getl (asJ_at (k := 13) rfl ho)
    exact aft_signAt C (k := (nI 1)) (V := 0) (Bb := 0) (by decide) ((m_signAt (xs 1)).weak (fun v h' z => ⟨(z.2 hv).2, fun q => absurd q (by decide)⟩)) G1 hm1 ho1 hl hc1 hs1
set_option maxRecDepth 100000 in
set_option maxHeartbeats 4000000 in
theorem case_take {p : Program} {l : Launch} {e : Env} {s : State} {m : MethodId} {below : List Frame} {meth : Method} {c : Code} {H : Heap} {locs : List Loc} {cells slots b : Nat} {xs : Nat → Int32} {D : va_G} {as : List Nat} {tys : List (ClassId × FieldType)} {ws : va_W} {ls : Array Slot} {am a0 o : Nat} (C : LC p l s m b meth c 4 xs) (G : sg D xcl (AA s) s (H0 ++ (Ms ++ [outC 0])) as tys ws H locs) (h0 : as[0]? = some a0) (hm : as[649]? = some am) (ho : as[662]? = some o) (hl : lv_has ls 7 [(4, .int 0), (3, .ref o), (2, .ref am), (1, .ref a0), (0, .ref b)]) (hc1 : cells + 1 ≤ 10000) (hs1 : slots + 6 ≤ 100000) : W p l e room_1 s m #[Value.ref b] below meth c H locs cells slots (lw_Z below #[Value.ref b] s) (F0 m 354 ls []) := by
  obtain ⟨hx, hb, hr, hml, hown, hts, hX, hbl, hlocks, hN, hTs, hNC, hl0⟩ := id C
  refine lv_aload_n hx hb d_354 rfl (lv_at hl 3 rfl) ?_
  refine rd C (k := 1) (by decide) (by decide) d_355 d_356 d_358 d_359 d_360 (lv_at hl 4 rfl) (lv_at hl 0 rfl) G.2.2.2.2.1 ?_
  refine rd C (k := 2) (by decide) (by decide) d_361 d_362 d_364 d_365 d_366 (lv_at hl 4 rfl) (lv_at hl 0 rfl) G.2.2.2.2.1 ?_
  refine lv_aload_n hx hb d_367 rfl (lv_at hl 1 rfl) ?_
  by_cases hv : sl (xs 1)
  · refine lw_S (k := (nI 0)) (h1 := mI ++ [outC 0]) (cvs := [.ref a0, .int (xs 1), .int (xs 2), .ref o]) C (w_take_v hl0 hv G.1 h0 ho) FB2 (fun U hU hW => lw_preW G hN hTs U hU hW) wc_take wi_law wl_take wt_take (by decide) (show (parseMethodDescriptor nw_take.desc).map (fun d => d.parameters.length) = some 4 by decide +kernel) (by decide) G (by omega) (by omega) hl.1 rfl d_368 (fun as1 tys1 ws1 H1 locs1 k1 G1 => ?_)
    have hm1 : as1[0]? = some am := by
      obtain ⟨tt, rfl⟩ := k1
      exact getl (asJ_at (k := 0) rfl hm)
    have ho1 : as1[13]? = some o := by
      obtain ⟨tt, rfl⟩ := k1
      exact getl (asJ_at (k := 13) rfl ho)
    exact aft_take C (k := (nI 0)) (V := 0) (Bb := (nI 0)) (by decide) ((m_take (xs 1) (xs 2)).weak (fun v h' z => ⟨(z.1 hv).2, fun _ => (z.1 hv).1⟩)) G1 hm1 ho1 hl hc1 hs1
  · refine lw_S (k := (nI 1)) (h1 := mI ++ [outC 0]) (cvs := [.ref a0, .int (xs 1), .int (xs 2), .ref o]) C (w_take_t hl0 hv G.1 h0 ho) FB2 (fun U hU hW => lw_preW G hN hTs U hU hW) wc_take wi_law wl_take wt_take (by decide) (show (parseMethodDescriptor nw_take.desc).map (fun d => d.parameters.length) = some 4 by decide +kernel) (by decide) G (by omega) (by omega) hl.1 rfl d_368 (fun as1 tys1 ws1 H1 locs1 k1 G1 => ?_)
    have hm1 : as1[0]? = some am := by
      obtain ⟨tt, rfl⟩ := k1
      exact getl (asJ_at (k := 0) rfl hm)
    have ho1 : as1[13]? = some o := by
      obtain ⟨tt, rfl⟩ := k1
      exact getl (asJ_at (k := 13) rfl ho)
    exact aft_take C (k := (nI 1)) (V := 0) (Bb := 0) (by decide) ((m_take (xs 1) (xs 2)).weak (fun v h' z => ⟨(z.2 hv).2, fun q => absurd q (by decide)⟩)) G1 hm1 ho1 hl hc1 hs1
set_option maxRecDepth 100000 in
set_option maxHeartbeats 4000000 in
theorem case_fraction {p : Program} {l : Launch} {e : Env} {s : State} {m : MethodId} {below : List Frame} {meth : Method} {c : Code} {H : Heap} {locs : List Loc} {cells slots b : Nat} {xs : Nat → Int32} {D : va_G} {as : List Nat} {tys : List (ClassId × FieldType)} {ws : va_W} {ls : Array Slot} {am a0 o : Nat} (C : LC p l s m b meth c 4 xs) (G : sg D xcl (AA s) s (H0 ++ (Ms ++ [outC 0])) as tys ws H locs) (h0 : as[0]? = some a0) (hm : as[649]? = some am) (ho : as[662]? = some o) (hl : lv_has ls 7 [(4, .int 0), (3, .ref o), (2, .ref am), (1, .ref a0), (0, .ref b)]) (hc1 : cells + 1 ≤ 10000) (hs1 : slots + 6 ≤ 100000) : W p l e room_1 s m #[Value.ref b] below meth c H locs cells slots (lw_Z below #[Value.ref b] s) (F0 m 429 ls []) := by
  obtain ⟨hx, hb, hr, hml, hown, hts, hX, hbl, hlocks, hN, hTs, hNC, hl0⟩ := id C
  refine lv_aload_n hx hb d_429 rfl (lv_at hl 3 rfl) ?_
  refine rd C (k := 1) (by decide) (by decide) d_430 d_431 d_433 d_434 d_435 (lv_at hl 4 rfl) (lv_at hl 0 rfl) G.2.2.2.2.1 ?_
  refine rd C (k := 2) (by decide) (by decide) d_436 d_437 d_439 d_440 d_441 (lv_at hl 4 rfl) (lv_at hl 0 rfl) G.2.2.2.2.1 ?_
  refine rd C (k := 3) (by decide) (by decide) d_442 d_443 d_445 d_446 d_447 (lv_at hl 4 rfl) (lv_at hl 0 rfl) G.2.2.2.2.1 ?_
  by_cases hv : sl (xs 1) ∧ ¬ (xs 2) < -1000000 ∧ ¬ 1000000 < (xs 2) ∧ ¬ (xs 3) < nI 1 ∧ ¬ 1000000 < (xs 3)
  · refine lw_S (k := (nI 0)) (h1 := mI ++ [outC 0]) (cvs := [.ref a0, .int (xs 1), .int (xs 2), .int (xs 3)]) C (w_fraction_v hl0 hv G.1 h0 ho) FB2 (fun U hU hW => lw_preW G hN hTs U hU hW) wc_fraction wi_law wl_fraction wt_fraction (by decide) (show (parseMethodDescriptor nw_fraction.desc).map (fun d => d.parameters.length) = some 4 by decide +kernel) (by decide) G (by omega) (by omega) hl.1 rfl d_448 (fun as1 tys1 ws1 H1 locs1 k1 G1 => ?_)
    have hm1 : as1[0]? = some am := by
      obtain ⟨tt, rfl⟩ := k1
      exact getl (asJ_at (k := 0) rfl hm)
    have ho1 : as1[13]? = some o := by
      obtain ⟨tt, rfl⟩ := k1
      exact getl (asJ_at (k := 13) rfl ho)
    exact aft_fraction C (k := (nI 0)) (V := 0) ((m_fraction (xs 1) (xs 2) (xs 3)).weak (fun v h' z => ⟨(z.1 hv).2, trivial⟩)) G1 hm1 ho1 hl hc1 hs1
  · refine lw_S (k := (nI 1)) (h1 := mI ++ [outC 0]) (cvs := [.ref a0, .int (xs 1), .int (xs 2), .int (xs 3)]) C (w_fraction_t hl0 hv G.1 h0 ho) FB2 (fun U hU hW => lw_preW G hN hTs U hU hW) wc_fraction wi_law wl_fraction wt_fraction (by decide) (show (parseMethodDescriptor nw_fraction.desc).map (fun d => d.parameters.length) = some 4 by decide +kernel) (by decide) G (by omega) (by omega) hl.1 rfl d_448 (fun as1 tys1 ws1 H1 locs1 k1 G1 => ?_)
    have hm1 : as1[0]? = some am := by
      obtain ⟨tt, rfl⟩ := k1
      exact getl (asJ_at (k := 0) rfl hm)
    have ho1 : as1[13]? = some o := by
      obtain ⟨tt, rfl⟩ := k1
      exact getl (asJ_at (k := 13) rfl ho)
    exact aft_fraction C (k := (nI 1)) (V := 0) ((m_fraction (xs 1) (xs 2) (xs 3)).weak (fun v h' z => ⟨z.2 hv, trivial⟩)) G1 hm1 ho1 hl hc1 hs1
set_option maxRecDepth 100000 in
set_option maxHeartbeats 4000000 in
theorem case_copy {p : Program} {l : Launch} {e : Env} {s : State} {m : MethodId} {below : List Frame} {meth : Method} {c : Code} {H : Heap} {locs : List Loc} {cells slots b : Nat} {xs : Nat → Int32} {D : va_G} {as : List Nat} {tys : List (ClassId × FieldType)} {ws : va_W} {ls : Array Slot} {am a0 o : Nat} (C : LC p l s m b meth c 4 xs) (G : sg D xcl (AA s) s (H0 ++ (Ms ++ [outC 0])) as tys ws H locs) (h0 : as[0]? = some a0) (hm : as[649]? = some am) (ho : as[662]? = some o) (hl : lv_has ls 7 [(4, .int 0), (3, .ref o), (2, .ref am), (1, .ref a0), (0, .ref b)]) (hc1 : cells + 1 ≤ 10000) (hs1 : slots + 6 ≤ 100000) : W p l e room_1 s m #[Value.ref b] below meth c H locs cells slots (lw_Z below #[Value.ref b] s) (F0 m 489 ls []) := by
  obtain ⟨hx, hb, hr, hml, hown, hts, hX, hbl, hlocks, hN, hTs, hNC, hl0⟩ := id C
  refine lv_aload_n hx hb d_489 rfl (lv_at hl 3 rfl) ?_
  refine rd C (k := 1) (by decide) (by decide) d_490 d_491 d_493 d_494 d_495 (lv_at hl 4 rfl) (lv_at hl 0 rfl) G.2.2.2.2.1 ?_
  refine rd C (k := 2) (by decide) (by decide) d_496 d_497 d_499 d_500 d_501 (lv_at hl 4 rfl) (lv_at hl 0 rfl) G.2.2.2.2.1 ?_
  by_cases hv : sl (xs 1) ∧ sl (xs 2)
  · refine lw_S (k := (nI 0)) (h1 := mI ++ [outC 0]) (cvs := [.ref a0, .int (xs 1), .int (xs 2)]) C (w_copy_v hl0 hv G.1 h0 ho) FB2 (fun U hU hW => lw_preW G hN hTs U hU hW) wc_copy wi_law wl_copy wt_copy (by decide) (show (parseMethodDescriptor nw_copy.desc).map (fun d => d.parameters.length) = some 3 by decide +kernel) (by decide) G (by omega) (by omega) hl.1 rfl d_502 (fun as1 tys1 ws1 H1 locs1 k1 G1 => ?_)
    have hm1 : as1[0]? = some am := by
      obtain ⟨tt, rfl⟩ := k1
      exact getl (asJ_at (k := 0) rfl hm)
    have ho1 : as1[13]? = some o := by
      obtain ⟨tt, rfl⟩ := k1
      exact getl (asJ_at (k := 13) rfl ho)
    exact aft_copy C (k := (nI 0)) (V := 0) ((m_copy (xs 1) (xs 2)).weak (fun v h' z => ⟨(z.1 hv).2, trivial⟩)) G1 hm1 ho1 hl hc1 hs1
  · refine lw_S (k := (nI 1)) (h1 := mI ++ [outC 0]) (cvs := [.ref a0, .int (xs 1), .int (xs 2)]) C (w_copy_t hl0 hv G.1 h0 ho) FB2 (fun U hU hW => lw_preW G hN hTs U hU hW) wc_copy wi_law wl_copy wt_copy (by decide) (show (parseMethodDescriptor nw_copy.desc).map (fun d => d.parameters.length) = some 3 by decide +kernel) (by decide) G (by omega) (by omega) hl.1 rfl d_502 (fun as1 tys1 ws1 H1 locs1 k1 G1 => ?_)
    have hm1 : as1[0]? = some am := by
      obtain ⟨tt, rfl⟩ := k1
      exact getl (asJ_at (k := 0) rfl hm)
    have ho1 : as1[13]? = some o := by
      obtain ⟨tt, rfl⟩ := k1
      exact getl (asJ_at (k := 13) rfl ho)
    exact aft_copy C (k := (nI 1)) (V := 0) ((m_copy (xs 1) (xs 2)).weak (fun v h' z => ⟨(z.2 hv).2, trivial⟩)) G1 hm1 ho1 hl hc1 hs1
set_option maxRecDepth 100000 in
set_option maxHeartbeats 4000000 in
theorem case_negate {p : Program} {l : Launch} {e : Env} {s : State} {m : MethodId} {below : List Frame} {meth : Method} {c : Code} {H : Heap} {locs : List Loc} {cells slots b : Nat} {xs : Nat → Int32} {D : va_G} {as : List Nat} {tys : List (ClassId × FieldType)} {ws : va_W} {ls : Array Slot} {am a0 o : Nat} (C : LC p l s m b meth c 4 xs) (G : sg D xcl (AA s) s (H0 ++ (Ms ++ [outC 0])) as tys ws H locs) (h0 : as[0]? = some a0) (hm : as[649]? = some am) (ho : as[662]? = some o) (hl : lv_has ls 7 [(4, .int 0), (3, .ref o), (2, .ref am), (1, .ref a0), (0, .ref b)]) (hc1 : cells + 1 ≤ 10000) (hs1 : slots + 6 ≤ 100000) : W p l e room_1 s m #[Value.ref b] below meth c H locs cells slots (lw_Z below #[Value.ref b] s) (F0 m 537 ls []) := by
  obtain ⟨hx, hb, hr, hml, hown, hts, hX, hbl, hlocks, hN, hTs, hNC, hl0⟩ := id C
  refine lv_aload_n hx hb d_537 rfl (lv_at hl 3 rfl) ?_
  refine rd C (k := 1) (by decide) (by decide) d_538 d_539 d_541 d_542 d_543 (lv_at hl 4 rfl) (lv_at hl 0 rfl) G.2.2.2.2.1 ?_
  refine rd C (k := 2) (by decide) (by decide) d_544 d_545 d_547 d_548 d_549 (lv_at hl 4 rfl) (lv_at hl 0 rfl) G.2.2.2.2.1 ?_
  by_cases hv : sl (xs 1) ∧ sl (xs 2)
  · refine lw_S (k := (nI 0)) (h1 := mI ++ [outC 0]) (cvs := [.ref a0, .int (xs 1), .int (xs 2)]) C (w_negate_v hl0 hv G.1 h0 ho) FB2 (fun U hU hW => lw_preW G hN hTs U hU hW) wc_negate wi_law wl_negate wt_negate (by decide) (show (parseMethodDescriptor nw_negate.desc).map (fun d => d.parameters.length) = some 3 by decide +kernel) (by decide) G (by omega) (by omega) hl.1 rfl d_550 (fun as1 tys1 ws1 H1 locs1 k1 G1 => ?_)
    have hm1 : as1[0]? = some am := by
      obtain ⟨tt, rfl⟩ := k1
      exact getl (asJ_at (k := 0) rfl hm)
    have ho1 : as1[13]? = some o := by
      obtain ⟨tt, rfl⟩ := k1
      exact getl (asJ_at (k := 13) rfl ho)
    exact aft_negate C (k := (nI 0)) (V := 0) ((m_negate (xs 1) (xs 2)).weak (fun v h' z => ⟨(z.1 hv).2, trivial⟩)) G1 hm1 ho1 hl hc1 hs1
  · refine lw_S (k := (nI 1)) (h1 := mI ++ [outC 0]) (cvs := [.ref a0, .int (xs 1), .int (xs 2)]) C (w_negate_t hl0 hv G.1 h0 ho) FB2 (fun U hU hW => lw_preW G hN hTs U hU hW) wc_negate wi_law wl_negate wt_negate (by decide) (show (parseMethodDescriptor nw_negate.desc).map (fun d => d.parameters.length) = some 3 by decide +kernel) (by decide) G (by omega) (by omega) hl.1 rfl d_550 (fun as1 tys1 ws1 H1 locs1 k1 G1 => ?_)
    have hm1 : as1[0]? = some am := by
      obtain ⟨tt, rfl⟩ := k1
      exact getl (asJ_at (k := 0) rfl hm)
    have ho1 : as1[13]? = some o := by
      obtain ⟨tt, rfl⟩ := k1
      exact getl (asJ_at (k := 13) rfl ho)
    exact aft_negate C (k := (nI 1)) (V := 0) ((m_negate (xs 1) (xs 2)).weak (fun v h' z => ⟨(z.2 hv).2, trivial⟩)) G1 hm1 ho1 hl hc1 hs1
set_option maxRecDepth 100000 in
set_option maxHeartbeats 4000000 in
theorem case_invert {p : Program} {l : Launch} {e : Env} {s : State} {m : MethodId} {below : List Frame} {meth : Method} {c : Code} {H : Heap} {locs : List Loc} {cells slots b : Nat} {xs : Nat → Int32} {D : va_G} {as : List Nat} {tys : List (ClassId × FieldType)} {ws : va_W} {ls : Array Slot} {am a0 o : Nat} (C : LC p l s m b meth c 4 xs) (G : sg D xcl (AA s) s (H0 ++ (Ms ++ [outC 0])) as tys ws H locs) (h0 : as[0]? = some a0) (hm : as[649]? = some am) (ho : as[662]? = some o) (hl : lv_has ls 7 [(4, .int 0), (3, .ref o), (2, .ref am), (1, .ref a0), (0, .ref b)]) (hc1 : cells + 1 ≤ 10000) (hs1 : slots + 6 ≤ 100000) : W p l e room_1 s m #[Value.ref b] below meth c H locs cells slots (lw_Z below #[Value.ref b] s) (F0 m 585 ls []) := by
  obtain ⟨hx, hb, hr, hml, hown, hts, hX, hbl, hlocks, hN, hTs, hNC, hl0⟩ := id C
  refine lv_aload_n hx hb d_585 rfl (lv_at hl 3 rfl) ?_
  refine rd C (k := 1) (by decide) (by decide) d_586 d_587 d_589 d_590 d_591 (lv_at hl 4 rfl) (lv_at hl 0 rfl) G.2.2.2.2.1 ?_
  refine rd C (k := 2) (by decide) (by decide) d_592 d_593 d_595 d_596 d_597 (lv_at hl 4 rfl) (lv_at hl 0 rfl) G.2.2.2.2.1 ?_
  by_cases hv : sl (xs 1) ∧ sl (xs 2)
  · refine lw_S (k := (nI 2)) (h1 := mI ++ [outC 0]) (cvs := [.ref a0, .int (xs 1), .int (xs 2)]) C (w_invert_a hl0 hv G.1 h0 ho) FB3 (fun U hU hW => ⟨(lw_preW G hN hTs U hU hW).1, (lw_preW (cvs := [.ref a0, .int (xs 1), .int (xs 2)]) G hN hTs U hU hW).2, NC.moved hW.alike hNC⟩) wc_invert wi_law wl_invert wt_invert (by decide) (show (parseMethodDescriptor nw_invert.desc).map (fun d => d.parameters.length) = some 3 by decide +kernel) (by decide) G (by omega) (by omega) hl.1 rfl d_598 (fun as1 tys1 ws1 H1 locs1 k1 G1 => ?_)
    have hm1 : as1[0]? = some am := by
      obtain ⟨tt, rfl⟩ := k1
      exact getl (asJ_at (k := 0) rfl hm)
    have ho1 : as1[13]? = some o := by
      obtain ⟨tt, rfl⟩ := k1
      exact getl (asJ_at (k := 13) rfl ho)
    exact aft_invert C (k := (nI 2)) (V := 0) ((m_invert (xs 1) (xs 2)).weak (fun v h' z => ⟨z.2.1 hv, trivial⟩)) G1 hm1 ho1 hl hc1 hs1
  · refine lw_S (k := (nI 1)) (h1 := mI ++ [outC 0]) (cvs := [.ref a0, .int (xs 1), .int (xs 2)]) C (w_invert_t hl0 hv G.1 h0 ho) FB2 (fun U hU hW => lw_preW G hN hTs U hU hW) wc_invert wi_law wl_invert wt_invert (by decide) (show (parseMethodDescriptor nw_invert.desc).map (fun d => d.parameters.length) = some 3 by decide +kernel) (by decide) G (by omega) (by omega) hl.1 rfl d_598 (fun as1 tys1 ws1 H1 locs1 k1 G1 => ?_)
    have hm1 : as1[0]? = some am := by
      obtain ⟨tt, rfl⟩ := k1
      exact getl (asJ_at (k := 0) rfl hm)
    have ho1 : as1[13]? = some o := by
      obtain ⟨tt, rfl⟩ := k1
      exact getl (asJ_at (k := 13) rfl ho)
    exact aft_invert C (k := (nI 1)) (V := 0) ((m_invert (xs 1) (xs 2)).weak (fun v h' z => ⟨z.2.2 hv, trivial⟩)) G1 hm1 ho1 hl hc1 hs1
set_option maxRecDepth 100000 in
set_option maxHeartbeats 4000000 in
theorem case_divide {p : Program} {l : Launch} {e : Env} {s : State} {m : MethodId} {below : List Frame} {meth : Method} {c : Code} {H : Heap} {locs : List Loc} {cells slots b : Nat} {xs : Nat → Int32} {D : va_G} {as : List Nat} {tys : List (ClassId × FieldType)} {ws : va_W} {ls : Array Slot} {am a0 o : Nat} (C : LC p l s m b meth c 4 xs) (G : sg D xcl (AA s) s (H0 ++ (Ms ++ [outC 0])) as tys ws H locs) (h0 : as[0]? = some a0) (hm : as[649]? = some am) (ho : as[662]? = some o) (hl : lv_has ls 7 [(4, .int 0), (3, .ref o), (2, .ref am), (1, .ref a0), (0, .ref b)]) (hc1 : cells + 1 ≤ 10000) (hs1 : slots + 6 ≤ 100000) : W p l e room_1 s m #[Value.ref b] below meth c H locs cells slots (lw_Z below #[Value.ref b] s) (F0 m 894 ls []) := by
  obtain ⟨hx, hb, hr, hml, hown, hts, hX, hbl, hlocks, hN, hTs, hNC, hl0⟩ := id C
  refine lv_aload_n hx hb d_894 rfl (lv_at hl 3 rfl) ?_
  refine rd C (k := 1) (by decide) (by decide) d_895 d_896 d_898 d_899 d_900 (lv_at hl 4 rfl) (lv_at hl 0 rfl) G.2.2.2.2.1 ?_
  refine rd C (k := 2) (by decide) (by decide) d_901 d_902 d_904 d_905 d_906 (lv_at hl 4 rfl) (lv_at hl 0 rfl) G.2.2.2.2.1 ?_
  refine rd C (k := 3) (by decide) (by decide) d_907 d_908 d_910 d_911 d_912 (lv_at hl 4 rfl) (lv_at hl 0 rfl) G.2.2.2.2.1 ?_
  refine lv_aload_n hx hb d_913 rfl (lv_at hl 1 rfl) ?_
  by_cases hv : sl (xs 1) ∧ sl (xs 2) ∧ sl (xs 3)
  · refine lw_S (k := (nI 2)) (h1 := mI ++ [outC 0]) (cvs := [.ref a0, .int (xs 1), .int (xs 2), .int (xs 3), .ref o]) C (w_divide_a hl0 hv G.1 h0 ho) FB3 (fun U hU hW => ⟨(lw_preW G hN hTs U hU hW).1, (lw_preW (cvs := [.ref a0, .int (xs 1), .int (xs 2), .int (xs 3), .ref o]) G hN hTs U hU hW).2, NC.moved hW.alike hNC⟩) wc_divide wi_law wl_divide wt_divide (by decide) (show (parseMethodDescriptor nw_divide.desc).map (fun d => d.parameters.length) = some 5 by decide +kernel) (by decide) G (by omega) (by omega) hl.1 rfl d_914 (fun as1 tys1 ws1 H1 locs1 k1 G1 => ?_)
    have hm1 : as1[0]? = some am := by
      obtain ⟨tt, rfl⟩ := k1
      exact getl (asJ_at (k := 0) rfl hm)
    have ho1 : as1[13]? = some o := by
      obtain ⟨tt, rfl⟩ := k1
      exact getl (asJ_at (k := 13) rfl ho)
    exact aft_divide C (k := (nI 2)) (V := 0) (Bb := 0) (by decide) ((m_divide (xs 1) (xs 2) (xs 3)).weak (fun v h' z => ⟨z.1 hv, fun q => absurd q (by decide)⟩)) G1 hm1 ho1 hl hc1 hs1
  · refine lw_S (k := (nI 1)) (h1 := mI ++ [outC 0]) (cvs := [.ref a0, .int (xs 1), .int (xs 2), .int (xs 3), .ref o]) C (w_divide_t hl0 hv G.1 h0 ho) FB2 (fun U hU hW => lw_preW G hN hTs U hU hW) wc_divide wi_law wl_divide wt_divide (by decide) (show (parseMethodDescriptor nw_divide.desc).map (fun d => d.parameters.length) = some 5 by decide +kernel) (by decide) G (by omega) (by omega) hl.1 rfl d_914 (fun as1 tys1 ws1 H1 locs1 k1 G1 => ?_)
    have hm1 : as1[0]? = some am := by
      obtain ⟨tt, rfl⟩ := k1
      exact getl (asJ_at (k := 0) rfl hm)
    have ho1 : as1[13]? = some o := by
      obtain ⟨tt, rfl⟩ := k1
      exact getl (asJ_at (k := 13) rfl ho)
    exact aft_divide C (k := (nI 1)) (V := 0) (Bb := 0) (by decide) ((m_divide (xs 1) (xs 2) (xs 3)).weak (fun v h' z => ⟨z.2 hv, fun q => absurd q (by decide)⟩)) G1 hm1 ho1 hl hc1 hs1
set_option maxRecDepth 100000 in
set_option maxHeartbeats 4000000 in
theorem case_root {p : Program} {l : Launch} {e : Env} {s : State} {m : MethodId} {below : List Frame} {meth : Method} {c : Code} {H : Heap} {locs : List Loc} {cells slots b : Nat} {xs : Nat → Int32} {D : va_G} {as : List Nat} {tys : List (ClassId × FieldType)} {ws : va_W} {ls : Array Slot} {am a0 o : Nat} (C : LC p l s m b meth c 4 xs) (G : sg D xcl (AA s) s (H0 ++ (Ms ++ [outC 0])) as tys ws H locs) (h0 : as[0]? = some a0) (hm : as[649]? = some am) (ho : as[662]? = some o) (hl : lv_has ls 7 [(4, .int 0), (3, .ref o), (2, .ref am), (1, .ref a0), (0, .ref b)]) (hc1 : cells + 1 ≤ 10000) (hs1 : slots + 6 ≤ 100000) : W p l e room_1 s m #[Value.ref b] below meth c H locs cells slots (lw_Z below #[Value.ref b] s) (F0 m 981 ls []) := by
  obtain ⟨hx, hb, hr, hml, hown, hts, hX, hbl, hlocks, hN, hTs, hNC, hl0⟩ := id C
  refine lv_aload_n hx hb d_981 rfl (lv_at hl 3 rfl) ?_
  refine rd C (k := 1) (by decide) (by decide) d_982 d_983 d_985 d_986 d_987 (lv_at hl 4 rfl) (lv_at hl 0 rfl) G.2.2.2.2.1 ?_
  refine rd C (k := 2) (by decide) (by decide) d_988 d_989 d_991 d_992 d_993 (lv_at hl 4 rfl) (lv_at hl 0 rfl) G.2.2.2.2.1 ?_
  refine rd C (k := 3) (by decide) (by decide) d_994 d_995 d_997 d_998 d_999 (lv_at hl 4 rfl) (lv_at hl 0 rfl) G.2.2.2.2.1 ?_
  refine lv_aload_n hx hb d_1000 rfl (lv_at hl 1 rfl) ?_
  by_cases hv : sl (xs 1) ∧ sl (xs 2) ∧ ((xs 3) = nI 2 ∨ (xs 3) = nI 3)
  · refine lw_S (k := (nI 0)) (h1 := mI ++ [outC 1]) (cvs := [.ref a0, .int (xs 1), .int (xs 2), .int (xs 3), .ref o]) C (w_root_v hl0 hv G.1 h0 ho) FB2 (fun U hU hW => lw_preW G hN hTs U hU hW) wc_root wi_law wl_root wt_root (by decide) (show (parseMethodDescriptor nw_root.desc).map (fun d => d.parameters.length) = some 5 by decide +kernel) (by decide) G (by omega) (by omega) hl.1 rfl d_1001 (fun as1 tys1 ws1 H1 locs1 k1 G1 => ?_)
    have hm1 : as1[0]? = some am := by
      obtain ⟨tt, rfl⟩ := k1
      exact getl (asJ_at (k := 0) rfl hm)
    have ho1 : as1[13]? = some o := by
      obtain ⟨tt, rfl⟩ := k1
      exact getl (asJ_at (k := 13) rfl ho)
    exact aft_root C (k := (nI 0)) (V := 1) (Bb := (nI 1)) (by decide) ((m_root (xs 1) (xs 2) (xs 3)).weak (fun v h' z => ⟨(z.1 hv).2, fun _ => (z.1 hv).1⟩)) G1 hm1 ho1 hl hc1 hs1
  · refine lw_S (k := (nI 1)) (h1 := mI ++ [outC 0]) (cvs := [.ref a0, .int (xs 1), .int (xs 2), .int (xs 3), .ref o]) C (w_root_t hl0 hv G.1 h0 ho) FB2 (fun U hU hW => lw_preW G hN hTs U hU hW) wc_root wi_law wl_root wt_root (by decide) (show (parseMethodDescriptor nw_root.desc).map (fun d => d.parameters.length) = some 5 by decide +kernel) (by decide) G (by omega) (by omega) hl.1 rfl d_1001 (fun as1 tys1 ws1 H1 locs1 k1 G1 => ?_)
    have hm1 : as1[0]? = some am := by
      obtain ⟨tt, rfl⟩ := k1
      exact getl (asJ_at (k := 0) rfl hm)
    have ho1 : as1[13]? = some o := by
      obtain ⟨tt, rfl⟩ := k1
      exact getl (asJ_at (k := 13) rfl ho)
    exact aft_root C (k := (nI 1)) (V := 0) (Bb := 0) (by decide) ((m_root (xs 1) (xs 2) (xs 3)).weak (fun v h' z => ⟨z.2 hv, fun q => absurd q (by decide)⟩)) G1 hm1 ho1 hl hc1 hs1
set_option maxRecDepth 100000 in
set_option maxHeartbeats 4000000 in
theorem case_compare {p : Program} {l : Launch} {e : Env} {s : State} {m : MethodId} {below : List Frame} {meth : Method} {c : Code} {H : Heap} {locs : List Loc} {cells slots b : Nat} {xs : Nat → Int32} {D : va_G} {as : List Nat} {tys : List (ClassId × FieldType)} {ws : va_W} {ls : Array Slot} {am a0 o : Nat} (C : LC p l s m b meth c 4 xs) (G : sg D xcl (AA s) s (H0 ++ (Ms ++ [outC 0])) as tys ws H locs) (h0 : as[0]? = some a0) (hm : as[649]? = some am) (ho : as[662]? = some o) (hl : lv_has ls 7 [(4, .int 0), (3, .ref o), (2, .ref am), (1, .ref a0), (0, .ref b)]) (hc1 : cells + 1 ≤ 10000) (hs1 : slots + 6 ≤ 100000) : W p l e room_1 s m #[Value.ref b] below meth c H locs cells slots (lw_Z below #[Value.ref b] s) (F0 m 1068 ls []) := by
  obtain ⟨hx, hb, hr, hml, hown, hts, hX, hbl, hlocks, hN, hTs, hNC, hl0⟩ := id C
  refine lv_aload_n hx hb d_1068 rfl (lv_at hl 3 rfl) ?_
  refine rd C (k := 1) (by decide) (by decide) d_1069 d_1070 d_1072 d_1073 d_1074 (lv_at hl 4 rfl) (lv_at hl 0 rfl) G.2.2.2.2.1 ?_
  refine rd C (k := 2) (by decide) (by decide) d_1075 d_1076 d_1078 d_1079 d_1080 (lv_at hl 4 rfl) (lv_at hl 0 rfl) G.2.2.2.2.1 ?_
  refine lv_aload_n hx hb d_1081 rfl (lv_at hl 1 rfl) ?_
  by_cases hv : sl (xs 1) ∧ sl (xs 2)
  · refine lw_S (k := (nI 0)) (h1 := mI ++ [outC (0 : Int32).toInt64]) (cvs := [.ref a0, .int (xs 1), .int (xs 2), .ref o]) C (w_compare_v hl0 hv G.1 h0 ho) FB2 (fun U hU hW => lw_preW G hN hTs U hU hW) wc_compare wi_law wl_compare wt_compare (by decide) (show (parseMethodDescriptor nw_compare.desc).map (fun d => d.parameters.length) = some 4 by decide +kernel) (by decide) G (by omega) (by omega) hl.1 rfl d_1082 (fun as1 tys1 ws1 H1 locs1 k1 G1 => ?_)
    have hm1 : as1[0]? = some am := by
      obtain ⟨tt, rfl⟩ := k1
      exact getl (asJ_at (k := 0) rfl hm)
    have ho1 : as1[13]? = some o := by
      obtain ⟨tt, rfl⟩ := k1
      exact getl (asJ_at (k := 13) rfl ho)
    exact aft_compare C (k := (nI 0)) (V := (0 : Int32).toInt64) (Bb := (nI 0)) (by decide) ((m_compare (xs 1) (xs 2)).weak (fun v h' z => ⟨(z.1 hv).2, fun _ => (z.1 hv).1⟩)) G1 hm1 ho1 hl hc1 hs1
  · refine lw_S (k := (nI 1)) (h1 := mI ++ [outC 0]) (cvs := [.ref a0, .int (xs 1), .int (xs 2), .ref o]) C (w_compare_t hl0 hv G.1 h0 ho) FB2 (fun U hU hW => lw_preW G hN hTs U hU hW) wc_compare wi_law wl_compare wt_compare (by decide) (show (parseMethodDescriptor nw_compare.desc).map (fun d => d.parameters.length) = some 4 by decide +kernel) (by decide) G (by omega) (by omega) hl.1 rfl d_1082 (fun as1 tys1 ws1 H1 locs1 k1 G1 => ?_)
    have hm1 : as1[0]? = some am := by
      obtain ⟨tt, rfl⟩ := k1
      exact getl (asJ_at (k := 0) rfl hm)
    have ho1 : as1[13]? = some o := by
      obtain ⟨tt, rfl⟩ := k1
      exact getl (asJ_at (k := 13) rfl ho)
    exact aft_compare C (k := (nI 1)) (V := 0) (Bb := 0) (by decide) ((m_compare (xs 1) (xs 2)).weak (fun v h' z => ⟨(z.2 hv).2, fun q => absurd q (by decide)⟩)) G1 hm1 ho1 hl hc1 hs1
set_option maxRecDepth 100000 in
set_option maxHeartbeats 4000000 in
theorem case_sign {p : Program} {l : Launch} {e : Env} {s : State} {m : MethodId} {below : List Frame} {meth : Method} {c : Code} {H : Heap} {locs : List Loc} {cells slots b : Nat} {xs : Nat → Int32} {D : va_G} {as : List Nat} {tys : List (ClassId × FieldType)} {ws : va_W} {ls : Array Slot} {am a0 o : Nat} (C : LC p l s m b meth c 4 xs) (G : sg D xcl (AA s) s (H0 ++ (Ms ++ [outC 0])) as tys ws H locs) (h0 : as[0]? = some a0) (hm : as[649]? = some am) (ho : as[662]? = some o) (hl : lv_has ls 7 [(4, .int 0), (3, .ref o), (2, .ref am), (1, .ref a0), (0, .ref b)]) (hc1 : cells + 1 ≤ 10000) (hs1 : slots + 6 ≤ 100000) : W p l e room_1 s m #[Value.ref b] below meth c H locs cells slots (lw_Z below #[Value.ref b] s) (F0 m 1136 ls []) := by
  obtain ⟨hx, hb, hr, hml, hown, hts, hX, hbl, hlocks, hN, hTs, hNC, hl0⟩ := id C
  refine lv_aload_n hx hb d_1136 rfl (lv_at hl 3 rfl) ?_
  refine rd C (k := 1) (by decide) (by decide) d_1137 d_1138 d_1140 d_1141 d_1142 (lv_at hl 4 rfl) (lv_at hl 0 rfl) G.2.2.2.2.1 ?_
  refine lv_aload_n hx hb d_1143 rfl (lv_at hl 1 rfl) ?_
  by_cases hv : sl (xs 1)
  · refine lw_S (k := (nI 0)) (h1 := mI ++ [outC (0 : Int32).toInt64]) (cvs := [.ref a0, .int (xs 1), .ref o]) C (w_sign_v hl0 hv G.1 h0 ho) FB2 (fun U hU hW => lw_preW G hN hTs U hU hW) wc_sign wi_law wl_sign wt_sign (by decide) (show (parseMethodDescriptor nw_sign.desc).map (fun d => d.parameters.length) = some 3 by decide +kernel) (by decide) G (by omega) (by omega) hl.1 rfl d_1144 (fun as1 tys1 ws1 H1 locs1 k1 G1 => ?_)
    have hm1 : as1[0]? = some am := by
      obtain ⟨tt, rfl⟩ := k1
      exact getl (asJ_at (k := 0) rfl hm)
    have ho1 : as1[13]? = some o := by
      obtain ⟨tt, rfl⟩ := k1
      exact getl (asJ_at (k := 13) rfl ho)
    exact aft_sign C (k := (nI 0)) (V := (0 : Int32).toInt64) (Bb := (nI 0)) (by decide) ((m_sign (xs 1)).weak (fun v h' z => ⟨(z.1 hv).2, fun _ => (z.1 hv).1⟩)) G1 hm1 ho1 hl hc1 hs1
  · refine lw_S (k := (nI 1)) (h1 := mI ++ [outC 0]) (cvs := [.ref a0, .int (xs 1), .ref o]) C (w_sign_t hl0 hv G.1 h0 ho) FB2 (fun U hU hW => lw_preW G hN hTs U hU hW) wc_sign wi_law wl_sign wt_sign (by decide) (show (parseMethodDescriptor nw_sign.desc).map (fun d => d.parameters.length) = some 3 by decide +kernel) (by decide) G (by omega) (by omega) hl.1 rfl d_1144 (fun as1 tys1 ws1 H1 locs1 k1 G1 => ?_)
    have hm1 : as1[0]? = some am := by
      obtain ⟨tt, rfl⟩ := k1
      exact getl (asJ_at (k := 0) rfl hm)
    have ho1 : as1[13]? = some o := by
      obtain ⟨tt, rfl⟩ := k1
      exact getl (asJ_at (k := 13) rfl ho)
    exact aft_sign C (k := (nI 1)) (V := 0) (Bb := 0) (by decide) ((m_sign (xs 1)).weak (fun v h' z => ⟨(z.2 hv).2, fun q => absurd q (by decide)⟩)) G1 hm1 ho1 hl hc1 hs1
set_option maxRecDepth 100000 in
set_option maxHeartbeats 4000000 in
theorem case_print {p : Program} {l : Launch} {e : Env} {s : State} {m : MethodId} {below : List Frame} {meth : Method} {c : Code} {H : Heap} {locs : List Loc} {cells slots b : Nat} {xs : Nat → Int32} {D : va_G} {as : List Nat} {tys : List (ClassId × FieldType)} {ws : va_W} {ls : Array Slot} {am a0 o : Nat} (C : LC p l s m b meth c 4 xs) (G : sg D xcl (AA s) s (H0 ++ (Ms ++ [outC 0])) as tys ws H locs) (h0 : as[0]? = some a0) (hm : as[649]? = some am) (ho : as[662]? = some o) (hl : lv_has ls 7 [(4, .int 0), (3, .ref o), (2, .ref am), (1, .ref a0), (0, .ref b)]) (hc1 : cells + 1 ≤ 10000) (hs1 : slots + 6 ≤ 100000) : W p l e room_1 s m #[Value.ref b] below meth c H locs cells slots (lw_Z below #[Value.ref b] s) (F0 m 1192 ls []) := by
  obtain ⟨hx, hb, hr, hml, hown, hts, hX, hbl, hlocks, hN, hTs, hNC, hl0⟩ := id C
  refine lv_aload_n hx hb d_1192 rfl (lv_at hl 3 rfl) ?_
  refine rd C (k := 1) (by decide) (by decide) d_1193 d_1194 d_1196 d_1197 d_1198 (lv_at hl 4 rfl) (lv_at hl 0 rfl) G.2.2.2.2.1 ?_
  refine rd C (k := 2) (by decide) (by decide) d_1199 d_1200 d_1202 d_1203 d_1204 (lv_at hl 4 rfl) (lv_at hl 0 rfl) G.2.2.2.2.1 ?_
  refine lv_aload_n hx hb d_1205 rfl (lv_at hl 1 rfl) ?_
  by_cases hv : sl (xs 1) ∧ ¬ (xs 2) < 0 ∧ ¬ nI 30 < (xs 2)
  · refine lw_S (k := (nI 0)) (h1 := mI ++ [outC (1 : Int32).toInt64]) (cvs := [.ref a0, .int (xs 1), .int (xs 2), .ref o]) C (w_print_v hl0 hv G.1 h0 ho) FB2 (fun U hU hW => lw_preW G hN hTs U hU hW) wc_print wi_law wl_print wt_print (by decide) (show (parseMethodDescriptor nw_print.desc).map (fun d => d.parameters.length) = some 4 by decide +kernel) (by decide) G (by omega) (by omega) hl.1 rfl d_1206 (fun as1 tys1 ws1 H1 locs1 k1 G1 => ?_)
    have hm1 : as1[0]? = some am := by
      obtain ⟨tt, rfl⟩ := k1
      exact getl (asJ_at (k := 0) rfl hm)
    have ho1 : as1[13]? = some o := by
      obtain ⟨tt, rfl⟩ := k1
      exact getl (asJ_at (k := 13) rfl ho)
    exact aft_print C (k := (nI 0)) (V := (1 : Int32).toInt64) (Bb := (nI 1)) (by decide) ((m_print (xs 1) (xs 2)).weak (fun v h' z => ⟨(z.1 hv).2, fun _ => (z.1 hv).1⟩)) G1 hm1 ho1 hl hc1 hs1
  · refine lw_S (k := (nI 1)) (h1 := mI ++ [outC 0]) (cvs := [.ref a0, .int (xs 1), .int (xs 2), .ref o]) C (w_print_t hl0 hv G.1 h0 ho) FB2 (fun U hU hW => lw_preW G hN hTs U hU hW) wc_print wi_law wl_print wt_print (by decide) (show (parseMethodDescriptor nw_print.desc).map (fun d => d.parameters.length) = some 4 by decide +kernel) (by decide) G (by omega) (by omega) hl.1 rfl d_1206 (fun as1 tys1 ws1 H1 locs1 k1 G1 => ?_)
    have hm1 : as1[0]? = some am := by
      obtain ⟨tt, rfl⟩ := k1
      exact getl (asJ_at (k := 0) rfl hm)
    have ho1 : as1[13]? = some o := by
      obtain ⟨tt, rfl⟩ := k1
      exact getl (asJ_at (k := 13) rfl ho)
    exact aft_print C (k := (nI 1)) (V := 0) (Bb := 0) (by decide) ((m_print (xs 1) (xs 2)).weak (fun v h' z => ⟨z.2 hv, fun q => absurd q (by decide)⟩)) G1 hm1 ho1 hl hc1 hs1
set_option maxRecDepth 100000 in
set_option maxHeartbeats 4000000 in
theorem case_weight {p : Program} {l : Launch} {e : Env} {s : State} {m : MethodId} {below : List Frame} {meth : Method} {c : Code} {H : Heap} {locs : List Loc} {cells slots b : Nat} {xs : Nat → Int32} {D : va_G} {as : List Nat} {tys : List (ClassId × FieldType)} {ws : va_W} {ls : Array Slot} {am a0 o : Nat} (C : LC p l s m b meth c 4 xs) (G : sg D xcl (AA s) s (H0 ++ (Ms ++ [outC 0])) as tys ws H locs) (h0 : as[0]? = some a0) (hm : as[649]? = some am) (ho : as[662]? = some o) (hl : lv_has ls 7 [(4, .int 0), (3, .ref o), (2, .ref am), (1, .ref a0), (0, .ref b)]) (hc1 : cells + 1 ≤ 10000) (hs1 : slots + 6 ≤ 100000) : W p l e room_1 s m #[Value.ref b] below meth c H locs cells slots (lw_Z below #[Value.ref b] s) (F0 m 1285 ls []) := by
  obtain ⟨hx, hb, hr, hml, hown, hts, hX, hbl, hlocks, hN, hTs, hNC, hl0⟩ := id C
  refine lv_aload_n hx hb d_1285 rfl (lv_at hl 3 rfl) ?_
  refine rd C (k := 1) (by decide) (by decide) d_1286 d_1287 d_1289 d_1290 d_1291 (lv_at hl 4 rfl) (lv_at hl 0 rfl) G.2.2.2.2.1 ?_
  refine lv_aload_n hx hb d_1292 rfl (lv_at hl 1 rfl) ?_
  by_cases hv : sl (xs 1)
  · refine lw_S (k := (nI 0)) (h1 := mI ++ [outC (1 : Int32).toInt64]) (cvs := [.ref a0, .int (xs 1), .ref o]) C (w_weight_v hl0 hv G.1 h0 ho) FB2 (fun U hU hW => lw_preW G hN hTs U hU hW) wc_weight wi_law wl_weight wt_weight (by decide) (show (parseMethodDescriptor nw_weight.desc).map (fun d => d.parameters.length) = some 3 by decide +kernel) (by decide) G (by omega) (by omega) hl.1 rfl d_1293 (fun as1 tys1 ws1 H1 locs1 k1 G1 => ?_)
    have hm1 : as1[0]? = some am := by
      obtain ⟨tt, rfl⟩ := k1
      exact getl (asJ_at (k := 0) rfl hm)
    have ho1 : as1[13]? = some o := by
      obtain ⟨tt, rfl⟩ := k1
      exact getl (asJ_at (k := 13) rfl ho)
    exact aft_weight C (k := (nI 0)) (V := (1 : Int32).toInt64) (Bb := 1) (by decide) ((m_weight (xs 1)).weak (fun v h' z => ⟨(z.1 hv).2, fun _ => (z.1 hv).1⟩)) G1 hm1 ho1 hl hc1 hs1
  · refine lw_S (k := (nI 1)) (h1 := mI ++ [outC 0]) (cvs := [.ref a0, .int (xs 1), .ref o]) C (w_weight_t hl0 hv G.1 h0 ho) FB2 (fun U hU hW => lw_preW G hN hTs U hU hW) wc_weight wi_law wl_weight wt_weight (by decide) (show (parseMethodDescriptor nw_weight.desc).map (fun d => d.parameters.length) = some 3 by decide +kernel) (by decide) G (by omega) (by omega) hl.1 rfl d_1293 (fun as1 tys1 ws1 H1 locs1 k1 G1 => ?_)
    have hm1 : as1[0]? = some am := by
      obtain ⟨tt, rfl⟩ := k1
      exact getl (asJ_at (k := 0) rfl hm)
    have ho1 : as1[13]? = some o := by
      obtain ⟨tt, rfl⟩ := k1
      exact getl (asJ_at (k := 13) rfl ho)
    exact aft_weight C (k := (nI 1)) (V := 0) (Bb := 0) (by decide) ((m_weight (xs 1)).weak (fun v h' z => ⟨(z.2 hv).2, fun q => absurd q (by decide)⟩)) G1 hm1 ho1 hl hc1 hs1
set_option maxRecDepth 100000 in
set_option maxHeartbeats 4000000 in
theorem case_size {p : Program} {l : Launch} {e : Env} {s : State} {m : MethodId} {below : List Frame} {meth : Method} {c : Code} {H : Heap} {locs : List Loc} {cells slots b : Nat} {xs : Nat → Int32} {D : va_G} {as : List Nat} {tys : List (ClassId × FieldType)} {ws : va_W} {ls : Array Slot} {am a0 o : Nat} (C : LC p l s m b meth c 4 xs) (G : sg D xcl (AA s) s (H0 ++ (Ms ++ [outC 0])) as tys ws H locs) (h0 : as[0]? = some a0) (hm : as[649]? = some am) (ho : as[662]? = some o) (hl : lv_has ls 7 [(4, .int 0), (3, .ref o), (2, .ref am), (1, .ref a0), (0, .ref b)]) (hc1 : cells + 1 ≤ 10000) (hs1 : slots + 6 ≤ 100000) : W p l e room_1 s m #[Value.ref b] below meth c H locs cells slots (lw_Z below #[Value.ref b] s) (F0 m 1341 ls []) := by
  obtain ⟨hx, hb, hr, hml, hown, hts, hX, hbl, hlocks, hN, hTs, hNC, hl0⟩ := id C
  refine lv_aload_n hx hb d_1341 rfl (lv_at hl 3 rfl) ?_
  refine rd C (k := 1) (by decide) (by decide) d_1342 d_1343 d_1345 d_1346 d_1347 (lv_at hl 4 rfl) (lv_at hl 0 rfl) G.2.2.2.2.1 ?_
  refine lv_aload_n hx hb d_1348 rfl (lv_at hl 1 rfl) ?_
  by_cases hv : sl (xs 1)
  · refine lw_S (k := (nI 0)) (h1 := mI ++ [outC (20 : Int32).toInt64]) (cvs := [.ref a0, .int (xs 1), .ref o]) C (w_size_v hl0 hv G.1 h0 ho) FB2 (fun U hU hW => lw_preW G hN hTs U hU hW) wc_size wi_law wl_size wt_size (by decide) (show (parseMethodDescriptor nw_size.desc).map (fun d => d.parameters.length) = some 3 by decide +kernel) (by decide) G (by omega) (by omega) hl.1 rfl d_1349 (fun as1 tys1 ws1 H1 locs1 k1 G1 => ?_)
    have hm1 : as1[0]? = some am := by
      obtain ⟨tt, rfl⟩ := k1
      exact getl (asJ_at (k := 0) rfl hm)
    have ho1 : as1[13]? = some o := by
      obtain ⟨tt, rfl⟩ := k1
      exact getl (asJ_at (k := 13) rfl ho)
    exact aft_size C (k := (nI 0)) (V := (20 : Int32).toInt64) (Bb := 20) (by decide) ((m_size (xs 1)).weak (fun v h' z => ⟨(z.1 hv).2, fun _ => (z.1 hv).1⟩)) G1 hm1 ho1 hl hc1 hs1
  · refine lw_S (k := (nI 1)) (h1 := mI ++ [outC 0]) (cvs := [.ref a0, .int (xs 1), .ref o]) C (w_size_t hl0 hv G.1 h0 ho) FB2 (fun U hU hW => lw_preW G hN hTs U hU hW) wc_size wi_law wl_size wt_size (by decide) (show (parseMethodDescriptor nw_size.desc).map (fun d => d.parameters.length) = some 3 by decide +kernel) (by decide) G (by omega) (by omega) hl.1 rfl d_1349 (fun as1 tys1 ws1 H1 locs1 k1 G1 => ?_)
    have hm1 : as1[0]? = some am := by
      obtain ⟨tt, rfl⟩ := k1
      exact getl (asJ_at (k := 0) rfl hm)
    have ho1 : as1[13]? = some o := by
      obtain ⟨tt, rfl⟩ := k1
      exact getl (asJ_at (k := 13) rfl ho)
    exact aft_size C (k := (nI 1)) (V := 0) (Bb := 0) (by decide) ((m_size (xs 1)).weak (fun v h' z => ⟨(z.2 hv).2, fun q => absurd q (by decide)⟩)) G1 hm1 ho1 hl hc1 hs1
set_option maxRecDepth 100000 in
set_option maxHeartbeats 4000000 in
theorem case_degree {p : Program} {l : Launch} {e : Env} {s : State} {m : MethodId} {below : List Frame} {meth : Method} {c : Code} {H : Heap} {locs : List Loc} {cells slots b : Nat} {xs : Nat → Int32} {D : va_G} {as : List Nat} {tys : List (ClassId × FieldType)} {ws : va_W} {ls : Array Slot} {am a0 o : Nat} (C : LC p l s m b meth c 4 xs) (G : sg D xcl (AA s) s (H0 ++ (Ms ++ [outC 0])) as tys ws H locs) (h0 : as[0]? = some a0) (hm : as[649]? = some am) (ho : as[662]? = some o) (hl : lv_has ls 7 [(4, .int 0), (3, .ref o), (2, .ref am), (1, .ref a0), (0, .ref b)]) (hc1 : cells + 1 ≤ 10000) (hs1 : slots + 6 ≤ 100000) : W p l e room_1 s m #[Value.ref b] below meth c H locs cells slots (lw_Z below #[Value.ref b] s) (F0 m 204 ls []) := by
  obtain ⟨hx, hb, hr, hml, hown, hts, hX, hbl, hlocks, hN, hTs, hNC, hl0⟩ := id C
  obtain ⟨vs, hc0⟩ := H0_at0 (t := (Ms ++ [outC 0]))
  refine lv_aload_n hx hb d_204 rfl (lv_at hl 3 rfl) ?_
  obtain ⟨v, h', hv', -, hr'⟩ := lw_V (R := room_1) (p := p) (e := e) (m := m) (below := below) (meth := meth) (ls := ls) (cells := cells) (slots := slots) (pc := 205) (crest := []) (fb := 12) (lb := 400) (J := List.range' 0 649) (i0 := 0) (ci := 11) (vs := vs) hl0 ⟨hx, hb, hml, hown, hts⟩ hN hTs okk_degree (by decide) (k_degree) (Nat.le_of_ble_eq_true rfl) (Nat.le_of_ble_eq_true rfl) (Nat.le_of_ble_eq_true rfl) G (cut_pre H0_len H0_bd rfl) (vrs_cr h0 rfl) h0 hc0 rfl (by decide) (Nat.le_of_ble_eq_true rfl) (by show cells ≤ 600002; omega) (by show slots ≤ 7302232; omega) rfl hl.1 rfl (by decide) d_205
  obtain rfl := hv'
  refine lw_drop hr' G (ndp_r 649 0) r649_lt cut_K (vrs_cr ho rfl) K_dis (Or.inr ⟨_, rfl⟩) (fun as1 tys1 ws1 H1 locs1 k1 k2 G1 => ?_)
  have hm1 : as1[0]? = some am := by
    obtain ⟨tt, rfl⟩ := k1
    exact getl (asJ_at (k := 0) rfl hm)
  refine lv_aload_n hx hb d_208 rfl (lv_at hl 2 rfl) ?_
  refine lw_M C okm_degree (by decide) (m_degree) (by decide) (by decide) (Nat.le_of_ble_eq_true rfl) (Nat.le_of_ble_eq_true rfl) rfl rfl rfl rfl G1 hm1 (by omega) (by omega) hl.1 (crest := [.int (-1)]) rfl (by decide) d_209 (Or.inr (Or.inl rfl)) (fun v h' h3 as3 tys3 ws3 H3 locs3 hK hsh hFA hout k3 G3 => ?_)
  obtain ⟨rfl, -⟩ := hK
  exact lv_icmp_eq hx hb d_212 (tgt := 1397) rfl (fun _ => lw_tail C G3.2.2.2.2.1 (by omega) (by omega) (lv_sub hl [0, 4] rfl)) (fun z => absurd (by decide) z)
set_option maxRecDepth 100000 in
set_option maxHeartbeats 4000000 in
theorem case_roots {p : Program} {l : Launch} {e : Env} {s : State} {m : MethodId} {below : List Frame} {meth : Method} {c : Code} {H : Heap} {locs : List Loc} {cells slots b : Nat} {xs : Nat → Int32} {D : va_G} {as : List Nat} {tys : List (ClassId × FieldType)} {ws : va_W} {ls : Array Slot} {am a0 o : Nat} (C : LC p l s m b meth c 4 xs) (G : sg D xcl (AA s) s (H0 ++ (Ms ++ [outC 0])) as tys ws H locs) (h0 : as[0]? = some a0) (hm : as[649]? = some am) (ho : as[662]? = some o) (hl : lv_has ls 7 [(4, .int 0), (3, .ref o), (2, .ref am), (1, .ref a0), (0, .ref b)]) (hc1 : cells + 1 ≤ 10000) (hs1 : slots + 6 ≤ 100000) : W p l e room_1 s m #[Value.ref b] below meth c H locs cells slots (lw_Z below #[Value.ref b] s) (F0 m 217 ls []) := by
  obtain ⟨hx, hb, hr, hml, hown, hts, hX, hbl, hlocks, hN, hTs, hNC, hl0⟩ := id C
  obtain ⟨vs, hc0⟩ := H0_at0 (t := (Ms ++ [outC 0]))
  refine lv_aload_n hx hb d_217 rfl (lv_at hl 3 rfl) ?_
  obtain ⟨v, h', hv', -, hr'⟩ := lw_V (R := room_1) (p := p) (e := e) (m := m) (below := below) (meth := meth) (ls := ls) (cells := cells) (slots := slots) (pc := 218) (crest := []) (fb := 12) (lb := 400) (J := List.range' 0 649) (i0 := 0) (ci := 11) (vs := vs) hl0 ⟨hx, hb, hml, hown, hts⟩ hN hTs okk_roots (by decide) (k_roots) (Nat.le_of_ble_eq_true rfl) (Nat.le_of_ble_eq_true rfl) (Nat.le_of_ble_eq_true rfl) G (cut_pre H0_len H0_bd rfl) (vrs_cr h0 rfl) h0 hc0 rfl (by decide) (Nat.le_of_ble_eq_true rfl) (by show cells ≤ 600002; omega) (by show slots ≤ 7302232; omega) rfl hl.1 rfl (by decide) d_218
  obtain rfl := hv'
  refine lw_drop hr' G (ndp_r 649 0) r649_lt cut_K (vrs_cr ho rfl) K_dis (Or.inr ⟨_, rfl⟩) (fun as1 tys1 ws1 H1 locs1 k1 k2 G1 => ?_)
  have hm1 : as1[0]? = some am := by
    obtain ⟨tt, rfl⟩ := k1
    exact getl (asJ_at (k := 0) rfl hm)
  refine lv_aload_n hx hb d_221 rfl (lv_at hl 2 rfl) ?_
  refine lw_M C okm_roots (by decide) (m_roots) (by decide) (by decide) (Nat.le_of_ble_eq_true rfl) (Nat.le_of_ble_eq_true rfl) rfl rfl rfl rfl G1 hm1 (by omega) (by omega) hl.1 (crest := [.int (-1)]) rfl (by decide) d_222 (Or.inr (Or.inl rfl)) (fun v h' h3 as3 tys3 ws3 H3 locs3 hK hsh hFA hout k3 G3 => ?_)
  obtain ⟨rfl, -⟩ := hK
  exact lv_icmp_eq hx hb d_225 (tgt := 1397) rfl (fun _ => lw_tail C G3.2.2.2.2.1 (by omega) (by omega) (lv_sub hl [0, 4] rfl)) (fun z => absurd (by decide) z)
set_option maxRecDepth 100000 in
set_option maxHeartbeats 4000000 in
theorem case_character {p : Program} {l : Launch} {e : Env} {s : State} {m : MethodId} {below : List Frame} {meth : Method} {c : Code} {H : Heap} {locs : List Loc} {cells slots b : Nat} {xs : Nat → Int32} {D : va_G} {as : List Nat} {tys : List (ClassId × FieldType)} {ws : va_W} {ls : Array Slot} {am a0 o : Nat} (C : LC p l s m b meth c 4 xs) (G : sg D xcl (AA s) s (H0 ++ (Ms ++ [outC 0])) as tys ws H locs) (h0 : as[0]? = some a0) (hm : as[649]? = some am) (ho : as[662]? = some o) (hl : lv_has ls 7 [(4, .int 0), (3, .ref o), (2, .ref am), (1, .ref a0), (0, .ref b)]) (hc1 : cells + 1 ≤ 10000) (hs1 : slots + 6 ≤ 100000) : W p l e room_1 s m #[Value.ref b] below meth c H locs cells slots (lw_Z below #[Value.ref b] s) (F0 m 1260 ls []) := by
  obtain ⟨hx, hb, hr, hml, hown, hts, hX, hbl, hlocks, hN, hTs, hNC, hl0⟩ := id C
  obtain ⟨vs, hc0⟩ := H0_at0 (t := (Ms ++ [outC 0]))
  refine lv_aload_n hx hb d_1260 rfl (lv_at hl 3 rfl) ?_
  refine rd C (k := 1) (by decide) (by decide) d_1261 d_1262 d_1264 d_1265 d_1266 (lv_at hl 4 rfl) (lv_at hl 0 rfl) G.2.2.2.2.1 ?_
  obtain ⟨v, h', hv', -, hr'⟩ := lw_V (R := room_1) (p := p) (e := e) (m := m) (below := below) (meth := meth) (ls := ls) (cells := cells) (slots := slots) (pc := 1267) (crest := []) (fb := 12) (lb := 400) (J := List.range' 0 649) (i0 := 0) (ci := 11) (vs := vs) hl0 ⟨hx, hb, hml, hown, hts⟩ hN hTs okk_character (by decide) (k_character (xs 1)) (Nat.le_of_ble_eq_true rfl) (Nat.le_of_ble_eq_true rfl) (Nat.le_of_ble_eq_true rfl) G (cut_pre H0_len H0_bd rfl) (vrs_cr h0 (vrs_ci rfl)) h0 hc0 rfl (by decide) (Nat.le_of_ble_eq_true rfl) (by show cells ≤ 600002; omega) (by show slots ≤ 7302232; omega) rfl hl.1 rfl (by decide) d_1267
  obtain rfl := hv'
  refine lw_drop hr' G (ndp_r 649 0) r649_lt cut_K (vrs_cr ho rfl) K_dis (Or.inr ⟨_, rfl⟩) (fun as1 tys1 ws1 H1 locs1 k1 k2 G1 => ?_)
  have hm1 : as1[0]? = some am := by
    obtain ⟨tt, rfl⟩ := k1
    exact getl (asJ_at (k := 0) rfl hm)
  refine lv_aload_n hx hb d_1270 rfl (lv_at hl 2 rfl) ?_
  refine rd C (k := 1) (by decide) (by decide) d_1271 d_1272 d_1274 d_1275 d_1276 (lv_at hl 4 rfl) (lv_at hl 0 rfl) G1.2.2.2.2.1 ?_
  refine lw_M C okm_character (by decide) (m_character (xs 1)) (by decide) (by decide) (Nat.le_of_ble_eq_true rfl) (Nat.le_of_ble_eq_true rfl) rfl rfl (vrs_ci rfl) rfl G1 hm1 (by omega) (by omega) hl.1 (crest := [.int (-nI 1)]) rfl (by decide) d_1277 (Or.inr (Or.inl rfl)) (fun v h' h3 as3 tys3 ws3 H3 locs3 hK hsh hFA hout k3 G3 => ?_)
  obtain ⟨rfl, -⟩ := hK
  exact lv_icmp_eq hx hb d_1280 (tgt := 1397) rfl (fun _ => lw_tail C G3.2.2.2.2.1 (by omega) (by omega) (lv_sub hl [0, 4] rfl)) (fun z => absurd (by decide) z)
