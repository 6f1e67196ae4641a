/-! the law from its entry on, and the claim -/
theorem mg_one {h t : xH} {c d : xC} {n : Nat} (hn : h.length = n) : mg (h ++ [c]) [n] (d :: t) = h ++ (d :: t) := by
  subst hn
  rw [mg_c, mg_n, List.set_append_right _ _ (Nat.le_refl _), Nat.sub_self]
  simp
theorem bk_mI {n : Nat} (hn : n = 650) : rcs (bk [649] n) mI = some Ms := by
  subst hn
  rfl
theorem cut_new {c : xC} (hc : rc (sp [649]) c = some c) : cutJ (H0 ++ [c]) [.ref 649] [649] [c] [.ref 0] := by
  refine ⟨rfl, [c], pick_c ?_ rfl, rcs_c hc rfl, rfl⟩
  rw [List.getElem?_append_right (by rw [H0_len]; exact Nat.le_refl _), H0_len]
  rfl
def inL (w : Cond) : Bool := decide (w ∈ lw_tbl)
set_option maxRecDepth 100000 in
theorem in_nx : (inL (.arrayOver (.object "RootDesk$Real")) && inL (.arrayOver (.object "RootDesk$Big")) && xNN.2.all (fun q => inL (.methodLinkNest q.1 q.2.1 q.2.2.1 q.2.2.2)) && thV.all inL && inL (.laysStatic Bundle.tN "UNASSIGNED_STACK" Bundle.steD) && inL (.laysStatic Bundle.tN "SUPPRESSED_SENTINEL" Bundle.listD)) = true := by decide +kernel
theorem mem_inL {w : Cond} (h : inL w = true) : w ∈ lw_tbl := of_decide_eq_true h
theorem lw_nx {s : State} {b : Nat} (hts : ∀ w ∈ lw_tbl, w.before #[Value.ref b] s = true) : nx xNN s := by
  have h := in_nx
  simp only [Bool.and_eq_true] at h
  refine ⟨fun C hC => ?_, fun q hq => va_Nw.of rfl (hts _ (mem_inL (List.all_eq_true.mp h.1.1.1.2 q hq)))⟩
  have hC : C = "RootDesk$Real" ∨ C = "RootDesk$Big" := by simpa [xNN] using hC
  rcases hC with rfl | rfl
  · exact va_AO.of (hts _ (mem_inL h.1.1.1.1.1))
  · exact va_AO.of (hts _ (mem_inL h.1.1.1.1.2))
theorem lw_thS {s : State} {b : Nat} (hts : ∀ w ∈ lw_tbl, w.before #[Value.ref b] s = true) (hgv : (Jvm.Cond.and given_1 narrow_1).before #[Value.ref b] s = true) : thS (AA s) s := by
  have h := in_nx
  simp only [Bool.and_eq_true] at h
  have hs := flat_of_before _ hgv
  have h1 : (Cond.isRef (.static Bundle.tN "UNASSIGNED_STACK" Bundle.steD)).before #[Value.ref b] s = true := hs _ (by decide +kernel)
  have h2 : (Cond.isRef (.static Bundle.tN "SUPPRESSED_SENTINEL" Bundle.listD)).before #[Value.ref b] s = true := hs _ (by decide +kernel)
  obtain ⟨u1, z1⟩ := va_ZL.of (A := AA s) (hts _ (mem_inL h.1.2)) h1 (fun a ha => Nat.not_le.mpr ha)
  obtain ⟨u2, z2⟩ := va_ZL.of (A := AA s) (hts _ (mem_inL h.2)) h2 (fun a ha => Nat.not_le.mpr ha)
  exact ⟨fun w hw => thV_same (s := s) (U := s) rfl hw (hts _ (mem_inL (List.all_eq_true.mp h.1.1.2 w hw))), u1, u2, z1, z2⟩
theorem lw_NC {s : State} {b : Nat} (hgv : (Jvm.Cond.and given_1 narrow_1).before #[Value.ref b] s = true) : NC s := by
  have hs := flat_of_before _ hgv
  have h1 : (Cond.not (Cond.castable "java/lang/ArithmeticException" "java/lang/IllegalArgumentException")).before #[Value.ref b] s = true := hs _ (by decide +kernel)
  intro c1 c2 e1 e2
  simpa [Cond.before, Cond.holds, Cond.value, e1, e2] using h1
theorem lw_D {s : State} {b : Nat} (hts : ∀ w ∈ TB, w.before #[Value.ref b] s = true) : ∃ D : va_G, ∀ (k : Nat) (q : vw_C), xcl[k]? = some q → u_Kn s q.1 q.2.1 q.2.2 (D.1 k) (D.2 k) := by
  have h : ∀ k : Nat, ∃ d : ClassId × (Nat → Nat), ∀ q : vw_C, xcl[k]? = some q → u_Kn s q.1 q.2.1 q.2.2 d.1 d.2 := by
    intro k
    cases hk : xcl[k]? with
    | none => exact ⟨(0, fun _ => 0), fun q hq => by cases hq⟩
    | some q =>
      obtain ⟨C, T, N⟩ := q
      obtain ⟨-, g6, g7, -⟩ := okP_all.1.1 k C T N hk
      obtain ⟨cC, iS, hKn⟩ := u_known hts g6 (hts _ g7)
      exact ⟨(cC, iS), fun q hq => by cases hq; exact hKn⟩
  exact ⟨(fun k => (Classical.choose (h k)).1, fun k => (Classical.choose (h k)).2), fun k q hq => Classical.choose_spec (h k) q hq⟩
set_option maxRecDepth 100000 in
theorem in_ct : (inT (.classLink "RootDeskLaw" 8 "RootDesk") && inT (.classLink "RootDeskLaw" 74 "RootDeskModel") && inT (.initialized (xB.1 0).cls) && inT (.methodLink "RootDeskLaw" 73 (xB.1 0)) && inT (.instanceMethod (xB.1 0)) && inT (.initialized (xB.1 152).cls) && inT (.methodLink "RootDeskLaw" 76 (xB.1 152)) && inT (.instanceMethod (xB.1 152)) && inT (.arrayClass .long)) = true := by decide +kernel
set_option maxRecDepth 100000 in
set_option maxHeartbeats 8000000 in
/-- the loop's head, entered for the first time -/
theorem lw_head {p : Program} {l : Launch} {e : Env} {s : State} {m : MethodId} {below : List Frame} {meth : Method} {c : Code} {H : Heap} {locs : List Loc} {cells slots b L : Nat} {xs : Nat → Int32} {D : va_G} {as : List Nat} {tys : List (ClassId × FieldType)} {ws : va_W} {ls : Array Slot} {am a0 o : Nat} (C : LC p l s m b meth c L xs) (hL : L ≤ 4) (G : sg D xcl (AA s) s (H0 ++ (Ms ++ [outC 0])) as tys ws H locs) (h0 : as[0]? = some a0) (hm : as[649]? = some am) (ho : as[662]? = some o) (hl : lv_has ls 7 [(4, .int 0), (3, .ref o), (2, .ref am), (1, .ref a0), (0, .ref b)]) (hc1 : cells + 1 ≤ 10000) (hs1 : slots + 6 ≤ 100000) : W p l e room_1 s m #[Value.ref b] below meth c H locs cells slots (lw_Z below #[Value.ref b] s) (F0 m 23 ls []) := by
  obtain ⟨hx, hb, hr, hml, hown, hts, hX, hbl, hlocks, hN, hTs, hNC, hl0⟩ := id C
  refine lv_iload hx hb d_23 (lv_at hl 0 rfl) ?_
  refine lv_aload_n hx hb d_25 rfl (lv_at hl 4 rfl) ?_
  refine va_slen hx hb hX hbl (Nat.not_le.mpr hbl) G.2.2.2.2.1 d_26 ?_
  refine lv_iconst (v := 4) hx hb d_27 rfl ?_
  refine lv_isub hx hb d_28 ?_
  refine lv_icmp_gt hx hb d_29 (tgt := 1403) rfl (fun _ => lw_end C G.2.2.2.2.1 (by omega) (by omega)) (fun z => ?_)
  have hL4 : L = 4 := by
    have hsm : ∀ k, k < 4 → Int32.ofNat k - 4 < (0 : Int32) := by decide
    rcases Nat.lt_or_ge L 4 with q | q
    · exact absurd (hsm L q) z
    · omega
  subst hL4
  refine lv_aload_n hx hb d_32 rfl (lv_at hl 4 rfl) ?_
  refine lv_iload hx hb d_33 (lv_at hl 0 rfl) ?_
  refine va_sld hx hb hX hbl (Nat.not_le.mpr hbl) G.2.2.2.2.1 (i := 0) (vp_in_nI (n := 0) (by decide) (by decide)) d_35 ?_
  refine lv_bipush (v := 31) hx hb d_36 rfl ?_
  refine lv_iand hx hb d_38 ?_
  obtain ⟨j, hj, ej⟩ := pk_andE (xs (Int32.toNatClampNeg 0)) (m := 31) 5 (by decide)
  rw [ej]
  by_cases h20 : j ≤ 20
  · have hjj : j = 0 ∨ j = 1 ∨ j = 2 ∨ j = 3 ∨ j = 4 ∨ j = 5 ∨ j = 6 ∨ j = 7 ∨ j = 8 ∨ j = 9 ∨ j = 10 ∨ j = 11 ∨ j = 12 ∨ j = 13 ∨ j = 14 ∨ j = 15 ∨ j = 16 ∨ j = 17 ∨ j = 18 ∨ j = 19 ∨ j = 20 := by omega
    rcases hjj with rfl | rfl | rfl | rfl | rfl | rfl | rfl | rfl | rfl | rfl | rfl | rfl | rfl | rfl | rfl | rfl | rfl | rfl | rfl | rfl | rfl
    · exact lv_tableIn (x := nI 0) (off := 97) (tgt := 136) hx hb d_39 (by decide) (by decide) (by decide) (by decide) (case_coefficient C G h0 hm ho hl hc1 hs1)
    · exact lv_tableIn (x := nI 1) (off := 165) (tgt := 204) hx hb d_39 (by decide) (by decide) (by decide) (by decide) (case_degree C G h0 hm ho hl hc1 hs1)
    · exact lv_tableIn (x := nI 2) (off := 178) (tgt := 217) hx hb d_39 (by decide) (by decide) (by decide) (by decide) (case_roots C G h0 hm ho hl hc1 hs1)
    · exact lv_tableIn (x := nI 3) (off := 191) (tgt := 230) hx hb d_39 (by decide) (by decide) (by decide) (by decide) (case_rootsIn C G h0 hm ho hl hc1 hs1)
    · exact lv_tableIn (x := nI 4) (off := 259) (tgt := 298) hx hb d_39 (by decide) (by decide) (by decide) (by decide) (case_signAt C G h0 hm ho hl hc1 hs1)
    · exact lv_tableIn (x := nI 5) (off := 315) (tgt := 354) hx hb d_39 (by decide) (by decide) (by decide) (by decide) (case_take C G h0 hm ho hl hc1 hs1)
    · exact lv_tableIn (x := nI 6) (off := 390) (tgt := 429) hx hb d_39 (by decide) (by decide) (by decide) (by decide) (case_fraction C G h0 hm ho hl hc1 hs1)
    · exact lv_tableIn (x := nI 7) (off := 450) (tgt := 489) hx hb d_39 (by decide) (by decide) (by decide) (by decide) (case_copy C G h0 hm ho hl hc1 hs1)
    · exact lv_tableIn (x := nI 8) (off := 498) (tgt := 537) hx hb d_39 (by decide) (by decide) (by decide) (by decide) (case_negate C G h0 hm ho hl hc1 hs1)
    · exact lv_tableIn (x := nI 9) (off := 546) (tgt := 585) hx hb d_39 (by decide) (by decide) (by decide) (by decide) (case_invert C G h0 hm ho hl hc1 hs1)
    · exact lv_tableIn (x := nI 10) (off := 594) (tgt := 633) hx hb d_39 (by decide) (by decide) (by decide) (by decide) (case_add C G h0 hm ho hl hc1 hs1)
    · exact lv_tableIn (x := nI 11) (off := 681) (tgt := 720) hx hb d_39 (by decide) (by decide) (by decide) (by decide) (case_subtract C G h0 hm ho hl hc1 hs1)
    · exact lv_tableIn (x := nI 12) (off := 768) (tgt := 807) hx hb d_39 (by decide) (by decide) (by decide) (by decide) (case_multiply C G h0 hm ho hl hc1 hs1)
    · exact lv_tableIn (x := nI 13) (off := 855) (tgt := 894) hx hb d_39 (by decide) (by decide) (by decide) (by decide) (case_divide C G h0 hm ho hl hc1 hs1)
    · exact lv_tableIn (x := nI 14) (off := 942) (tgt := 981) hx hb d_39 (by decide) (by decide) (by decide) (by decide) (case_root C G h0 hm ho hl hc1 hs1)
    · exact lv_tableIn (x := nI 15) (off := 1029) (tgt := 1068) hx hb d_39 (by decide) (by decide) (by decide) (by decide) (case_compare C G h0 hm ho hl hc1 hs1)
    · exact lv_tableIn (x := nI 16) (off := 1097) (tgt := 1136) hx hb d_39 (by decide) (by decide) (by decide) (by decide) (case_sign C G h0 hm ho hl hc1 hs1)
    · exact lv_tableIn (x := nI 17) (off := 1153) (tgt := 1192) hx hb d_39 (by decide) (by decide) (by decide) (by decide) (case_print C G h0 hm ho hl hc1 hs1)
    · exact lv_tableIn (x := nI 18) (off := 1221) (tgt := 1260) hx hb d_39 (by decide) (by decide) (by decide) (by decide) (case_character C G h0 hm ho hl hc1 hs1)
    · exact lv_tableIn (x := nI 19) (off := 1246) (tgt := 1285) hx hb d_39 (by decide) (by decide) (by decide) (by decide) (case_weight C G h0 hm ho hl hc1 hs1)
    · exact lv_tableIn (x := nI 20) (off := 1302) (tgt := 1341) hx hb d_39 (by decide) (by decide) (by decide) (by decide) (case_size C G h0 hm ho hl hc1 hs1)
  · refine lv_tableOut (x := nI j) (tgt := 1397) hx hb d_39 (Or.inr ?_) (by decide) (lw_tail C G.2.2.2.2.1 (by omega) (by omega) (lv_sub hl [0, 4] rfl))
    rw [nI_toInt (by omega)]
    omega
set_option maxRecDepth 100000 in
set_option maxHeartbeats 8000000 in
/-- from the entry, for every script of at most 4 ints, the law comes to its end with true -/
theorem whole_start {p : Program} {e : Env} {s : State} {m : MethodId} {below : List Frame} {meth : Method} {c : Code} (l : Launch) (hl0 : ∀ e : Env, l.admits e → e.platform.stackTraces = false) {b L : Nat} {xs : Nat → Int32} (hL : L ≤ 4) (C0 : lw_At p s m meth c b L xs) : W p l e room_1 s m #[Value.ref b] below meth c s.heap [] 0 0 (lw_Z below #[Value.ref b] s) (entryFrame m ([Value.ref b] : List Value).toArray 7) := by
  obtain ⟨hx, hb, hr, hml, hown, htl, hX, hbl, hlocks, hgv⟩ := id C0
  have hts : ∀ w ∈ TB, w.before #[Value.ref b] s = true := fun w hw => htl w (List.mem_filter.mp hw).1
  have C : LC p l s m b meth c L xs := ⟨hx, hb, hr, hml, hown, hts, hX, hbl, hlocks, lw_nx htl, lw_thS htl hgv, lw_NC hgv, hl0⟩
  have hN : nx xNN s := lw_nx htl
  have hct := in_ct
  simp only [Bool.and_eq_true] at hct
  obtain ⟨⟨⟨⟨⟨⟨⟨⟨w1, w2⟩, w3⟩, w4⟩, w5⟩, w6⟩, w7⟩, w8⟩, w9⟩ := hct
  obtain ⟨D, hD⟩ := lw_D hts
  have G0 : sg D xcl (AA s) s [] [] [] [] s.heap [] := ⟨⟨rfl, rfl, fun i c h => by simp at h⟩, ⟨hD, fun k q h => by simp at h⟩, fun k q h => by simp at h, ⟨fun i j p q h => by simp at h, fun k q h => by simp at h⟩, va_S.rf, fun q h => h⟩
  have hl := lv_entry ([.ref b] : List Value) (n := 7) (Nat.le_of_ble_eq_true rfl)
  rw [lg_entry_eq]
  -- new RootDesk()
  obtain ⟨C1, T1, N1, hk11⟩ : ∃ C T N, xcl[11]? = some (C, T, N) := ⟨_, _, _, rfl⟩
  obtain ⟨g5, g6, g7, g8, g9, -, g10, g11, g12⟩ := okP_all.1.1 11 C1 T1 N1 hk11
  have hC1 : C1 = "RootDesk" := g12.symm.trans rfl
  have hN1 : N1 = 10 := g5.trans rfl
  subst hC1
  refine sg_new hx hb hts g6 (xft xX 11) g9 hown (hts _ (inT_ok w1)) (hts _ g7) (hts _ g8) G0 hk11 g10 g11 (by show 0 + 1 ≤ 600002; decide) (by show 0 + N1 ≤ 7302232; omega) d_0 (fun q1 ws1 H1 G1 => ?_)
  refine lv_dup hx hb d_3 rfl ?_
  have hw1 : wr [q1] [] [.inl (11, dfT.getD 11 [])] ws1 := G1.1
  have hM1 := met_ctor l (D := D) (sz := H1.size) hw1 (vrs_cr rfl rfl : vrs [q1] [.ref 0] [.ref q1])
  have hr1 := va_runI (R := room_1) (p := p) (e := e) (m := m) (c := c) (meth := meth) (below := below) (cells := 0 + 1) (slots := 0 + N1) (locs := []) (H := H1) (Ts := TB) (own := "RootDeskLaw") (b := q1) (As := []) (rest := [.ref q1]) (n := 0) (index := 73) (g := F0 m 4 _ [.ref q1, .ref q1]) ⟨hx, hb, hml, hown, hts⟩ hM1 ⟨callB_of 0 hts (lw_good (mj := 0) (by decide)) (by unfold xws; rfl) rfl rfl (hts _ (inT_ok w3)) (hts _ (inT_ok w4)) ⟨by decide, by decide, by decide +kernel⟩ ⟨by decide, (Nat.le_of_ble_eq_true rfl)⟩, rfl, hts _ (inT_ok w5)⟩ ⟨FB, fun U hU hW => ⟨rfl, by rw [hU], by rw [hU]; exact G1.2.2.1, va_K.moved hW.alike G1.2.1, G1.2.2.2.1.weaken (fun _ _ _ _ => trivial), nx_warm hW hN⟩⟩ rfl rfl hl.1 rfl (lv_room (Nat.le_of_ble_eq_true rfl)) d_4 ⟨by decide, by show 0 + N1 + cnt0.2 ≤ 7302232; rw [hN1]; decide⟩
  refine x_call hr1 G1 (sg_A G1) (fun cv as2 tys2 ws2 H2 locs2 k1 k2 G2 => ?_)
  have k2 : cv = none := k2
  subst k2
  have hq1 : as2[0]? = some q1 := by
    obtain ⟨tt, rfl⟩ := k1
    rfl
  refine lv_astore_n hx hb d_7 rfl hl (by decide) rfl (fun ls2 hl2 => ?_)
  -- new RootDeskModel()
  obtain ⟨C2, T2, N2, hk12⟩ : ∃ C T N, xcl[12]? = some (C, T, N) := ⟨_, _, _, rfl⟩
  obtain ⟨f5, f6, f7, f8, f9, -, f10, f11, f12⟩ := okP_all.1.1 12 C2 T2 N2 hk12
  have hC2 : C2 = "RootDeskModel" := f12.symm.trans rfl
  have hN2 : N2 = 21 := f5.trans rfl
  subst hC2
  refine sg_new hx hb hts f6 (xft xX 12) f9 hown (hts _ (inT_ok w2)) (hts _ f7) (hts _ f8) G2 hk12 f10 f11 (by decide) (by show 0 + N1 + cnt0.2 + N2 ≤ 7302232; rw [hN1, hN2]; decide) d_8 (fun q2 ws3 H3 G3 => ?_)
  have hq2 : (as2 ++ [q2])[649]? = some q2 := by
    have e9 := sg_len G2 q2
    rw [H0_len] at e9
    exact e9
  refine lv_dup hx hb d_11 rfl ?_
  have hcut : cutJ (H0 ++ [.inl (12, xdf xX 12)]) [.ref 649] [649] [.inl (12, xdf xX 12)] [.ref 0] := cut_new rfl
  obtain ⟨u1, u2, u3, u4⟩ := cutJ_wr G3.1 hcut (vrs_cr hq2 rfl : vrs (as2 ++ [q2]) [.ref 649] [.ref q2])
  have hM2 := met_mctor l (D := D) (sz := H3.size) u3 u4
  have hr2 := va_runI (R := room_1) (p := p) (e := e) (m := m) (c := c) (meth := meth) (below := below) (cells := 0 + 1 + cnt0.1 + 1) (slots := 0 + N1 + cnt0.2 + N2) (locs := locs2) (H := H3) (Ts := TB) (own := "RootDeskLaw") (b := q2) (As := []) (rest := [.ref q2]) (n := 0) (index := 76) (g := F0 m 12 ls2 [.ref q2, .ref q2]) ⟨hx, hb, hml, hown, hts⟩ hM2 ⟨callB_of 0 hts (lw_good (mj := 152) (by decide)) (by unfold xws; rfl) rfl rfl (hts _ (inT_ok w6)) (hts _ (inT_ok w7)) ⟨by decide, by decide, by decide +kernel⟩ ⟨by decide, (Nat.le_of_ble_eq_true rfl)⟩, rfl, hts _ (inT_ok w8)⟩ ⟨FB, fun U hU hW => by
    have hJw : ∀ j ∈ [649], j < ws3.length := fun j hj => by rw [G3.1.2.1]; exact u2 j hj
    exact ⟨rfl, by rw [hU], by rw [hU]; exact wsJ_P G3.2.2.1 hJw, va_K.moved hW.alike G3.2.1, wsJ_D u1 (G3.2.2.2.1.weaken (fun _ _ _ _ => trivial)) hJw, nx_warm hW hN⟩⟩ rfl rfl hl2.1 rfl (lv_room (Nat.le_of_ble_eq_true rfl)) d_12 ⟨by decide, by show 0 + N1 + cnt0.2 + N2 + 6758 ≤ 7302232; rw [hN1, hN2]; decide⟩
  refine x_callC (cs := Ms) (v := none) hr2 G3 u1 u2 (by decide) (bk_mI (by rw [List.length_append, H0_len]; rfl)) rfl (lw_A1 G3 u1 u2) (fun cv as4 tys4 ws4 H4 locs4 k3 k4 G4 => ?_)
  have k4 : cv = none := k4
  subst k4
  have hq3 : as4[0]? = some q1 := by
    obtain ⟨tt, rfl⟩ := k3
    exact getl (getl hq1)
  have hq4 : as4[649]? = some q2 := by
    obtain ⟨tt, rfl⟩ := k3
    exact getl hq2
  rw [show Ms = mOs :: mI.tail from rfl, mg_one H0_len] at G4
  refine lv_astore_n hx hb d_15 rfl hl2 (by decide) rfl (fun ls4 hl4 => ?_)
  -- new long[1]
  refine lv_iconst (v := 1) hx hb d_16 rfl ?_
  refine sg_newa_long (N' := 1) hx hb (hts _ (inT_ok w9)) G4 (by decide) (by decide) (by decide) (by decide) (by show 0 + N1 + cnt0.2 + N2 + 6758 + 1 ≤ 7302232; rw [hN1, hN2]; decide) d_17 (fun q5 tys5 ws5 H5 G5 => ?_)
  have hq5 : (as4 ++ [q5])[662]? = some q5 := by
    have e9 := sg_len G4 q5
    rw [List.length_append, H0_len] at e9
    exact e9
  rw [List.append_assoc] at G5
  refine lv_astore_n hx hb d_19 rfl hl4 (by decide) rfl (fun ls5 hl5 => ?_)
  refine lv_iconst (v := 0) hx hb d_20 rfl ?_
  refine lv_istore hx hb d_21 hl5 (by decide) rfl (fun ls6 hl6 => ?_)
  exact lw_head C hL G5 (getl hq3) (getl hq4) hq5 hl6 (by decide) (by show 0 + N1 + cnt0.2 + N2 + 6758 + 1 + 6 ≤ 100000; rw [hN1, hN2]; decide)
set_option maxHeartbeats 4000000 in
theorem lw_walk (l : Launch) (hl0 : ∀ e : Env, l.admits e → e.platform.stackTraces = false) (b : Addr) (xs : List Int32) : MetFree l x (headSpec (Jvm.Cond.code x code maxLocals ret :: tables_1) room_1) (lw_P b xs) (fun _ _ _ _ _ => True) lw_Q := by
  refine MetFree.of_bodyS (code := code) (maxLocals := maxLocals) (ret := ret) (by decide) ?_ ?_
  · intro args s m h hn
    obtain ⟨meth, c, h1, h2, h3, h4, h5, h6, -, -⟩ := Cond.code_spec hn (atoms_spec (ws := Jvm.Cond.code x code maxLocals ret :: tables_1) h _ List.mem_cons_self)
    exact ⟨meth, c, h1, h2, h3, h4, h5, h6⟩
  · intro p e s m args below meth c s₁ B hml0 hP _
    obtain ⟨rfl, hx, hbd, hgv⟩ := hP
    obtain ⟨scr, harrAt, hlist, hof, hsmall⟩ := hx
    obtain ⟨hcb, hkn, -, -⟩ := State.arrayAt?_spec harrAt
    have hown : s.vm.findClass R_law = some m.cls := findClass_of_methodNamed B.named
    have hts0 : ∀ c ∈ (Jvm.Cond.code x code maxLocals ret :: tables_1), c.before #[Value.ref b] s = true := atoms_spec (ws := Jvm.Cond.code x code maxLocals ret :: tables_1) B.pre
    have hts : ∀ w ∈ lw_tbl, w.before #[Value.ref b] s = true := k2_hts_sels lw_privs (fun w hw => hts0 w (List.mem_cons_of_mem _ hw)) lw_privs_ok
    have hml : c.maxLocals = 7 := B.maxLocals_eq (hts0 _ List.mem_cons_self)
    have X₀ : Stand p l e room_1 s m #[Value.ref b] below meth c s₁ [] 0 0 := Stand.of_body B
    have hh0 : s₁.heap = s.heap := by rw [B.state]; rfl
    have hsz : scr.slots.size = xs.length := by rw [← Array.length_toList, hlist, List.length_map]
    have hval : ∀ j : Nat, j < xs.length → scr.slots[j]? = some (.int (xs.getD j 0)) := fun j hj => by
      rw [← Array.getElem?_toList, hlist]
      simp [hj]
    have hbl : b < s.heap.size := (Array.getElem?_eq_some_iff.mp hcb).1
    have hX : va_X b xs.length (fun j => xs.getD j 0) s s.heap := ⟨scr, hcb, hof, hkn, hsz, hval⟩
    have K : W p l e room_1 s m #[Value.ref b] below meth c s₁.heap [] 0 0 (lw_Z below #[Value.ref b] s) (entryFrame m ([Value.ref b] : List Value).toArray 7) := by
      rw [hh0]
      exact whole_start l hl0 hbd ⟨B.exec, B.bytes, B.returns, hml, hown, hts, hX, hbl, B.notSynchronized, hgv⟩
    obtain ⟨t, a1, o, b1, b2, b3⟩ := K s₁ rfl X₀
    exact ⟨t, o, a1, b1, b2, b3⟩
theorem lw_pre_spec {args : Array Value} {s : State} (h : (Jvm.Cond.and given_1 narrow_1).before args s = true) (hr : rest_1_c.before args s = true) : ∃ (b : Addr) (xs : List Int32), lw_P b xs args s := by
  have hs := flat_of_before _ h
  have hq := flat_of_before _ hr
  have hc : (Cond.count 1).before args s = true := hs _ (by decide +kernel)
  have harr : (Cond.arrayOf (.arg 0) .int).before args s = true := hs _ (by decide +kernel)
  have hle : (Cond.le (.length (.arg 0)) (.int 4)).before args s = true := hs _ (by decide +kernel)
  have hlen : (Cond.isInt (.length (.arg 0))).before args s = true := hq _ (by decide +kernel)
  have hall : (Cond.all (.arg 0) (.isInt (.elem (.arg 0) (.index 0)))).before args s = true := hq _ (by decide +kernel)
  obtain ⟨b, xs, hb, hx⟩ := State.ints_of_pre rfl harr hlen hall
  have hsm : xs.length < 2 ^ 31 := hx.choose_spec.2.2.2
  have hev : (Term.length (.arg 0)).eval args s none [] s = some (.int xs.length.toInt32) := hx.length_eval hb
  have hv := Cond.le_ints hev (show (Term.int 4).eval args s none [] s = some (.int 4) from rfl)
  have hd : xs.length.toInt32 ≤ 4 := by
    simpa [Cond.before, Cond.holds, hv] using hle
  have hN : xs.length ≤ 4 := (Int32.ofNat_le_ofNat hsm (by decide)).mp (show Int32.ofNat xs.length ≤ Int32.ofNat 4 from hd)
  exact ⟨b, xs, Cond.one_arg hc (show args[0]? = some (.ref b) from hb), hx, hN, h⟩
theorem lw_comes (l : Launch) (hl0 : ∀ e : Env, l.admits e → e.platform.stackTraces = false) : Comes l x (Jvm.Cond.code x code maxLocals ret :: tables_1) room_1 (fun tb e args s => Calls_1 tb e args s ∧ rest_1 tb e args s ∧ Pre_1 tb e args s)
    (fun _ _ args s o t => lw_Q args s o t) := by
  intro p e ha hc hk s m args below hf hfit hheap happ hpre
  obtain ⟨b, xs, hP⟩ := lw_pre_spec hpre.2.2 hpre.2.1
  obtain ⟨k, o, h1, h2, h3, hQ⟩ := lw_walk l hl0 b xs p e ha hc hk s m args below hf ((Spec.applies_iff_loose hf).mp happ).1 hP trivial
  exact ⟨k, o, h1, h2, h3, hQ⟩
theorem lw_frame {s t : State} {o : Outcome} {args : Array Value} (h : Framed s o t [] 600002 7302232) :
    Framed s o t (fieldLocs frame_1_writes args s ++ arrayLocs frame_1_arrays args s ++ staticLocs frame_1_statics s) 600002 7302232 := h
theorem lw_limb (L : Cond) (hL : ∀ (args : Array Value) (s t : State), L.after args s (.returned (some (.int 1))) t = true) :
    ArmFor flags0 classFile x code maxLocals ret World_1 tables_1 room_1 Calls_1 rest_1 Pre_1
      (fun tb e a s o t => postC L tb e a s o t ∧ Framed s o t (fieldLocs frame_1_writes a s ++ arrayLocs frame_1_arrays a s ++ staticLocs frame_1_statics s) 600002 7302232) := by
  intro l hfl _ _ p e ha hc hk s m args below hf hfit hheap happ hpre
  obtain ⟨k, o, h1, h2, h3, rfl, hF⟩ := lw_comes l (fun e ha => Launch.traces_off hfl ha) p e ha hc hk s m args below hf hfit hheap happ hpre
  exact ⟨k, _, h1, h2, h3, hL args s _, lw_frame hF⟩
theorem i_vc : Claimed_1_1 ∧ Claimed_1_2 := ⟨lw_limb limb_1_1 (fun args s t => by simp [limb_1_1, Cond.after, Cond.holds, Cond.value]), lw_limb limb_1_2 (fun args s t => Cond.after_iff.mpr (by
  first | (rw [show limb_1_2 = Cond.eq .result (.int 1) from rfl, Cond.eq_ints (x := 1) (y := 1) rfl rfl]; simp; done) | (simp [limb_1_2, Cond.value, Term.eval]; done)))⟩
