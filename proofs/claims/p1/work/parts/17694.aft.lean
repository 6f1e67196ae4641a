/-! the law: behind a helper's call -/
theorem getl {as tt : List Nat} {i a : Nat} (h : as[i]? = some a) : (as ++ tt)[i]? = some a := by
  rw [List.getElem?_append_left (List.getElem?_eq_some_iff.mp h).1]
  exact h
theorem lw_preW {s : State} {D : va_G} {h : xH} {as : List Nat} {tys : List (ClassId × FieldType)} {ws : va_W} {H : Heap} {locs : List Loc} {cvs : List Value} (G : sg D xcl (AA s) s h as tys ws H locs) (hN : nx xNN s) (hTs : thS (AA s) s) (U : State) (hU : U.heap = H) (hW : s.WarmedH U.vm) : va_Pc cvs (xPre2 D xcl xNN tys ws H.size) cvs.toArray U := ⟨rfl, ⟨by rw [hU], by rw [hU]; exact G.2.2.1, va_K.moved hW.alike G.2.1, G.2.2.2.1.weaken (fun _ _ _ _ => trivial), nx_warm hW hN⟩, thS_call hTs G.2.2.2.2.1 (sg_A G) hU hW⟩
set_option maxRecDepth 100000 in
theorem wi_law : inT (Cond.initialized "RootDeskLaw") = true := by decide +kernel
set_option maxRecDepth 100000 in
theorem okm_character : okL "RootDeskLaw" 147 220 1 := okLB_ok (by decide +kernel)
set_option maxRecDepth 100000 in
theorem okk_character : okL "RootDeskLaw" 144 75 1 := okLB_ok (by decide +kernel)
set_option maxRecDepth 100000 in
theorem okm_roots : okL "RootDeskLaw" 94 184 0 := okLB_ok (by decide +kernel)
set_option maxRecDepth 100000 in
theorem okk_roots : okL "RootDeskLaw" 91 15 0 := okLB_ok (by decide +kernel)
set_option maxRecDepth 100000 in
theorem okm_degree : okL "RootDeskLaw" 90 156 0 := okLB_ok (by decide +kernel)
set_option maxRecDepth 100000 in
theorem okk_degree : okL "RootDeskLaw" 87 14 0 := okLB_ok (by decide +kernel)
set_option maxRecDepth 100000 in
theorem okm_size : okL "RootDeskLaw" 153 222 1 := okLB_ok (by decide +kernel)
set_option maxRecDepth 100000 in
theorem wc_size : inT (Cond.codeWith nw_size method_20_code 4 (some .int) hh_size) = true := by decide +kernel
set_option maxRecDepth 100000 in
theorem wl_size : inT (Cond.methodLink "RootDeskLaw" 151 nw_size) = true := by decide +kernel
set_option maxRecDepth 100000 in
theorem wt_size : inT (Cond.static nw_size) = true := by decide +kernel
set_option maxRecDepth 100000 in
theorem okm_weight : okL "RootDeskLaw" 150 221 1 := okLB_ok (by decide +kernel)
set_option maxRecDepth 100000 in
theorem wc_weight : inT (Cond.codeWith nw_weight method_19_code 4 (some .int) hh_weight) = true := by decide +kernel
set_option maxRecDepth 100000 in
theorem wl_weight : inT (Cond.methodLink "RootDeskLaw" 148 nw_weight) = true := by decide +kernel
set_option maxRecDepth 100000 in
theorem wt_weight : inT (Cond.static nw_weight) = true := by decide +kernel
set_option maxRecDepth 100000 in
theorem okm_print : okL "RootDeskLaw" 143 216 2 := okLB_ok (by decide +kernel)
set_option maxRecDepth 100000 in
theorem wc_print : inT (Cond.codeWith nw_print method_18_code 5 (some .int) hh_print) = true := by decide +kernel
set_option maxRecDepth 100000 in
theorem wl_print : inT (Cond.methodLink "RootDeskLaw" 141 nw_print) = true := by decide +kernel
set_option maxRecDepth 100000 in
theorem wt_print : inT (Cond.static nw_print) = true := by decide +kernel
set_option maxRecDepth 100000 in
theorem okm_sign : okL "RootDeskLaw" 140 215 1 := okLB_ok (by decide +kernel)
set_option maxRecDepth 100000 in
theorem wc_sign : inT (Cond.codeWith nw_sign method_17_code 4 (some .int) hh_sign) = true := by decide +kernel
set_option maxRecDepth 100000 in
theorem wl_sign : inT (Cond.methodLink "RootDeskLaw" 138 nw_sign) = true := by decide +kernel
set_option maxRecDepth 100000 in
theorem wt_sign : inT (Cond.static nw_sign) = true := by decide +kernel
set_option maxRecDepth 100000 in
theorem okm_compare : okL "RootDeskLaw" 137 214 2 := okLB_ok (by decide +kernel)
set_option maxRecDepth 100000 in
theorem wc_compare : inT (Cond.codeWith nw_compare method_16_code 5 (some .int) hh_compare) = true := by decide +kernel
set_option maxRecDepth 100000 in
theorem wl_compare : inT (Cond.methodLink "RootDeskLaw" 135 nw_compare) = true := by decide +kernel
set_option maxRecDepth 100000 in
theorem wt_compare : inT (Cond.static nw_compare) = true := by decide +kernel
set_option maxRecDepth 100000 in
theorem okm_root : okL "RootDeskLaw" 134 212 3 := okLB_ok (by decide +kernel)
set_option maxRecDepth 100000 in
theorem wc_root : inT (Cond.codeWith nw_root method_15_code 6 (some .int) hh_root) = true := by decide +kernel
set_option maxRecDepth 100000 in
theorem wl_root : inT (Cond.methodLink "RootDeskLaw" 132 nw_root) = true := by decide +kernel
set_option maxRecDepth 100000 in
theorem wt_root : inT (Cond.static nw_root) = true := by decide +kernel
set_option maxRecDepth 100000 in
theorem okm_divide : okL "RootDeskLaw" 131 211 3 := okLB_ok (by decide +kernel)
set_option maxRecDepth 100000 in
theorem wc_divide : inT (Cond.codeWith nw_divide method_14_code 6 (some .int) hh_divide) = true := by decide +kernel
set_option maxRecDepth 100000 in
theorem wl_divide : inT (Cond.methodLink "RootDeskLaw" 129 nw_divide) = true := by decide +kernel
set_option maxRecDepth 100000 in
theorem wt_divide : inT (Cond.static nw_divide) = true := by decide +kernel
set_option maxRecDepth 100000 in
theorem okm_multiply : okL "RootDeskLaw" 128 209 3 := okLB_ok (by decide +kernel)
set_option maxRecDepth 100000 in
theorem wc_multiply : inT (Cond.codeWith nw_multiply method_13_code 6 (some .int) hh_multiply) = true := by decide +kernel
set_option maxRecDepth 100000 in
theorem wl_multiply : inT (Cond.methodLink "RootDeskLaw" 126 nw_multiply) = true := by decide +kernel
set_option maxRecDepth 100000 in
theorem wt_multiply : inT (Cond.static nw_multiply) = true := by decide +kernel
set_option maxRecDepth 100000 in
theorem okm_subtract : okL "RootDeskLaw" 125 208 3 := okLB_ok (by decide +kernel)
set_option maxRecDepth 100000 in
theorem wc_subtract : inT (Cond.codeWith nw_subtract method_12_code 6 (some .int) hh_subtract) = true := by decide +kernel
set_option maxRecDepth 100000 in
theorem wl_subtract : inT (Cond.methodLink "RootDeskLaw" 123 nw_subtract) = true := by decide +kernel
set_option maxRecDepth 100000 in
theorem wt_subtract : inT (Cond.static nw_subtract) = true := by decide +kernel
set_option maxRecDepth 100000 in
theorem okm_add : okL "RootDeskLaw" 122 202 3 := okLB_ok (by decide +kernel)
set_option maxRecDepth 100000 in
theorem wc_add : inT (Cond.codeWith nw_add method_11_code 6 (some .int) hh_add) = true := by decide +kernel
set_option maxRecDepth 100000 in
theorem wl_add : inT (Cond.methodLink "RootDeskLaw" 119 nw_add) = true := by decide +kernel
set_option maxRecDepth 100000 in
theorem wt_add : inT (Cond.static nw_add) = true := by decide +kernel
set_option maxRecDepth 100000 in
theorem okm_invert : okL "RootDeskLaw" 118 200 2 := okLB_ok (by decide +kernel)
set_option maxRecDepth 100000 in
theorem wc_invert : inT (Cond.codeWith nw_invert method_10_code 4 (some .int) hh_invert) = true := by decide +kernel
set_option maxRecDepth 100000 in
theorem wl_invert : inT (Cond.methodLink "RootDeskLaw" 116 nw_invert) = true := by decide +kernel
set_option maxRecDepth 100000 in
theorem wt_invert : inT (Cond.static nw_invert) = true := by decide +kernel
set_option maxRecDepth 100000 in
theorem okm_negate : okL "RootDeskLaw" 115 199 2 := okLB_ok (by decide +kernel)
set_option maxRecDepth 100000 in
theorem wc_negate : inT (Cond.codeWith nw_negate method_9_code 4 (some .int) hh_negate) = true := by decide +kernel
set_option maxRecDepth 100000 in
theorem wl_negate : inT (Cond.methodLink "RootDeskLaw" 113 nw_negate) = true := by decide +kernel
set_option maxRecDepth 100000 in
theorem wt_negate : inT (Cond.static nw_negate) = true := by decide +kernel
set_option maxRecDepth 100000 in
theorem okm_copy : okL "RootDeskLaw" 112 198 2 := okLB_ok (by decide +kernel)
set_option maxRecDepth 100000 in
theorem wc_copy : inT (Cond.codeWith nw_copy method_8_code 4 (some .int) hh_copy) = true := by decide +kernel
set_option maxRecDepth 100000 in
theorem wl_copy : inT (Cond.methodLink "RootDeskLaw" 109 nw_copy) = true := by decide +kernel
set_option maxRecDepth 100000 in
theorem wt_copy : inT (Cond.static nw_copy) = true := by decide +kernel
set_option maxRecDepth 100000 in
theorem okm_fraction : okL "RootDeskLaw" 108 197 3 := okLB_ok (by decide +kernel)
set_option maxRecDepth 100000 in
theorem wc_fraction : inT (Cond.codeWith nw_fraction method_7_code 5 (some .int) hh_fraction) = true := by decide +kernel
set_option maxRecDepth 100000 in
theorem wl_fraction : inT (Cond.methodLink "RootDeskLaw" 105 nw_fraction) = true := by decide +kernel
set_option maxRecDepth 100000 in
theorem wt_fraction : inT (Cond.static nw_fraction) = true := by decide +kernel
set_option maxRecDepth 100000 in
theorem okm_take : okL "RootDeskLaw" 104 194 2 := okLB_ok (by decide +kernel)
set_option maxRecDepth 100000 in
theorem wc_take : inT (Cond.codeWith nw_take method_6_code 5 (some .int) hh_take) = true := by decide +kernel
set_option maxRecDepth 100000 in
theorem wl_take : inT (Cond.methodLink "RootDeskLaw" 102 nw_take) = true := by decide +kernel
set_option maxRecDepth 100000 in
theorem wt_take : inT (Cond.static nw_take) = true := by decide +kernel
set_option maxRecDepth 100000 in
theorem okm_signAt : okL "RootDeskLaw" 101 193 1 := okLB_ok (by decide +kernel)
set_option maxRecDepth 100000 in
theorem wc_signAt : inT (Cond.codeWith nw_signAt method_5_code 4 (some .int) hh_signAt) = true := by decide +kernel
set_option maxRecDepth 100000 in
theorem wl_signAt : inT (Cond.methodLink "RootDeskLaw" 98 nw_signAt) = true := by decide +kernel
set_option maxRecDepth 100000 in
theorem wt_signAt : inT (Cond.static nw_signAt) = true := by decide +kernel
set_option maxRecDepth 100000 in
theorem okm_rootsIn : okL "RootDeskLaw" 97 185 2 := okLB_ok (by decide +kernel)
set_option maxRecDepth 100000 in
theorem wc_rootsIn : inT (Cond.codeWith nw_rootsIn method_4_code 5 (some .int) hh_rootsIn) = true := by decide +kernel
set_option maxRecDepth 100000 in
theorem wl_rootsIn : inT (Cond.methodLink "RootDeskLaw" 95 nw_rootsIn) = true := by decide +kernel
set_option maxRecDepth 100000 in
theorem wt_rootsIn : inT (Cond.static nw_rootsIn) = true := by decide +kernel
set_option maxRecDepth 100000 in
theorem okm_coefficient : okL "RootDeskLaw" 82 154 2 := okLB_ok (by decide +kernel)
set_option maxRecDepth 100000 in
theorem wc_coefficient : inT (Cond.codeWith nw_coefficient method_3_code 5 (some .int) hh_coefficient) = true := by decide +kernel
set_option maxRecDepth 100000 in
theorem wl_coefficient : inT (Cond.methodLink "RootDeskLaw" 77 nw_coefficient) = true := by decide +kernel
set_option maxRecDepth 100000 in
theorem wt_coefficient : inT (Cond.static nw_coefficient) = true := by decide +kernel
set_option maxRecDepth 100000 in
set_option maxHeartbeats 4000000 in
theorem aft_coefficient {p : Program} {l : Launch} {e : Env} {s : State} {m : MethodId} {below : List Frame} {meth : Method} {c : Code} {H : Heap} {locs : List Loc} {cells slots b : Nat} {xs : Nat → Int32} {D : va_G} {as : List Nat} {tys : List (ClassId × FieldType)} {ws : va_W} {ls : Array Slot} {am a0 o : Nat} (C : LC p l s m b meth c 4 xs) {k : Int32} {V : Int64} {Bb : Int32} (hVB : V = Bb.toInt64) (hc : cR 154 1 25 [.ref 0, .int (xs 1), .int (xs 2)] mI (fun v h' => FA h' k ∧ (k = 0 → v = some (.int Bb)))) (G : sg D xcl (AA s) s (mI ++ [outC V]) as tys ws H locs) (hm : as[0]? = some am) (ho : as[13]? = some o) (hl : lv_has ls 7 [(4, .int 0), (3, .ref o), (2, .ref am), (1, .ref a0), (0, .ref b)]) (hc1 : cells ≤ 10000) (hs1 : slots ≤ 100000) : W p l e room_1 s m #[Value.ref b] below meth c H locs cells slots (lw_Z below #[Value.ref b] s) (F0 m 153 ls [.int k]) := by
  obtain ⟨hx, hb, -⟩ := id C
  refine lv_istore hx hb d_153 hl (by decide) rfl (fun ls1 hl1 => ?_)
  refine lv_aload_n hx hb d_155 rfl (lv_at hl1 3 rfl) ?_
  refine rd C (k := 1) (by decide) (by decide) d_156 d_157 d_159 d_160 d_161 (lv_at hl1 5 rfl) (lv_at hl1 1 rfl) G.2.2.2.2.1 ?_
  refine rd C (k := 2) (by decide) (by decide) d_162 d_163 d_165 d_166 d_167 (lv_at hl1 5 rfl) (lv_at hl1 1 rfl) G.2.2.2.2.1 ?_
  refine lw_M C okm_coefficient (by decide) hc (by decide) (by decide) (Nat.le_of_ble_eq_true rfl) (Nat.le_of_ble_eq_true rfl) rfl rfl (vrs_ci (vrs_ci (rfl))) rfl G hm (by omega) (by omega) hl1.1 (crest := []) rfl (by decide) d_168 (Or.inr (Or.inl rfl)) (fun v h' h3 as3 tys3 ws3 H3 locs3 hK hsh hFA hout k3 G3 => ?_)
  have hm3 : as3[0]? = some am := by
    obtain ⟨tt, rfl⟩ := k3
    rw [List.getElem?_append_left (List.getElem?_eq_some_iff.mp hm).1]; exact hm
  have ho3 : as3[13]? = some o := by
    obtain ⟨tt, rfl⟩ := k3
    rw [List.getElem?_append_left (List.getElem?_eq_some_iff.mp ho).1]; exact ho
  obtain ⟨x, rfl⟩ : ∃ x, v = some (.int x) := hsh
  refine lv_istore hx hb d_171 hl1 (by decide) rfl (fun ls2 hl2 => ?_)
  refine lv_aload_n hx hb d_173 rfl (lv_at hl2 4 rfl) ?_
  refine lw_Th C (hFA _ hK.1) G3 hm3 (by omega) (by omega) hl2.1 (crest := []) (by decide) d_174 (fun as4 tys4 ws4 H4 locs4 k4 G4 => ?_)
  have ho4 : as4[13]? = some o := by
    obtain ⟨tt, rfl⟩ := k4
    rw [List.getElem?_append_left (List.getElem?_eq_some_iff.mp ho3).1]; exact ho3
  refine lv_iload hx hb d_177 (lv_at hl2 1 rfl) ?_
  refine lv_icmp_eq hx hb d_179 (tgt := 184) rfl (fun _ => ?_) (fun z => absurd rfl z)
  refine lv_iload hx hb d_184 (lv_at hl2 1 rfl) ?_
  have fin : ∀ {ls : Array Slot}, lv_has ls 7 [(4, .int 0), (0, .ref b)] → W p l e room_1 s m #[Value.ref b] below meth c H4 locs4 cells slots (lw_Z below #[Value.ref b] s) (F0 m 201 ls []) := fun hl9 => lv_goto hx hb d_201 (tgt := 1397) rfl (lw_tail C G4.2.2.2.2.1 (by omega) (by omega) hl9)
  refine lv_if_ne hx hb d_186 (tgt := 201) rfl (fun _ => fin (lv_sub hl2 [2, 6] rfl)) (fun hk0 => ?_)
  have hxb : x = Bb := by
    have z := hK.2 hk0
    cases z
    rfl
  subst hxb
  refine lv_aload_n hx hb d_189 rfl (lv_at hl2 3 rfl) ?_
  refine lv_iconst (v := 0) hx hb d_190 rfl ?_
  refine sg_lald hx hb G4 ho4 (i := 13) (x := [V]) hout (x_in_ok (n := 1) rfl) d_191 ?_
  refine lv_iload hx hb d_192 (lv_at hl2 0 rfl) ?_
  refine lv_i2l (v := V) hx hb d_194 hVB.symm ?_
  refine W.lcmp hx hb d_195 ?_
  exact lv_if_eq hx hb d_196 (tgt := 201) rfl (fun _ => fin (lv_sub hl2 [2, 6] rfl)) (fun z => absurd ((lg_cmp_eq _ _).mpr rfl) z)
set_option maxRecDepth 100000 in
set_option maxHeartbeats 4000000 in
theorem aft_rootsIn {p : Program} {l : Launch} {e : Env} {s : State} {m : MethodId} {below : List Frame} {meth : Method} {c : Code} {H : Heap} {locs : List Loc} {cells slots b : Nat} {xs : Nat → Int32} {D : va_G} {as : List Nat} {tys : List (ClassId × FieldType)} {ws : va_W} {ls : Array Slot} {am a0 o : Nat} (C : LC p l s m b meth c 4 xs) {k : Int32} {V : Int64} {Bb : Int32} (hVB : V = Bb.toInt64) (hc : cR 185 4 125 [.ref 0, .int (xs 1), .int (xs 2)] mI (fun v h' => FA h' k ∧ (k = 0 → v = some (.int Bb)))) (G : sg D xcl (AA s) s (mI ++ [outC V]) as tys ws H locs) (hm : as[0]? = some am) (ho : as[13]? = some o) (hl : lv_has ls 7 [(4, .int 0), (3, .ref o), (2, .ref am), (1, .ref a0), (0, .ref b)]) (hc1 : cells ≤ 10000) (hs1 : slots ≤ 100000) : W p l e room_1 s m #[Value.ref b] below meth c H locs cells slots (lw_Z below #[Value.ref b] s) (F0 m 247 ls [.int k]) := by
  obtain ⟨hx, hb, -⟩ := id C
  refine lv_istore hx hb d_247 hl (by decide) rfl (fun ls1 hl1 => ?_)
  refine lv_aload_n hx hb d_249 rfl (lv_at hl1 3 rfl) ?_
  refine rd C (k := 1) (by decide) (by decide) d_250 d_251 d_253 d_254 d_255 (lv_at hl1 5 rfl) (lv_at hl1 1 rfl) G.2.2.2.2.1 ?_
  refine rd C (k := 2) (by decide) (by decide) d_256 d_257 d_259 d_260 d_261 (lv_at hl1 5 rfl) (lv_at hl1 1 rfl) G.2.2.2.2.1 ?_
  refine lw_M C okm_rootsIn (by decide) hc (by decide) (by decide) (Nat.le_of_ble_eq_true rfl) (Nat.le_of_ble_eq_true rfl) rfl rfl (vrs_ci (vrs_ci (rfl))) rfl G hm (by omega) (by omega) hl1.1 (crest := []) rfl (by decide) d_262 (Or.inr (Or.inl rfl)) (fun v h' h3 as3 tys3 ws3 H3 locs3 hK hsh hFA hout k3 G3 => ?_)
  have hm3 : as3[0]? = some am := by
    obtain ⟨tt, rfl⟩ := k3
    rw [List.getElem?_append_left (List.getElem?_eq_some_iff.mp hm).1]; exact hm
  have ho3 : as3[13]? = some o := by
    obtain ⟨tt, rfl⟩ := k3
    rw [List.getElem?_append_left (List.getElem?_eq_some_iff.mp ho).1]; exact ho
  obtain ⟨x, rfl⟩ : ∃ x, v = some (.int x) := hsh
  refine lv_istore hx hb d_265 hl1 (by decide) rfl (fun ls2 hl2 => ?_)
  refine lv_aload_n hx hb d_267 rfl (lv_at hl2 4 rfl) ?_
  refine lw_Th C (hFA _ hK.1) G3 hm3 (by omega) (by omega) hl2.1 (crest := []) (by decide) d_268 (fun as4 tys4 ws4 H4 locs4 k4 G4 => ?_)
  have ho4 : as4[13]? = some o := by
    obtain ⟨tt, rfl⟩ := k4
    rw [List.getElem?_append_left (List.getElem?_eq_some_iff.mp ho3).1]; exact ho3
  refine lv_iload hx hb d_271 (lv_at hl2 1 rfl) ?_
  refine lv_icmp_eq hx hb d_273 (tgt := 278) rfl (fun _ => ?_) (fun z => absurd rfl z)
  refine lv_iload hx hb d_278 (lv_at hl2 1 rfl) ?_
  have fin : ∀ {ls : Array Slot}, lv_has ls 7 [(4, .int 0), (0, .ref b)] → W p l e room_1 s m #[Value.ref b] below meth c H4 locs4 cells slots (lw_Z below #[Value.ref b] s) (F0 m 295 ls []) := fun hl9 => lv_goto hx hb d_295 (tgt := 1397) rfl (lw_tail C G4.2.2.2.2.1 (by omega) (by omega) hl9)
  refine lv_if_ne hx hb d_280 (tgt := 295) rfl (fun _ => fin (lv_sub hl2 [2, 6] rfl)) (fun hk0 => ?_)
  have hxb : x = Bb := by
    have z := hK.2 hk0
    cases z
    rfl
  subst hxb
  refine lv_aload_n hx hb d_283 rfl (lv_at hl2 3 rfl) ?_
  refine lv_iconst (v := 0) hx hb d_284 rfl ?_
  refine sg_lald hx hb G4 ho4 (i := 13) (x := [V]) hout (x_in_ok (n := 1) rfl) d_285 ?_
  refine lv_iload hx hb d_286 (lv_at hl2 0 rfl) ?_
  refine lv_i2l (v := V) hx hb d_288 hVB.symm ?_
  refine W.lcmp hx hb d_289 ?_
  exact lv_if_eq hx hb d_290 (tgt := 295) rfl (fun _ => fin (lv_sub hl2 [2, 6] rfl)) (fun z => absurd ((lg_cmp_eq _ _).mpr rfl) z)
set_option maxRecDepth 100000 in
set_option maxHeartbeats 4000000 in
theorem aft_signAt {p : Program} {l : Launch} {e : Env} {s : State} {m : MethodId} {below : List Frame} {meth : Method} {c : Code} {H : Heap} {locs : List Loc} {cells slots b : Nat} {xs : Nat → Int32} {D : va_G} {as : List Nat} {tys : List (ClassId × FieldType)} {ws : va_W} {ls : Array Slot} {am a0 o : Nat} (C : LC p l s m b meth c 4 xs) {k : Int32} {V : Int64} {Bb : Int32} (hVB : V = Bb.toInt64) (hc : cR 193 4 125 [.ref 0, .int (xs 1)] mI (fun v h' => FA h' k ∧ (k = 0 → v = some (.int Bb)))) (G : sg D xcl (AA s) s (mI ++ [outC V]) as tys ws H locs) (hm : as[0]? = some am) (ho : as[13]? = some o) (hl : lv_has ls 7 [(4, .int 0), (3, .ref o), (2, .ref am), (1, .ref a0), (0, .ref b)]) (hc1 : cells ≤ 10000) (hs1 : slots ≤ 100000) : W p l e room_1 s m #[Value.ref b] below meth c H locs cells slots (lw_Z below #[Value.ref b] s) (F0 m 309 ls [.int k]) := by
  obtain ⟨hx, hb, -⟩ := id C
  refine lv_istore hx hb d_309 hl (by decide) rfl (fun ls1 hl1 => ?_)
  refine lv_aload_n hx hb d_311 rfl (lv_at hl1 3 rfl) ?_
  refine rd C (k := 1) (by decide) (by decide) d_312 d_313 d_315 d_316 d_317 (lv_at hl1 5 rfl) (lv_at hl1 1 rfl) G.2.2.2.2.1 ?_
  refine lw_M C okm_signAt (by decide) hc (by decide) (by decide) (Nat.le_of_ble_eq_true rfl) (Nat.le_of_ble_eq_true rfl) rfl rfl (vrs_ci (rfl)) rfl G hm (by omega) (by omega) hl1.1 (crest := []) rfl (by decide) d_318 (Or.inr (Or.inl rfl)) (fun v h' h3 as3 tys3 ws3 H3 locs3 hK hsh hFA hout k3 G3 => ?_)
  have hm3 : as3[0]? = some am := by
    obtain ⟨tt, rfl⟩ := k3
    rw [List.getElem?_append_left (List.getElem?_eq_some_iff.mp hm).1]; exact hm
  have ho3 : as3[13]? = some o := by
    obtain ⟨tt, rfl⟩ := k3
    rw [List.getElem?_append_left (List.getElem?_eq_some_iff.mp ho).1]; exact ho
  obtain ⟨x, rfl⟩ : ∃ x, v = some (.int x) := hsh
  refine lv_istore hx hb d_321 hl1 (by decide) rfl (fun ls2 hl2 => ?_)
  refine lv_aload_n hx hb d_323 rfl (lv_at hl2 4 rfl) ?_
  refine lw_Th C (hFA _ hK.1) G3 hm3 (by omega) (by omega) hl2.1 (crest := []) (by decide) d_324 (fun as4 tys4 ws4 H4 locs4 k4 G4 => ?_)
  have ho4 : as4[13]? = some o := by
    obtain ⟨tt, rfl⟩ := k4
    rw [List.getElem?_append_left (List.getElem?_eq_some_iff.mp ho3).1]; exact ho3
  refine lv_iload hx hb d_327 (lv_at hl2 1 rfl) ?_
  refine lv_icmp_eq hx hb d_329 (tgt := 334) rfl (fun _ => ?_) (fun z => absurd rfl z)
  refine lv_iload hx hb d_334 (lv_at hl2 1 rfl) ?_
  have fin : ∀ {ls : Array Slot}, lv_has ls 7 [(4, .int 0), (0, .ref b)] → W p l e room_1 s m #[Value.ref b] below meth c H4 locs4 cells slots (lw_Z below #[Value.ref b] s) (F0 m 351 ls []) := fun hl9 => lv_goto hx hb d_351 (tgt := 1397) rfl (lw_tail C G4.2.2.2.2.1 (by omega) (by omega) hl9)
  refine lv_if_ne hx hb d_336 (tgt := 351) rfl (fun _ => fin (lv_sub hl2 [2, 6] rfl)) (fun hk0 => ?_)
  have hxb : x = Bb := by
    have z := hK.2 hk0
    cases z
    rfl
  subst hxb
  refine lv_aload_n hx hb d_339 rfl (lv_at hl2 3 rfl) ?_
  refine lv_iconst (v := 0) hx hb d_340 rfl ?_
  refine sg_lald hx hb G4 ho4 (i := 13) (x := [V]) hout (x_in_ok (n := 1) rfl) d_341 ?_
  refine lv_iload hx hb d_342 (lv_at hl2 0 rfl) ?_
  refine lv_i2l (v := V) hx hb d_344 hVB.symm ?_
  refine W.lcmp hx hb d_345 ?_
  exact lv_if_eq hx hb d_346 (tgt := 351) rfl (fun _ => fin (lv_sub hl2 [2, 6] rfl)) (fun z => absurd ((lg_cmp_eq _ _).mpr rfl) z)
set_option maxRecDepth 100000 in
set_option maxHeartbeats 4000000 in
theorem aft_take {p : Program} {l : Launch} {e : Env} {s : State} {m : MethodId} {below : List Frame} {meth : Method} {c : Code} {H : Heap} {locs : List Loc} {cells slots b : Nat} {xs : Nat → Int32} {D : va_G} {as : List Nat} {tys : List (ClassId × FieldType)} {ws : va_W} {ls : Array Slot} {am a0 o : Nat} (C : LC p l s m b meth c 4 xs) {k : Int32} {V : Int64} {Bb : Int32} (hVB : V = if Bb = 0 then 0 else 1) (hc : cR 194 4 125 [.ref 0, .int (xs 1), .int (xs 2)] mI (fun v h' => FA h' k ∧ (k = 0 → v = some (.int Bb)))) (G : sg D xcl (AA s) s (mI ++ [outC V]) as tys ws H locs) (hm : as[0]? = some am) (ho : as[13]? = some o) (hl : lv_has ls 7 [(4, .int 0), (3, .ref o), (2, .ref am), (1, .ref a0), (0, .ref b)]) (hc1 : cells ≤ 10000) (hs1 : slots ≤ 100000) : W p l e room_1 s m #[Value.ref b] below meth c H locs cells slots (lw_Z below #[Value.ref b] s) (F0 m 371 ls [.int k]) := by
  obtain ⟨hx, hb, -⟩ := id C
  refine lv_istore hx hb d_371 hl (by decide) rfl (fun ls1 hl1 => ?_)
  refine lv_aload_n hx hb d_373 rfl (lv_at hl1 3 rfl) ?_
  refine rd C (k := 1) (by decide) (by decide) d_374 d_375 d_377 d_378 d_379 (lv_at hl1 5 rfl) (lv_at hl1 1 rfl) G.2.2.2.2.1 ?_
  refine rd C (k := 2) (by decide) (by decide) d_380 d_381 d_383 d_384 d_385 (lv_at hl1 5 rfl) (lv_at hl1 1 rfl) G.2.2.2.2.1 ?_
  refine lw_M C okm_take (by decide) hc (by decide) (by decide) (Nat.le_of_ble_eq_true rfl) (Nat.le_of_ble_eq_true rfl) rfl rfl (vrs_ci (vrs_ci (rfl))) rfl G hm (by omega) (by omega) hl1.1 (crest := []) rfl (by decide) d_386 (Or.inr (Or.inr rfl)) (fun v h' h3 as3 tys3 ws3 H3 locs3 hK hsh hFA hout k3 G3 => ?_)
  have hm3 : as3[0]? = some am := by
    obtain ⟨tt, rfl⟩ := k3
    rw [List.getElem?_append_left (List.getElem?_eq_some_iff.mp hm).1]; exact hm
  have ho3 : as3[13]? = some o := by
    obtain ⟨tt, rfl⟩ := k3
    rw [List.getElem?_append_left (List.getElem?_eq_some_iff.mp ho).1]; exact ho
  obtain ⟨x, rfl⟩ : ∃ x, v = some (.int x) := hsh
  refine lv_istore hx hb d_389 hl1 (by decide) rfl (fun ls2 hl2 => ?_)
  refine lv_aload_n hx hb d_391 rfl (lv_at hl2 4 rfl) ?_
  refine lw_Th C (hFA _ hK.1) G3 hm3 (by omega) (by omega) hl2.1 (crest := []) (by decide) d_392 (fun as4 tys4 ws4 H4 locs4 k4 G4 => ?_)
  have ho4 : as4[13]? = some o := by
    obtain ⟨tt, rfl⟩ := k4
    rw [List.getElem?_append_left (List.getElem?_eq_some_iff.mp ho3).1]; exact ho3
  refine lv_iload hx hb d_395 (lv_at hl2 1 rfl) ?_
  refine lv_icmp_eq hx hb d_397 (tgt := 402) rfl (fun _ => ?_) (fun z => absurd rfl z)
  refine lv_iload hx hb d_402 (lv_at hl2 1 rfl) ?_
  have fin : ∀ {ls : Array Slot}, lv_has ls 7 [(4, .int 0), (0, .ref b)] → W p l e room_1 s m #[Value.ref b] below meth c H4 locs4 cells slots (lw_Z below #[Value.ref b] s) (F0 m 426 ls []) := fun hl9 => lv_goto hx hb d_426 (tgt := 1397) rfl (lw_tail C G4.2.2.2.2.1 (by omega) (by omega) hl9)
  refine lv_if_ne hx hb d_404 (tgt := 426) rfl (fun _ => fin (lv_sub hl2 [2, 6] rfl)) (fun hk0 => ?_)
  have hxb : x = Bb := by
    have z := hK.2 hk0
    cases z
    rfl
  subst hxb
  refine lv_aload_n hx hb d_407 rfl (lv_at hl2 3 rfl) ?_
  refine lv_iconst (v := 0) hx hb d_408 rfl ?_
  refine sg_lald hx hb G4 ho4 (i := 13) (x := [V]) hout (x_in_ok (n := 1) rfl) d_409 ?_
  refine lv_iload hx hb d_410 (lv_at hl2 0 rfl) ?_
  have cmp : ∀ {ls : Array Slot}, lv_has ls 7 [(4, .int 0), (0, .ref b)] → W p l e room_1 s m #[Value.ref b] below meth c H4 locs4 cells slots (lw_Z below #[Value.ref b] s) (F0 m 420 ls [.long V, .long V]) := fun hl9 => W.lcmp hx hb d_420 (lv_if_eq hx hb d_421 (tgt := 426) rfl (fun _ => fin hl9) (fun z => absurd ((lg_cmp_eq _ _).mpr rfl) z))
  refine lv_if_eq hx hb d_412 (tgt := 419) rfl (fun z => ?_) (fun z => ?_)
  · refine lv_lconst (v := V) hx hb d_419 (by rw [hVB, if_pos z]; rfl) ?_
    exact cmp (lv_sub hl2 [2, 6] rfl)
  · refine lv_lconst (v := V) hx hb d_415 (by rw [hVB, if_neg z]; rfl) ?_
    refine lv_goto hx hb d_416 (tgt := 420) rfl ?_
    exact cmp (lv_sub hl2 [2, 6] rfl)
set_option maxRecDepth 100000 in
set_option maxHeartbeats 4000000 in
theorem aft_fraction {p : Program} {l : Launch} {e : Env} {s : State} {m : MethodId} {below : List Frame} {meth : Method} {c : Code} {H : Heap} {locs : List Loc} {cells slots b : Nat} {xs : Nat → Int32} {D : va_G} {as : List Nat} {tys : List (ClassId × FieldType)} {ws : va_W} {ls : Array Slot} {am a0 o : Nat} (C : LC p l s m b meth c 4 xs) {k : Int32} {V : Int64} (hc : cR 197 4 100 [.ref 0, .int (xs 1), .int (xs 2), .int (xs 3)] mI (fun _ h' => FA h' k ∧ True)) (G : sg D xcl (AA s) s (mI ++ [outC V]) as tys ws H locs) (hm : as[0]? = some am) (ho : as[13]? = some o) (hl : lv_has ls 7 [(4, .int 0), (3, .ref o), (2, .ref am), (1, .ref a0), (0, .ref b)]) (hc1 : cells ≤ 10000) (hs1 : slots ≤ 100000) : W p l e room_1 s m #[Value.ref b] below meth c H locs cells slots (lw_Z below #[Value.ref b] s) (F0 m 451 ls [.int k]) := by
  obtain ⟨hx, hb, -⟩ := id C
  refine lv_istore hx hb d_451 hl (by decide) rfl (fun ls1 hl1 => ?_)
  refine lv_aload_n hx hb d_453 rfl (lv_at hl1 3 rfl) ?_
  refine rd C (k := 1) (by decide) (by decide) d_454 d_455 d_457 d_458 d_459 (lv_at hl1 5 rfl) (lv_at hl1 1 rfl) G.2.2.2.2.1 ?_
  refine rd C (k := 2) (by decide) (by decide) d_460 d_461 d_463 d_464 d_465 (lv_at hl1 5 rfl) (lv_at hl1 1 rfl) G.2.2.2.2.1 ?_
  refine rd C (k := 3) (by decide) (by decide) d_466 d_467 d_469 d_470 d_471 (lv_at hl1 5 rfl) (lv_at hl1 1 rfl) G.2.2.2.2.1 ?_
  refine lw_M C okm_fraction (by decide) hc (by decide) (by decide) (Nat.le_of_ble_eq_true rfl) (Nat.le_of_ble_eq_true rfl) rfl rfl (vrs_ci (vrs_ci (vrs_ci (rfl)))) rfl G hm (by omega) (by omega) hl1.1 (crest := []) rfl (by decide) d_472 (Or.inl rfl) (fun v h' h3 as3 tys3 ws3 H3 locs3 hK hsh hFA hout k3 G3 => ?_)
  have hm3 : as3[0]? = some am := by
    obtain ⟨tt, rfl⟩ := k3
    rw [List.getElem?_append_left (List.getElem?_eq_some_iff.mp hm).1]; exact hm
  have ho3 : as3[13]? = some o := by
    obtain ⟨tt, rfl⟩ := k3
    rw [List.getElem?_append_left (List.getElem?_eq_some_iff.mp ho).1]; exact ho
  have hsh : v = none := hsh
  subst hsh
  refine lv_aload_n hx hb d_475 rfl (lv_at hl1 3 rfl) ?_
  refine lw_Th C (hFA _ hK.1) G3 hm3 (by omega) (by omega) hl1.1 (crest := []) (by decide) d_476 (fun as4 tys4 ws4 H4 locs4 k4 G4 => ?_)
  have ho4 : as4[13]? = some o := by
    obtain ⟨tt, rfl⟩ := k4
    rw [List.getElem?_append_left (List.getElem?_eq_some_iff.mp ho3).1]; exact ho3
  refine lv_iload hx hb d_479 (lv_at hl1 0 rfl) ?_
  refine lv_icmp_eq hx hb d_481 (tgt := 486) rfl (fun _ => ?_) (fun z => absurd rfl z)
  refine lv_goto hx hb d_486 (tgt := 1397) rfl ?_
  exact lw_tail C G4.2.2.2.2.1 (by omega) (by omega) (lv_sub hl1 [1, 5] rfl)
set_option maxRecDepth 100000 in
set_option maxHeartbeats 4000000 in
theorem aft_copy {p : Program} {l : Launch} {e : Env} {s : State} {m : MethodId} {below : List Frame} {meth : Method} {c : Code} {H : Heap} {locs : List Loc} {cells slots b : Nat} {xs : Nat → Int32} {D : va_G} {as : List Nat} {tys : List (ClassId × FieldType)} {ws : va_W} {ls : Array Slot} {am a0 o : Nat} (C : LC p l s m b meth c 4 xs) {k : Int32} {V : Int64} (hc : cR 198 4 100 [.ref 0, .int (xs 1), .int (xs 2)] mI (fun _ h' => FA h' k ∧ True)) (G : sg D xcl (AA s) s (mI ++ [outC V]) as tys ws H locs) (hm : as[0]? = some am) (ho : as[13]? = some o) (hl : lv_has ls 7 [(4, .int 0), (3, .ref o), (2, .ref am), (1, .ref a0), (0, .ref b)]) (hc1 : cells ≤ 10000) (hs1 : slots ≤ 100000) : W p l e room_1 s m #[Value.ref b] below meth c H locs cells slots (lw_Z below #[Value.ref b] s) (F0 m 505 ls [.int k]) := by
  obtain ⟨hx, hb, -⟩ := id C
  refine lv_istore hx hb d_505 hl (by decide) rfl (fun ls1 hl1 => ?_)
  refine lv_aload_n hx hb d_507 rfl (lv_at hl1 3 rfl) ?_
  refine rd C (k := 1) (by decide) (by decide) d_508 d_509 d_511 d_512 d_513 (lv_at hl1 5 rfl) (lv_at hl1 1 rfl) G.2.2.2.2.1 ?_
  refine rd C (k := 2) (by decide) (by decide) d_514 d_515 d_517 d_518 d_519 (lv_at hl1 5 rfl) (lv_at hl1 1 rfl) G.2.2.2.2.1 ?_
  refine lw_M C okm_copy (by decide) hc (by decide) (by decide) (Nat.le_of_ble_eq_true rfl) (Nat.le_of_ble_eq_true rfl) rfl rfl (vrs_ci (vrs_ci (rfl))) rfl G hm (by omega) (by omega) hl1.1 (crest := []) rfl (by decide) d_520 (Or.inl rfl) (fun v h' h3 as3 tys3 ws3 H3 locs3 hK hsh hFA hout k3 G3 => ?_)
  have hm3 : as3[0]? = some am := by
    obtain ⟨tt, rfl⟩ := k3
    rw [List.getElem?_append_left (List.getElem?_eq_some_iff.mp hm).1]; exact hm
  have ho3 : as3[13]? = some o := by
    obtain ⟨tt, rfl⟩ := k3
    rw [List.getElem?_append_left (List.getElem?_eq_some_iff.mp ho).1]; exact ho
  have hsh : v = none := hsh
  subst hsh
  refine lv_aload_n hx hb d_523 rfl (lv_at hl1 3 rfl) ?_
  refine lw_Th C (hFA _ hK.1) G3 hm3 (by omega) (by omega) hl1.1 (crest := []) (by decide) d_524 (fun as4 tys4 ws4 H4 locs4 k4 G4 => ?_)
  have ho4 : as4[13]? = some o := by
    obtain ⟨tt, rfl⟩ := k4
    rw [List.getElem?_append_left (List.getElem?_eq_some_iff.mp ho3).1]; exact ho3
  refine lv_iload hx hb d_527 (lv_at hl1 0 rfl) ?_
  refine lv_icmp_eq hx hb d_529 (tgt := 534) rfl (fun _ => ?_) (fun z => absurd rfl z)
  refine lv_goto hx hb d_534 (tgt := 1397) rfl ?_
  exact lw_tail C G4.2.2.2.2.1 (by omega) (by omega) (lv_sub hl1 [1, 5] rfl)
set_option maxRecDepth 100000 in
set_option maxHeartbeats 4000000 in
theorem aft_negate {p : Program} {l : Launch} {e : Env} {s : State} {m : MethodId} {below : List Frame} {meth : Method} {c : Code} {H : Heap} {locs : List Loc} {cells slots b : Nat} {xs : Nat → Int32} {D : va_G} {as : List Nat} {tys : List (ClassId × FieldType)} {ws : va_W} {ls : Array Slot} {am a0 o : Nat} (C : LC p l s m b meth c 4 xs) {k : Int32} {V : Int64} (hc : cR 199 4 100 [.ref 0, .int (xs 1), .int (xs 2)] mI (fun _ h' => FA h' k ∧ True)) (G : sg D xcl (AA s) s (mI ++ [outC V]) as tys ws H locs) (hm : as[0]? = some am) (ho : as[13]? = some o) (hl : lv_has ls 7 [(4, .int 0), (3, .ref o), (2, .ref am), (1, .ref a0), (0, .ref b)]) (hc1 : cells ≤ 10000) (hs1 : slots ≤ 100000) : W p l e room_1 s m #[Value.ref b] below meth c H locs cells slots (lw_Z below #[Value.ref b] s) (F0 m 553 ls [.int k]) := by
  obtain ⟨hx, hb, -⟩ := id C
  refine lv_istore hx hb d_553 hl (by decide) rfl (fun ls1 hl1 => ?_)
  refine lv_aload_n hx hb d_555 rfl (lv_at hl1 3 rfl) ?_
  refine rd C (k := 1) (by decide) (by decide) d_556 d_557 d_559 d_560 d_561 (lv_at hl1 5 rfl) (lv_at hl1 1 rfl) G.2.2.2.2.1 ?_
  refine rd C (k := 2) (by decide) (by decide) d_562 d_563 d_565 d_566 d_567 (lv_at hl1 5 rfl) (lv_at hl1 1 rfl) G.2.2.2.2.1 ?_
  refine lw_M C okm_negate (by decide) hc (by decide) (by decide) (Nat.le_of_ble_eq_true rfl) (Nat.le_of_ble_eq_true rfl) rfl rfl (vrs_ci (vrs_ci (rfl))) rfl G hm (by omega) (by omega) hl1.1 (crest := []) rfl (by decide) d_568 (Or.inl rfl) (fun v h' h3 as3 tys3 ws3 H3 locs3 hK hsh hFA hout k3 G3 => ?_)
  have hm3 : as3[0]? = some am := by
    obtain ⟨tt, rfl⟩ := k3
    rw [List.getElem?_append_left (List.getElem?_eq_some_iff.mp hm).1]; exact hm
  have ho3 : as3[13]? = some o := by
    obtain ⟨tt, rfl⟩ := k3
    rw [List.getElem?_append_left (List.getElem?_eq_some_iff.mp ho).1]; exact ho
  have hsh : v = none := hsh
  subst hsh
  refine lv_aload_n hx hb d_571 rfl (lv_at hl1 3 rfl) ?_
  refine lw_Th C (hFA _ hK.1) G3 hm3 (by omega) (by omega) hl1.1 (crest := []) (by decide) d_572 (fun as4 tys4 ws4 H4 locs4 k4 G4 => ?_)
  have ho4 : as4[13]? = some o := by
    obtain ⟨tt, rfl⟩ := k4
    rw [List.getElem?_append_left (List.getElem?_eq_some_iff.mp ho3).1]; exact ho3
  refine lv_iload hx hb d_575 (lv_at hl1 0 rfl) ?_
  refine lv_icmp_eq hx hb d_577 (tgt := 582) rfl (fun _ => ?_) (fun z => absurd rfl z)
  refine lv_goto hx hb d_582 (tgt := 1397) rfl ?_
  exact lw_tail C G4.2.2.2.2.1 (by omega) (by omega) (lv_sub hl1 [1, 5] rfl)
set_option maxRecDepth 100000 in
set_option maxHeartbeats 4000000 in
theorem aft_invert {p : Program} {l : Launch} {e : Env} {s : State} {m : MethodId} {below : List Frame} {meth : Method} {c : Code} {H : Heap} {locs : List Loc} {cells slots b : Nat} {xs : Nat → Int32} {D : va_G} {as : List Nat} {tys : List (ClassId × FieldType)} {ws : va_W} {ls : Array Slot} {am a0 o : Nat} (C : LC p l s m b meth c 4 xs) {k : Int32} {V : Int64} (hc : cR 200 1 30 [.ref 0, .int (xs 1), .int (xs 2)] mI (fun _ h' => FA h' k ∧ True)) (G : sg D xcl (AA s) s (mI ++ [outC V]) as tys ws H locs) (hm : as[0]? = some am) (ho : as[13]? = some o) (hl : lv_has ls 7 [(4, .int 0), (3, .ref o), (2, .ref am), (1, .ref a0), (0, .ref b)]) (hc1 : cells ≤ 10000) (hs1 : slots ≤ 100000) : W p l e room_1 s m #[Value.ref b] below meth c H locs cells slots (lw_Z below #[Value.ref b] s) (F0 m 601 ls [.int k]) := by
  obtain ⟨hx, hb, -⟩ := id C
  refine lv_istore hx hb d_601 hl (by decide) rfl (fun ls1 hl1 => ?_)
  refine lv_aload_n hx hb d_603 rfl (lv_at hl1 3 rfl) ?_
  refine rd C (k := 1) (by decide) (by decide) d_604 d_605 d_607 d_608 d_609 (lv_at hl1 5 rfl) (lv_at hl1 1 rfl) G.2.2.2.2.1 ?_
  refine rd C (k := 2) (by decide) (by decide) d_610 d_611 d_613 d_614 d_615 (lv_at hl1 5 rfl) (lv_at hl1 1 rfl) G.2.2.2.2.1 ?_
  refine lw_M C okm_invert (by decide) hc (by decide) (by decide) (Nat.le_of_ble_eq_true rfl) (Nat.le_of_ble_eq_true rfl) rfl rfl (vrs_ci (vrs_ci (rfl))) rfl G hm (by omega) (by omega) hl1.1 (crest := []) rfl (by decide) d_616 (Or.inl rfl) (fun v h' h3 as3 tys3 ws3 H3 locs3 hK hsh hFA hout k3 G3 => ?_)
  have hm3 : as3[0]? = some am := by
    obtain ⟨tt, rfl⟩ := k3
    rw [List.getElem?_append_left (List.getElem?_eq_some_iff.mp hm).1]; exact hm
  have ho3 : as3[13]? = some o := by
    obtain ⟨tt, rfl⟩ := k3
    rw [List.getElem?_append_left (List.getElem?_eq_some_iff.mp ho).1]; exact ho
  have hsh : v = none := hsh
  subst hsh
  refine lv_aload_n hx hb d_619 rfl (lv_at hl1 3 rfl) ?_
  refine lw_Th C (hFA _ hK.1) G3 hm3 (by omega) (by omega) hl1.1 (crest := []) (by decide) d_620 (fun as4 tys4 ws4 H4 locs4 k4 G4 => ?_)
  have ho4 : as4[13]? = some o := by
    obtain ⟨tt, rfl⟩ := k4
    rw [List.getElem?_append_left (List.getElem?_eq_some_iff.mp ho3).1]; exact ho3
  refine lv_iload hx hb d_623 (lv_at hl1 0 rfl) ?_
  refine lv_icmp_eq hx hb d_625 (tgt := 630) rfl (fun _ => ?_) (fun z => absurd rfl z)
  refine lv_goto hx hb d_630 (tgt := 1397) rfl ?_
  exact lw_tail C G4.2.2.2.2.1 (by omega) (by omega) (lv_sub hl1 [1, 5] rfl)
set_option maxRecDepth 100000 in
set_option maxHeartbeats 4000000 in
theorem aft_add {p : Program} {l : Launch} {e : Env} {s : State} {m : MethodId} {below : List Frame} {meth : Method} {c : Code} {H : Heap} {locs : List Loc} {cells slots b : Nat} {xs : Nat → Int32} {D : va_G} {as : List Nat} {tys : List (ClassId × FieldType)} {ws : va_W} {ls : Array Slot} {am a0 o : Nat} (C : LC p l s m b meth c 4 xs) {k : Int32} {V : Int64} {Bb : Int32} (hVB : V = if Bb = 0 then 0 else 1) (hc : cR 202 5 130 [.ref 0, .int (xs 1), .int (xs 2), .int (xs 3)] mI (fun v h' => FA h' k ∧ (k = 0 → v = some (.int Bb)))) (G : sg D xcl (AA s) s (mI ++ [outC V]) as tys ws H locs) (hm : as[0]? = some am) (ho : as[13]? = some o) (hl : lv_has ls 7 [(4, .int 0), (3, .ref o), (2, .ref am), (1, .ref a0), (0, .ref b)]) (hc1 : cells ≤ 10000) (hs1 : slots ≤ 100000) : W p l e room_1 s m #[Value.ref b] below meth c H locs cells slots (lw_Z below #[Value.ref b] s) (F0 m 656 ls [.int k]) := by
  obtain ⟨hx, hb, -⟩ := id C
  refine lv_istore hx hb d_656 hl (by decide) rfl (fun ls1 hl1 => ?_)
  refine lv_aload_n hx hb d_658 rfl (lv_at hl1 3 rfl) ?_
  refine rd C (k := 1) (by decide) (by decide) d_659 d_660 d_662 d_663 d_664 (lv_at hl1 5 rfl) (lv_at hl1 1 rfl) G.2.2.2.2.1 ?_
  refine rd C (k := 2) (by decide) (by decide) d_665 d_666 d_668 d_669 d_670 (lv_at hl1 5 rfl) (lv_at hl1 1 rfl) G.2.2.2.2.1 ?_
  refine rd C (k := 3) (by decide) (by decide) d_671 d_672 d_674 d_675 d_676 (lv_at hl1 5 rfl) (lv_at hl1 1 rfl) G.2.2.2.2.1 ?_
  refine lw_M C okm_add (by decide) hc (by decide) (by decide) (Nat.le_of_ble_eq_true rfl) (Nat.le_of_ble_eq_true rfl) rfl rfl (vrs_ci (vrs_ci (vrs_ci (rfl)))) rfl G hm (by omega) (by omega) hl1.1 (crest := []) rfl (by decide) d_677 (Or.inr (Or.inr rfl)) (fun v h' h3 as3 tys3 ws3 H3 locs3 hK hsh hFA hout k3 G3 => ?_)
  have hm3 : as3[0]? = some am := by
    obtain ⟨tt, rfl⟩ := k3
    rw [List.getElem?_append_left (List.getElem?_eq_some_iff.mp hm).1]; exact hm
  have ho3 : as3[13]? = some o := by
    obtain ⟨tt, rfl⟩ := k3
    rw [List.getElem?_append_left (List.getElem?_eq_some_iff.mp ho).1]; exact ho
  obtain ⟨x, rfl⟩ : ∃ x, v = some (.int x) := hsh
  refine lv_istore hx hb d_680 hl1 (by decide) rfl (fun ls2 hl2 => ?_)
  refine lv_aload_n hx hb d_682 rfl (lv_at hl2 4 rfl) ?_
  refine lw_Th C (hFA _ hK.1) G3 hm3 (by omega) (by omega) hl2.1 (crest := []) (by decide) d_683 (fun as4 tys4 ws4 H4 locs4 k4 G4 => ?_)
  have ho4 : as4[13]? = some o := by
    obtain ⟨tt, rfl⟩ := k4
    rw [List.getElem?_append_left (List.getElem?_eq_some_iff.mp ho3).1]; exact ho3
  refine lv_iload hx hb d_686 (lv_at hl2 1 rfl) ?_
  refine lv_icmp_eq hx hb d_688 (tgt := 693) rfl (fun _ => ?_) (fun z => absurd rfl z)
  refine lv_iload hx hb d_693 (lv_at hl2 1 rfl) ?_
  have fin : ∀ {ls : Array Slot}, lv_has ls 7 [(4, .int 0), (0, .ref b)] → W p l e room_1 s m #[Value.ref b] below meth c H4 locs4 cells slots (lw_Z below #[Value.ref b] s) (F0 m 717 ls []) := fun hl9 => lv_goto hx hb d_717 (tgt := 1397) rfl (lw_tail C G4.2.2.2.2.1 (by omega) (by omega) hl9)
  refine lv_if_ne hx hb d_695 (tgt := 717) rfl (fun _ => fin (lv_sub hl2 [2, 6] rfl)) (fun hk0 => ?_)
  have hxb : x = Bb := by
    have z := hK.2 hk0
    cases z
    rfl
  subst hxb
  refine lv_aload_n hx hb d_698 rfl (lv_at hl2 3 rfl) ?_
  refine lv_iconst (v := 0) hx hb d_699 rfl ?_
  refine sg_lald hx hb G4 ho4 (i := 13) (x := [V]) hout (x_in_ok (n := 1) rfl) d_700 ?_
  refine lv_iload hx hb d_701 (lv_at hl2 0 rfl) ?_
  have cmp : ∀ {ls : Array Slot}, lv_has ls 7 [(4, .int 0), (0, .ref b)] → W p l e room_1 s m #[Value.ref b] below meth c H4 locs4 cells slots (lw_Z below #[Value.ref b] s) (F0 m 711 ls [.long V, .long V]) := fun hl9 => W.lcmp hx hb d_711 (lv_if_eq hx hb d_712 (tgt := 717) rfl (fun _ => fin hl9) (fun z => absurd ((lg_cmp_eq _ _).mpr rfl) z))
  refine lv_if_eq hx hb d_703 (tgt := 710) rfl (fun z => ?_) (fun z => ?_)
  · refine lv_lconst (v := V) hx hb d_710 (by rw [hVB, if_pos z]; rfl) ?_
    exact cmp (lv_sub hl2 [2, 6] rfl)
  · refine lv_lconst (v := V) hx hb d_706 (by rw [hVB, if_neg z]; rfl) ?_
    refine lv_goto hx hb d_707 (tgt := 711) rfl ?_
    exact cmp (lv_sub hl2 [2, 6] rfl)
set_option maxRecDepth 100000 in
set_option maxHeartbeats 4000000 in
theorem aft_subtract {p : Program} {l : Launch} {e : Env} {s : State} {m : MethodId} {below : List Frame} {meth : Method} {c : Code} {H : Heap} {locs : List Loc} {cells slots b : Nat} {xs : Nat → Int32} {D : va_G} {as : List Nat} {tys : List (ClassId × FieldType)} {ws : va_W} {ls : Array Slot} {am a0 o : Nat} (C : LC p l s m b meth c 4 xs) {k : Int32} {V : Int64} {Bb : Int32} (hVB : V = if Bb = 0 then 0 else 1) (hc : cR 208 5 130 [.ref 0, .int (xs 1), .int (xs 2), .int (xs 3)] mI (fun v h' => FA h' k ∧ (k = 0 → v = some (.int Bb)))) (G : sg D xcl (AA s) s (mI ++ [outC V]) as tys ws H locs) (hm : as[0]? = some am) (ho : as[13]? = some o) (hl : lv_has ls 7 [(4, .int 0), (3, .ref o), (2, .ref am), (1, .ref a0), (0, .ref b)]) (hc1 : cells ≤ 10000) (hs1 : slots ≤ 100000) : W p l e room_1 s m #[Value.ref b] below meth c H locs cells slots (lw_Z below #[Value.ref b] s) (F0 m 743 ls [.int k]) := by
  obtain ⟨hx, hb, -⟩ := id C
  refine lv_istore hx hb d_743 hl (by decide) rfl (fun ls1 hl1 => ?_)
  refine lv_aload_n hx hb d_745 rfl (lv_at hl1 3 rfl) ?_
  refine rd C (k := 1) (by decide) (by decide) d_746 d_747 d_749 d_750 d_751 (lv_at hl1 5 rfl) (lv_at hl1 1 rfl) G.2.2.2.2.1 ?_
  refine rd C (k := 2) (by decide) (by decide) d_752 d_753 d_755 d_756 d_757 (lv_at hl1 5 rfl) (lv_at hl1 1 rfl) G.2.2.2.2.1 ?_
  refine rd C (k := 3) (by decide) (by decide) d_758 d_759 d_761 d_762 d_763 (lv_at hl1 5 rfl) (lv_at hl1 1 rfl) G.2.2.2.2.1 ?_
  refine lw_M C okm_subtract (by decide) hc (by decide) (by decide) (Nat.le_of_ble_eq_true rfl) (Nat.le_of_ble_eq_true rfl) rfl rfl (vrs_ci (vrs_ci (vrs_ci (rfl)))) rfl G hm (by omega) (by omega) hl1.1 (crest := []) rfl (by decide) d_764 (Or.inr (Or.inr rfl)) (fun v h' h3 as3 tys3 ws3 H3 locs3 hK hsh hFA hout k3 G3 => ?_)
  have hm3 : as3[0]? = some am := by
    obtain ⟨tt, rfl⟩ := k3
    rw [List.getElem?_append_left (List.getElem?_eq_some_iff.mp hm).1]; exact hm
  have ho3 : as3[13]? = some o := by
    obtain ⟨tt, rfl⟩ := k3
    rw [List.getElem?_append_left (List.getElem?_eq_some_iff.mp ho).1]; exact ho
  obtain ⟨x, rfl⟩ : ∃ x, v = some (.int x) := hsh
  refine lv_istore hx hb d_767 hl1 (by decide) rfl (fun ls2 hl2 => ?_)
  refine lv_aload_n hx hb d_769 rfl (lv_at hl2 4 rfl) ?_
  refine lw_Th C (hFA _ hK.1) G3 hm3 (by omega) (by omega) hl2.1 (crest := []) (by decide) d_770 (fun as4 tys4 ws4 H4 locs4 k4 G4 => ?_)
  have ho4 : as4[13]? = some o := by
    obtain ⟨tt, rfl⟩ := k4
    rw [List.getElem?_append_left (List.getElem?_eq_some_iff.mp ho3).1]; exact ho3
  refine lv_iload hx hb d_773 (lv_at hl2 1 rfl) ?_
  refine lv_icmp_eq hx hb d_775 (tgt := 780) rfl (fun _ => ?_) (fun z => absurd rfl z)
  refine lv_iload hx hb d_780 (lv_at hl2 1 rfl) ?_
  have fin : ∀ {ls : Array Slot}, lv_has ls 7 [(4, .int 0), (0, .ref b)] → W p l e room_1 s m #[Value.ref b] below meth c H4 locs4 cells slots (lw_Z below #[Value.ref b] s) (F0 m 804 ls []) := fun hl9 => lv_goto hx hb d_804 (tgt := 1397) rfl (lw_tail C G4.2.2.2.2.1 (by omega) (by omega) hl9)
  refine lv_if_ne hx hb d_782 (tgt := 804) rfl (fun _ => fin (lv_sub hl2 [2, 6] rfl)) (fun hk0 => ?_)
  have hxb : x = Bb := by
    have z := hK.2 hk0
    cases z
    rfl
  subst hxb
  refine lv_aload_n hx hb d_785 rfl (lv_at hl2 3 rfl) ?_
  refine lv_iconst (v := 0) hx hb d_786 rfl ?_
  refine sg_lald hx hb G4 ho4 (i := 13) (x := [V]) hout (x_in_ok (n := 1) rfl) d_787 ?_
  refine lv_iload hx hb d_788 (lv_at hl2 0 rfl) ?_
  have cmp : ∀ {ls : Array Slot}, lv_has ls 7 [(4, .int 0), (0, .ref b)] → W p l e room_1 s m #[Value.ref b] below meth c H4 locs4 cells slots (lw_Z below #[Value.ref b] s) (F0 m 798 ls [.long V, .long V]) := fun hl9 => W.lcmp hx hb d_798 (lv_if_eq hx hb d_799 (tgt := 804) rfl (fun _ => fin hl9) (fun z => absurd ((lg_cmp_eq _ _).mpr rfl) z))
  refine lv_if_eq hx hb d_790 (tgt := 797) rfl (fun z => ?_) (fun z => ?_)
  · refine lv_lconst (v := V) hx hb d_797 (by rw [hVB, if_pos z]; rfl) ?_
    exact cmp (lv_sub hl2 [2, 6] rfl)
  · refine lv_lconst (v := V) hx hb d_793 (by rw [hVB, if_neg z]; rfl) ?_
    refine lv_goto hx hb d_794 (tgt := 798) rfl ?_
    exact cmp (lv_sub hl2 [2, 6] rfl)
set_option maxRecDepth 100000 in
set_option maxHeartbeats 4000000 in
theorem aft_multiply {p : Program} {l : Launch} {e : Env} {s : State} {m : MethodId} {below : List Frame} {meth : Method} {c : Code} {H : Heap} {locs : List Loc} {cells slots b : Nat} {xs : Nat → Int32} {D : va_G} {as : List Nat} {tys : List (ClassId × FieldType)} {ws : va_W} {ls : Array Slot} {am a0 o : Nat} (C : LC p l s m b meth c 4 xs) {k : Int32} {V : Int64} {Bb : Int32} (hVB : V = if Bb = 0 then 0 else 1) (hc : cR 209 4 110 [.ref 0, .int (xs 1), .int (xs 2), .int (xs 3)] mI (fun v h' => FA h' k ∧ (k = 0 → v = some (.int Bb)))) (G : sg D xcl (AA s) s (mI ++ [outC V]) as tys ws H locs) (hm : as[0]? = some am) (ho : as[13]? = some o) (hl : lv_has ls 7 [(4, .int 0), (3, .ref o), (2, .ref am), (1, .ref a0), (0, .ref b)]) (hc1 : cells ≤ 10000) (hs1 : slots ≤ 100000) : W p l e room_1 s m #[Value.ref b] below meth c H locs cells slots (lw_Z below #[Value.ref b] s) (F0 m 830 ls [.int k]) := by
  obtain ⟨hx, hb, -⟩ := id C
  refine lv_istore hx hb d_830 hl (by decide) rfl (fun ls1 hl1 => ?_)
  refine lv_aload_n hx hb d_832 rfl (lv_at hl1 3 rfl) ?_
  refine rd C (k := 1) (by decide) (by decide) d_833 d_834 d_836 d_837 d_838 (lv_at hl1 5 rfl) (lv_at hl1 1 rfl) G.2.2.2.2.1 ?_
  refine rd C (k := 2) (by decide) (by decide) d_839 d_840 d_842 d_843 d_844 (lv_at hl1 5 rfl) (lv_at hl1 1 rfl) G.2.2.2.2.1 ?_
  refine rd C (k := 3) (by decide) (by decide) d_845 d_846 d_848 d_849 d_850 (lv_at hl1 5 rfl) (lv_at hl1 1 rfl) G.2.2.2.2.1 ?_
  refine lw_M C okm_multiply (by decide) hc (by decide) (by decide) (Nat.le_of_ble_eq_true rfl) (Nat.le_of_ble_eq_true rfl) rfl rfl (vrs_ci (vrs_ci (vrs_ci (rfl)))) rfl G hm (by omega) (by omega) hl1.1 (crest := []) rfl (by decide) d_851 (Or.inr (Or.inr rfl)) (fun v h' h3 as3 tys3 ws3 H3 locs3 hK hsh hFA hout k3 G3 => ?_)
  have hm3 : as3[0]? = some am := by
    obtain ⟨tt, rfl⟩ := k3
    rw [List.getElem?_append_left (List.getElem?_eq_some_iff.mp hm).1]; exact hm
  have ho3 : as3[13]? = some o := by
    obtain ⟨tt, rfl⟩ := k3
    rw [List.getElem?_append_left (List.getElem?_eq_some_iff.mp ho).1]; exact ho
  obtain ⟨x, rfl⟩ : ∃ x, v = some (.int x) := hsh
  refine lv_istore hx hb d_854 hl1 (by decide) rfl (fun ls2 hl2 => ?_)
  refine lv_aload_n hx hb d_856 rfl (lv_at hl2 4 rfl) ?_
  refine lw_Th C (hFA _ hK.1) G3 hm3 (by omega) (by omega) hl2.1 (crest := []) (by decide) d_857 (fun as4 tys4 ws4 H4 locs4 k4 G4 => ?_)
  have ho4 : as4[13]? = some o := by
    obtain ⟨tt, rfl⟩ := k4
    rw [List.getElem?_append_left (List.getElem?_eq_some_iff.mp ho3).1]; exact ho3
  refine lv_iload hx hb d_860 (lv_at hl2 1 rfl) ?_
  refine lv_icmp_eq hx hb d_862 (tgt := 867) rfl (fun _ => ?_) (fun z => absurd rfl z)
  refine lv_iload hx hb d_867 (lv_at hl2 1 rfl) ?_
  have fin : ∀ {ls : Array Slot}, lv_has ls 7 [(4, .int 0), (0, .ref b)] → W p l e room_1 s m #[Value.ref b] below meth c H4 locs4 cells slots (lw_Z below #[Value.ref b] s) (F0 m 891 ls []) := fun hl9 => lv_goto hx hb d_891 (tgt := 1397) rfl (lw_tail C G4.2.2.2.2.1 (by omega) (by omega) hl9)
  refine lv_if_ne hx hb d_869 (tgt := 891) rfl (fun _ => fin (lv_sub hl2 [2, 6] rfl)) (fun hk0 => ?_)
  have hxb : x = Bb := by
    have z := hK.2 hk0
    cases z
    rfl
  subst hxb
  refine lv_aload_n hx hb d_872 rfl (lv_at hl2 3 rfl) ?_
  refine lv_iconst (v := 0) hx hb d_873 rfl ?_
  refine sg_lald hx hb G4 ho4 (i := 13) (x := [V]) hout (x_in_ok (n := 1) rfl) d_874 ?_
  refine lv_iload hx hb d_875 (lv_at hl2 0 rfl) ?_
  have cmp : ∀ {ls : Array Slot}, lv_has ls 7 [(4, .int 0), (0, .ref b)] → W p l e room_1 s m #[Value.ref b] below meth c H4 locs4 cells slots (lw_Z below #[Value.ref b] s) (F0 m 885 ls [.long V, .long V]) := fun hl9 => W.lcmp hx hb d_885 (lv_if_eq hx hb d_886 (tgt := 891) rfl (fun _ => fin hl9) (fun z => absurd ((lg_cmp_eq _ _).mpr rfl) z))
  refine lv_if_eq hx hb d_877 (tgt := 884) rfl (fun z => ?_) (fun z => ?_)
  · refine lv_lconst (v := V) hx hb d_884 (by rw [hVB, if_pos z]; rfl) ?_
    exact cmp (lv_sub hl2 [2, 6] rfl)
  · refine lv_lconst (v := V) hx hb d_880 (by rw [hVB, if_neg z]; rfl) ?_
    refine lv_goto hx hb d_881 (tgt := 885) rfl ?_
    exact cmp (lv_sub hl2 [2, 6] rfl)
set_option maxRecDepth 100000 in
set_option maxHeartbeats 4000000 in
theorem aft_divide {p : Program} {l : Launch} {e : Env} {s : State} {m : MethodId} {below : List Frame} {meth : Method} {c : Code} {H : Heap} {locs : List Loc} {cells slots b : Nat} {xs : Nat → Int32} {D : va_G} {as : List Nat} {tys : List (ClassId × FieldType)} {ws : va_W} {ls : Array Slot} {am a0 o : Nat} (C : LC p l s m b meth c 4 xs) {k : Int32} {V : Int64} {Bb : Int32} (hVB : V = if Bb = 0 then 0 else 1) (hc : cR 211 2 50 [.ref 0, .int (xs 1), .int (xs 2), .int (xs 3)] mI (fun v h' => FA h' k ∧ (k = 0 → v = some (.int Bb)))) (G : sg D xcl (AA s) s (mI ++ [outC V]) as tys ws H locs) (hm : as[0]? = some am) (ho : as[13]? = some o) (hl : lv_has ls 7 [(4, .int 0), (3, .ref o), (2, .ref am), (1, .ref a0), (0, .ref b)]) (hc1 : cells ≤ 10000) (hs1 : slots ≤ 100000) : W p l e room_1 s m #[Value.ref b] below meth c H locs cells slots (lw_Z below #[Value.ref b] s) (F0 m 917 ls [.int k]) := by
  obtain ⟨hx, hb, -⟩ := id C
  refine lv_istore hx hb d_917 hl (by decide) rfl (fun ls1 hl1 => ?_)
  refine lv_aload_n hx hb d_919 rfl (lv_at hl1 3 rfl) ?_
  refine rd C (k := 1) (by decide) (by decide) d_920 d_921 d_923 d_924 d_925 (lv_at hl1 5 rfl) (lv_at hl1 1 rfl) G.2.2.2.2.1 ?_
  refine rd C (k := 2) (by decide) (by decide) d_926 d_927 d_929 d_930 d_931 (lv_at hl1 5 rfl) (lv_at hl1 1 rfl) G.2.2.2.2.1 ?_
  refine rd C (k := 3) (by decide) (by decide) d_932 d_933 d_935 d_936 d_937 (lv_at hl1 5 rfl) (lv_at hl1 1 rfl) G.2.2.2.2.1 ?_
  refine lw_M C okm_divide (by decide) hc (by decide) (by decide) (Nat.le_of_ble_eq_true rfl) (Nat.le_of_ble_eq_true rfl) rfl rfl (vrs_ci (vrs_ci (vrs_ci (rfl)))) rfl G hm (by omega) (by omega) hl1.1 (crest := []) rfl (by decide) d_938 (Or.inr (Or.inr rfl)) (fun v h' h3 as3 tys3 ws3 H3 locs3 hK hsh hFA hout k3 G3 => ?_)
  have hm3 : as3[0]? = some am := by
    obtain ⟨tt, rfl⟩ := k3
    rw [List.getElem?_append_left (List.getElem?_eq_some_iff.mp hm).1]; exact hm
  have ho3 : as3[13]? = some o := by
    obtain ⟨tt, rfl⟩ := k3
    rw [List.getElem?_append_left (List.getElem?_eq_some_iff.mp ho).1]; exact ho
  obtain ⟨x, rfl⟩ : ∃ x, v = some (.int x) := hsh
  refine lv_istore hx hb d_941 hl1 (by decide) rfl (fun ls2 hl2 => ?_)
  refine lv_aload_n hx hb d_943 rfl (lv_at hl2 4 rfl) ?_
  refine lw_Th C (hFA _ hK.1) G3 hm3 (by omega) (by omega) hl2.1 (crest := []) (by decide) d_944 (fun as4 tys4 ws4 H4 locs4 k4 G4 => ?_)
  have ho4 : as4[13]? = some o := by
    obtain ⟨tt, rfl⟩ := k4
    rw [List.getElem?_append_left (List.getElem?_eq_some_iff.mp ho3).1]; exact ho3
  refine lv_iload hx hb d_947 (lv_at hl2 1 rfl) ?_
  refine lv_icmp_eq hx hb d_949 (tgt := 954) rfl (fun _ => ?_) (fun z => absurd rfl z)
  refine lv_iload hx hb d_954 (lv_at hl2 1 rfl) ?_
  have fin : ∀ {ls : Array Slot}, lv_has ls 7 [(4, .int 0), (0, .ref b)] → W p l e room_1 s m #[Value.ref b] below meth c H4 locs4 cells slots (lw_Z below #[Value.ref b] s) (F0 m 978 ls []) := fun hl9 => lv_goto hx hb d_978 (tgt := 1397) rfl (lw_tail C G4.2.2.2.2.1 (by omega) (by omega) hl9)
  refine lv_if_ne hx hb d_956 (tgt := 978) rfl (fun _ => fin (lv_sub hl2 [2, 6] rfl)) (fun hk0 => ?_)
  have hxb : x = Bb := by
    have z := hK.2 hk0
    cases z
    rfl
  subst hxb
  refine lv_aload_n hx hb d_959 rfl (lv_at hl2 3 rfl) ?_
  refine lv_iconst (v := 0) hx hb d_960 rfl ?_
  refine sg_lald hx hb G4 ho4 (i := 13) (x := [V]) hout (x_in_ok (n := 1) rfl) d_961 ?_
  refine lv_iload hx hb d_962 (lv_at hl2 0 rfl) ?_
  have cmp : ∀ {ls : Array Slot}, lv_has ls 7 [(4, .int 0), (0, .ref b)] → W p l e room_1 s m #[Value.ref b] below meth c H4 locs4 cells slots (lw_Z below #[Value.ref b] s) (F0 m 972 ls [.long V, .long V]) := fun hl9 => W.lcmp hx hb d_972 (lv_if_eq hx hb d_973 (tgt := 978) rfl (fun _ => fin hl9) (fun z => absurd ((lg_cmp_eq _ _).mpr rfl) z))
  refine lv_if_eq hx hb d_964 (tgt := 971) rfl (fun z => ?_) (fun z => ?_)
  · refine lv_lconst (v := V) hx hb d_971 (by rw [hVB, if_pos z]; rfl) ?_
    exact cmp (lv_sub hl2 [2, 6] rfl)
  · refine lv_lconst (v := V) hx hb d_967 (by rw [hVB, if_neg z]; rfl) ?_
    refine lv_goto hx hb d_968 (tgt := 972) rfl ?_
    exact cmp (lv_sub hl2 [2, 6] rfl)
set_option maxRecDepth 100000 in
set_option maxHeartbeats 4000000 in
theorem aft_root {p : Program} {l : Launch} {e : Env} {s : State} {m : MethodId} {below : List Frame} {meth : Method} {c : Code} {H : Heap} {locs : List Loc} {cells slots b : Nat} {xs : Nat → Int32} {D : va_G} {as : List Nat} {tys : List (ClassId × FieldType)} {ws : va_W} {ls : Array Slot} {am a0 o : Nat} (C : LC p l s m b meth c 4 xs) {k : Int32} {V : Int64} {Bb : Int32} (hVB : V = if Bb = 0 then 0 else 1) (hc : cR 212 4 100 [.ref 0, .int (xs 1), .int (xs 2), .int (xs 3)] mI (fun v h' => FA h' k ∧ (k = 0 → v = some (.int Bb)))) (G : sg D xcl (AA s) s (mI ++ [outC V]) as tys ws H locs) (hm : as[0]? = some am) (ho : as[13]? = some o) (hl : lv_has ls 7 [(4, .int 0), (3, .ref o), (2, .ref am), (1, .ref a0), (0, .ref b)]) (hc1 : cells ≤ 10000) (hs1 : slots ≤ 100000) : W p l e room_1 s m #[Value.ref b] below meth c H locs cells slots (lw_Z below #[Value.ref b] s) (F0 m 1004 ls [.int k]) := by
  obtain ⟨hx, hb, -⟩ := id C
  refine lv_istore hx hb d_1004 hl (by decide) rfl (fun ls1 hl1 => ?_)
  refine lv_aload_n hx hb d_1006 rfl (lv_at hl1 3 rfl) ?_
  refine rd C (k := 1) (by decide) (by decide) d_1007 d_1008 d_1010 d_1011 d_1012 (lv_at hl1 5 rfl) (lv_at hl1 1 rfl) G.2.2.2.2.1 ?_
  refine rd C (k := 2) (by decide) (by decide) d_1013 d_1014 d_1016 d_1017 d_1018 (lv_at hl1 5 rfl) (lv_at hl1 1 rfl) G.2.2.2.2.1 ?_
  refine rd C (k := 3) (by decide) (by decide) d_1019 d_1020 d_1022 d_1023 d_1024 (lv_at hl1 5 rfl) (lv_at hl1 1 rfl) G.2.2.2.2.1 ?_
  refine lw_M C okm_root (by decide) hc (by decide) (by decide) (Nat.le_of_ble_eq_true rfl) (Nat.le_of_ble_eq_true rfl) rfl rfl (vrs_ci (vrs_ci (vrs_ci (rfl)))) rfl G hm (by omega) (by omega) hl1.1 (crest := []) rfl (by decide) d_1025 (Or.inr (Or.inr rfl)) (fun v h' h3 as3 tys3 ws3 H3 locs3 hK hsh hFA hout k3 G3 => ?_)
  have hm3 : as3[0]? = some am := by
    obtain ⟨tt, rfl⟩ := k3
    rw [List.getElem?_append_left (List.getElem?_eq_some_iff.mp hm).1]; exact hm
  have ho3 : as3[13]? = some o := by
    obtain ⟨tt, rfl⟩ := k3
    rw [List.getElem?_append_left (List.getElem?_eq_some_iff.mp ho).1]; exact ho
  obtain ⟨x, rfl⟩ : ∃ x, v = some (.int x) := hsh
  refine lv_istore hx hb d_1028 hl1 (by decide) rfl (fun ls2 hl2 => ?_)
  refine lv_aload_n hx hb d_1030 rfl (lv_at hl2 4 rfl) ?_
  refine lw_Th C (hFA _ hK.1) G3 hm3 (by omega) (by omega) hl2.1 (crest := []) (by decide) d_1031 (fun as4 tys4 ws4 H4 locs4 k4 G4 => ?_)
  have ho4 : as4[13]? = some o := by
    obtain ⟨tt, rfl⟩ := k4
    rw [List.getElem?_append_left (List.getElem?_eq_some_iff.mp ho3).1]; exact ho3
  refine lv_iload hx hb d_1034 (lv_at hl2 1 rfl) ?_
  refine lv_icmp_eq hx hb d_1036 (tgt := 1041) rfl (fun _ => ?_) (fun z => absurd rfl z)
  refine lv_iload hx hb d_1041 (lv_at hl2 1 rfl) ?_
  have fin : ∀ {ls : Array Slot}, lv_has ls 7 [(4, .int 0), (0, .ref b)] → W p l e room_1 s m #[Value.ref b] below meth c H4 locs4 cells slots (lw_Z below #[Value.ref b] s) (F0 m 1065 ls []) := fun hl9 => lv_goto hx hb d_1065 (tgt := 1397) rfl (lw_tail C G4.2.2.2.2.1 (by omega) (by omega) hl9)
  refine lv_if_ne hx hb d_1043 (tgt := 1065) rfl (fun _ => fin (lv_sub hl2 [2, 6] rfl)) (fun hk0 => ?_)
  have hxb : x = Bb := by
    have z := hK.2 hk0
    cases z
    rfl
  subst hxb
  refine lv_aload_n hx hb d_1046 rfl (lv_at hl2 3 rfl) ?_
  refine lv_iconst (v := 0) hx hb d_1047 rfl ?_
  refine sg_lald hx hb G4 ho4 (i := 13) (x := [V]) hout (x_in_ok (n := 1) rfl) d_1048 ?_
  refine lv_iload hx hb d_1049 (lv_at hl2 0 rfl) ?_
  have cmp : ∀ {ls : Array Slot}, lv_has ls 7 [(4, .int 0), (0, .ref b)] → W p l e room_1 s m #[Value.ref b] below meth c H4 locs4 cells slots (lw_Z below #[Value.ref b] s) (F0 m 1059 ls [.long V, .long V]) := fun hl9 => W.lcmp hx hb d_1059 (lv_if_eq hx hb d_1060 (tgt := 1065) rfl (fun _ => fin hl9) (fun z => absurd ((lg_cmp_eq _ _).mpr rfl) z))
  refine lv_if_eq hx hb d_1051 (tgt := 1058) rfl (fun z => ?_) (fun z => ?_)
  · refine lv_lconst (v := V) hx hb d_1058 (by rw [hVB, if_pos z]; rfl) ?_
    exact cmp (lv_sub hl2 [2, 6] rfl)
  · refine lv_lconst (v := V) hx hb d_1054 (by rw [hVB, if_neg z]; rfl) ?_
    refine lv_goto hx hb d_1055 (tgt := 1059) rfl ?_
    exact cmp (lv_sub hl2 [2, 6] rfl)
set_option maxRecDepth 100000 in
set_option maxHeartbeats 4000000 in
theorem aft_compare {p : Program} {l : Launch} {e : Env} {s : State} {m : MethodId} {below : List Frame} {meth : Method} {c : Code} {H : Heap} {locs : List Loc} {cells slots b : Nat} {xs : Nat → Int32} {D : va_G} {as : List Nat} {tys : List (ClassId × FieldType)} {ws : va_W} {ls : Array Slot} {am a0 o : Nat} (C : LC p l s m b meth c 4 xs) {k : Int32} {V : Int64} {Bb : Int32} (hVB : V = Bb.toInt64) (hc : cR 214 4 100 [.ref 0, .int (xs 1), .int (xs 2)] mI (fun v h' => FA h' k ∧ (k = 0 → v = some (.int Bb)))) (G : sg D xcl (AA s) s (mI ++ [outC V]) as tys ws H locs) (hm : as[0]? = some am) (ho : as[13]? = some o) (hl : lv_has ls 7 [(4, .int 0), (3, .ref o), (2, .ref am), (1, .ref a0), (0, .ref b)]) (hc1 : cells ≤ 10000) (hs1 : slots ≤ 100000) : W p l e room_1 s m #[Value.ref b] below meth c H locs cells slots (lw_Z below #[Value.ref b] s) (F0 m 1085 ls [.int k]) := by
  obtain ⟨hx, hb, -⟩ := id C
  refine lv_istore hx hb d_1085 hl (by decide) rfl (fun ls1 hl1 => ?_)
  refine lv_aload_n hx hb d_1087 rfl (lv_at hl1 3 rfl) ?_
  refine rd C (k := 1) (by decide) (by decide) d_1088 d_1089 d_1091 d_1092 d_1093 (lv_at hl1 5 rfl) (lv_at hl1 1 rfl) G.2.2.2.2.1 ?_
  refine rd C (k := 2) (by decide) (by decide) d_1094 d_1095 d_1097 d_1098 d_1099 (lv_at hl1 5 rfl) (lv_at hl1 1 rfl) G.2.2.2.2.1 ?_
  refine lw_M C okm_compare (by decide) hc (by decide) (by decide) (Nat.le_of_ble_eq_true rfl) (Nat.le_of_ble_eq_true rfl) rfl rfl (vrs_ci (vrs_ci (rfl))) rfl G hm (by omega) (by omega) hl1.1 (crest := []) rfl (by decide) d_1100 (Or.inr (Or.inl rfl)) (fun v h' h3 as3 tys3 ws3 H3 locs3 hK hsh hFA hout k3 G3 => ?_)
  have hm3 : as3[0]? = some am := by
    obtain ⟨tt, rfl⟩ := k3
    rw [List.getElem?_append_left (List.getElem?_eq_some_iff.mp hm).1]; exact hm
  have ho3 : as3[13]? = some o := by
    obtain ⟨tt, rfl⟩ := k3
    rw [List.getElem?_append_left (List.getElem?_eq_some_iff.mp ho).1]; exact ho
  obtain ⟨x, rfl⟩ : ∃ x, v = some (.int x) := hsh
  refine lv_istore hx hb d_1103 hl1 (by decide) rfl (fun ls2 hl2 => ?_)
  refine lv_aload_n hx hb d_1105 rfl (lv_at hl2 4 rfl) ?_
  refine lw_Th C (hFA _ hK.1) G3 hm3 (by omega) (by omega) hl2.1 (crest := []) (by decide) d_1106 (fun as4 tys4 ws4 H4 locs4 k4 G4 => ?_)
  have ho4 : as4[13]? = some o := by
    obtain ⟨tt, rfl⟩ := k4
    rw [List.getElem?_append_left (List.getElem?_eq_some_iff.mp ho3).1]; exact ho3
  refine lv_iload hx hb d_1109 (lv_at hl2 1 rfl) ?_
  refine lv_icmp_eq hx hb d_1111 (tgt := 1116) rfl (fun _ => ?_) (fun z => absurd rfl z)
  refine lv_iload hx hb d_1116 (lv_at hl2 1 rfl) ?_
  have fin : ∀ {ls : Array Slot}, lv_has ls 7 [(4, .int 0), (0, .ref b)] → W p l e room_1 s m #[Value.ref b] below meth c H4 locs4 cells slots (lw_Z below #[Value.ref b] s) (F0 m 1133 ls []) := fun hl9 => lv_goto hx hb d_1133 (tgt := 1397) rfl (lw_tail C G4.2.2.2.2.1 (by omega) (by omega) hl9)
  refine lv_if_ne hx hb d_1118 (tgt := 1133) rfl (fun _ => fin (lv_sub hl2 [2, 6] rfl)) (fun hk0 => ?_)
  have hxb : x = Bb := by
    have z := hK.2 hk0
    cases z
    rfl
  subst hxb
  refine lv_aload_n hx hb d_1121 rfl (lv_at hl2 3 rfl) ?_
  refine lv_iconst (v := 0) hx hb d_1122 rfl ?_
  refine sg_lald hx hb G4 ho4 (i := 13) (x := [V]) hout (x_in_ok (n := 1) rfl) d_1123 ?_
  refine lv_iload hx hb d_1124 (lv_at hl2 0 rfl) ?_
  refine lv_i2l (v := V) hx hb d_1126 hVB.symm ?_
  refine W.lcmp hx hb d_1127 ?_
  exact lv_if_eq hx hb d_1128 (tgt := 1133) rfl (fun _ => fin (lv_sub hl2 [2, 6] rfl)) (fun z => absurd ((lg_cmp_eq _ _).mpr rfl) z)
set_option maxRecDepth 100000 in
set_option maxHeartbeats 4000000 in
theorem aft_sign {p : Program} {l : Launch} {e : Env} {s : State} {m : MethodId} {below : List Frame} {meth : Method} {c : Code} {H : Heap} {locs : List Loc} {cells slots b : Nat} {xs : Nat → Int32} {D : va_G} {as : List Nat} {tys : List (ClassId × FieldType)} {ws : va_W} {ls : Array Slot} {am a0 o : Nat} (C : LC p l s m b meth c 4 xs) {k : Int32} {V : Int64} {Bb : Int32} (hVB : V = Bb.toInt64) (hc : cR 215 1 25 [.ref 0, .int (xs 1)] mI (fun v h' => FA h' k ∧ (k = 0 → v = some (.int Bb)))) (G : sg D xcl (AA s) s (mI ++ [outC V]) as tys ws H locs) (hm : as[0]? = some am) (ho : as[13]? = some o) (hl : lv_has ls 7 [(4, .int 0), (3, .ref o), (2, .ref am), (1, .ref a0), (0, .ref b)]) (hc1 : cells ≤ 10000) (hs1 : slots ≤ 100000) : W p l e room_1 s m #[Value.ref b] below meth c H locs cells slots (lw_Z below #[Value.ref b] s) (F0 m 1147 ls [.int k]) := by
  obtain ⟨hx, hb, -⟩ := id C
  refine lv_istore hx hb d_1147 hl (by decide) rfl (fun ls1 hl1 => ?_)
  refine lv_aload_n hx hb d_1149 rfl (lv_at hl1 3 rfl) ?_
  refine rd C (k := 1) (by decide) (by decide) d_1150 d_1151 d_1153 d_1154 d_1155 (lv_at hl1 5 rfl) (lv_at hl1 1 rfl) G.2.2.2.2.1 ?_
  refine lw_M C okm_sign (by decide) hc (by decide) (by decide) (Nat.le_of_ble_eq_true rfl) (Nat.le_of_ble_eq_true rfl) rfl rfl (vrs_ci (rfl)) rfl G hm (by omega) (by omega) hl1.1 (crest := []) rfl (by decide) d_1156 (Or.inr (Or.inl rfl)) (fun v h' h3 as3 tys3 ws3 H3 locs3 hK hsh hFA hout k3 G3 => ?_)
  have hm3 : as3[0]? = some am := by
    obtain ⟨tt, rfl⟩ := k3
    rw [List.getElem?_append_left (List.getElem?_eq_some_iff.mp hm).1]; exact hm
  have ho3 : as3[13]? = some o := by
    obtain ⟨tt, rfl⟩ := k3
    rw [List.getElem?_append_left (List.getElem?_eq_some_iff.mp ho).1]; exact ho
  obtain ⟨x, rfl⟩ : ∃ x, v = some (.int x) := hsh
  refine lv_istore hx hb d_1159 hl1 (by decide) rfl (fun ls2 hl2 => ?_)
  refine lv_aload_n hx hb d_1161 rfl (lv_at hl2 4 rfl) ?_
  refine lw_Th C (hFA _ hK.1) G3 hm3 (by omega) (by omega) hl2.1 (crest := []) (by decide) d_1162 (fun as4 tys4 ws4 H4 locs4 k4 G4 => ?_)
  have ho4 : as4[13]? = some o := by
    obtain ⟨tt, rfl⟩ := k4
    rw [List.getElem?_append_left (List.getElem?_eq_some_iff.mp ho3).1]; exact ho3
  refine lv_iload hx hb d_1165 (lv_at hl2 1 rfl) ?_
  refine lv_icmp_eq hx hb d_1167 (tgt := 1172) rfl (fun _ => ?_) (fun z => absurd rfl z)
  refine lv_iload hx hb d_1172 (lv_at hl2 1 rfl) ?_
  have fin : ∀ {ls : Array Slot}, lv_has ls 7 [(4, .int 0), (0, .ref b)] → W p l e room_1 s m #[Value.ref b] below meth c H4 locs4 cells slots (lw_Z below #[Value.ref b] s) (F0 m 1189 ls []) := fun hl9 => lv_goto hx hb d_1189 (tgt := 1397) rfl (lw_tail C G4.2.2.2.2.1 (by omega) (by omega) hl9)
  refine lv_if_ne hx hb d_1174 (tgt := 1189) rfl (fun _ => fin (lv_sub hl2 [2, 6] rfl)) (fun hk0 => ?_)
  have hxb : x = Bb := by
    have z := hK.2 hk0
    cases z
    rfl
  subst hxb
  refine lv_aload_n hx hb d_1177 rfl (lv_at hl2 3 rfl) ?_
  refine lv_iconst (v := 0) hx hb d_1178 rfl ?_
  refine sg_lald hx hb G4 ho4 (i := 13) (x := [V]) hout (x_in_ok (n := 1) rfl) d_1179 ?_
  refine lv_iload hx hb d_1180 (lv_at hl2 0 rfl) ?_
  refine lv_i2l (v := V) hx hb d_1182 hVB.symm ?_
  refine W.lcmp hx hb d_1183 ?_
  exact lv_if_eq hx hb d_1184 (tgt := 1189) rfl (fun _ => fin (lv_sub hl2 [2, 6] rfl)) (fun z => absurd ((lg_cmp_eq _ _).mpr rfl) z)
set_option maxRecDepth 100000 in
set_option maxHeartbeats 4000000 in
theorem aft_print {p : Program} {l : Launch} {e : Env} {s : State} {m : MethodId} {below : List Frame} {meth : Method} {c : Code} {H : Heap} {locs : List Loc} {cells slots b : Nat} {xs : Nat → Int32} {D : va_G} {as : List Nat} {tys : List (ClassId × FieldType)} {ws : va_W} {ls : Array Slot} {am a0 o : Nat} (C : LC p l s m b meth c 4 xs) {k : Int32} {V : Int64} {Bb : Int32} (hVB : V = Bb.toInt64) (hc : cR 216 5 120 [.ref 0, .int (xs 1), .int (xs 2)] mI (fun v h' => FA h' k ∧ (k = 0 → v = some (.int Bb)))) (G : sg D xcl (AA s) s (mI ++ [outC V]) as tys ws H locs) (hm : as[0]? = some am) (ho : as[13]? = some o) (hl : lv_has ls 7 [(4, .int 0), (3, .ref o), (2, .ref am), (1, .ref a0), (0, .ref b)]) (hc1 : cells ≤ 10000) (hs1 : slots ≤ 100000) : W p l e room_1 s m #[Value.ref b] below meth c H locs cells slots (lw_Z below #[Value.ref b] s) (F0 m 1209 ls [.int k]) := by
  obtain ⟨hx, hb, -⟩ := id C
  refine lv_istore hx hb d_1209 hl (by decide) rfl (fun ls1 hl1 => ?_)
  refine lv_aload_n hx hb d_1211 rfl (lv_at hl1 3 rfl) ?_
  refine rd C (k := 1) (by decide) (by decide) d_1212 d_1213 d_1215 d_1216 d_1217 (lv_at hl1 5 rfl) (lv_at hl1 1 rfl) G.2.2.2.2.1 ?_
  refine rd C (k := 2) (by decide) (by decide) d_1218 d_1219 d_1221 d_1222 d_1223 (lv_at hl1 5 rfl) (lv_at hl1 1 rfl) G.2.2.2.2.1 ?_
  refine lw_M C okm_print (by decide) hc (by decide) (by decide) (Nat.le_of_ble_eq_true rfl) (Nat.le_of_ble_eq_true rfl) rfl rfl (vrs_ci (vrs_ci (rfl))) rfl G hm (by omega) (by omega) hl1.1 (crest := []) rfl (by decide) d_1224 (Or.inr (Or.inl rfl)) (fun v h' h3 as3 tys3 ws3 H3 locs3 hK hsh hFA hout k3 G3 => ?_)
  have hm3 : as3[0]? = some am := by
    obtain ⟨tt, rfl⟩ := k3
    rw [List.getElem?_append_left (List.getElem?_eq_some_iff.mp hm).1]; exact hm
  have ho3 : as3[13]? = some o := by
    obtain ⟨tt, rfl⟩ := k3
    rw [List.getElem?_append_left (List.getElem?_eq_some_iff.mp ho).1]; exact ho
  obtain ⟨x, rfl⟩ : ∃ x, v = some (.int x) := hsh
  refine lv_istore hx hb d_1227 hl1 (by decide) rfl (fun ls2 hl2 => ?_)
  refine lv_aload_n hx hb d_1229 rfl (lv_at hl2 4 rfl) ?_
  refine lw_Th C (hFA _ hK.1) G3 hm3 (by omega) (by omega) hl2.1 (crest := []) (by decide) d_1230 (fun as4 tys4 ws4 H4 locs4 k4 G4 => ?_)
  have ho4 : as4[13]? = some o := by
    obtain ⟨tt, rfl⟩ := k4
    rw [List.getElem?_append_left (List.getElem?_eq_some_iff.mp ho3).1]; exact ho3
  refine lv_iload hx hb d_1233 (lv_at hl2 1 rfl) ?_
  refine lv_icmp_eq hx hb d_1235 (tgt := 1240) rfl (fun _ => ?_) (fun z => absurd rfl z)
  refine lv_iload hx hb d_1240 (lv_at hl2 1 rfl) ?_
  have fin : ∀ {ls : Array Slot}, lv_has ls 7 [(4, .int 0), (0, .ref b)] → W p l e room_1 s m #[Value.ref b] below meth c H4 locs4 cells slots (lw_Z below #[Value.ref b] s) (F0 m 1257 ls []) := fun hl9 => lv_goto hx hb d_1257 (tgt := 1397) rfl (lw_tail C G4.2.2.2.2.1 (by omega) (by omega) hl9)
  refine lv_if_ne hx hb d_1242 (tgt := 1257) rfl (fun _ => fin (lv_sub hl2 [2, 6] rfl)) (fun hk0 => ?_)
  have hxb : x = Bb := by
    have z := hK.2 hk0
    cases z
    rfl
  subst hxb
  refine lv_aload_n hx hb d_1245 rfl (lv_at hl2 3 rfl) ?_
  refine lv_iconst (v := 0) hx hb d_1246 rfl ?_
  refine sg_lald hx hb G4 ho4 (i := 13) (x := [V]) hout (x_in_ok (n := 1) rfl) d_1247 ?_
  refine lv_iload hx hb d_1248 (lv_at hl2 0 rfl) ?_
  refine lv_i2l (v := V) hx hb d_1250 hVB.symm ?_
  refine W.lcmp hx hb d_1251 ?_
  exact lv_if_eq hx hb d_1252 (tgt := 1257) rfl (fun _ => fin (lv_sub hl2 [2, 6] rfl)) (fun z => absurd ((lg_cmp_eq _ _).mpr rfl) z)
set_option maxRecDepth 100000 in
set_option maxHeartbeats 4000000 in
theorem aft_weight {p : Program} {l : Launch} {e : Env} {s : State} {m : MethodId} {below : List Frame} {meth : Method} {c : Code} {H : Heap} {locs : List Loc} {cells slots b : Nat} {xs : Nat → Int32} {D : va_G} {as : List Nat} {tys : List (ClassId × FieldType)} {ws : va_W} {ls : Array Slot} {am a0 o : Nat} (C : LC p l s m b meth c 4 xs) {k : Int32} {V : Int64} {Bb : Int32} (hVB : V = Bb.toInt64) (hc : cR 221 1 25 [.ref 0, .int (xs 1)] mI (fun v h' => FA h' k ∧ (k = 0 → v = some (.int Bb)))) (G : sg D xcl (AA s) s (mI ++ [outC V]) as tys ws H locs) (hm : as[0]? = some am) (ho : as[13]? = some o) (hl : lv_has ls 7 [(4, .int 0), (3, .ref o), (2, .ref am), (1, .ref a0), (0, .ref b)]) (hc1 : cells ≤ 10000) (hs1 : slots ≤ 100000) : W p l e room_1 s m #[Value.ref b] below meth c H locs cells slots (lw_Z below #[Value.ref b] s) (F0 m 1296 ls [.int k]) := by
  obtain ⟨hx, hb, -⟩ := id C
  refine lv_istore hx hb d_1296 hl (by decide) rfl (fun ls1 hl1 => ?_)
  refine lv_aload_n hx hb d_1298 rfl (lv_at hl1 3 rfl) ?_
  refine rd C (k := 1) (by decide) (by decide) d_1299 d_1300 d_1302 d_1303 d_1304 (lv_at hl1 5 rfl) (lv_at hl1 1 rfl) G.2.2.2.2.1 ?_
  refine lw_M C okm_weight (by decide) hc (by decide) (by decide) (Nat.le_of_ble_eq_true rfl) (Nat.le_of_ble_eq_true rfl) rfl rfl (vrs_ci (rfl)) rfl G hm (by omega) (by omega) hl1.1 (crest := []) rfl (by decide) d_1305 (Or.inr (Or.inl rfl)) (fun v h' h3 as3 tys3 ws3 H3 locs3 hK hsh hFA hout k3 G3 => ?_)
  have hm3 : as3[0]? = some am := by
    obtain ⟨tt, rfl⟩ := k3
    rw [List.getElem?_append_left (List.getElem?_eq_some_iff.mp hm).1]; exact hm
  have ho3 : as3[13]? = some o := by
    obtain ⟨tt, rfl⟩ := k3
    rw [List.getElem?_append_left (List.getElem?_eq_some_iff.mp ho).1]; exact ho
  obtain ⟨x, rfl⟩ : ∃ x, v = some (.int x) := hsh
  refine lv_istore hx hb d_1308 hl1 (by decide) rfl (fun ls2 hl2 => ?_)
  refine lv_aload_n hx hb d_1310 rfl (lv_at hl2 4 rfl) ?_
  refine lw_Th C (hFA _ hK.1) G3 hm3 (by omega) (by omega) hl2.1 (crest := []) (by decide) d_1311 (fun as4 tys4 ws4 H4 locs4 k4 G4 => ?_)
  have ho4 : as4[13]? = some o := by
    obtain ⟨tt, rfl⟩ := k4
    rw [List.getElem?_append_left (List.getElem?_eq_some_iff.mp ho3).1]; exact ho3
  refine lv_iload hx hb d_1314 (lv_at hl2 1 rfl) ?_
  refine lv_icmp_eq hx hb d_1316 (tgt := 1321) rfl (fun _ => ?_) (fun z => absurd rfl z)
  refine lv_iload hx hb d_1321 (lv_at hl2 1 rfl) ?_
  have fin : ∀ {ls : Array Slot}, lv_has ls 7 [(4, .int 0), (0, .ref b)] → W p l e room_1 s m #[Value.ref b] below meth c H4 locs4 cells slots (lw_Z below #[Value.ref b] s) (F0 m 1338 ls []) := fun hl9 => lv_goto hx hb d_1338 (tgt := 1397) rfl (lw_tail C G4.2.2.2.2.1 (by omega) (by omega) hl9)
  refine lv_if_ne hx hb d_1323 (tgt := 1338) rfl (fun _ => fin (lv_sub hl2 [2, 6] rfl)) (fun hk0 => ?_)
  have hxb : x = Bb := by
    have z := hK.2 hk0
    cases z
    rfl
  subst hxb
  refine lv_aload_n hx hb d_1326 rfl (lv_at hl2 3 rfl) ?_
  refine lv_iconst (v := 0) hx hb d_1327 rfl ?_
  refine sg_lald hx hb G4 ho4 (i := 13) (x := [V]) hout (x_in_ok (n := 1) rfl) d_1328 ?_
  refine lv_iload hx hb d_1329 (lv_at hl2 0 rfl) ?_
  refine lv_i2l (v := V) hx hb d_1331 hVB.symm ?_
  refine W.lcmp hx hb d_1332 ?_
  exact lv_if_eq hx hb d_1333 (tgt := 1338) rfl (fun _ => fin (lv_sub hl2 [2, 6] rfl)) (fun z => absurd ((lg_cmp_eq _ _).mpr rfl) z)
set_option maxRecDepth 100000 in
set_option maxHeartbeats 4000000 in
theorem aft_size {p : Program} {l : Launch} {e : Env} {s : State} {m : MethodId} {below : List Frame} {meth : Method} {c : Code} {H : Heap} {locs : List Loc} {cells slots b : Nat} {xs : Nat → Int32} {D : va_G} {as : List Nat} {tys : List (ClassId × FieldType)} {ws : va_W} {ls : Array Slot} {am a0 o : Nat} (C : LC p l s m b meth c 4 xs) {k : Int32} {V : Int64} {Bb : Int32} (hVB : V = Bb.toInt64) (hc : cR 222 1 25 [.ref 0, .int (xs 1)] mI (fun v h' => FA h' k ∧ (k = 0 → v = some (.int Bb)))) (G : sg D xcl (AA s) s (mI ++ [outC V]) as tys ws H locs) (hm : as[0]? = some am) (ho : as[13]? = some o) (hl : lv_has ls 7 [(4, .int 0), (3, .ref o), (2, .ref am), (1, .ref a0), (0, .ref b)]) (hc1 : cells ≤ 10000) (hs1 : slots ≤ 100000) : W p l e room_1 s m #[Value.ref b] below meth c H locs cells slots (lw_Z below #[Value.ref b] s) (F0 m 1352 ls [.int k]) := by
  obtain ⟨hx, hb, -⟩ := id C
  refine lv_istore hx hb d_1352 hl (by decide) rfl (fun ls1 hl1 => ?_)
  refine lv_aload_n hx hb d_1354 rfl (lv_at hl1 3 rfl) ?_
  refine rd C (k := 1) (by decide) (by decide) d_1355 d_1356 d_1358 d_1359 d_1360 (lv_at hl1 5 rfl) (lv_at hl1 1 rfl) G.2.2.2.2.1 ?_
  refine lw_M C okm_size (by decide) hc (by decide) (by decide) (Nat.le_of_ble_eq_true rfl) (Nat.le_of_ble_eq_true rfl) rfl rfl (vrs_ci (rfl)) rfl G hm (by omega) (by omega) hl1.1 (crest := []) rfl (by decide) d_1361 (Or.inr (Or.inl rfl)) (fun v h' h3 as3 tys3 ws3 H3 locs3 hK hsh hFA hout k3 G3 => ?_)
  have hm3 : as3[0]? = some am := by
    obtain ⟨tt, rfl⟩ := k3
    rw [List.getElem?_append_left (List.getElem?_eq_some_iff.mp hm).1]; exact hm
  have ho3 : as3[13]? = some o := by
    obtain ⟨tt, rfl⟩ := k3
    rw [List.getElem?_append_left (List.getElem?_eq_some_iff.mp ho).1]; exact ho
  obtain ⟨x, rfl⟩ : ∃ x, v = some (.int x) := hsh
  refine lv_istore hx hb d_1364 hl1 (by decide) rfl (fun ls2 hl2 => ?_)
  refine lv_aload_n hx hb d_1366 rfl (lv_at hl2 4 rfl) ?_
  refine lw_Th C (hFA _ hK.1) G3 hm3 (by omega) (by omega) hl2.1 (crest := []) (by decide) d_1367 (fun as4 tys4 ws4 H4 locs4 k4 G4 => ?_)
  have ho4 : as4[13]? = some o := by
    obtain ⟨tt, rfl⟩ := k4
    rw [List.getElem?_append_left (List.getElem?_eq_some_iff.mp ho3).1]; exact ho3
  refine lv_iload hx hb d_1370 (lv_at hl2 1 rfl) ?_
  refine lv_icmp_eq hx hb d_1372 (tgt := 1377) rfl (fun _ => ?_) (fun z => absurd rfl z)
  refine lv_iload hx hb d_1377 (lv_at hl2 1 rfl) ?_
  have fin : ∀ {ls : Array Slot}, lv_has ls 7 [(4, .int 0), (0, .ref b)] → W p l e room_1 s m #[Value.ref b] below meth c H4 locs4 cells slots (lw_Z below #[Value.ref b] s) (F0 m 1394 ls []) := fun hl9 => lv_goto hx hb d_1394 (tgt := 1397) rfl (lw_tail C G4.2.2.2.2.1 (by omega) (by omega) hl9)
  refine lv_if_ne hx hb d_1379 (tgt := 1394) rfl (fun _ => fin (lv_sub hl2 [2, 6] rfl)) (fun hk0 => ?_)
  have hxb : x = Bb := by
    have z := hK.2 hk0
    cases z
    rfl
  subst hxb
  refine lv_aload_n hx hb d_1382 rfl (lv_at hl2 3 rfl) ?_
  refine lv_iconst (v := 0) hx hb d_1383 rfl ?_
  refine sg_lald hx hb G4 ho4 (i := 13) (x := [V]) hout (x_in_ok (n := 1) rfl) d_1384 ?_
  refine lv_iload hx hb d_1385 (lv_at hl2 0 rfl) ?_
  refine lv_i2l (v := V) hx hb d_1387 hVB.symm ?_
  refine W.lcmp hx hb d_1388 ?_
  exact lv_if_eq hx hb d_1389 (tgt := 1394) rfl (fun _ => fin (lv_sub hl2 [2, 6] rfl)) (fun z => absurd ((lg_cmp_eq _ _).mpr rfl) z)
