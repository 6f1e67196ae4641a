/-! the law's helpers: sums and products -/
set_option maxRecDepth 100000 in
set_option maxHeartbeats 4000000 in
theorem w_add_v {l : Launch} (hl0 : ∀ e : Env, l.admits e → e.platform.stackTraces = false) {x y z : Int32} (hv : sl x ∧ sl y ∧ sl z) {v0 : Int64} {D : va_G} {as : List Nat} {tys : List (ClassId × FieldType)} {ws : va_W} {sz a0 o : Nat} (hw : wr as tys (H0 ++ (Ms ++ [outC v0])) ws) (h0 : as[0]? = some a0) (ho : as[662]? = some o) : Met l nw_add ws_add rmW (va_Pc [.ref a0, .int x, .int y, .int z, .ref o] (xPre2 D xcl xNN tys ws sz)) (xPost D xcl (va_A ws sz) (asJ as (List.range' 649 14)) (some (.int (nI 0)), mI ++ [outC 1], 1, 6)) 1 6 (va_A ws sz) := by
  have hc : cR 115 8 310 [.ref 0, .int x, .int y, .int z] H0 (fun v _ => v = some (.int (nI 1))) := by
    obtain ⟨⟨i, hi, rfl⟩, ⟨j, hj, rfl⟩, k, hk, rfl⟩ := hv
    exact k_add hi hj hk
  refine va_MetW (hh := hh_add) (cc := method_11_code) (maxL := 6) (ret := some .int) (by decide) rfl ?_
  intro p e s m args below meth c s₁ b hml hpc
  obtain ⟨rfl, ⟨hsz, hP, hK, hD0, hN⟩, hT⟩ := hpc
  have hts0 := atoms_spec (ws := ws_add) b.pre
  have htab : c.exceptionTable.toList = tableOf hh_add := by
    obtain ⟨m9, meth9, c9, z1, z2, z3, z4, z5, z6, -⟩ := Cond.codeWith_spec (hts0 _ List.mem_cons_self)
    cases b.named.symm.trans z1
    cases b.method.symm.trans z2
    cases (Stand.of_body b).code.symm.trans z3
    rw [← z6, table_eq]
  subst hsz
  have G : sg D xcl (va_A ws s.heap.size) s (H0 ++ (Ms ++ [outC v0])) as tys ws s.heap [] := ⟨hw, hK, hP, hD0.self, va_S.rf, fun q h => Or.inr h⟩
  have S : CallFix p m c method_11_code 6 s _ TB "RootDeskLaw" := ⟨b.exec, b.bytes, hml, findClass_of_methodNamed b.named, fun w hw => hts0 w (List.mem_cons_of_mem _ hw)⟩
  have hx := b.exec
  have hb := b.bytes
  obtain ⟨vs, hc0⟩ := H0_at0 (t := (Ms ++ [outC v0]))
  have hl := lv_entry ([.ref a0, .int x, .int y, .int z, .ref o] : List Value) (n := 6) (Nat.le_of_ble_eq_true rfl)
  rw [lg_entry_eq]
  show W p l e rmW s m _ below meth c s.heap [] 0 0 _ _
  refine lv_aload hx hb dw_add_0 (lv_at hl 4 rfl) ?_
  refine lv_iconst (v := 0) hx hb dw_add_2 rfl ?_
  refine lv_aload_n hx hb dw_add_3 rfl (lv_at hl 0 rfl) ?_
  refine lv_iload_n hx hb dw_add_4 rfl (lv_at hl 1 rfl) ?_
  refine lv_iload_n hx hb dw_add_5 rfl (lv_at hl 2 rfl) ?_
  refine lv_iload_n hx hb dw_add_6 rfl (lv_at hl 3 rfl) ?_
  obtain ⟨v, h', hv', -, hr⟩ := lw_V (p := p) (e := e) (R := rmW) (m := m) (below := below) (meth := meth) (J := List.range' 0 649) (i0 := 0) (ci := 11) (vs := vs) (fb := 11) (lb := 400) (cells := 0) (slots := 0) (pc := 7) (crest := [.int 0, .ref o]) hl0 S hN hT okw_add (by decide) (hc) (Nat.le_of_ble_eq_true rfl) (Nat.le_of_ble_eq_true rfl) (Nat.le_of_ble_eq_true rfl) G (cut_pre H0_len H0_bd rfl) (vrs_cr h0 (vrs_ci (vrs_ci (vrs_ci (rfl))))) h0 hc0 rfl (Nat.le_of_ble_eq_true rfl) (Nat.le_of_ble_eq_true rfl) (Nat.le_of_ble_eq_true rfl) (Nat.le_of_ble_eq_true rfl) rfl hl.1 rfl (Nat.le_of_ble_eq_true rfl) dw_add_7
  obtain rfl := hv'
  refine lw_drop hr G (ndp_r 649 0) r649_lt cut_K (vrs_cr ho rfl) K_dis (Or.inr ⟨_, rfl⟩) (fun as' tys' ws' H1 locs1 k1 k2 G3 => ?_)
  obtain ⟨o1, t1, e1, hoo, -⟩ := vrs_r k2
  cases e1
  refine lv_if_eq hx hb dw_add_10 (tgt := 17) rfl (fun z => absurd z (by decide)) (fun _ => ?_)
  refine lv_lconst (v := 1) hx hb dw_add_13 rfl ?_
  refine lv_goto hx hb dw_add_14 (tgt := 18) rfl ?_
  refine sg_last hx hb G3 hoo (i := 13) (x := [v0]) rfl (x_in_ok (n := 1) rfl) dw_add_18 (fun ws4 H4 locs4 G4 => ?_)
  refine lv_goto hx hb dw_add_19 (tgt := 26) rfl ?_
  refine lv_iconst (v := nI 0) hx hb dw_add_26 rfl ?_
  refine W.widen (k := 1) (n := 6) (by omega) (by omega) ?_
  exact W.iret hx hb b.returns (fun t ht hW => ⟨⟨some (.int (nI 0)), as', _, _, rfl, k1, ⟨_, rfl, rfl⟩, G4.1, va_K.moved hW.alike G4.2.1, by rw [ht]; exact G4.2.2.1, G4.2.2.2.1⟩, G4.2.2.2.2.1.F ht⟩) G4.2.2.2.2.1.2.2 dw_add_27 b.notSynchronized
set_option maxRecDepth 100000 in
set_option maxHeartbeats 4000000 in
theorem w_subtract_v {l : Launch} (hl0 : ∀ e : Env, l.admits e → e.platform.stackTraces = false) {x y z : Int32} (hv : sl x ∧ sl y ∧ sl z) {v0 : Int64} {D : va_G} {as : List Nat} {tys : List (ClassId × FieldType)} {ws : va_W} {sz a0 o : Nat} (hw : wr as tys (H0 ++ (Ms ++ [outC v0])) ws) (h0 : as[0]? = some a0) (ho : as[662]? = some o) : Met l nw_subtract ws_subtract rmW (va_Pc [.ref a0, .int x, .int y, .int z, .ref o] (xPre2 D xcl xNN tys ws sz)) (xPost D xcl (va_A ws sz) (asJ as (List.range' 649 14)) (some (.int (nI 0)), mI ++ [outC 1], 1, 6)) 1 6 (va_A ws sz) := by
  have hc : cR 133 8 310 [.ref 0, .int x, .int y, .int z] H0 (fun v _ => v = some (.int (nI 1))) := by
    obtain ⟨⟨i, hi, rfl⟩, ⟨j, hj, rfl⟩, k, hk, rfl⟩ := hv
    exact k_subtract hi hj hk
  refine va_MetW (hh := hh_subtract) (cc := method_12_code) (maxL := 6) (ret := some .int) (by decide) rfl ?_
  intro p e s m args below meth c s₁ b hml hpc
  obtain ⟨rfl, ⟨hsz, hP, hK, hD0, hN⟩, hT⟩ := hpc
  have hts0 := atoms_spec (ws := ws_subtract) b.pre
  have htab : c.exceptionTable.toList = tableOf hh_subtract := by
    obtain ⟨m9, meth9, c9, z1, z2, z3, z4, z5, z6, -⟩ := Cond.codeWith_spec (hts0 _ List.mem_cons_self)
    cases b.named.symm.trans z1
    cases b.method.symm.trans z2
    cases (Stand.of_body b).code.symm.trans z3
    rw [← z6, table_eq]
  subst hsz
  have G : sg D xcl (va_A ws s.heap.size) s (H0 ++ (Ms ++ [outC v0])) as tys ws s.heap [] := ⟨hw, hK, hP, hD0.self, va_S.rf, fun q h => Or.inr h⟩
  have S : CallFix p m c method_12_code 6 s _ TB "RootDeskLaw" := ⟨b.exec, b.bytes, hml, findClass_of_methodNamed b.named, fun w hw => hts0 w (List.mem_cons_of_mem _ hw)⟩
  have hx := b.exec
  have hb := b.bytes
  obtain ⟨vs, hc0⟩ := H0_at0 (t := (Ms ++ [outC v0]))
  have hl := lv_entry ([.ref a0, .int x, .int y, .int z, .ref o] : List Value) (n := 6) (Nat.le_of_ble_eq_true rfl)
  rw [lg_entry_eq]
  show W p l e rmW s m _ below meth c s.heap [] 0 0 _ _
  refine lv_aload hx hb dw_subtract_0 (lv_at hl 4 rfl) ?_
  refine lv_iconst (v := 0) hx hb dw_subtract_2 rfl ?_
  refine lv_aload_n hx hb dw_subtract_3 rfl (lv_at hl 0 rfl) ?_
  refine lv_iload_n hx hb dw_subtract_4 rfl (lv_at hl 1 rfl) ?_
  refine lv_iload_n hx hb dw_subtract_5 rfl (lv_at hl 2 rfl) ?_
  refine lv_iload_n hx hb dw_subtract_6 rfl (lv_at hl 3 rfl) ?_
  obtain ⟨v, h', hv', -, hr⟩ := lw_V (p := p) (e := e) (R := rmW) (m := m) (below := below) (meth := meth) (J := List.range' 0 649) (i0 := 0) (ci := 11) (vs := vs) (fb := 11) (lb := 400) (cells := 0) (slots := 0) (pc := 7) (crest := [.int 0, .ref o]) hl0 S hN hT okw_subtract (by decide) (hc) (Nat.le_of_ble_eq_true rfl) (Nat.le_of_ble_eq_true rfl) (Nat.le_of_ble_eq_true rfl) G (cut_pre H0_len H0_bd rfl) (vrs_cr h0 (vrs_ci (vrs_ci (vrs_ci (rfl))))) h0 hc0 rfl (Nat.le_of_ble_eq_true rfl) (Nat.le_of_ble_eq_true rfl) (Nat.le_of_ble_eq_true rfl) (Nat.le_of_ble_eq_true rfl) rfl hl.1 rfl (Nat.le_of_ble_eq_true rfl) dw_subtract_7
  obtain rfl := hv'
  refine lw_drop hr G (ndp_r 649 0) r649_lt cut_K (vrs_cr ho rfl) K_dis (Or.inr ⟨_, rfl⟩) (fun as' tys' ws' H1 locs1 k1 k2 G3 => ?_)
  obtain ⟨o1, t1, e1, hoo, -⟩ := vrs_r k2
  cases e1
  refine lv_if_eq hx hb dw_subtract_10 (tgt := 17) rfl (fun z => absurd z (by decide)) (fun _ => ?_)
  refine lv_lconst (v := 1) hx hb dw_subtract_13 rfl ?_
  refine lv_goto hx hb dw_subtract_14 (tgt := 18) rfl ?_
  refine sg_last hx hb G3 hoo (i := 13) (x := [v0]) rfl (x_in_ok (n := 1) rfl) dw_subtract_18 (fun ws4 H4 locs4 G4 => ?_)
  refine lv_goto hx hb dw_subtract_19 (tgt := 26) rfl ?_
  refine lv_iconst (v := nI 0) hx hb dw_subtract_26 rfl ?_
  refine W.widen (k := 1) (n := 6) (by omega) (by omega) ?_
  exact W.iret hx hb b.returns (fun t ht hW => ⟨⟨some (.int (nI 0)), as', _, _, rfl, k1, ⟨_, rfl, rfl⟩, G4.1, va_K.moved hW.alike G4.2.1, by rw [ht]; exact G4.2.2.1, G4.2.2.2.1⟩, G4.2.2.2.2.1.F ht⟩) G4.2.2.2.2.1.2.2 dw_subtract_27 b.notSynchronized
set_option maxRecDepth 100000 in
set_option maxHeartbeats 4000000 in
theorem w_multiply_v {l : Launch} (hl0 : ∀ e : Env, l.admits e → e.platform.stackTraces = false) {x y z : Int32} (hv : sl x ∧ sl y ∧ sl z) {v0 : Int64} {D : va_G} {as : List Nat} {tys : List (ClassId × FieldType)} {ws : va_W} {sz a0 o : Nat} (hw : wr as tys (H0 ++ (Ms ++ [outC v0])) ws) (h0 : as[0]? = some a0) (ho : as[662]? = some o) : Met l nw_multiply ws_multiply rmW (va_Pc [.ref a0, .int x, .int y, .int z, .ref o] (xPre2 D xcl xNN tys ws sz)) (xPost D xcl (va_A ws sz) (asJ as (List.range' 649 14)) (some (.int (nI 0)), mI ++ [outC 1], 1, 6)) 1 6 (va_A ws sz) := by
  have hc : cR 134 8 310 [.ref 0, .int x, .int y, .int z] H0 (fun v _ => v = some (.int (nI 1))) := by
    obtain ⟨⟨i, hi, rfl⟩, ⟨j, hj, rfl⟩, k, hk, rfl⟩ := hv
    exact k_multiply hi hj hk
  refine va_MetW (hh := hh_multiply) (cc := method_13_code) (maxL := 6) (ret := some .int) (by decide) rfl ?_
  intro p e s m args below meth c s₁ b hml hpc
  obtain ⟨rfl, ⟨hsz, hP, hK, hD0, hN⟩, hT⟩ := hpc
  have hts0 := atoms_spec (ws := ws_multiply) b.pre
  have htab : c.exceptionTable.toList = tableOf hh_multiply := by
    obtain ⟨m9, meth9, c9, z1, z2, z3, z4, z5, z6, -⟩ := Cond.codeWith_spec (hts0 _ List.mem_cons_self)
    cases b.named.symm.trans z1
    cases b.method.symm.trans z2
    cases (Stand.of_body b).code.symm.trans z3
    rw [← z6, table_eq]
  subst hsz
  have G : sg D xcl (va_A ws s.heap.size) s (H0 ++ (Ms ++ [outC v0])) as tys ws s.heap [] := ⟨hw, hK, hP, hD0.self, va_S.rf, fun q h => Or.inr h⟩
  have S : CallFix p m c method_13_code 6 s _ TB "RootDeskLaw" := ⟨b.exec, b.bytes, hml, findClass_of_methodNamed b.named, fun w hw => hts0 w (List.mem_cons_of_mem _ hw)⟩
  have hx := b.exec
  have hb := b.bytes
  obtain ⟨vs, hc0⟩ := H0_at0 (t := (Ms ++ [outC v0]))
  have hl := lv_entry ([.ref a0, .int x, .int y, .int z, .ref o] : List Value) (n := 6) (Nat.le_of_ble_eq_true rfl)
  rw [lg_entry_eq]
  show W p l e rmW s m _ below meth c s.heap [] 0 0 _ _
  refine lv_aload hx hb dw_multiply_0 (lv_at hl 4 rfl) ?_
  refine lv_iconst (v := 0) hx hb dw_multiply_2 rfl ?_
  refine lv_aload_n hx hb dw_multiply_3 rfl (lv_at hl 0 rfl) ?_
  refine lv_iload_n hx hb dw_multiply_4 rfl (lv_at hl 1 rfl) ?_
  refine lv_iload_n hx hb dw_multiply_5 rfl (lv_at hl 2 rfl) ?_
  refine lv_iload_n hx hb dw_multiply_6 rfl (lv_at hl 3 rfl) ?_
  obtain ⟨v, h', hv', -, hr⟩ := lw_V (p := p) (e := e) (R := rmW) (m := m) (below := below) (meth := meth) (J := List.range' 0 649) (i0 := 0) (ci := 11) (vs := vs) (fb := 11) (lb := 400) (cells := 0) (slots := 0) (pc := 7) (crest := [.int 0, .ref o]) hl0 S hN hT okw_multiply (by decide) (hc) (Nat.le_of_ble_eq_true rfl) (Nat.le_of_ble_eq_true rfl) (Nat.le_of_ble_eq_true rfl) G (cut_pre H0_len H0_bd rfl) (vrs_cr h0 (vrs_ci (vrs_ci (vrs_ci (rfl))))) h0 hc0 rfl (Nat.le_of_ble_eq_true rfl) (Nat.le_of_ble_eq_true rfl) (Nat.le_of_ble_eq_true rfl) (Nat.le_of_ble_eq_true rfl) rfl hl.1 rfl (Nat.le_of_ble_eq_true rfl) dw_multiply_7
  obtain rfl := hv'
  refine lw_drop hr G (ndp_r 649 0) r649_lt cut_K (vrs_cr ho rfl) K_dis (Or.inr ⟨_, rfl⟩) (fun as' tys' ws' H1 locs1 k1 k2 G3 => ?_)
  obtain ⟨o1, t1, e1, hoo, -⟩ := vrs_r k2
  cases e1
  refine lv_if_eq hx hb dw_multiply_10 (tgt := 17) rfl (fun z => absurd z (by decide)) (fun _ => ?_)
  refine lv_lconst (v := 1) hx hb dw_multiply_13 rfl ?_
  refine lv_goto hx hb dw_multiply_14 (tgt := 18) rfl ?_
  refine sg_last hx hb G3 hoo (i := 13) (x := [v0]) rfl (x_in_ok (n := 1) rfl) dw_multiply_18 (fun ws4 H4 locs4 G4 => ?_)
  refine lv_goto hx hb dw_multiply_19 (tgt := 26) rfl ?_
  refine lv_iconst (v := nI 0) hx hb dw_multiply_26 rfl ?_
  refine W.widen (k := 1) (n := 6) (by omega) (by omega) ?_
  exact W.iret hx hb b.returns (fun t ht hW => ⟨⟨some (.int (nI 0)), as', _, _, rfl, k1, ⟨_, rfl, rfl⟩, G4.1, va_K.moved hW.alike G4.2.1, by rw [ht]; exact G4.2.2.1, G4.2.2.2.1⟩, G4.2.2.2.2.1.F ht⟩) G4.2.2.2.2.1.2.2 dw_multiply_27 b.notSynchronized
