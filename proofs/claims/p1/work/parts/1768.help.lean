/-! the law's helpers -/
def outC (v : Int64) : xC := .inr (.long, .inr (.inl [v]))
theorem asJ_one {as : List Nat} {j o : Nat} (h : as[j]? = some o) : asJ as [j] = [o] := by
  unfold asJ
  simp [List.getD, h]
/-- the reference's cells behind the desk's -/
def mOs : xC := .inl (12, [.int 0, .ref 650, .ref 651, .ref 652, .int 0, .ref 653, .ref 654, .ref 655, .ref 656, .int 0, .int 0, .ref 657, .int 0, .ref 658, .ref 659, .int 0, .ref 660, .int 0, .int 0, .int 0, .ref 661])
def Ms : xH := mOs :: mI.tail
theorem cut_K {v : Int64} : cutJ (H0 ++ (Ms ++ [outC v])) [.ref 662] (List.range' 649 14) (mI ++ [outC v]) [.ref 13] := by
  refine ⟨ndp_r 14 649, Ms ++ [outC v], ?_, rfl, rfl⟩
  have e := pick_r (Ms ++ [outC v]) H0 []
  rw [List.append_nil, H0_len] at e
  exact e
theorem H0_at0 {t : xH} : ∃ vs, (H0 ++ t)[0]? = some (.inl (11, vs)) := by
  obtain ⟨h1, -, -⟩ := dk_H0
  exact ⟨_, by rw [List.getElem?_append_left (by rw [H0_len]; decide)]; exact h1⟩
theorem K_dis : ∀ (i k : Nat), (List.range' 649 14)[i]? = some k → sp (List.range' 0 649) k = none := fun i k hk => sp_hi 649 0 k (by
  have := (List.mem_range'_1.mp (List.mem_of_getElem? hk)).1
  omega)
theorem r649_lt {t : xH} : ∀ j ∈ List.range' 0 649, j < (H0 ++ t).length := fun j hj => by
  rw [List.length_append, H0_len]
  have := List.mem_range'_1.mp hj
  omega
/-- a quotient by 0 is no argument out of bounds -/
def NC (U : State) : Prop := ∀ c1 c2 : ClassId, U.vm.findClass "java/lang/ArithmeticException" = some c1 → U.vm.findClass "java/lang/IllegalArgumentException" = some c2 → U.vm.assignable c1 c2 = false
theorem NC.moved {u U : State} (hvm : u.vm.Alike U.vm) (h : NC u) : NC U := fun c1 c2 h1 h2 => by
  rw [hvm.assignable]
  exact h c1 c2 (by rw [← hvm.findClass]; exact h1) (by rw [← hvm.findClass]; exact h2)
def xPre3 (D : va_G) (tys : List (ClassId × FieldType)) (ws : va_W) (sz : Nat) : State → Prop := fun U => xPre2 D xcl xNN tys ws sz U ∧ NC U
theorem FB3 {D : va_G} {tys : List (ClassId × FieldType)} {ws : va_W} {sz : Nat} {cvs : List Value} : FrameBlind (va_Pc cvs (xPre3 D tys ws sz)) := fun a U g mk q => by
  obtain ⟨q0, q1, q2⟩ := q
  obtain ⟨r0, r1⟩ := FB2 (cvs := cvs) a U g mk ⟨q0, q1⟩
  exact ⟨r0, r1, NC.moved (u := U) (U := U.calling g mk a) (Vm.Alike.refl U.vm) q2⟩
def rmW : Room := { frames := 12, cells := 1, slots := 6, locals := 500 }
theorem ovr_i {as : List Nat} {x : Int32} {cv : Option Value} (h : ovr as (some (.int x)) cv) : cv = some (.int x) := by
  obtain ⟨u, rfl, h2⟩ := h
  have h2 : u = .int x := h2
  rw [h2]
theorem ovr_n {as : List Nat} {cv : Option Value} (h : ovr as none cv) : cv = none := h
section HLP
variable {p : Program} {l : Launch} {e : Env} {R : Room} {s : State} {m : MethodId} {args : Array Value} {below : List Frame} {meth : Method} {c : Code} {H : Heap} {locs : List Loc} {cells slots : Nat} {Q : State → Prop}
variable {D : va_G} {A : Nat → Prop} {h : xH} {as : List Nat} {tys : List (ClassId × FieldType)} {ws : va_W} {pc : Nat} {ls : Array Slot} {st0 rest : List Value} {J K : List Nat}
/-- the callee's cells are forgotten; those of K stay -/
theorem lw_drop {v : Option Value} {h' dsK : xH} {a : Array Value} {avsK bvsK cvsK : List Value} (hr : va_Run p l e R s m args below meth c H locs cells slots 0 0 (F0 m pc ls st0) rest (xPost D xcl (va_A (wsJ ws J) H.size) (asJ as J) (v, h', 0, 0) a) (va_A (wsJ ws J) H.size)) (G : sg D xcl A s h as tys ws H locs) (hn : ndp J = true) (hJ : ∀ j ∈ J, j < h.length) (hK : cutJ h avsK K dsK bvsK) (haK : vrs as avsK cvsK) (hd : ∀ (i k : Nat), K[i]? = some k → sp J k = none) (hv : v = none ∨ ∃ x, v = some (.int x))
    (kk : ∀ (as' : List Nat) (tys' : List (ClassId × FieldType)) (ws' : va_W) (H1 : Heap) (locs1 : List Loc), pre (asJ as K) as' → vrs as' bvsK cvsK → sg D xcl A s dsK as' tys' ws' H1 locs1 → W p l e R s m args below meth c H1 locs1 cells slots Q (F0 m (pc + 3) ls (v.toList ++ rest))) : W p l e R s m args below meth c H locs cells slots Q (F0 m pc ls st0) := by
  obtain ⟨G2, hv2⟩ := sg_sub G hK haK
  have hKl : ∀ j ∈ K, j < h.length := (cutJ_wr G.1 hK haK).2.1
  have hdr : ∀ as' cv, ovr as' v cv → ovr [] v cv := by
    intro as' cv h
    rcases hv with rfl | ⟨x, rfl⟩
    · exact h
    · rw [ovr_i h]; exact ⟨_, rfl, rfl⟩
  have hrv : ∀ f : Nat → Option Nat, rvo f v = some v := by
    intro f
    rcases hv with rfl | ⟨x, rfl⟩ <;> rfl
  refine x_callG (J := []) (r1 := (v, [], 0, 0)) (cs := []) (v := v) (hr.weak (fun st o t hq => xPost.drop hdr hq)) G2 rfl (fun j hj => by cases hj) (Nat.le_refl 0) rfl (hrv _) (lw_A1 G hn hJ) (far_sub G hn hJ hKl (fun i k h1 _ => hd i k h1)) (fun cv as' tys' ws' H1 locs1 k1 k2 k3 => ?_)
  have hcv : cv = v := by
    rcases hv with rfl | ⟨x, rfl⟩
    · exact k2
    · exact ovr_i k2
  subst hcv
  rw [mg_n, List.append_nil] at k3
  exact kk as' tys' ws' H1 locs1 k1 (vrs_pre k1 hv2) k3
theorem kept_sg {H1 : Heap} {L : List Loc} {dsK : xH} {avsK bvsK cvsK : List Value} (hk : Kept (va_A (wsJ ws J) H.size) H H1 L) (G : sg D xcl A s h as tys ws H locs) (hn : ndp J = true) (hJ : ∀ j ∈ J, j < h.length) (hK : cutJ h avsK K dsK bvsK) (haK : vrs as avsK cvsK) (hd : ∀ (i k : Nat), K[i]? = some k → sp J k = none) : sg D xcl A s dsK (asJ as K) tys (wsJ ws K) H1 (locs ++ L) := by
  obtain ⟨G2, -⟩ := sg_sub G hK haK
  have hKl : ∀ j ∈ K, j < h.length := (cutJ_wr G.1 hK haK).2.1
  exact sg_stay G2 hk.2.1 hk.2.2 (lw_A1 G hn hJ) hk.1 (fun i x hx => far_sub G hn hJ hKl (J2 := []) (fun i k h1 _ => hd i k h1) i x rfl hx)
end HLP
set_option maxRecDepth 100000 in
theorem lk_13 : inT (.classLink "RootDeskLaw" 13 "java/lang/IllegalArgumentException") = true := by decide +kernel
set_option maxRecDepth 100000 in
theorem lk_40 : inT (.classLink "RootDeskLaw" 40 "java/lang/ArithmeticException") = true := by decide +kernel
def nw_coefficient : MethodName := ⟨"RootDeskLaw", "coefficient", "(LRootDesk;II[J)I"⟩
def hh_coefficient : List (Nat × Nat × Nat × Nat) := [(0, 10, 13, 13)]
def ws_coefficient : List Cond := Cond.codeWith nw_coefficient method_3_code 5 (some .int) hh_coefficient :: TB
theorem dw_coefficient_0 : decode method_3_code 0 = .ok (.aload_n 3, 1) := by decide +kernel
theorem dw_coefficient_1 : decode method_3_code 1 = .ok (.iconst 0, 1) := by decide +kernel
theorem dw_coefficient_2 : decode method_3_code 2 = .ok (.aload_n 0, 1) := by decide +kernel
theorem dw_coefficient_3 : decode method_3_code 3 = .ok (.iload_n 1, 1) := by decide +kernel
theorem dw_coefficient_4 : decode method_3_code 4 = .ok (.iload_n 2, 1) := by decide +kernel
theorem dw_coefficient_5 : decode method_3_code 5 = .ok (.invokevirtual 7, 3) := by decide +kernel
theorem dw_coefficient_8 : decode method_3_code 8 = .ok (.i2l, 1) := by decide +kernel
theorem dw_coefficient_9 : decode method_3_code 9 = .ok (.lastore, 1) := by decide +kernel
theorem dw_coefficient_10 : decode method_3_code 10 = .ok (.goto 7, 3) := by decide +kernel
theorem dw_coefficient_13 : decode method_3_code 13 = .ok (.astore 4, 2) := by decide +kernel
theorem dw_coefficient_15 : decode method_3_code 15 = .ok (.iconst 1, 1) := by decide +kernel
theorem dw_coefficient_16 : decode method_3_code 16 = .ok (.ireturn, 1) := by decide +kernel
theorem dw_coefficient_17 : decode method_3_code 17 = .ok (.iconst 0, 1) := by decide +kernel
theorem dw_coefficient_18 : decode method_3_code 18 = .ok (.ireturn, 1) := by decide +kernel
set_option maxRecDepth 100000 in
theorem okw_coefficient : okL "RootDeskLaw" 7 76 2 := okLB_ok (by decide +kernel)
set_option maxRecDepth 100000 in
set_option maxHeartbeats 4000000 in
theorem w_coefficient_v {l : Launch} (hl0 : ∀ e : Env, l.admits e → e.platform.stackTraces = false) {x y : Int32} (hv : cv x y) {v0 : Int64} {D : va_G} {as : List Nat} {tys : List (ClassId × FieldType)} {ws : va_W} {sz a0 o : Nat} (hw : wr as tys (H0 ++ (Ms ++ [outC v0])) ws) (h0 : as[0]? = some a0) (ho : as[662]? = some o) : Met l nw_coefficient ws_coefficient rmW (va_Pc [.ref a0, .int x, .int y, .ref o] (xPre2 D xcl xNN tys ws sz)) (xPost D xcl (va_A ws sz) (asJ as (List.range' 649 14)) (some (.int (nI 0)), mI ++ [outC (0 : Int32).toInt64], 1, 6)) 1 6 (va_A ws sz) := by
  have hc : cR 76 0 0 [.ref 0, .int x, .int y] H0 (fun v _ => v = some (.int 0)) := by
    exact k_coefficient x y hv
  refine va_MetW (hh := hh_coefficient) (cc := method_3_code) (maxL := 5) (ret := some .int) (by decide) rfl ?_
  intro p e s m args below meth c s₁ b hml hpc
  obtain ⟨rfl, ⟨hsz, hP, hK, hD0, hN⟩, hT⟩ := hpc
  have hts0 := atoms_spec (ws := ws_coefficient) b.pre
  have htab : c.exceptionTable.toList = tableOf hh_coefficient := by
    obtain ⟨m9, meth9, c9, z1, z2, z3, z4, z5, z6, -⟩ := Cond.codeWith_spec (hts0 _ List.mem_cons_self)
    cases b.named.symm.trans z1
    cases b.method.symm.trans z2
    cases (Stand.of_body b).code.symm.trans z3
    rw [← z6, table_eq]
  subst hsz
  have G : sg D xcl (va_A ws s.heap.size) s (H0 ++ (Ms ++ [outC v0])) as tys ws s.heap [] := ⟨hw, hK, hP, hD0.self, va_S.rf, fun q h => Or.inr h⟩
  have S : CallFix p m c method_3_code 5 s _ TB "RootDeskLaw" := ⟨b.exec, b.bytes, hml, findClass_of_methodNamed b.named, fun w hw => hts0 w (List.mem_cons_of_mem _ hw)⟩
  have hx := b.exec
  have hb := b.bytes
  obtain ⟨vs, hc0⟩ := H0_at0 (t := (Ms ++ [outC v0]))
  have hl := lv_entry ([.ref a0, .int x, .int y, .ref o] : List Value) (n := 5) (Nat.le_of_ble_eq_true rfl)
  rw [lg_entry_eq]
  show W p l e rmW s m _ below meth c s.heap [] 0 0 _ _
  refine lv_aload_n hx hb dw_coefficient_0 rfl (lv_at hl 3 rfl) ?_
  refine lv_iconst (v := 0) hx hb dw_coefficient_1 rfl ?_
  refine lv_aload_n hx hb dw_coefficient_2 rfl (lv_at hl 0 rfl) ?_
  refine lv_iload_n hx hb dw_coefficient_3 rfl (lv_at hl 1 rfl) ?_
  refine lv_iload_n hx hb dw_coefficient_4 rfl (lv_at hl 2 rfl) ?_
  obtain ⟨v, h', hv', -, hr⟩ := lw_V (p := p) (e := e) (R := rmW) (m := m) (below := below) (meth := meth) (J := List.range' 0 649) (i0 := 0) (ci := 11) (vs := vs) (fb := 11) (lb := 400) (cells := 0) (slots := 0) (pc := 5) (crest := [.int 0, .ref o]) hl0 S hN hT okw_coefficient (by decide) (hc) (Nat.le_of_ble_eq_true rfl) (Nat.le_of_ble_eq_true rfl) (Nat.le_of_ble_eq_true rfl) G (cut_pre H0_len H0_bd rfl) (vrs_cr h0 (vrs_ci (vrs_ci (rfl)))) h0 hc0 rfl (Nat.le_of_ble_eq_true rfl) (Nat.le_of_ble_eq_true rfl) (Nat.le_of_ble_eq_true rfl) (Nat.le_of_ble_eq_true rfl) rfl hl.1 rfl (Nat.le_of_ble_eq_true rfl) dw_coefficient_5
  obtain rfl := hv'
  refine lw_drop hr G (ndp_r 649 0) r649_lt cut_K (vrs_cr ho rfl) K_dis (Or.inr ⟨_, rfl⟩) (fun as' tys' ws' H1 locs1 k1 k2 G3 => ?_)
  obtain ⟨o1, t1, e1, hoo, -⟩ := vrs_r k2
  cases e1
  refine lv_i2l (v := (0 : Int32).toInt64) hx hb dw_coefficient_8 rfl ?_
  refine sg_last hx hb G3 hoo (i := 13) (x := [v0]) rfl (x_in_ok (n := 1) rfl) dw_coefficient_9 (fun ws4 H4 locs4 G4 => ?_)
  refine lv_goto hx hb dw_coefficient_10 (tgt := 17) rfl ?_
  refine lv_iconst (v := nI 0) hx hb dw_coefficient_17 rfl ?_
  refine W.widen (k := 1) (n := 6) (by omega) (by omega) ?_
  exact W.iret hx hb b.returns (fun t ht hW => ⟨⟨some (.int (nI 0)), as', _, _, rfl, k1, ⟨_, rfl, rfl⟩, G4.1, va_K.moved hW.alike G4.2.1, by rw [ht]; exact G4.2.2.1, G4.2.2.2.1⟩, G4.2.2.2.2.1.F ht⟩) G4.2.2.2.2.1.2.2 dw_coefficient_18 b.notSynchronized
set_option maxRecDepth 100000 in
set_option maxHeartbeats 4000000 in
theorem w_coefficient_t {l : Launch} (hl0 : ∀ e : Env, l.admits e → e.platform.stackTraces = false) {x y : Int32} (hv : ¬ (cv x y)) {v0 : Int64} {D : va_G} {as : List Nat} {tys : List (ClassId × FieldType)} {ws : va_W} {sz a0 o : Nat} (hw : wr as tys (H0 ++ (Ms ++ [outC v0])) ws) (h0 : as[0]? = some a0) (ho : as[662]? = some o) : Met l nw_coefficient ws_coefficient rmW (va_Pc [.ref a0, .int x, .int y, .ref o] (xPre2 D xcl xNN tys ws sz)) (xPost D xcl (va_A ws sz) (asJ as (List.range' 649 14)) (some (.int (nI 1)), mI ++ [outC v0], 1, 6)) 1 6 (va_A ws sz) := by
  refine va_MetW (hh := hh_coefficient) (cc := method_3_code) (maxL := 5) (ret := some .int) (by decide) rfl ?_
  intro p e s m args below meth c s₁ b hml hpc
  obtain ⟨rfl, ⟨hsz, hP, hK, hD0, hN⟩, hT⟩ := hpc
  have hts0 := atoms_spec (ws := ws_coefficient) b.pre
  have htab : c.exceptionTable.toList = tableOf hh_coefficient := by
    obtain ⟨m9, meth9, c9, z1, z2, z3, z4, z5, z6, -⟩ := Cond.codeWith_spec (hts0 _ List.mem_cons_self)
    cases b.named.symm.trans z1
    cases b.method.symm.trans z2
    cases (Stand.of_body b).code.symm.trans z3
    rw [← z6, table_eq]
  subst hsz
  have G : sg D xcl (va_A ws s.heap.size) s (H0 ++ (Ms ++ [outC v0])) as tys ws s.heap [] := ⟨hw, hK, hP, hD0.self, va_S.rf, fun q h => Or.inr h⟩
  have S : CallFix p m c method_3_code 5 s _ TB "RootDeskLaw" := ⟨b.exec, b.bytes, hml, findClass_of_methodNamed b.named, fun w hw => hts0 w (List.mem_cons_of_mem _ hw)⟩
  have hx := b.exec
  have hb := b.bytes
  obtain ⟨vs, hc0⟩ := H0_at0 (t := (Ms ++ [outC v0]))
  have hl := lv_entry ([.ref a0, .int x, .int y, .ref o] : List Value) (n := 5) (Nat.le_of_ble_eq_true rfl)
  rw [lg_entry_eq]
  show W p l e rmW s m _ below meth c s.heap [] 0 0 _ _
  refine lv_aload_n hx hb dw_coefficient_0 rfl (lv_at hl 3 rfl) ?_
  refine lv_iconst (v := 0) hx hb dw_coefficient_1 rfl ?_
  refine lv_aload_n hx hb dw_coefficient_2 rfl (lv_at hl 0 rfl) ?_
  refine lv_iload_n hx hb dw_coefficient_3 rfl (lv_at hl 1 rfl) ?_
  refine lv_iload_n hx hb dw_coefficient_4 rfl (lv_at hl 2 rfl) ?_
  refine lw_T1 (p := p) (e := e) (R := rmW) (m := m) (below := below) (meth := meth) (J := List.range' 0 649) (i0 := 0) (ci := 11) (vs := vs) (fb := 11) (lb := 400) (cells := 0) (slots := 0) (pc := 5) (crest := [.int 0, .ref o]) hl0 S hN hT okw_coefficient (by decide) (t_coefficient x y hv) (Nat.le_of_ble_eq_true rfl) (Nat.le_of_ble_eq_true rfl) (Nat.le_of_ble_eq_true rfl) G (cut_pre H0_len H0_bd rfl) (vrs_cr h0 (vrs_ci (vrs_ci (rfl)))) h0 hc0 rfl (Nat.le_of_ble_eq_true rfl) (Nat.le_of_ble_eq_true rfl) (Nat.le_of_ble_eq_true rfl) (Nat.le_of_ble_eq_true rfl) rfl hl.1 rfl (Nat.le_of_ble_eq_true rfl) dw_coefficient_5 htab rfl (by decide) (inT_ok (w := Cond.classLink "RootDeskLaw" 13 "java/lang/IllegalArgumentException") lk_13) (hT.1 _ (by simp [thV])) (fun xa H1 L hk => ?_)
  have G3 := kept_sg hk G (ndp_r 649 0) r649_lt cut_K (vrs_cr ho rfl) K_dis
  refine lv_astore hx hb dw_coefficient_13 hl (by decide) rfl (fun ls' hl' => ?_)
  refine lv_iconst (v := (nI 1)) hx hb dw_coefficient_15 rfl ?_
  exact W.iret hx hb b.returns (fun t ht hW => ⟨⟨some (.int (nI 1)), _, _, _, rfl, pre_rf, ⟨_, rfl, rfl⟩, G3.1, va_K.moved hW.alike G3.2.1, by rw [ht]; exact G3.2.2.1, G3.2.2.2.1⟩, G3.2.2.2.2.1.F ht⟩) G3.2.2.2.2.1.2.2 dw_coefficient_16 b.notSynchronized
def nw_rootsIn : MethodName := ⟨"RootDeskLaw", "rootsIn", "(LRootDesk;II[J)I"⟩
def hh_rootsIn : List (Nat × Nat × Nat × Nat) := [(0, 10, 13, 13)]
def ws_rootsIn : List Cond := Cond.codeWith nw_rootsIn method_4_code 5 (some .int) hh_rootsIn :: TB
theorem dw_rootsIn_0 : decode method_4_code 0 = .ok (.aload_n 3, 1) := by decide +kernel
theorem dw_rootsIn_1 : decode method_4_code 1 = .ok (.iconst 0, 1) := by decide +kernel
theorem dw_rootsIn_2 : decode method_4_code 2 = .ok (.aload_n 0, 1) := by decide +kernel
theorem dw_rootsIn_3 : decode method_4_code 3 = .ok (.iload_n 1, 1) := by decide +kernel
theorem dw_rootsIn_4 : decode method_4_code 4 = .ok (.iload_n 2, 1) := by decide +kernel
theorem dw_rootsIn_5 : decode method_4_code 5 = .ok (.invokevirtual 15, 3) := by decide +kernel
theorem dw_rootsIn_8 : decode method_4_code 8 = .ok (.i2l, 1) := by decide +kernel
theorem dw_rootsIn_9 : decode method_4_code 9 = .ok (.lastore, 1) := by decide +kernel
theorem dw_rootsIn_10 : decode method_4_code 10 = .ok (.goto 7, 3) := by decide +kernel
theorem dw_rootsIn_13 : decode method_4_code 13 = .ok (.astore 4, 2) := by decide +kernel
theorem dw_rootsIn_15 : decode method_4_code 15 = .ok (.iconst 1, 1) := by decide +kernel
theorem dw_rootsIn_16 : decode method_4_code 16 = .ok (.ireturn, 1) := by decide +kernel
theorem dw_rootsIn_17 : decode method_4_code 17 = .ok (.iconst 0, 1) := by decide +kernel
theorem dw_rootsIn_18 : decode method_4_code 18 = .ok (.ireturn, 1) := by decide +kernel
set_option maxRecDepth 100000 in
theorem okw_rootsIn : okL "RootDeskLaw" 15 77 2 := okLB_ok (by decide +kernel)
set_option maxRecDepth 100000 in
set_option maxHeartbeats 4000000 in
theorem w_rootsIn_v {l : Launch} (hl0 : ∀ e : Env, l.admits e → e.platform.stackTraces = false) {x y : Int32} (hv : sl x ∧ sl y) {v0 : Int64} {D : va_G} {as : List Nat} {tys : List (ClassId × FieldType)} {ws : va_W} {sz a0 o : Nat} (hw : wr as tys (H0 ++ (Ms ++ [outC v0])) ws) (h0 : as[0]? = some a0) (ho : as[662]? = some o) : Met l nw_rootsIn ws_rootsIn rmW (va_Pc [.ref a0, .int x, .int y, .ref o] (xPre2 D xcl xNN tys ws sz)) (xPost D xcl (va_A ws sz) (asJ as (List.range' 649 14)) (some (.int (nI 0)), mI ++ [outC (-1 : Int32).toInt64], 1, 6)) 1 6 (va_A ws sz) := by
  have hc : cR 77 3 100 [.ref 0, .int x, .int y] H0 (fun v _ => v = some (.int (-1))) := by
    obtain ⟨⟨i, hi, rfl⟩, j, hj, rfl⟩ := hv
    exact k_rootsIn hi hj
  refine va_MetW (hh := hh_rootsIn) (cc := method_4_code) (maxL := 5) (ret := some .int) (by decide) rfl ?_
  intro p e s m args below meth c s₁ b hml hpc
  obtain ⟨rfl, ⟨hsz, hP, hK, hD0, hN⟩, hT⟩ := hpc
  have hts0 := atoms_spec (ws := ws_rootsIn) b.pre
  have htab : c.exceptionTable.toList = tableOf hh_rootsIn := by
    obtain ⟨m9, meth9, c9, z1, z2, z3, z4, z5, z6, -⟩ := Cond.codeWith_spec (hts0 _ List.mem_cons_self)
    cases b.named.symm.trans z1
    cases b.method.symm.trans z2
    cases (Stand.of_body b).code.symm.trans z3
    rw [← z6, table_eq]
  subst hsz
  have G : sg D xcl (va_A ws s.heap.size) s (H0 ++ (Ms ++ [outC v0])) as tys ws s.heap [] := ⟨hw, hK, hP, hD0.self, va_S.rf, fun q h => Or.inr h⟩
  have S : CallFix p m c method_4_code 5 s _ TB "RootDeskLaw" := ⟨b.exec, b.bytes, hml, findClass_of_methodNamed b.named, fun w hw => hts0 w (List.mem_cons_of_mem _ hw)⟩
  have hx := b.exec
  have hb := b.bytes
  obtain ⟨vs, hc0⟩ := H0_at0 (t := (Ms ++ [outC v0]))
  have hl := lv_entry ([.ref a0, .int x, .int y, .ref o] : List Value) (n := 5) (Nat.le_of_ble_eq_true rfl)
  rw [lg_entry_eq]
  show W p l e rmW s m _ below meth c s.heap [] 0 0 _ _
  refine lv_aload_n hx hb dw_rootsIn_0 rfl (lv_at hl 3 rfl) ?_
  refine lv_iconst (v := 0) hx hb dw_rootsIn_1 rfl ?_
  refine lv_aload_n hx hb dw_rootsIn_2 rfl (lv_at hl 0 rfl) ?_
  refine lv_iload_n hx hb dw_rootsIn_3 rfl (lv_at hl 1 rfl) ?_
  refine lv_iload_n hx hb dw_rootsIn_4 rfl (lv_at hl 2 rfl) ?_
  obtain ⟨v, h', hv', -, hr⟩ := lw_V (p := p) (e := e) (R := rmW) (m := m) (below := below) (meth := meth) (J := List.range' 0 649) (i0 := 0) (ci := 11) (vs := vs) (fb := 11) (lb := 400) (cells := 0) (slots := 0) (pc := 5) (crest := [.int 0, .ref o]) hl0 S hN hT okw_rootsIn (by decide) (hc) (Nat.le_of_ble_eq_true rfl) (Nat.le_of_ble_eq_true rfl) (Nat.le_of_ble_eq_true rfl) G (cut_pre H0_len H0_bd rfl) (vrs_cr h0 (vrs_ci (vrs_ci (rfl)))) h0 hc0 rfl (Nat.le_of_ble_eq_true rfl) (Nat.le_of_ble_eq_true rfl) (Nat.le_of_ble_eq_true rfl) (Nat.le_of_ble_eq_true rfl) rfl hl.1 rfl (Nat.le_of_ble_eq_true rfl) dw_rootsIn_5
  obtain rfl := hv'
  refine lw_drop hr G (ndp_r 649 0) r649_lt cut_K (vrs_cr ho rfl) K_dis (Or.inr ⟨_, rfl⟩) (fun as' tys' ws' H1 locs1 k1 k2 G3 => ?_)
  obtain ⟨o1, t1, e1, hoo, -⟩ := vrs_r k2
  cases e1
  refine lv_i2l (v := (-1 : Int32).toInt64) hx hb dw_rootsIn_8 rfl ?_
  refine sg_last hx hb G3 hoo (i := 13) (x := [v0]) rfl (x_in_ok (n := 1) rfl) dw_rootsIn_9 (fun ws4 H4 locs4 G4 => ?_)
  refine lv_goto hx hb dw_rootsIn_10 (tgt := 17) rfl ?_
  refine lv_iconst (v := nI 0) hx hb dw_rootsIn_17 rfl ?_
  refine W.widen (k := 1) (n := 6) (by omega) (by omega) ?_
  exact W.iret hx hb b.returns (fun t ht hW => ⟨⟨some (.int (nI 0)), as', _, _, rfl, k1, ⟨_, rfl, rfl⟩, G4.1, va_K.moved hW.alike G4.2.1, by rw [ht]; exact G4.2.2.1, G4.2.2.2.1⟩, G4.2.2.2.2.1.F ht⟩) G4.2.2.2.2.1.2.2 dw_rootsIn_18 b.notSynchronized
set_option maxRecDepth 100000 in
set_option maxHeartbeats 4000000 in
theorem w_rootsIn_t {l : Launch} (hl0 : ∀ e : Env, l.admits e → e.platform.stackTraces = false) {x y : Int32} (hv : ¬ (sl x ∧ sl y)) {v0 : Int64} {D : va_G} {as : List Nat} {tys : List (ClassId × FieldType)} {ws : va_W} {sz a0 o : Nat} (hw : wr as tys (H0 ++ (Ms ++ [outC v0])) ws) (h0 : as[0]? = some a0) (ho : as[662]? = some o) : Met l nw_rootsIn ws_rootsIn rmW (va_Pc [.ref a0, .int x, .int y, .ref o] (xPre2 D xcl xNN tys ws sz)) (xPost D xcl (va_A ws sz) (asJ as (List.range' 649 14)) (some (.int (nI 1)), mI ++ [outC v0], 1, 6)) 1 6 (va_A ws sz) := by
  refine va_MetW (hh := hh_rootsIn) (cc := method_4_code) (maxL := 5) (ret := some .int) (by decide) rfl ?_
  intro p e s m args below meth c s₁ b hml hpc
  obtain ⟨rfl, ⟨hsz, hP, hK, hD0, hN⟩, hT⟩ := hpc
  have hts0 := atoms_spec (ws := ws_rootsIn) b.pre
  have htab : c.exceptionTable.toList = tableOf hh_rootsIn := by
    obtain ⟨m9, meth9, c9, z1, z2, z3, z4, z5, z6, -⟩ := Cond.codeWith_spec (hts0 _ List.mem_cons_self)
    cases b.named.symm.trans z1
    cases b.method.symm.trans z2
    cases (Stand.of_body b).code.symm.trans z3
    rw [← z6, table_eq]
  subst hsz
  have G : sg D xcl (va_A ws s.heap.size) s (H0 ++ (Ms ++ [outC v0])) as tys ws s.heap [] := ⟨hw, hK, hP, hD0.self, va_S.rf, fun q h => Or.inr h⟩
  have S : CallFix p m c method_4_code 5 s _ TB "RootDeskLaw" := ⟨b.exec, b.bytes, hml, findClass_of_methodNamed b.named, fun w hw => hts0 w (List.mem_cons_of_mem _ hw)⟩
  have hx := b.exec
  have hb := b.bytes
  obtain ⟨vs, hc0⟩ := H0_at0 (t := (Ms ++ [outC v0]))
  have hl := lv_entry ([.ref a0, .int x, .int y, .ref o] : List Value) (n := 5) (Nat.le_of_ble_eq_true rfl)
  rw [lg_entry_eq]
  show W p l e rmW s m _ below meth c s.heap [] 0 0 _ _
  refine lv_aload_n hx hb dw_rootsIn_0 rfl (lv_at hl 3 rfl) ?_
  refine lv_iconst (v := 0) hx hb dw_rootsIn_1 rfl ?_
  refine lv_aload_n hx hb dw_rootsIn_2 rfl (lv_at hl 0 rfl) ?_
  refine lv_iload_n hx hb dw_rootsIn_3 rfl (lv_at hl 1 rfl) ?_
  refine lv_iload_n hx hb dw_rootsIn_4 rfl (lv_at hl 2 rfl) ?_
  refine lw_T1 (p := p) (e := e) (R := rmW) (m := m) (below := below) (meth := meth) (J := List.range' 0 649) (i0 := 0) (ci := 11) (vs := vs) (fb := 11) (lb := 400) (cells := 0) (slots := 0) (pc := 5) (crest := [.int 0, .ref o]) hl0 S hN hT okw_rootsIn (by decide) (t_rootsIn x y hv) (Nat.le_of_ble_eq_true rfl) (Nat.le_of_ble_eq_true rfl) (Nat.le_of_ble_eq_true rfl) G (cut_pre H0_len H0_bd rfl) (vrs_cr h0 (vrs_ci (vrs_ci (rfl)))) h0 hc0 rfl (Nat.le_of_ble_eq_true rfl) (Nat.le_of_ble_eq_true rfl) (Nat.le_of_ble_eq_true rfl) (Nat.le_of_ble_eq_true rfl) rfl hl.1 rfl (Nat.le_of_ble_eq_true rfl) dw_rootsIn_5 htab rfl (by decide) (inT_ok (w := Cond.classLink "RootDeskLaw" 13 "java/lang/IllegalArgumentException") lk_13) (hT.1 _ (by simp [thV])) (fun xa H1 L hk => ?_)
  have G3 := kept_sg hk G (ndp_r 649 0) r649_lt cut_K (vrs_cr ho rfl) K_dis
  refine lv_astore hx hb dw_rootsIn_13 hl (by decide) rfl (fun ls' hl' => ?_)
  refine lv_iconst (v := (nI 1)) hx hb dw_rootsIn_15 rfl ?_
  exact W.iret hx hb b.returns (fun t ht hW => ⟨⟨some (.int (nI 1)), _, _, _, rfl, pre_rf, ⟨_, rfl, rfl⟩, G3.1, va_K.moved hW.alike G3.2.1, by rw [ht]; exact G3.2.2.1, G3.2.2.2.1⟩, G3.2.2.2.2.1.F ht⟩) G3.2.2.2.2.1.2.2 dw_rootsIn_16 b.notSynchronized
def nw_signAt : MethodName := ⟨"RootDeskLaw", "signAt", "(LRootDesk;I[J)I"⟩
def hh_signAt : List (Nat × Nat × Nat × Nat) := [(0, 9, 12, 13)]
def ws_signAt : List Cond := Cond.codeWith nw_signAt method_5_code 4 (some .int) hh_signAt :: TB
theorem dw_signAt_0 : decode method_5_code 0 = .ok (.aload_n 2, 1) := by decide +kernel
theorem dw_signAt_1 : decode method_5_code 1 = .ok (.iconst 0, 1) := by decide +kernel
theorem dw_signAt_2 : decode method_5_code 2 = .ok (.aload_n 0, 1) := by decide +kernel
theorem dw_signAt_3 : decode method_5_code 3 = .ok (.iload_n 1, 1) := by decide +kernel
theorem dw_signAt_4 : decode method_5_code 4 = .ok (.invokevirtual 18, 3) := by decide +kernel
theorem dw_signAt_7 : decode method_5_code 7 = .ok (.i2l, 1) := by decide +kernel
theorem dw_signAt_8 : decode method_5_code 8 = .ok (.lastore, 1) := by decide +kernel
theorem dw_signAt_9 : decode method_5_code 9 = .ok (.goto 6, 3) := by decide +kernel
theorem dw_signAt_12 : decode method_5_code 12 = .ok (.astore_n 3, 1) := by decide +kernel
theorem dw_signAt_13 : decode method_5_code 13 = .ok (.iconst 1, 1) := by decide +kernel
theorem dw_signAt_14 : decode method_5_code 14 = .ok (.ireturn, 1) := by decide +kernel
theorem dw_signAt_15 : decode method_5_code 15 = .ok (.iconst 0, 1) := by decide +kernel
theorem dw_signAt_16 : decode method_5_code 16 = .ok (.ireturn, 1) := by decide +kernel
set_option maxRecDepth 100000 in
theorem okw_signAt : okL "RootDeskLaw" 18 94 1 := okLB_ok (by decide +kernel)
set_option maxRecDepth 100000 in
set_option maxHeartbeats 4000000 in
theorem w_signAt_v {l : Launch} (hl0 : ∀ e : Env, l.admits e → e.platform.stackTraces = false) {x : Int32} (hv : sl x) {v0 : Int64} {D : va_G} {as : List Nat} {tys : List (ClassId × FieldType)} {ws : va_W} {sz a0 o : Nat} (hw : wr as tys (H0 ++ (Ms ++ [outC v0])) ws) (h0 : as[0]? = some a0) (ho : as[662]? = some o) : Met l nw_signAt ws_signAt rmW (va_Pc [.ref a0, .int x, .ref o] (xPre2 D xcl xNN tys ws sz)) (xPost D xcl (va_A ws sz) (asJ as (List.range' 649 14)) (some (.int (nI 0)), mI ++ [outC (0 : Int32).toInt64], 1, 6)) 1 6 (va_A ws sz) := by
  have hc : cR 94 3 100 [.ref 0, .int x] H0 (fun v _ => v = some (.int (0))) := by
    obtain ⟨i, hi, rfl⟩ := hv
    exact k_signAt hi
  refine va_MetW (hh := hh_signAt) (cc := method_5_code) (maxL := 4) (ret := some .int) (by decide) rfl ?_
  intro p e s m args below meth c s₁ b hml hpc
  obtain ⟨rfl, ⟨hsz, hP, hK, hD0, hN⟩, hT⟩ := hpc
  have hts0 := atoms_spec (ws := ws_signAt) b.pre
  have htab : c.exceptionTable.toList = tableOf hh_signAt := by
    obtain ⟨m9, meth9, c9, z1, z2, z3, z4, z5, z6, -⟩ := Cond.codeWith_spec (hts0 _ List.mem_cons_self)
    cases b.named.symm.trans z1
    cases b.method.symm.trans z2
    cases (Stand.of_body b).code.symm.trans z3
    rw [← z6, table_eq]
  subst hsz
  have G : sg D xcl (va_A ws s.heap.size) s (H0 ++ (Ms ++ [outC v0])) as tys ws s.heap [] := ⟨hw, hK, hP, hD0.self, va_S.rf, fun q h => Or.inr h⟩
  have S : CallFix p m c method_5_code 4 s _ TB "RootDeskLaw" := ⟨b.exec, b.bytes, hml, findClass_of_methodNamed b.named, fun w hw => hts0 w (List.mem_cons_of_mem _ hw)⟩
  have hx := b.exec
  have hb := b.bytes
  obtain ⟨vs, hc0⟩ := H0_at0 (t := (Ms ++ [outC v0]))
  have hl := lv_entry ([.ref a0, .int x, .ref o] : List Value) (n := 4) (Nat.le_of_ble_eq_true rfl)
  rw [lg_entry_eq]
  show W p l e rmW s m _ below meth c s.heap [] 0 0 _ _
  refine lv_aload_n hx hb dw_signAt_0 rfl (lv_at hl 2 rfl) ?_
  refine lv_iconst (v := 0) hx hb dw_signAt_1 rfl ?_
  refine lv_aload_n hx hb dw_signAt_2 rfl (lv_at hl 0 rfl) ?_
  refine lv_iload_n hx hb dw_signAt_3 rfl (lv_at hl 1 rfl) ?_
  obtain ⟨v, h', hv', -, hr⟩ := lw_V (p := p) (e := e) (R := rmW) (m := m) (below := below) (meth := meth) (J := List.range' 0 649) (i0 := 0) (ci := 11) (vs := vs) (fb := 11) (lb := 400) (cells := 0) (slots := 0) (pc := 4) (crest := [.int 0, .ref o]) hl0 S hN hT okw_signAt (by decide) (hc) (Nat.le_of_ble_eq_true rfl) (Nat.le_of_ble_eq_true rfl) (Nat.le_of_ble_eq_true rfl) G (cut_pre H0_len H0_bd rfl) (vrs_cr h0 (vrs_ci (rfl))) h0 hc0 rfl (Nat.le_of_ble_eq_true rfl) (Nat.le_of_ble_eq_true rfl) (Nat.le_of_ble_eq_true rfl) (Nat.le_of_ble_eq_true rfl) rfl hl.1 rfl (Nat.le_of_ble_eq_true rfl) dw_signAt_4
  obtain rfl := hv'
  refine lw_drop hr G (ndp_r 649 0) r649_lt cut_K (vrs_cr ho rfl) K_dis (Or.inr ⟨_, rfl⟩) (fun as' tys' ws' H1 locs1 k1 k2 G3 => ?_)
  obtain ⟨o1, t1, e1, hoo, -⟩ := vrs_r k2
  cases e1
  refine lv_i2l (v := (0 : Int32).toInt64) hx hb dw_signAt_7 rfl ?_
  refine sg_last hx hb G3 hoo (i := 13) (x := [v0]) rfl (x_in_ok (n := 1) rfl) dw_signAt_8 (fun ws4 H4 locs4 G4 => ?_)
  refine lv_goto hx hb dw_signAt_9 (tgt := 15) rfl ?_
  refine lv_iconst (v := nI 0) hx hb dw_signAt_15 rfl ?_
  refine W.widen (k := 1) (n := 6) (by omega) (by omega) ?_
  exact W.iret hx hb b.returns (fun t ht hW => ⟨⟨some (.int (nI 0)), as', _, _, rfl, k1, ⟨_, rfl, rfl⟩, G4.1, va_K.moved hW.alike G4.2.1, by rw [ht]; exact G4.2.2.1, G4.2.2.2.1⟩, G4.2.2.2.2.1.F ht⟩) G4.2.2.2.2.1.2.2 dw_signAt_16 b.notSynchronized
set_option maxRecDepth 100000 in
set_option maxHeartbeats 4000000 in
theorem w_signAt_t {l : Launch} (hl0 : ∀ e : Env, l.admits e → e.platform.stackTraces = false) {x : Int32} (hv : ¬ (sl x)) {v0 : Int64} {D : va_G} {as : List Nat} {tys : List (ClassId × FieldType)} {ws : va_W} {sz a0 o : Nat} (hw : wr as tys (H0 ++ (Ms ++ [outC v0])) ws) (h0 : as[0]? = some a0) (ho : as[662]? = some o) : Met l nw_signAt ws_signAt rmW (va_Pc [.ref a0, .int x, .ref o] (xPre2 D xcl xNN tys ws sz)) (xPost D xcl (va_A ws sz) (asJ as (List.range' 649 14)) (some (.int (nI 1)), mI ++ [outC v0], 1, 6)) 1 6 (va_A ws sz) := by
  refine va_MetW (hh := hh_signAt) (cc := method_5_code) (maxL := 4) (ret := some .int) (by decide) rfl ?_
  intro p e s m args below meth c s₁ b hml hpc
  obtain ⟨rfl, ⟨hsz, hP, hK, hD0, hN⟩, hT⟩ := hpc
  have hts0 := atoms_spec (ws := ws_signAt) b.pre
  have htab : c.exceptionTable.toList = tableOf hh_signAt := by
    obtain ⟨m9, meth9, c9, z1, z2, z3, z4, z5, z6, -⟩ := Cond.codeWith_spec (hts0 _ List.mem_cons_self)
    cases b.named.symm.trans z1
    cases b.method.symm.trans z2
    cases (Stand.of_body b).code.symm.trans z3
    rw [← z6, table_eq]
  subst hsz
  have G : sg D xcl (va_A ws s.heap.size) s (H0 ++ (Ms ++ [outC v0])) as tys ws s.heap [] := ⟨hw, hK, hP, hD0.self, va_S.rf, fun q h => Or.inr h⟩
  have S : CallFix p m c method_5_code 4 s _ TB "RootDeskLaw" := ⟨b.exec, b.bytes, hml, findClass_of_methodNamed b.named, fun w hw => hts0 w (List.mem_cons_of_mem _ hw)⟩
  have hx := b.exec
  have hb := b.bytes
  obtain ⟨vs, hc0⟩ := H0_at0 (t := (Ms ++ [outC v0]))
  have hl := lv_entry ([.ref a0, .int x, .ref o] : List Value) (n := 4) (Nat.le_of_ble_eq_true rfl)
  rw [lg_entry_eq]
  show W p l e rmW s m _ below meth c s.heap [] 0 0 _ _
  refine lv_aload_n hx hb dw_signAt_0 rfl (lv_at hl 2 rfl) ?_
  refine lv_iconst (v := 0) hx hb dw_signAt_1 rfl ?_
  refine lv_aload_n hx hb dw_signAt_2 rfl (lv_at hl 0 rfl) ?_
  refine lv_iload_n hx hb dw_signAt_3 rfl (lv_at hl 1 rfl) ?_
  refine lw_T1 (p := p) (e := e) (R := rmW) (m := m) (below := below) (meth := meth) (J := List.range' 0 649) (i0 := 0) (ci := 11) (vs := vs) (fb := 11) (lb := 400) (cells := 0) (slots := 0) (pc := 4) (crest := [.int 0, .ref o]) hl0 S hN hT okw_signAt (by decide) (t_signAt x hv) (Nat.le_of_ble_eq_true rfl) (Nat.le_of_ble_eq_true rfl) (Nat.le_of_ble_eq_true rfl) G (cut_pre H0_len H0_bd rfl) (vrs_cr h0 (vrs_ci (rfl))) h0 hc0 rfl (Nat.le_of_ble_eq_true rfl) (Nat.le_of_ble_eq_true rfl) (Nat.le_of_ble_eq_true rfl) (Nat.le_of_ble_eq_true rfl) rfl hl.1 rfl (Nat.le_of_ble_eq_true rfl) dw_signAt_4 htab rfl (by decide) (inT_ok (w := Cond.classLink "RootDeskLaw" 13 "java/lang/IllegalArgumentException") lk_13) (hT.1 _ (by simp [thV])) (fun xa H1 L hk => ?_)
  have G3 := kept_sg hk G (ndp_r 649 0) r649_lt cut_K (vrs_cr ho rfl) K_dis
  refine lv_astore_n hx hb dw_signAt_12 rfl hl (by decide) rfl (fun ls' hl' => ?_)
  refine lv_iconst (v := (nI 1)) hx hb dw_signAt_13 rfl ?_
  exact W.iret hx hb b.returns (fun t ht hW => ⟨⟨some (.int (nI 1)), _, _, _, rfl, pre_rf, ⟨_, rfl, rfl⟩, G3.1, va_K.moved hW.alike G3.2.1, by rw [ht]; exact G3.2.2.1, G3.2.2.2.1⟩, G3.2.2.2.2.1.F ht⟩) G3.2.2.2.2.1.2.2 dw_signAt_14 b.notSynchronized
def nw_take : MethodName := ⟨"RootDeskLaw", "take", "(LRootDesk;II[J)I"⟩
def hh_take : List (Nat × Nat × Nat × Nat) := [(0, 17, 20, 13)]
def ws_take : List Cond := Cond.codeWith nw_take method_6_code 5 (some .int) hh_take :: TB
theorem dw_take_0 : decode method_6_code 0 = .ok (.aload_n 3, 1) := by decide +kernel
theorem dw_take_1 : decode method_6_code 1 = .ok (.iconst 0, 1) := by decide +kernel
theorem dw_take_2 : decode method_6_code 2 = .ok (.aload_n 0, 1) := by decide +kernel
theorem dw_take_3 : decode method_6_code 3 = .ok (.iload_n 1, 1) := by decide +kernel
theorem dw_take_4 : decode method_6_code 4 = .ok (.iload_n 2, 1) := by decide +kernel
theorem dw_take_5 : decode method_6_code 5 = .ok (.invokevirtual 22, 3) := by decide +kernel
theorem dw_take_8 : decode method_6_code 8 = .ok (.ifCond .eq 7, 3) := by decide +kernel
theorem dw_take_11 : decode method_6_code 11 = .ok (.lconst 1, 1) := by decide +kernel
theorem dw_take_12 : decode method_6_code 12 = .ok (.goto 4, 3) := by decide +kernel
theorem dw_take_15 : decode method_6_code 15 = .ok (.lconst 0, 1) := by decide +kernel
theorem dw_take_16 : decode method_6_code 16 = .ok (.lastore, 1) := by decide +kernel
theorem dw_take_17 : decode method_6_code 17 = .ok (.goto 7, 3) := by decide +kernel
theorem dw_take_20 : decode method_6_code 20 = .ok (.astore 4, 2) := by decide +kernel
theorem dw_take_22 : decode method_6_code 22 = .ok (.iconst 1, 1) := by decide +kernel
theorem dw_take_23 : decode method_6_code 23 = .ok (.ireturn, 1) := by decide +kernel
theorem dw_take_24 : decode method_6_code 24 = .ok (.iconst 0, 1) := by decide +kernel
theorem dw_take_25 : decode method_6_code 25 = .ok (.ireturn, 1) := by decide +kernel
set_option maxRecDepth 100000 in
theorem okw_take : okL "RootDeskLaw" 22 96 2 := okLB_ok (by decide +kernel)
set_option maxRecDepth 100000 in
set_option maxHeartbeats 4000000 in
theorem w_take_v {l : Launch} (hl0 : ∀ e : Env, l.admits e → e.platform.stackTraces = false) {x y : Int32} (hv : sl x) {v0 : Int64} {D : va_G} {as : List Nat} {tys : List (ClassId × FieldType)} {ws : va_W} {sz a0 o : Nat} (hw : wr as tys (H0 ++ (Ms ++ [outC v0])) ws) (h0 : as[0]? = some a0) (ho : as[662]? = some o) : Met l nw_take ws_take rmW (va_Pc [.ref a0, .int x, .int y, .ref o] (xPre2 D xcl xNN tys ws sz)) (xPost D xcl (va_A ws sz) (asJ as (List.range' 649 14)) (some (.int (nI 0)), mI ++ [outC 0], 1, 6)) 1 6 (va_A ws sz) := by
  have hc : cR 96 3 100 [.ref 0, .int x, .int y] H0 (fun v _ => v = some (.int (nI 0))) := by
    obtain ⟨i, hi, rfl⟩ := hv
    exact k_take hi y
  refine va_MetW (hh := hh_take) (cc := method_6_code) (maxL := 5) (ret := some .int) (by decide) rfl ?_
  intro p e s m args below meth c s₁ b hml hpc
  obtain ⟨rfl, ⟨hsz, hP, hK, hD0, hN⟩, hT⟩ := hpc
  have hts0 := atoms_spec (ws := ws_take) b.pre
  have htab : c.exceptionTable.toList = tableOf hh_take := by
    obtain ⟨m9, meth9, c9, z1, z2, z3, z4, z5, z6, -⟩ := Cond.codeWith_spec (hts0 _ List.mem_cons_self)
    cases b.named.symm.trans z1
    cases b.method.symm.trans z2
    cases (Stand.of_body b).code.symm.trans z3
    rw [← z6, table_eq]
  subst hsz
  have G : sg D xcl (va_A ws s.heap.size) s (H0 ++ (Ms ++ [outC v0])) as tys ws s.heap [] := ⟨hw, hK, hP, hD0.self, va_S.rf, fun q h => Or.inr h⟩
  have S : CallFix p m c method_6_code 5 s _ TB "RootDeskLaw" := ⟨b.exec, b.bytes, hml, findClass_of_methodNamed b.named, fun w hw => hts0 w (List.mem_cons_of_mem _ hw)⟩
  have hx := b.exec
  have hb := b.bytes
  obtain ⟨vs, hc0⟩ := H0_at0 (t := (Ms ++ [outC v0]))
  have hl := lv_entry ([.ref a0, .int x, .int y, .ref o] : List Value) (n := 5) (Nat.le_of_ble_eq_true rfl)
  rw [lg_entry_eq]
  show W p l e rmW s m _ below meth c s.heap [] 0 0 _ _
  refine lv_aload_n hx hb dw_take_0 rfl (lv_at hl 3 rfl) ?_
  refine lv_iconst (v := 0) hx hb dw_take_1 rfl ?_
  refine lv_aload_n hx hb dw_take_2 rfl (lv_at hl 0 rfl) ?_
  refine lv_iload_n hx hb dw_take_3 rfl (lv_at hl 1 rfl) ?_
  refine lv_iload_n hx hb dw_take_4 rfl (lv_at hl 2 rfl) ?_
  obtain ⟨v, h', hv', -, hr⟩ := lw_V (p := p) (e := e) (R := rmW) (m := m) (below := below) (meth := meth) (J := List.range' 0 649) (i0 := 0) (ci := 11) (vs := vs) (fb := 11) (lb := 400) (cells := 0) (slots := 0) (pc := 5) (crest := [.int 0, .ref o]) hl0 S hN hT okw_take (by decide) (hc) (Nat.le_of_ble_eq_true rfl) (Nat.le_of_ble_eq_true rfl) (Nat.le_of_ble_eq_true rfl) G (cut_pre H0_len H0_bd rfl) (vrs_cr h0 (vrs_ci (vrs_ci (rfl)))) h0 hc0 rfl (Nat.le_of_ble_eq_true rfl) (Nat.le_of_ble_eq_true rfl) (Nat.le_of_ble_eq_true rfl) (Nat.le_of_ble_eq_true rfl) rfl hl.1 rfl (Nat.le_of_ble_eq_true rfl) dw_take_5
  obtain rfl := hv'
  refine lw_drop hr G (ndp_r 649 0) r649_lt cut_K (vrs_cr ho rfl) K_dis (Or.inr ⟨_, rfl⟩) (fun as' tys' ws' H1 locs1 k1 k2 G3 => ?_)
  obtain ⟨o1, t1, e1, hoo, -⟩ := vrs_r k2
  cases e1
  refine lv_if_eq hx hb dw_take_8 (tgt := 15) rfl (fun _ => ?_) (fun z => absurd (show nI 0 = 0 by decide) z)
  refine lv_lconst (v := 0) hx hb dw_take_15 rfl ?_
  refine sg_last hx hb G3 hoo (i := 13) (x := [v0]) rfl (x_in_ok (n := 1) rfl) dw_take_16 (fun ws4 H4 locs4 G4 => ?_)
  refine lv_goto hx hb dw_take_17 (tgt := 24) rfl ?_
  refine lv_iconst (v := nI 0) hx hb dw_take_24 rfl ?_
  refine W.widen (k := 1) (n := 6) (by omega) (by omega) ?_
  exact W.iret hx hb b.returns (fun t ht hW => ⟨⟨some (.int (nI 0)), as', _, _, rfl, k1, ⟨_, rfl, rfl⟩, G4.1, va_K.moved hW.alike G4.2.1, by rw [ht]; exact G4.2.2.1, G4.2.2.2.1⟩, G4.2.2.2.2.1.F ht⟩) G4.2.2.2.2.1.2.2 dw_take_25 b.notSynchronized
set_option maxRecDepth 100000 in
set_option maxHeartbeats 4000000 in
theorem w_take_t {l : Launch} (hl0 : ∀ e : Env, l.admits e → e.platform.stackTraces = false) {x y : Int32} (hv : ¬ (sl x)) {v0 : Int64} {D : va_G} {as : List Nat} {tys : List (ClassId × FieldType)} {ws : va_W} {sz a0 o : Nat} (hw : wr as tys (H0 ++ (Ms ++ [outC v0])) ws) (h0 : as[0]? = some a0) (ho : as[662]? = some o) : Met l nw_take ws_take rmW (va_Pc [.ref a0, .int x, .int y, .ref o] (xPre2 D xcl xNN tys ws sz)) (xPost D xcl (va_A ws sz) (asJ as (List.range' 649 14)) (some (.int (nI 1)), mI ++ [outC v0], 1, 6)) 1 6 (va_A ws sz) := by
  refine va_MetW (hh := hh_take) (cc := method_6_code) (maxL := 5) (ret := some .int) (by decide) rfl ?_
  intro p e s m args below meth c s₁ b hml hpc
  obtain ⟨rfl, ⟨hsz, hP, hK, hD0, hN⟩, hT⟩ := hpc
  have hts0 := atoms_spec (ws := ws_take) b.pre
  have htab : c.exceptionTable.toList = tableOf hh_take := by
    obtain ⟨m9, meth9, c9, z1, z2, z3, z4, z5, z6, -⟩ := Cond.codeWith_spec (hts0 _ List.mem_cons_self)
    cases b.named.symm.trans z1
    cases b.method.symm.trans z2
    cases (Stand.of_body b).code.symm.trans z3
    rw [← z6, table_eq]
  subst hsz
  have G : sg D xcl (va_A ws s.heap.size) s (H0 ++ (Ms ++ [outC v0])) as tys ws s.heap [] := ⟨hw, hK, hP, hD0.self, va_S.rf, fun q h => Or.inr h⟩
  have S : CallFix p m c method_6_code 5 s _ TB "RootDeskLaw" := ⟨b.exec, b.bytes, hml, findClass_of_methodNamed b.named, fun w hw => hts0 w (List.mem_cons_of_mem _ hw)⟩
  have hx := b.exec
  have hb := b.bytes
  obtain ⟨vs, hc0⟩ := H0_at0 (t := (Ms ++ [outC v0]))
  have hl := lv_entry ([.ref a0, .int x, .int y, .ref o] : List Value) (n := 5) (Nat.le_of_ble_eq_true rfl)
  rw [lg_entry_eq]
  show W p l e rmW s m _ below meth c s.heap [] 0 0 _ _
  refine lv_aload_n hx hb dw_take_0 rfl (lv_at hl 3 rfl) ?_
  refine lv_iconst (v := 0) hx hb dw_take_1 rfl ?_
  refine lv_aload_n hx hb dw_take_2 rfl (lv_at hl 0 rfl) ?_
  refine lv_iload_n hx hb dw_take_3 rfl (lv_at hl 1 rfl) ?_
  refine lv_iload_n hx hb dw_take_4 rfl (lv_at hl 2 rfl) ?_
  refine lw_T1 (p := p) (e := e) (R := rmW) (m := m) (below := below) (meth := meth) (J := List.range' 0 649) (i0 := 0) (ci := 11) (vs := vs) (fb := 11) (lb := 400) (cells := 0) (slots := 0) (pc := 5) (crest := [.int 0, .ref o]) hl0 S hN hT okw_take (by decide) (t_take x y hv) (Nat.le_of_ble_eq_true rfl) (Nat.le_of_ble_eq_true rfl) (Nat.le_of_ble_eq_true rfl) G (cut_pre H0_len H0_bd rfl) (vrs_cr h0 (vrs_ci (vrs_ci (rfl)))) h0 hc0 rfl (Nat.le_of_ble_eq_true rfl) (Nat.le_of_ble_eq_true rfl) (Nat.le_of_ble_eq_true rfl) (Nat.le_of_ble_eq_true rfl) rfl hl.1 rfl (Nat.le_of_ble_eq_true rfl) dw_take_5 htab rfl (by decide) (inT_ok (w := Cond.classLink "RootDeskLaw" 13 "java/lang/IllegalArgumentException") lk_13) (hT.1 _ (by simp [thV])) (fun xa H1 L hk => ?_)
  have G3 := kept_sg hk G (ndp_r 649 0) r649_lt cut_K (vrs_cr ho rfl) K_dis
  refine lv_astore hx hb dw_take_20 hl (by decide) rfl (fun ls' hl' => ?_)
  refine lv_iconst (v := (nI 1)) hx hb dw_take_22 rfl ?_
  exact W.iret hx hb b.returns (fun t ht hW => ⟨⟨some (.int (nI 1)), _, _, _, rfl, pre_rf, ⟨_, rfl, rfl⟩, G3.1, va_K.moved hW.alike G3.2.1, by rw [ht]; exact G3.2.2.1, G3.2.2.2.1⟩, G3.2.2.2.2.1.F ht⟩) G3.2.2.2.2.1.2.2 dw_take_23 b.notSynchronized
def nw_fraction : MethodName := ⟨"RootDeskLaw", "fraction", "(LRootDesk;III)I"⟩
def hh_fraction : List (Nat × Nat × Nat × Nat) := [(0, 7, 10, 13)]
def ws_fraction : List Cond := Cond.codeWith nw_fraction method_7_code 5 (some .int) hh_fraction :: TB
theorem dw_fraction_0 : decode method_7_code 0 = .ok (.aload_n 0, 1) := by decide +kernel
theorem dw_fraction_1 : decode method_7_code 1 = .ok (.iload_n 1, 1) := by decide +kernel
theorem dw_fraction_2 : decode method_7_code 2 = .ok (.iload_n 2, 1) := by decide +kernel
theorem dw_fraction_3 : decode method_7_code 3 = .ok (.iload_n 3, 1) := by decide +kernel
theorem dw_fraction_4 : decode method_7_code 4 = .ok (.invokevirtual 26, 3) := by decide +kernel
theorem dw_fraction_7 : decode method_7_code 7 = .ok (.goto 7, 3) := by decide +kernel
theorem dw_fraction_10 : decode method_7_code 10 = .ok (.astore 4, 2) := by decide +kernel
theorem dw_fraction_12 : decode method_7_code 12 = .ok (.iconst 1, 1) := by decide +kernel
theorem dw_fraction_13 : decode method_7_code 13 = .ok (.ireturn, 1) := by decide +kernel
theorem dw_fraction_14 : decode method_7_code 14 = .ok (.iconst 0, 1) := by decide +kernel
theorem dw_fraction_15 : decode method_7_code 15 = .ok (.ireturn, 1) := by decide +kernel
set_option maxRecDepth 100000 in
theorem okw_fraction : okL "RootDeskLaw" 26 98 3 := okLB_ok (by decide +kernel)
set_option maxRecDepth 100000 in
set_option maxHeartbeats 4000000 in
theorem w_fraction_v {l : Launch} (hl0 : ∀ e : Env, l.admits e → e.platform.stackTraces = false) {x y z : Int32} (hv : sl x ∧ ¬ y < -1000000 ∧ ¬ 1000000 < y ∧ ¬ z < nI 1 ∧ ¬ 1000000 < z) {v0 : Int64} {D : va_G} {as : List Nat} {tys : List (ClassId × FieldType)} {ws : va_W} {sz a0 o : Nat} (hw : wr as tys (H0 ++ (Ms ++ [outC v0])) ws) (h0 : as[0]? = some a0) (ho : as[662]? = some o) : Met l nw_fraction ws_fraction rmW (va_Pc [.ref a0, .int x, .int y, .int z] (xPre2 D xcl xNN tys ws sz)) (xPost D xcl (va_A ws sz) (asJ as (List.range' 649 14)) (some (.int (nI 0)), mI ++ [outC v0], 1, 6)) 1 6 (va_A ws sz) := by
  have hc : cR 98 6 200 [.ref 0, .int x, .int y, .int z] H0 (fun v _ => v = none) := by
    obtain ⟨⟨i, hi, rfl⟩, h1, h2, h3, h4⟩ := hv
    exact k_fraction hi h1 h2 h3 h4
  refine va_MetW (hh := hh_fraction) (cc := method_7_code) (maxL := 5) (ret := some .int) (by decide) rfl ?_
  intro p e s m args below meth c s₁ b hml hpc
  obtain ⟨rfl, ⟨hsz, hP, hK, hD0, hN⟩, hT⟩ := hpc
  have hts0 := atoms_spec (ws := ws_fraction) b.pre
  have htab : c.exceptionTable.toList = tableOf hh_fraction := by
    obtain ⟨m9, meth9, c9, z1, z2, z3, z4, z5, z6, -⟩ := Cond.codeWith_spec (hts0 _ List.mem_cons_self)
    cases b.named.symm.trans z1
    cases b.method.symm.trans z2
    cases (Stand.of_body b).code.symm.trans z3
    rw [← z6, table_eq]
  subst hsz
  have G : sg D xcl (va_A ws s.heap.size) s (H0 ++ (Ms ++ [outC v0])) as tys ws s.heap [] := ⟨hw, hK, hP, hD0.self, va_S.rf, fun q h => Or.inr h⟩
  have S : CallFix p m c method_7_code 5 s _ TB "RootDeskLaw" := ⟨b.exec, b.bytes, hml, findClass_of_methodNamed b.named, fun w hw => hts0 w (List.mem_cons_of_mem _ hw)⟩
  have hx := b.exec
  have hb := b.bytes
  obtain ⟨vs, hc0⟩ := H0_at0 (t := (Ms ++ [outC v0]))
  have hl := lv_entry ([.ref a0, .int x, .int y, .int z] : List Value) (n := 5) (Nat.le_of_ble_eq_true rfl)
  rw [lg_entry_eq]
  show W p l e rmW s m _ below meth c s.heap [] 0 0 _ _
  refine lv_aload_n hx hb dw_fraction_0 rfl (lv_at hl 0 rfl) ?_
  refine lv_iload_n hx hb dw_fraction_1 rfl (lv_at hl 1 rfl) ?_
  refine lv_iload_n hx hb dw_fraction_2 rfl (lv_at hl 2 rfl) ?_
  refine lv_iload_n hx hb dw_fraction_3 rfl (lv_at hl 3 rfl) ?_
  obtain ⟨v, h', hv', -, hr⟩ := lw_V (p := p) (e := e) (R := rmW) (m := m) (below := below) (meth := meth) (J := List.range' 0 649) (i0 := 0) (ci := 11) (vs := vs) (fb := 11) (lb := 400) (cells := 0) (slots := 0) (pc := 4) (crest := []) hl0 S hN hT okw_fraction (by decide) (hc) (Nat.le_of_ble_eq_true rfl) (Nat.le_of_ble_eq_true rfl) (Nat.le_of_ble_eq_true rfl) G (cut_pre H0_len H0_bd rfl) (vrs_cr h0 (vrs_ci (vrs_ci (vrs_ci (rfl))))) h0 hc0 rfl (Nat.le_of_ble_eq_true rfl) (Nat.le_of_ble_eq_true rfl) (Nat.le_of_ble_eq_true rfl) (Nat.le_of_ble_eq_true rfl) rfl hl.1 rfl (Nat.le_of_ble_eq_true rfl) dw_fraction_4
  obtain rfl := hv'
  refine lw_drop hr G (ndp_r 649 0) r649_lt cut_K (vrs_cr ho rfl) K_dis (Or.inl rfl) (fun as' tys' ws' H1 locs1 k1 k2 G3 => ?_)
  refine lv_goto hx hb dw_fraction_7 (tgt := 14) rfl ?_
  refine lv_iconst (v := nI 0) hx hb dw_fraction_14 rfl ?_
  refine W.widen (k := 1) (n := 6) (by omega) (by omega) ?_
  exact W.iret hx hb b.returns (fun t ht hW => ⟨⟨some (.int (nI 0)), as', _, _, rfl, k1, ⟨_, rfl, rfl⟩, G3.1, va_K.moved hW.alike G3.2.1, by rw [ht]; exact G3.2.2.1, G3.2.2.2.1⟩, G3.2.2.2.2.1.F ht⟩) G3.2.2.2.2.1.2.2 dw_fraction_15 b.notSynchronized
set_option maxRecDepth 100000 in
set_option maxHeartbeats 4000000 in
theorem w_fraction_t {l : Launch} (hl0 : ∀ e : Env, l.admits e → e.platform.stackTraces = false) {x y z : Int32} (hv : ¬ (sl x ∧ ¬ y < -1000000 ∧ ¬ 1000000 < y ∧ ¬ z < nI 1 ∧ ¬ 1000000 < z)) {v0 : Int64} {D : va_G} {as : List Nat} {tys : List (ClassId × FieldType)} {ws : va_W} {sz a0 o : Nat} (hw : wr as tys (H0 ++ (Ms ++ [outC v0])) ws) (h0 : as[0]? = some a0) (ho : as[662]? = some o) : Met l nw_fraction ws_fraction rmW (va_Pc [.ref a0, .int x, .int y, .int z] (xPre2 D xcl xNN tys ws sz)) (xPost D xcl (va_A ws sz) (asJ as (List.range' 649 14)) (some (.int (nI 1)), mI ++ [outC v0], 1, 6)) 1 6 (va_A ws sz) := by
  refine va_MetW (hh := hh_fraction) (cc := method_7_code) (maxL := 5) (ret := some .int) (by decide) rfl ?_
  intro p e s m args below meth c s₁ b hml hpc
  obtain ⟨rfl, ⟨hsz, hP, hK, hD0, hN⟩, hT⟩ := hpc
  have hts0 := atoms_spec (ws := ws_fraction) b.pre
  have htab : c.exceptionTable.toList = tableOf hh_fraction := by
    obtain ⟨m9, meth9, c9, z1, z2, z3, z4, z5, z6, -⟩ := Cond.codeWith_spec (hts0 _ List.mem_cons_self)
    cases b.named.symm.trans z1
    cases b.method.symm.trans z2
    cases (Stand.of_body b).code.symm.trans z3
    rw [← z6, table_eq]
  subst hsz
  have G : sg D xcl (va_A ws s.heap.size) s (H0 ++ (Ms ++ [outC v0])) as tys ws s.heap [] := ⟨hw, hK, hP, hD0.self, va_S.rf, fun q h => Or.inr h⟩
  have S : CallFix p m c method_7_code 5 s _ TB "RootDeskLaw" := ⟨b.exec, b.bytes, hml, findClass_of_methodNamed b.named, fun w hw => hts0 w (List.mem_cons_of_mem _ hw)⟩
  have hx := b.exec
  have hb := b.bytes
  obtain ⟨vs, hc0⟩ := H0_at0 (t := (Ms ++ [outC v0]))
  have hl := lv_entry ([.ref a0, .int x, .int y, .int z] : List Value) (n := 5) (Nat.le_of_ble_eq_true rfl)
  rw [lg_entry_eq]
  show W p l e rmW s m _ below meth c s.heap [] 0 0 _ _
  refine lv_aload_n hx hb dw_fraction_0 rfl (lv_at hl 0 rfl) ?_
  refine lv_iload_n hx hb dw_fraction_1 rfl (lv_at hl 1 rfl) ?_
  refine lv_iload_n hx hb dw_fraction_2 rfl (lv_at hl 2 rfl) ?_
  refine lv_iload_n hx hb dw_fraction_3 rfl (lv_at hl 3 rfl) ?_
  refine lw_T1 (p := p) (e := e) (R := rmW) (m := m) (below := below) (meth := meth) (J := List.range' 0 649) (i0 := 0) (ci := 11) (vs := vs) (fb := 11) (lb := 400) (cells := 0) (slots := 0) (pc := 4) (crest := []) hl0 S hN hT okw_fraction (by decide) (t_fraction x y z hv) (Nat.le_of_ble_eq_true rfl) (Nat.le_of_ble_eq_true rfl) (Nat.le_of_ble_eq_true rfl) G (cut_pre H0_len H0_bd rfl) (vrs_cr h0 (vrs_ci (vrs_ci (vrs_ci (rfl))))) h0 hc0 rfl (Nat.le_of_ble_eq_true rfl) (Nat.le_of_ble_eq_true rfl) (Nat.le_of_ble_eq_true rfl) (Nat.le_of_ble_eq_true rfl) rfl hl.1 rfl (Nat.le_of_ble_eq_true rfl) dw_fraction_4 htab rfl (by decide) (inT_ok (w := Cond.classLink "RootDeskLaw" 13 "java/lang/IllegalArgumentException") lk_13) (hT.1 _ (by simp [thV])) (fun xa H1 L hk => ?_)
  have G3 := kept_sg hk G (ndp_r 649 0) r649_lt cut_K (vrs_cr ho rfl) K_dis
  refine lv_astore hx hb dw_fraction_10 hl (by decide) rfl (fun ls' hl' => ?_)
  refine lv_iconst (v := (nI 1)) hx hb dw_fraction_12 rfl ?_
  exact W.iret hx hb b.returns (fun t ht hW => ⟨⟨some (.int (nI 1)), _, _, _, rfl, pre_rf, ⟨_, rfl, rfl⟩, G3.1, va_K.moved hW.alike G3.2.1, by rw [ht]; exact G3.2.2.1, G3.2.2.2.1⟩, G3.2.2.2.2.1.F ht⟩) G3.2.2.2.2.1.2.2 dw_fraction_13 b.notSynchronized
def nw_copy : MethodName := ⟨"RootDeskLaw", "copy", "(LRootDesk;II)I"⟩
def hh_copy : List (Nat × Nat × Nat × Nat) := [(0, 6, 9, 13)]
def ws_copy : List Cond := Cond.codeWith nw_copy method_8_code 4 (some .int) hh_copy :: TB
theorem dw_copy_0 : decode method_8_code 0 = .ok (.aload_n 0, 1) := by decide +kernel
theorem dw_copy_1 : decode method_8_code 1 = .ok (.iload_n 1, 1) := by decide +kernel
theorem dw_copy_2 : decode method_8_code 2 = .ok (.iload_n 2, 1) := by decide +kernel
theorem dw_copy_3 : decode method_8_code 3 = .ok (.invokevirtual 30, 3) := by decide +kernel
theorem dw_copy_6 : decode method_8_code 6 = .ok (.goto 6, 3) := by decide +kernel
theorem dw_copy_9 : decode method_8_code 9 = .ok (.astore_n 3, 1) := by decide +kernel
theorem dw_copy_10 : decode method_8_code 10 = .ok (.iconst 1, 1) := by decide +kernel
theorem dw_copy_11 : decode method_8_code 11 = .ok (.ireturn, 1) := by decide +kernel
theorem dw_copy_12 : decode method_8_code 12 = .ok (.iconst 0, 1) := by decide +kernel
theorem dw_copy_13 : decode method_8_code 13 = .ok (.ireturn, 1) := by decide +kernel
set_option maxRecDepth 100000 in
theorem okw_copy : okL "RootDeskLaw" 30 102 2 := okLB_ok (by decide +kernel)
set_option maxRecDepth 100000 in
set_option maxHeartbeats 4000000 in
theorem w_copy_v {l : Launch} (hl0 : ∀ e : Env, l.admits e → e.platform.stackTraces = false) {x y : Int32} (hv : sl x ∧ sl y) {v0 : Int64} {D : va_G} {as : List Nat} {tys : List (ClassId × FieldType)} {ws : va_W} {sz a0 o : Nat} (hw : wr as tys (H0 ++ (Ms ++ [outC v0])) ws) (h0 : as[0]? = some a0) (ho : as[662]? = some o) : Met l nw_copy ws_copy rmW (va_Pc [.ref a0, .int x, .int y] (xPre2 D xcl xNN tys ws sz)) (xPost D xcl (va_A ws sz) (asJ as (List.range' 649 14)) (some (.int (nI 0)), mI ++ [outC v0], 1, 6)) 1 6 (va_A ws sz) := by
  have hc : cR 102 6 200 [.ref 0, .int x, .int y] H0 (fun v _ => v = none) := by
    obtain ⟨⟨i, hi, rfl⟩, j, hj, rfl⟩ := hv
    exact k_copy hi hj
  refine va_MetW (hh := hh_copy) (cc := method_8_code) (maxL := 4) (ret := some .int) (by decide) rfl ?_
  intro p e s m args below meth c s₁ b hml hpc
  obtain ⟨rfl, ⟨hsz, hP, hK, hD0, hN⟩, hT⟩ := hpc
  have hts0 := atoms_spec (ws := ws_copy) b.pre
  have htab : c.exceptionTable.toList = tableOf hh_copy := by
    obtain ⟨m9, meth9, c9, z1, z2, z3, z4, z5, z6, -⟩ := Cond.codeWith_spec (hts0 _ List.mem_cons_self)
    cases b.named.symm.trans z1
    cases b.method.symm.trans z2
    cases (Stand.of_body b).code.symm.trans z3
    rw [← z6, table_eq]
  subst hsz
  have G : sg D xcl (va_A ws s.heap.size) s (H0 ++ (Ms ++ [outC v0])) as tys ws s.heap [] := ⟨hw, hK, hP, hD0.self, va_S.rf, fun q h => Or.inr h⟩
  have S : CallFix p m c method_8_code 4 s _ TB "RootDeskLaw" := ⟨b.exec, b.bytes, hml, findClass_of_methodNamed b.named, fun w hw => hts0 w (List.mem_cons_of_mem _ hw)⟩
  have hx := b.exec
  have hb := b.bytes
  obtain ⟨vs, hc0⟩ := H0_at0 (t := (Ms ++ [outC v0]))
  have hl := lv_entry ([.ref a0, .int x, .int y] : List Value) (n := 4) (Nat.le_of_ble_eq_true rfl)
  rw [lg_entry_eq]
  show W p l e rmW s m _ below meth c s.heap [] 0 0 _ _
  refine lv_aload_n hx hb dw_copy_0 rfl (lv_at hl 0 rfl) ?_
  refine lv_iload_n hx hb dw_copy_1 rfl (lv_at hl 1 rfl) ?_
  refine lv_iload_n hx hb dw_copy_2 rfl (lv_at hl 2 rfl) ?_
  obtain ⟨v, h', hv', -, hr⟩ := lw_V (p := p) (e := e) (R := rmW) (m := m) (below := below) (meth := meth) (J := List.range' 0 649) (i0 := 0) (ci := 11) (vs := vs) (fb := 11) (lb := 400) (cells := 0) (slots := 0) (pc := 3) (crest := []) hl0 S hN hT okw_copy (by decide) (hc) (Nat.le_of_ble_eq_true rfl) (Nat.le_of_ble_eq_true rfl) (Nat.le_of_ble_eq_true rfl) G (cut_pre H0_len H0_bd rfl) (vrs_cr h0 (vrs_ci (vrs_ci (rfl)))) h0 hc0 rfl (Nat.le_of_ble_eq_true rfl) (Nat.le_of_ble_eq_true rfl) (Nat.le_of_ble_eq_true rfl) (Nat.le_of_ble_eq_true rfl) rfl hl.1 rfl (Nat.le_of_ble_eq_true rfl) dw_copy_3
  obtain rfl := hv'
  refine lw_drop hr G (ndp_r 649 0) r649_lt cut_K (vrs_cr ho rfl) K_dis (Or.inl rfl) (fun as' tys' ws' H1 locs1 k1 k2 G3 => ?_)
  refine lv_goto hx hb dw_copy_6 (tgt := 12) rfl ?_
  refine lv_iconst (v := nI 0) hx hb dw_copy_12 rfl ?_
  refine W.widen (k := 1) (n := 6) (by omega) (by omega) ?_
  exact W.iret hx hb b.returns (fun t ht hW => ⟨⟨some (.int (nI 0)), as', _, _, rfl, k1, ⟨_, rfl, rfl⟩, G3.1, va_K.moved hW.alike G3.2.1, by rw [ht]; exact G3.2.2.1, G3.2.2.2.1⟩, G3.2.2.2.2.1.F ht⟩) G3.2.2.2.2.1.2.2 dw_copy_13 b.notSynchronized
set_option maxRecDepth 100000 in
set_option maxHeartbeats 4000000 in
theorem w_copy_t {l : Launch} (hl0 : ∀ e : Env, l.admits e → e.platform.stackTraces = false) {x y : Int32} (hv : ¬ (sl x ∧ sl y)) {v0 : Int64} {D : va_G} {as : List Nat} {tys : List (ClassId × FieldType)} {ws : va_W} {sz a0 o : Nat} (hw : wr as tys (H0 ++ (Ms ++ [outC v0])) ws) (h0 : as[0]? = some a0) (ho : as[662]? = some o) : Met l nw_copy ws_copy rmW (va_Pc [.ref a0, .int x, .int y] (xPre2 D xcl xNN tys ws sz)) (xPost D xcl (va_A ws sz) (asJ as (List.range' 649 14)) (some (.int (nI 1)), mI ++ [outC v0], 1, 6)) 1 6 (va_A ws sz) := by
  refine va_MetW (hh := hh_copy) (cc := method_8_code) (maxL := 4) (ret := some .int) (by decide) rfl ?_
  intro p e s m args below meth c s₁ b hml hpc
  obtain ⟨rfl, ⟨hsz, hP, hK, hD0, hN⟩, hT⟩ := hpc
  have hts0 := atoms_spec (ws := ws_copy) b.pre
  have htab : c.exceptionTable.toList = tableOf hh_copy := by
    obtain ⟨m9, meth9, c9, z1, z2, z3, z4, z5, z6, -⟩ := Cond.codeWith_spec (hts0 _ List.mem_cons_self)
    cases b.named.symm.trans z1
    cases b.method.symm.trans z2
    cases (Stand.of_body b).code.symm.trans z3
    rw [← z6, table_eq]
  subst hsz
  have G : sg D xcl (va_A ws s.heap.size) s (H0 ++ (Ms ++ [outC v0])) as tys ws s.heap [] := ⟨hw, hK, hP, hD0.self, va_S.rf, fun q h => Or.inr h⟩
  have S : CallFix p m c method_8_code 4 s _ TB "RootDeskLaw" := ⟨b.exec, b.bytes, hml, findClass_of_methodNamed b.named, fun w hw => hts0 w (List.mem_cons_of_mem _ hw)⟩
  have hx := b.exec
  have hb := b.bytes
  obtain ⟨vs, hc0⟩ := H0_at0 (t := (Ms ++ [outC v0]))
  have hl := lv_entry ([.ref a0, .int x, .int y] : List Value) (n := 4) (Nat.le_of_ble_eq_true rfl)
  rw [lg_entry_eq]
  show W p l e rmW s m _ below meth c s.heap [] 0 0 _ _
  refine lv_aload_n hx hb dw_copy_0 rfl (lv_at hl 0 rfl) ?_
  refine lv_iload_n hx hb dw_copy_1 rfl (lv_at hl 1 rfl) ?_
  refine lv_iload_n hx hb dw_copy_2 rfl (lv_at hl 2 rfl) ?_
  refine lw_T1 (p := p) (e := e) (R := rmW) (m := m) (below := below) (meth := meth) (J := List.range' 0 649) (i0 := 0) (ci := 11) (vs := vs) (fb := 11) (lb := 400) (cells := 0) (slots := 0) (pc := 3) (crest := []) hl0 S hN hT okw_copy (by decide) (t_copy x y hv) (Nat.le_of_ble_eq_true rfl) (Nat.le_of_ble_eq_true rfl) (Nat.le_of_ble_eq_true rfl) G (cut_pre H0_len H0_bd rfl) (vrs_cr h0 (vrs_ci (vrs_ci (rfl)))) h0 hc0 rfl (Nat.le_of_ble_eq_true rfl) (Nat.le_of_ble_eq_true rfl) (Nat.le_of_ble_eq_true rfl) (Nat.le_of_ble_eq_true rfl) rfl hl.1 rfl (Nat.le_of_ble_eq_true rfl) dw_copy_3 htab rfl (by decide) (inT_ok (w := Cond.classLink "RootDeskLaw" 13 "java/lang/IllegalArgumentException") lk_13) (hT.1 _ (by simp [thV])) (fun xa H1 L hk => ?_)
  have G3 := kept_sg hk G (ndp_r 649 0) r649_lt cut_K (vrs_cr ho rfl) K_dis
  refine lv_astore_n hx hb dw_copy_9 rfl hl (by decide) rfl (fun ls' hl' => ?_)
  refine lv_iconst (v := (nI 1)) hx hb dw_copy_10 rfl ?_
  exact W.iret hx hb b.returns (fun t ht hW => ⟨⟨some (.int (nI 1)), _, _, _, rfl, pre_rf, ⟨_, rfl, rfl⟩, G3.1, va_K.moved hW.alike G3.2.1, by rw [ht]; exact G3.2.2.1, G3.2.2.2.1⟩, G3.2.2.2.2.1.F ht⟩) G3.2.2.2.2.1.2.2 dw_copy_11 b.notSynchronized
def nw_negate : MethodName := ⟨"RootDeskLaw", "negate", "(LRootDesk;II)I"⟩
def hh_negate : List (Nat × Nat × Nat × Nat) := [(0, 6, 9, 13)]
def ws_negate : List Cond := Cond.codeWith nw_negate method_9_code 4 (some .int) hh_negate :: TB
theorem dw_negate_0 : decode method_9_code 0 = .ok (.aload_n 0, 1) := by decide +kernel
theorem dw_negate_1 : decode method_9_code 1 = .ok (.iload_n 1, 1) := by decide +kernel
theorem dw_negate_2 : decode method_9_code 2 = .ok (.iload_n 2, 1) := by decide +kernel
theorem dw_negate_3 : decode method_9_code 3 = .ok (.invokevirtual 34, 3) := by decide +kernel
theorem dw_negate_6 : decode method_9_code 6 = .ok (.goto 6, 3) := by decide +kernel
theorem dw_negate_9 : decode method_9_code 9 = .ok (.astore_n 3, 1) := by decide +kernel
theorem dw_negate_10 : decode method_9_code 10 = .ok (.iconst 1, 1) := by decide +kernel
theorem dw_negate_11 : decode method_9_code 11 = .ok (.ireturn, 1) := by decide +kernel
theorem dw_negate_12 : decode method_9_code 12 = .ok (.iconst 0, 1) := by decide +kernel
theorem dw_negate_13 : decode method_9_code 13 = .ok (.ireturn, 1) := by decide +kernel
set_option maxRecDepth 100000 in
theorem okw_negate : okL "RootDeskLaw" 34 103 2 := okLB_ok (by decide +kernel)
set_option maxRecDepth 100000 in
set_option maxHeartbeats 4000000 in
theorem w_negate_v {l : Launch} (hl0 : ∀ e : Env, l.admits e → e.platform.stackTraces = false) {x y : Int32} (hv : sl x ∧ sl y) {v0 : Int64} {D : va_G} {as : List Nat} {tys : List (ClassId × FieldType)} {ws : va_W} {sz a0 o : Nat} (hw : wr as tys (H0 ++ (Ms ++ [outC v0])) ws) (h0 : as[0]? = some a0) (ho : as[662]? = some o) : Met l nw_negate ws_negate rmW (va_Pc [.ref a0, .int x, .int y] (xPre2 D xcl xNN tys ws sz)) (xPost D xcl (va_A ws sz) (asJ as (List.range' 649 14)) (some (.int (nI 0)), mI ++ [outC v0], 1, 6)) 1 6 (va_A ws sz) := by
  have hc : cR 103 7 250 [.ref 0, .int x, .int y] H0 (fun v _ => v = none) := by
    obtain ⟨⟨i, hi, rfl⟩, j, hj, rfl⟩ := hv
    exact k_negate hi hj
  refine va_MetW (hh := hh_negate) (cc := method_9_code) (maxL := 4) (ret := some .int) (by decide) rfl ?_
  intro p e s m args below meth c s₁ b hml hpc
  obtain ⟨rfl, ⟨hsz, hP, hK, hD0, hN⟩, hT⟩ := hpc
  have hts0 := atoms_spec (ws := ws_negate) b.pre
  have htab : c.exceptionTable.toList = tableOf hh_negate := by
    obtain ⟨m9, meth9, c9, z1, z2, z3, z4, z5, z6, -⟩ := Cond.codeWith_spec (hts0 _ List.mem_cons_self)
    cases b.named.symm.trans z1
    cases b.method.symm.trans z2
    cases (Stand.of_body b).code.symm.trans z3
    rw [← z6, table_eq]
  subst hsz
  have G : sg D xcl (va_A ws s.heap.size) s (H0 ++ (Ms ++ [outC v0])) as tys ws s.heap [] := ⟨hw, hK, hP, hD0.self, va_S.rf, fun q h => Or.inr h⟩
  have S : CallFix p m c method_9_code 4 s _ TB "RootDeskLaw" := ⟨b.exec, b.bytes, hml, findClass_of_methodNamed b.named, fun w hw => hts0 w (List.mem_cons_of_mem _ hw)⟩
  have hx := b.exec
  have hb := b.bytes
  obtain ⟨vs, hc0⟩ := H0_at0 (t := (Ms ++ [outC v0]))
  have hl := lv_entry ([.ref a0, .int x, .int y] : List Value) (n := 4) (Nat.le_of_ble_eq_true rfl)
  rw [lg_entry_eq]
  show W p l e rmW s m _ below meth c s.heap [] 0 0 _ _
  refine lv_aload_n hx hb dw_negate_0 rfl (lv_at hl 0 rfl) ?_
  refine lv_iload_n hx hb dw_negate_1 rfl (lv_at hl 1 rfl) ?_
  refine lv_iload_n hx hb dw_negate_2 rfl (lv_at hl 2 rfl) ?_
  obtain ⟨v, h', hv', -, hr⟩ := lw_V (p := p) (e := e) (R := rmW) (m := m) (below := below) (meth := meth) (J := List.range' 0 649) (i0 := 0) (ci := 11) (vs := vs) (fb := 11) (lb := 400) (cells := 0) (slots := 0) (pc := 3) (crest := []) hl0 S hN hT okw_negate (by decide) (hc) (Nat.le_of_ble_eq_true rfl) (Nat.le_of_ble_eq_true rfl) (Nat.le_of_ble_eq_true rfl) G (cut_pre H0_len H0_bd rfl) (vrs_cr h0 (vrs_ci (vrs_ci (rfl)))) h0 hc0 rfl (Nat.le_of_ble_eq_true rfl) (Nat.le_of_ble_eq_true rfl) (Nat.le_of_ble_eq_true rfl) (Nat.le_of_ble_eq_true rfl) rfl hl.1 rfl (Nat.le_of_ble_eq_true rfl) dw_negate_3
  obtain rfl := hv'
  refine lw_drop hr G (ndp_r 649 0) r649_lt cut_K (vrs_cr ho rfl) K_dis (Or.inl rfl) (fun as' tys' ws' H1 locs1 k1 k2 G3 => ?_)
  refine lv_goto hx hb dw_negate_6 (tgt := 12) rfl ?_
  refine lv_iconst (v := nI 0) hx hb dw_negate_12 rfl ?_
  refine W.widen (k := 1) (n := 6) (by omega) (by omega) ?_
  exact W.iret hx hb b.returns (fun t ht hW => ⟨⟨some (.int (nI 0)), as', _, _, rfl, k1, ⟨_, rfl, rfl⟩, G3.1, va_K.moved hW.alike G3.2.1, by rw [ht]; exact G3.2.2.1, G3.2.2.2.1⟩, G3.2.2.2.2.1.F ht⟩) G3.2.2.2.2.1.2.2 dw_negate_13 b.notSynchronized
set_option maxRecDepth 100000 in
set_option maxHeartbeats 4000000 in
theorem w_negate_t {l : Launch} (hl0 : ∀ e : Env, l.admits e → e.platform.stackTraces = false) {x y : Int32} (hv : ¬ (sl x ∧ sl y)) {v0 : Int64} {D : va_G} {as : List Nat} {tys : List (ClassId × FieldType)} {ws : va_W} {sz a0 o : Nat} (hw : wr as tys (H0 ++ (Ms ++ [outC v0])) ws) (h0 : as[0]? = some a0) (ho : as[662]? = some o) : Met l nw_negate ws_negate rmW (va_Pc [.ref a0, .int x, .int y] (xPre2 D xcl xNN tys ws sz)) (xPost D xcl (va_A ws sz) (asJ as (List.range' 649 14)) (some (.int (nI 1)), mI ++ [outC v0], 1, 6)) 1 6 (va_A ws sz) := by
  refine va_MetW (hh := hh_negate) (cc := method_9_code) (maxL := 4) (ret := some .int) (by decide) rfl ?_
  intro p e s m args below meth c s₁ b hml hpc
  obtain ⟨rfl, ⟨hsz, hP, hK, hD0, hN⟩, hT⟩ := hpc
  have hts0 := atoms_spec (ws := ws_negate) b.pre
  have htab : c.exceptionTable.toList = tableOf hh_negate := by
    obtain ⟨m9, meth9, c9, z1, z2, z3, z4, z5, z6, -⟩ := Cond.codeWith_spec (hts0 _ List.mem_cons_self)
    cases b.named.symm.trans z1
    cases b.method.symm.trans z2
    cases (Stand.of_body b).code.symm.trans z3
    rw [← z6, table_eq]
  subst hsz
  have G : sg D xcl (va_A ws s.heap.size) s (H0 ++ (Ms ++ [outC v0])) as tys ws s.heap [] := ⟨hw, hK, hP, hD0.self, va_S.rf, fun q h => Or.inr h⟩
  have S : CallFix p m c method_9_code 4 s _ TB "RootDeskLaw" := ⟨b.exec, b.bytes, hml, findClass_of_methodNamed b.named, fun w hw => hts0 w (List.mem_cons_of_mem _ hw)⟩
  have hx := b.exec
  have hb := b.bytes
  obtain ⟨vs, hc0⟩ := H0_at0 (t := (Ms ++ [outC v0]))
  have hl := lv_entry ([.ref a0, .int x, .int y] : List Value) (n := 4) (Nat.le_of_ble_eq_true rfl)
  rw [lg_entry_eq]
  show W p l e rmW s m _ below meth c s.heap [] 0 0 _ _
  refine lv_aload_n hx hb dw_negate_0 rfl (lv_at hl 0 rfl) ?_
  refine lv_iload_n hx hb dw_negate_1 rfl (lv_at hl 1 rfl) ?_
  refine lv_iload_n hx hb dw_negate_2 rfl (lv_at hl 2 rfl) ?_
  refine lw_T1 (p := p) (e := e) (R := rmW) (m := m) (below := below) (meth := meth) (J := List.range' 0 649) (i0 := 0) (ci := 11) (vs := vs) (fb := 11) (lb := 400) (cells := 0) (slots := 0) (pc := 3) (crest := []) hl0 S hN hT okw_negate (by decide) (t_negate x y hv) (Nat.le_of_ble_eq_true rfl) (Nat.le_of_ble_eq_true rfl) (Nat.le_of_ble_eq_true rfl) G (cut_pre H0_len H0_bd rfl) (vrs_cr h0 (vrs_ci (vrs_ci (rfl)))) h0 hc0 rfl (Nat.le_of_ble_eq_true rfl) (Nat.le_of_ble_eq_true rfl) (Nat.le_of_ble_eq_true rfl) (Nat.le_of_ble_eq_true rfl) rfl hl.1 rfl (Nat.le_of_ble_eq_true rfl) dw_negate_3 htab rfl (by decide) (inT_ok (w := Cond.classLink "RootDeskLaw" 13 "java/lang/IllegalArgumentException") lk_13) (hT.1 _ (by simp [thV])) (fun xa H1 L hk => ?_)
  have G3 := kept_sg hk G (ndp_r 649 0) r649_lt cut_K (vrs_cr ho rfl) K_dis
  refine lv_astore_n hx hb dw_negate_9 rfl hl (by decide) rfl (fun ls' hl' => ?_)
  refine lv_iconst (v := (nI 1)) hx hb dw_negate_10 rfl ?_
  exact W.iret hx hb b.returns (fun t ht hW => ⟨⟨some (.int (nI 1)), _, _, _, rfl, pre_rf, ⟨_, rfl, rfl⟩, G3.1, va_K.moved hW.alike G3.2.1, by rw [ht]; exact G3.2.2.1, G3.2.2.2.1⟩, G3.2.2.2.2.1.F ht⟩) G3.2.2.2.2.1.2.2 dw_negate_11 b.notSynchronized
def nw_invert : MethodName := ⟨"RootDeskLaw", "invert", "(LRootDesk;II)I"⟩
def hh_invert : List (Nat × Nat × Nat × Nat) := [(0, 6, 9, 13), (0, 6, 12, 40)]
def ws_invert : List Cond := Cond.codeWith nw_invert method_10_code 4 (some .int) hh_invert :: TB
theorem dw_invert_0 : decode method_10_code 0 = .ok (.aload_n 0, 1) := by decide +kernel
theorem dw_invert_1 : decode method_10_code 1 = .ok (.iload_n 1, 1) := by decide +kernel
theorem dw_invert_2 : decode method_10_code 2 = .ok (.iload_n 2, 1) := by decide +kernel
theorem dw_invert_3 : decode method_10_code 3 = .ok (.invokevirtual 37, 3) := by decide +kernel
theorem dw_invert_6 : decode method_10_code 6 = .ok (.goto 9, 3) := by decide +kernel
theorem dw_invert_9 : decode method_10_code 9 = .ok (.astore_n 3, 1) := by decide +kernel
theorem dw_invert_10 : decode method_10_code 10 = .ok (.iconst 1, 1) := by decide +kernel
theorem dw_invert_11 : decode method_10_code 11 = .ok (.ireturn, 1) := by decide +kernel
theorem dw_invert_12 : decode method_10_code 12 = .ok (.astore_n 3, 1) := by decide +kernel
theorem dw_invert_13 : decode method_10_code 13 = .ok (.iconst 2, 1) := by decide +kernel
theorem dw_invert_14 : decode method_10_code 14 = .ok (.ireturn, 1) := by decide +kernel
theorem dw_invert_15 : decode method_10_code 15 = .ok (.iconst 0, 1) := by decide +kernel
theorem dw_invert_16 : decode method_10_code 16 = .ok (.ireturn, 1) := by decide +kernel
set_option maxRecDepth 100000 in
theorem okw_invert : okL "RootDeskLaw" 37 108 2 := okLB_ok (by decide +kernel)
set_option maxRecDepth 100000 in
set_option maxHeartbeats 4000000 in
theorem w_invert_t {l : Launch} (hl0 : ∀ e : Env, l.admits e → e.platform.stackTraces = false) {x y : Int32} (hv : ¬ (sl x ∧ sl y)) {v0 : Int64} {D : va_G} {as : List Nat} {tys : List (ClassId × FieldType)} {ws : va_W} {sz a0 o : Nat} (hw : wr as tys (H0 ++ (Ms ++ [outC v0])) ws) (h0 : as[0]? = some a0) (ho : as[662]? = some o) : Met l nw_invert ws_invert rmW (va_Pc [.ref a0, .int x, .int y] (xPre2 D xcl xNN tys ws sz)) (xPost D xcl (va_A ws sz) (asJ as (List.range' 649 14)) (some (.int (nI 1)), mI ++ [outC v0], 1, 6)) 1 6 (va_A ws sz) := by
  refine va_MetW (hh := hh_invert) (cc := method_10_code) (maxL := 4) (ret := some .int) (by decide) rfl ?_
  intro p e s m args below meth c s₁ b hml hpc
  obtain ⟨rfl, ⟨hsz, hP, hK, hD0, hN⟩, hT⟩ := hpc
  have hts0 := atoms_spec (ws := ws_invert) b.pre
  have htab : c.exceptionTable.toList = tableOf hh_invert := by
    obtain ⟨m9, meth9, c9, z1, z2, z3, z4, z5, z6, -⟩ := Cond.codeWith_spec (hts0 _ List.mem_cons_self)
    cases b.named.symm.trans z1
    cases b.method.symm.trans z2
    cases (Stand.of_body b).code.symm.trans z3
    rw [← z6, table_eq]
  subst hsz
  have G : sg D xcl (va_A ws s.heap.size) s (H0 ++ (Ms ++ [outC v0])) as tys ws s.heap [] := ⟨hw, hK, hP, hD0.self, va_S.rf, fun q h => Or.inr h⟩
  have S : CallFix p m c method_10_code 4 s _ TB "RootDeskLaw" := ⟨b.exec, b.bytes, hml, findClass_of_methodNamed b.named, fun w hw => hts0 w (List.mem_cons_of_mem _ hw)⟩
  have hx := b.exec
  have hb := b.bytes
  obtain ⟨vs, hc0⟩ := H0_at0 (t := (Ms ++ [outC v0]))
  have hl := lv_entry ([.ref a0, .int x, .int y] : List Value) (n := 4) (Nat.le_of_ble_eq_true rfl)
  rw [lg_entry_eq]
  show W p l e rmW s m _ below meth c s.heap [] 0 0 _ _
  refine lv_aload_n hx hb dw_invert_0 rfl (lv_at hl 0 rfl) ?_
  refine lv_iload_n hx hb dw_invert_1 rfl (lv_at hl 1 rfl) ?_
  refine lv_iload_n hx hb dw_invert_2 rfl (lv_at hl 2 rfl) ?_
  refine lw_T1 (p := p) (e := e) (R := rmW) (m := m) (below := below) (meth := meth) (J := List.range' 0 649) (i0 := 0) (ci := 11) (vs := vs) (fb := 11) (lb := 400) (cells := 0) (slots := 0) (pc := 3) (crest := []) hl0 S hN hT okw_invert (by decide) (t_invert x y hv) (Nat.le_of_ble_eq_true rfl) (Nat.le_of_ble_eq_true rfl) (Nat.le_of_ble_eq_true rfl) G (cut_pre H0_len H0_bd rfl) (vrs_cr h0 (vrs_ci (vrs_ci (rfl)))) h0 hc0 rfl (Nat.le_of_ble_eq_true rfl) (Nat.le_of_ble_eq_true rfl) (Nat.le_of_ble_eq_true rfl) (Nat.le_of_ble_eq_true rfl) rfl hl.1 rfl (Nat.le_of_ble_eq_true rfl) dw_invert_3 htab rfl (by decide) (inT_ok (w := Cond.classLink "RootDeskLaw" 13 "java/lang/IllegalArgumentException") lk_13) (hT.1 _ (by simp [thV])) (fun xa H1 L hk => ?_)
  have G3 := kept_sg hk G (ndp_r 649 0) r649_lt cut_K (vrs_cr ho rfl) K_dis
  refine lv_astore_n hx hb dw_invert_9 rfl hl (by decide) rfl (fun ls' hl' => ?_)
  refine lv_iconst (v := (nI 1)) hx hb dw_invert_10 rfl ?_
  exact W.iret hx hb b.returns (fun t ht hW => ⟨⟨some (.int (nI 1)), _, _, _, rfl, pre_rf, ⟨_, rfl, rfl⟩, G3.1, va_K.moved hW.alike G3.2.1, by rw [ht]; exact G3.2.2.1, G3.2.2.2.1⟩, G3.2.2.2.2.1.F ht⟩) G3.2.2.2.2.1.2.2 dw_invert_11 b.notSynchronized
set_option maxRecDepth 100000 in
set_option maxHeartbeats 4000000 in
theorem w_invert_a {l : Launch} (hl0 : ∀ e : Env, l.admits e → e.platform.stackTraces = false) {x y : Int32} (hv : sl x ∧ sl y) {v0 : Int64} {D : va_G} {as : List Nat} {tys : List (ClassId × FieldType)} {ws : va_W} {sz a0 o : Nat} (hw : wr as tys (H0 ++ (Ms ++ [outC v0])) ws) (h0 : as[0]? = some a0) (ho : as[662]? = some o) : Met l nw_invert ws_invert rmW (va_Pc [.ref a0, .int x, .int y] (xPre3 D tys ws sz)) (xPost D xcl (va_A ws sz) (asJ as (List.range' 649 14)) (some (.int (nI 2)), mI ++ [outC v0], 1, 6)) 1 6 (va_A ws sz) := by
  have hc : cT 108 8 121 [.ref 0, .int x, .int y] H0 "java/lang/ArithmeticException" := by
    obtain ⟨⟨i, hi, rfl⟩, j, hj, rfl⟩ := hv
    exact a_invert hi hj
  refine va_MetW (hh := hh_invert) (cc := method_10_code) (maxL := 4) (ret := some .int) (by decide) rfl ?_
  intro p e s m args below meth c s₁ b hml hpc
  obtain ⟨rfl, ⟨⟨hsz, hP, hK, hD0, hN⟩, hT⟩, hNC⟩ := hpc
  have hts0 := atoms_spec (ws := ws_invert) b.pre
  have htab : c.exceptionTable.toList = tableOf hh_invert := by
    obtain ⟨m9, meth9, c9, z1, z2, z3, z4, z5, z6, -⟩ := Cond.codeWith_spec (hts0 _ List.mem_cons_self)
    cases b.named.symm.trans z1
    cases b.method.symm.trans z2
    cases (Stand.of_body b).code.symm.trans z3
    rw [← z6, table_eq]
  subst hsz
  have G : sg D xcl (va_A ws s.heap.size) s (H0 ++ (Ms ++ [outC v0])) as tys ws s.heap [] := ⟨hw, hK, hP, hD0.self, va_S.rf, fun q h => Or.inr h⟩
  have S : CallFix p m c method_10_code 4 s _ TB "RootDeskLaw" := ⟨b.exec, b.bytes, hml, findClass_of_methodNamed b.named, fun w hw => hts0 w (List.mem_cons_of_mem _ hw)⟩
  have hx := b.exec
  have hb := b.bytes
  obtain ⟨vs, hc0⟩ := H0_at0 (t := (Ms ++ [outC v0]))
  have hl := lv_entry ([.ref a0, .int x, .int y] : List Value) (n := 4) (Nat.le_of_ble_eq_true rfl)
  rw [lg_entry_eq]
  show W p l e rmW s m _ below meth c s.heap [] 0 0 _ _
  refine lv_aload_n hx hb dw_invert_0 rfl (lv_at hl 0 rfl) ?_
  refine lv_iload_n hx hb dw_invert_1 rfl (lv_at hl 1 rfl) ?_
  refine lv_iload_n hx hb dw_invert_2 rfl (lv_at hl 2 rfl) ?_
  refine lw_T2 (p := p) (e := e) (R := rmW) (m := m) (below := below) (meth := meth) (J := List.range' 0 649) (i0 := 0) (ci := 11) (vs := vs) (fb := 11) (lb := 400) (cells := 0) (slots := 0) (pc := 3) (crest := []) hl0 S hN hT okw_invert (by decide) (hc) (Nat.le_of_ble_eq_true rfl) (Nat.le_of_ble_eq_true rfl) (Nat.le_of_ble_eq_true rfl) G (cut_pre H0_len H0_bd rfl) (vrs_cr h0 (vrs_ci (vrs_ci (rfl)))) h0 hc0 rfl (Nat.le_of_ble_eq_true rfl) (Nat.le_of_ble_eq_true rfl) (Nat.le_of_ble_eq_true rfl) (Nat.le_of_ble_eq_true rfl) rfl hl.1 rfl (Nat.le_of_ble_eq_true rfl) dw_invert_3 htab rfl (by decide) (inT_ok (w := Cond.classLink "RootDeskLaw" 13 "java/lang/IllegalArgumentException") lk_13) rfl (by decide) (inT_ok (w := Cond.classLink "RootDeskLaw" 40 "java/lang/ArithmeticException") lk_40) (hT.1 _ (by simp [thV])) hNC (fun xa H1 L hk => ?_)
  have G3 := kept_sg hk G (ndp_r 649 0) r649_lt cut_K (vrs_cr ho rfl) K_dis
  refine lv_astore_n hx hb dw_invert_12 rfl hl (by decide) rfl (fun ls' hl' => ?_)
  refine lv_iconst (v := (nI 2)) hx hb dw_invert_13 rfl ?_
  exact W.iret hx hb b.returns (fun t ht hW => ⟨⟨some (.int (nI 2)), _, _, _, rfl, pre_rf, ⟨_, rfl, rfl⟩, G3.1, va_K.moved hW.alike G3.2.1, by rw [ht]; exact G3.2.2.1, G3.2.2.2.1⟩, G3.2.2.2.2.1.F ht⟩) G3.2.2.2.2.1.2.2 dw_invert_14 b.notSynchronized
def nw_add : MethodName := ⟨"RootDeskLaw", "add", "(LRootDesk;III[J)I"⟩
def hh_add : List (Nat × Nat × Nat × Nat) := [(0, 19, 22, 13)]
def ws_add : List Cond := Cond.codeWith nw_add method_11_code 6 (some .int) hh_add :: TB
theorem dw_add_0 : decode method_11_code 0 = .ok (.aload 4, 2) := by decide +kernel
theorem dw_add_2 : decode method_11_code 2 = .ok (.iconst 0, 1) := by decide +kernel
theorem dw_add_3 : decode method_11_code 3 = .ok (.aload_n 0, 1) := by decide +kernel
theorem dw_add_4 : decode method_11_code 4 = .ok (.iload_n 1, 1) := by decide +kernel
theorem dw_add_5 : decode method_11_code 5 = .ok (.iload_n 2, 1) := by decide +kernel
theorem dw_add_6 : decode method_11_code 6 = .ok (.iload_n 3, 1) := by decide +kernel
theorem dw_add_7 : decode method_11_code 7 = .ok (.invokevirtual 42, 3) := by decide +kernel
theorem dw_add_10 : decode method_11_code 10 = .ok (.ifCond .eq 7, 3) := by decide +kernel
theorem dw_add_13 : decode method_11_code 13 = .ok (.lconst 1, 1) := by decide +kernel
theorem dw_add_14 : decode method_11_code 14 = .ok (.goto 4, 3) := by decide +kernel
theorem dw_add_17 : decode method_11_code 17 = .ok (.lconst 0, 1) := by decide +kernel
theorem dw_add_18 : decode method_11_code 18 = .ok (.lastore, 1) := by decide +kernel
theorem dw_add_19 : decode method_11_code 19 = .ok (.goto 7, 3) := by decide +kernel
theorem dw_add_22 : decode method_11_code 22 = .ok (.astore 5, 2) := by decide +kernel
theorem dw_add_24 : decode method_11_code 24 = .ok (.iconst 1, 1) := by decide +kernel
theorem dw_add_25 : decode method_11_code 25 = .ok (.ireturn, 1) := by decide +kernel
theorem dw_add_26 : decode method_11_code 26 = .ok (.iconst 0, 1) := by decide +kernel
theorem dw_add_27 : decode method_11_code 27 = .ok (.ireturn, 1) := by decide +kernel
set_option maxRecDepth 100000 in
theorem okw_add : okL "RootDeskLaw" 42 115 3 := okLB_ok (by decide +kernel)
set_option maxRecDepth 100000 in
set_option maxHeartbeats 4000000 in
theorem w_add_t {l : Launch} (hl0 : ∀ e : Env, l.admits e → e.platform.stackTraces = false) {x y z : Int32} (hv : ¬ (sl x ∧ sl y ∧ sl z)) {v0 : Int64} {D : va_G} {as : List Nat} {tys : List (ClassId × FieldType)} {ws : va_W} {sz a0 o : Nat} (hw : wr as tys (H0 ++ (Ms ++ [outC v0])) ws) (h0 : as[0]? = some a0) (ho : as[662]? = some o) : Met l nw_add ws_add rmW (va_Pc [.ref a0, .int x, .int y, .int z, .ref o] (xPre2 D xcl xNN tys ws sz)) (xPost D xcl (va_A ws sz) (asJ as (List.range' 649 14)) (some (.int (nI 1)), mI ++ [outC v0], 1, 6)) 1 6 (va_A ws sz) := by
  refine va_MetW (hh := hh_add) (cc := method_11_code) (maxL := 6) (ret := some .int) (by decide) rfl ?_
  intro p e s m args below meth c s₁ b hml hpc
  obtain ⟨rfl, ⟨hsz, hP, hK, hD0, hN⟩, hT⟩ := hpc
  have hts0 := atoms_spec (ws := ws_add) b.pre
  have htab : c.exceptionTable.toList = tableOf hh_add := by
    obtain ⟨m9, meth9, c9, z1, z2, z3, z4, z5, z6, -⟩ := Cond.codeWith_spec (hts0 _ List.mem_cons_self)
    cases b.named.symm.trans z1
    cases b.method.symm.trans z2
    cases (Stand.of_body b).code.symm.trans z3
    rw [← z6, table_eq]
  subst hsz
  have G : sg D xcl (va_A ws s.heap.size) s (H0 ++ (Ms ++ [outC v0])) as tys ws s.heap [] := ⟨hw, hK, hP, hD0.self, va_S.rf, fun q h => Or.inr h⟩
  have S : CallFix p m c method_11_code 6 s _ TB "RootDeskLaw" := ⟨b.exec, b.bytes, hml, findClass_of_methodNamed b.named, fun w hw => hts0 w (List.mem_cons_of_mem _ hw)⟩
  have hx := b.exec
  have hb := b.bytes
  obtain ⟨vs, hc0⟩ := H0_at0 (t := (Ms ++ [outC v0]))
  have hl := lv_entry ([.ref a0, .int x, .int y, .int z, .ref o] : List Value) (n := 6) (Nat.le_of_ble_eq_true rfl)
  rw [lg_entry_eq]
  show W p l e rmW s m _ below meth c s.heap [] 0 0 _ _
  refine lv_aload hx hb dw_add_0 (lv_at hl 4 rfl) ?_
  refine lv_iconst (v := 0) hx hb dw_add_2 rfl ?_
  refine lv_aload_n hx hb dw_add_3 rfl (lv_at hl 0 rfl) ?_
  refine lv_iload_n hx hb dw_add_4 rfl (lv_at hl 1 rfl) ?_
  refine lv_iload_n hx hb dw_add_5 rfl (lv_at hl 2 rfl) ?_
  refine lv_iload_n hx hb dw_add_6 rfl (lv_at hl 3 rfl) ?_
  refine lw_T1 (p := p) (e := e) (R := rmW) (m := m) (below := below) (meth := meth) (J := List.range' 0 649) (i0 := 0) (ci := 11) (vs := vs) (fb := 11) (lb := 400) (cells := 0) (slots := 0) (pc := 7) (crest := [.int 0, .ref o]) hl0 S hN hT okw_add (by decide) (t_add x y z hv) (Nat.le_of_ble_eq_true rfl) (Nat.le_of_ble_eq_true rfl) (Nat.le_of_ble_eq_true rfl) G (cut_pre H0_len H0_bd rfl) (vrs_cr h0 (vrs_ci (vrs_ci (vrs_ci (rfl))))) h0 hc0 rfl (Nat.le_of_ble_eq_true rfl) (Nat.le_of_ble_eq_true rfl) (Nat.le_of_ble_eq_true rfl) (Nat.le_of_ble_eq_true rfl) rfl hl.1 rfl (Nat.le_of_ble_eq_true rfl) dw_add_7 htab rfl (by decide) (inT_ok (w := Cond.classLink "RootDeskLaw" 13 "java/lang/IllegalArgumentException") lk_13) (hT.1 _ (by simp [thV])) (fun xa H1 L hk => ?_)
  have G3 := kept_sg hk G (ndp_r 649 0) r649_lt cut_K (vrs_cr ho rfl) K_dis
  refine lv_astore hx hb dw_add_22 hl (by decide) rfl (fun ls' hl' => ?_)
  refine lv_iconst (v := (nI 1)) hx hb dw_add_24 rfl ?_
  exact W.iret hx hb b.returns (fun t ht hW => ⟨⟨some (.int (nI 1)), _, _, _, rfl, pre_rf, ⟨_, rfl, rfl⟩, G3.1, va_K.moved hW.alike G3.2.1, by rw [ht]; exact G3.2.2.1, G3.2.2.2.1⟩, G3.2.2.2.2.1.F ht⟩) G3.2.2.2.2.1.2.2 dw_add_25 b.notSynchronized
def nw_subtract : MethodName := ⟨"RootDeskLaw", "subtract", "(LRootDesk;III[J)I"⟩
def hh_subtract : List (Nat × Nat × Nat × Nat) := [(0, 19, 22, 13)]
def ws_subtract : List Cond := Cond.codeWith nw_subtract method_12_code 6 (some .int) hh_subtract :: TB
theorem dw_subtract_0 : decode method_12_code 0 = .ok (.aload 4, 2) := by decide +kernel
theorem dw_subtract_2 : decode method_12_code 2 = .ok (.iconst 0, 1) := by decide +kernel
theorem dw_subtract_3 : decode method_12_code 3 = .ok (.aload_n 0, 1) := by decide +kernel
theorem dw_subtract_4 : decode method_12_code 4 = .ok (.iload_n 1, 1) := by decide +kernel
theorem dw_subtract_5 : decode method_12_code 5 = .ok (.iload_n 2, 1) := by decide +kernel
theorem dw_subtract_6 : decode method_12_code 6 = .ok (.iload_n 3, 1) := by decide +kernel
theorem dw_subtract_7 : decode method_12_code 7 = .ok (.invokevirtual 46, 3) := by decide +kernel
theorem dw_subtract_10 : decode method_12_code 10 = .ok (.ifCond .eq 7, 3) := by decide +kernel
theorem dw_subtract_13 : decode method_12_code 13 = .ok (.lconst 1, 1) := by decide +kernel
theorem dw_subtract_14 : decode method_12_code 14 = .ok (.goto 4, 3) := by decide +kernel
theorem dw_subtract_17 : decode method_12_code 17 = .ok (.lconst 0, 1) := by decide +kernel
theorem dw_subtract_18 : decode method_12_code 18 = .ok (.lastore, 1) := by decide +kernel
theorem dw_subtract_19 : decode method_12_code 19 = .ok (.goto 7, 3) := by decide +kernel
theorem dw_subtract_22 : decode method_12_code 22 = .ok (.astore 5, 2) := by decide +kernel
theorem dw_subtract_24 : decode method_12_code 24 = .ok (.iconst 1, 1) := by decide +kernel
theorem dw_subtract_25 : decode method_12_code 25 = .ok (.ireturn, 1) := by decide +kernel
theorem dw_subtract_26 : decode method_12_code 26 = .ok (.iconst 0, 1) := by decide +kernel
theorem dw_subtract_27 : decode method_12_code 27 = .ok (.ireturn, 1) := by decide +kernel
set_option maxRecDepth 100000 in
theorem okw_subtract : okL "RootDeskLaw" 46 133 3 := okLB_ok (by decide +kernel)
set_option maxRecDepth 100000 in
set_option maxHeartbeats 4000000 in
theorem w_subtract_t {l : Launch} (hl0 : ∀ e : Env, l.admits e → e.platform.stackTraces = false) {x y z : Int32} (hv : ¬ (sl x ∧ sl y ∧ sl z)) {v0 : Int64} {D : va_G} {as : List Nat} {tys : List (ClassId × FieldType)} {ws : va_W} {sz a0 o : Nat} (hw : wr as tys (H0 ++ (Ms ++ [outC v0])) ws) (h0 : as[0]? = some a0) (ho : as[662]? = some o) : Met l nw_subtract ws_subtract rmW (va_Pc [.ref a0, .int x, .int y, .int z, .ref o] (xPre2 D xcl xNN tys ws sz)) (xPost D xcl (va_A ws sz) (asJ as (List.range' 649 14)) (some (.int (nI 1)), mI ++ [outC v0], 1, 6)) 1 6 (va_A ws sz) := by
  refine va_MetW (hh := hh_subtract) (cc := method_12_code) (maxL := 6) (ret := some .int) (by decide) rfl ?_
  intro p e s m args below meth c s₁ b hml hpc
  obtain ⟨rfl, ⟨hsz, hP, hK, hD0, hN⟩, hT⟩ := hpc
  have hts0 := atoms_spec (ws := ws_subtract) b.pre
  have htab : c.exceptionTable.toList = tableOf hh_subtract := by
    obtain ⟨m9, meth9, c9, z1, z2, z3, z4, z5, z6, -⟩ := Cond.codeWith_spec (hts0 _ List.mem_cons_self)
    cases b.named.symm.trans z1
    cases b.method.symm.trans z2
    cases (Stand.of_body b).code.symm.trans z3
    rw [← z6, table_eq]
  subst hsz
  have G : sg D xcl (va_A ws s.heap.size) s (H0 ++ (Ms ++ [outC v0])) as tys ws s.heap [] := ⟨hw, hK, hP, hD0.self, va_S.rf, fun q h => Or.inr h⟩
  have S : CallFix p m c method_12_code 6 s _ TB "RootDeskLaw" := ⟨b.exec, b.bytes, hml, findClass_of_methodNamed b.named, fun w hw => hts0 w (List.mem_cons_of_mem _ hw)⟩
  have hx := b.exec
  have hb := b.bytes
  obtain ⟨vs, hc0⟩ := H0_at0 (t := (Ms ++ [outC v0]))
  have hl := lv_entry ([.ref a0, .int x, .int y, .int z, .ref o] : List Value) (n := 6) (Nat.le_of_ble_eq_true rfl)
  rw [lg_entry_eq]
  show W p l e rmW s m _ below meth c s.heap [] 0 0 _ _
  refine lv_aload hx hb dw_subtract_0 (lv_at hl 4 rfl) ?_
  refine lv_iconst (v := 0) hx hb dw_subtract_2 rfl ?_
  refine lv_aload_n hx hb dw_subtract_3 rfl (lv_at hl 0 rfl) ?_
  refine lv_iload_n hx hb dw_subtract_4 rfl (lv_at hl 1 rfl) ?_
  refine lv_iload_n hx hb dw_subtract_5 rfl (lv_at hl 2 rfl) ?_
  refine lv_iload_n hx hb dw_subtract_6 rfl (lv_at hl 3 rfl) ?_
  refine lw_T1 (p := p) (e := e) (R := rmW) (m := m) (below := below) (meth := meth) (J := List.range' 0 649) (i0 := 0) (ci := 11) (vs := vs) (fb := 11) (lb := 400) (cells := 0) (slots := 0) (pc := 7) (crest := [.int 0, .ref o]) hl0 S hN hT okw_subtract (by decide) (t_subtract x y z hv) (Nat.le_of_ble_eq_true rfl) (Nat.le_of_ble_eq_true rfl) (Nat.le_of_ble_eq_true rfl) G (cut_pre H0_len H0_bd rfl) (vrs_cr h0 (vrs_ci (vrs_ci (vrs_ci (rfl))))) h0 hc0 rfl (Nat.le_of_ble_eq_true rfl) (Nat.le_of_ble_eq_true rfl) (Nat.le_of_ble_eq_true rfl) (Nat.le_of_ble_eq_true rfl) rfl hl.1 rfl (Nat.le_of_ble_eq_true rfl) dw_subtract_7 htab rfl (by decide) (inT_ok (w := Cond.classLink "RootDeskLaw" 13 "java/lang/IllegalArgumentException") lk_13) (hT.1 _ (by simp [thV])) (fun xa H1 L hk => ?_)
  have G3 := kept_sg hk G (ndp_r 649 0) r649_lt cut_K (vrs_cr ho rfl) K_dis
  refine lv_astore hx hb dw_subtract_22 hl (by decide) rfl (fun ls' hl' => ?_)
  refine lv_iconst (v := (nI 1)) hx hb dw_subtract_24 rfl ?_
  exact W.iret hx hb b.returns (fun t ht hW => ⟨⟨some (.int (nI 1)), _, _, _, rfl, pre_rf, ⟨_, rfl, rfl⟩, G3.1, va_K.moved hW.alike G3.2.1, by rw [ht]; exact G3.2.2.1, G3.2.2.2.1⟩, G3.2.2.2.2.1.F ht⟩) G3.2.2.2.2.1.2.2 dw_subtract_25 b.notSynchronized
def nw_multiply : MethodName := ⟨"RootDeskLaw", "multiply", "(LRootDesk;III[J)I"⟩
def hh_multiply : List (Nat × Nat × Nat × Nat) := [(0, 19, 22, 13)]
def ws_multiply : List Cond := Cond.codeWith nw_multiply method_13_code 6 (some .int) hh_multiply :: TB
theorem dw_multiply_0 : decode method_13_code 0 = .ok (.aload 4, 2) := by decide +kernel
theorem dw_multiply_2 : decode method_13_code 2 = .ok (.iconst 0, 1) := by decide +kernel
theorem dw_multiply_3 : decode method_13_code 3 = .ok (.aload_n 0, 1) := by decide +kernel
theorem dw_multiply_4 : decode method_13_code 4 = .ok (.iload_n 1, 1) := by decide +kernel
theorem dw_multiply_5 : decode method_13_code 5 = .ok (.iload_n 2, 1) := by decide +kernel
theorem dw_multiply_6 : decode method_13_code 6 = .ok (.iload_n 3, 1) := by decide +kernel
theorem dw_multiply_7 : decode method_13_code 7 = .ok (.invokevirtual 49, 3) := by decide +kernel
theorem dw_multiply_10 : decode method_13_code 10 = .ok (.ifCond .eq 7, 3) := by decide +kernel
theorem dw_multiply_13 : decode method_13_code 13 = .ok (.lconst 1, 1) := by decide +kernel
theorem dw_multiply_14 : decode method_13_code 14 = .ok (.goto 4, 3) := by decide +kernel
theorem dw_multiply_17 : decode method_13_code 17 = .ok (.lconst 0, 1) := by decide +kernel
theorem dw_multiply_18 : decode method_13_code 18 = .ok (.lastore, 1) := by decide +kernel
theorem dw_multiply_19 : decode method_13_code 19 = .ok (.goto 7, 3) := by decide +kernel
theorem dw_multiply_22 : decode method_13_code 22 = .ok (.astore 5, 2) := by decide +kernel
theorem dw_multiply_24 : decode method_13_code 24 = .ok (.iconst 1, 1) := by decide +kernel
theorem dw_multiply_25 : decode method_13_code 25 = .ok (.ireturn, 1) := by decide +kernel
theorem dw_multiply_26 : decode method_13_code 26 = .ok (.iconst 0, 1) := by decide +kernel
theorem dw_multiply_27 : decode method_13_code 27 = .ok (.ireturn, 1) := by decide +kernel
set_option maxRecDepth 100000 in
theorem okw_multiply : okL "RootDeskLaw" 49 134 3 := okLB_ok (by decide +kernel)
set_option maxRecDepth 100000 in
set_option maxHeartbeats 4000000 in
theorem w_multiply_t {l : Launch} (hl0 : ∀ e : Env, l.admits e → e.platform.stackTraces = false) {x y z : Int32} (hv : ¬ (sl x ∧ sl y ∧ sl z)) {v0 : Int64} {D : va_G} {as : List Nat} {tys : List (ClassId × FieldType)} {ws : va_W} {sz a0 o : Nat} (hw : wr as tys (H0 ++ (Ms ++ [outC v0])) ws) (h0 : as[0]? = some a0) (ho : as[662]? = some o) : Met l nw_multiply ws_multiply rmW (va_Pc [.ref a0, .int x, .int y, .int z, .ref o] (xPre2 D xcl xNN tys ws sz)) (xPost D xcl (va_A ws sz) (asJ as (List.range' 649 14)) (some (.int (nI 1)), mI ++ [outC v0], 1, 6)) 1 6 (va_A ws sz) := by
  refine va_MetW (hh := hh_multiply) (cc := method_13_code) (maxL := 6) (ret := some .int) (by decide) rfl ?_
  intro p e s m args below meth c s₁ b hml hpc
  obtain ⟨rfl, ⟨hsz, hP, hK, hD0, hN⟩, hT⟩ := hpc
  have hts0 := atoms_spec (ws := ws_multiply) b.pre
  have htab : c.exceptionTable.toList = tableOf hh_multiply := by
    obtain ⟨m9, meth9, c9, z1, z2, z3, z4, z5, z6, -⟩ := Cond.codeWith_spec (hts0 _ List.mem_cons_self)
    cases b.named.symm.trans z1
    cases b.method.symm.trans z2
    cases (Stand.of_body b).code.symm.trans z3
    rw [← z6, table_eq]
  subst hsz
  have G : sg D xcl (va_A ws s.heap.size) s (H0 ++ (Ms ++ [outC v0])) as tys ws s.heap [] := ⟨hw, hK, hP, hD0.self, va_S.rf, fun q h => Or.inr h⟩
  have S : CallFix p m c method_13_code 6 s _ TB "RootDeskLaw" := ⟨b.exec, b.bytes, hml, findClass_of_methodNamed b.named, fun w hw => hts0 w (List.mem_cons_of_mem _ hw)⟩
  have hx := b.exec
  have hb := b.bytes
  obtain ⟨vs, hc0⟩ := H0_at0 (t := (Ms ++ [outC v0]))
  have hl := lv_entry ([.ref a0, .int x, .int y, .int z, .ref o] : List Value) (n := 6) (Nat.le_of_ble_eq_true rfl)
  rw [lg_entry_eq]
  show W p l e rmW s m _ below meth c s.heap [] 0 0 _ _
  refine lv_aload hx hb dw_multiply_0 (lv_at hl 4 rfl) ?_
  refine lv_iconst (v := 0) hx hb dw_multiply_2 rfl ?_
  refine lv_aload_n hx hb dw_multiply_3 rfl (lv_at hl 0 rfl) ?_
  refine lv_iload_n hx hb dw_multiply_4 rfl (lv_at hl 1 rfl) ?_
  refine lv_iload_n hx hb dw_multiply_5 rfl (lv_at hl 2 rfl) ?_
  refine lv_iload_n hx hb dw_multiply_6 rfl (lv_at hl 3 rfl) ?_
  refine lw_T1 (p := p) (e := e) (R := rmW) (m := m) (below := below) (meth := meth) (J := List.range' 0 649) (i0 := 0) (ci := 11) (vs := vs) (fb := 11) (lb := 400) (cells := 0) (slots := 0) (pc := 7) (crest := [.int 0, .ref o]) hl0 S hN hT okw_multiply (by decide) (t_multiply x y z hv) (Nat.le_of_ble_eq_true rfl) (Nat.le_of_ble_eq_true rfl) (Nat.le_of_ble_eq_true rfl) G (cut_pre H0_len H0_bd rfl) (vrs_cr h0 (vrs_ci (vrs_ci (vrs_ci (rfl))))) h0 hc0 rfl (Nat.le_of_ble_eq_true rfl) (Nat.le_of_ble_eq_true rfl) (Nat.le_of_ble_eq_true rfl) (Nat.le_of_ble_eq_true rfl) rfl hl.1 rfl (Nat.le_of_ble_eq_true rfl) dw_multiply_7 htab rfl (by decide) (inT_ok (w := Cond.classLink "RootDeskLaw" 13 "java/lang/IllegalArgumentException") lk_13) (hT.1 _ (by simp [thV])) (fun xa H1 L hk => ?_)
  have G3 := kept_sg hk G (ndp_r 649 0) r649_lt cut_K (vrs_cr ho rfl) K_dis
  refine lv_astore hx hb dw_multiply_22 hl (by decide) rfl (fun ls' hl' => ?_)
  refine lv_iconst (v := (nI 1)) hx hb dw_multiply_24 rfl ?_
  exact W.iret hx hb b.returns (fun t ht hW => ⟨⟨some (.int (nI 1)), _, _, _, rfl, pre_rf, ⟨_, rfl, rfl⟩, G3.1, va_K.moved hW.alike G3.2.1, by rw [ht]; exact G3.2.2.1, G3.2.2.2.1⟩, G3.2.2.2.2.1.F ht⟩) G3.2.2.2.2.1.2.2 dw_multiply_25 b.notSynchronized
def nw_divide : MethodName := ⟨"RootDeskLaw", "divide", "(LRootDesk;III[J)I"⟩
def hh_divide : List (Nat × Nat × Nat × Nat) := [(0, 19, 22, 13), (0, 19, 26, 40)]
def ws_divide : List Cond := Cond.codeWith nw_divide method_14_code 6 (some .int) hh_divide :: TB
theorem dw_divide_0 : decode method_14_code 0 = .ok (.aload 4, 2) := by decide +kernel
theorem dw_divide_2 : decode method_14_code 2 = .ok (.iconst 0, 1) := by decide +kernel
theorem dw_divide_3 : decode method_14_code 3 = .ok (.aload_n 0, 1) := by decide +kernel
theorem dw_divide_4 : decode method_14_code 4 = .ok (.iload_n 1, 1) := by decide +kernel
theorem dw_divide_5 : decode method_14_code 5 = .ok (.iload_n 2, 1) := by decide +kernel
theorem dw_divide_6 : decode method_14_code 6 = .ok (.iload_n 3, 1) := by decide +kernel
theorem dw_divide_7 : decode method_14_code 7 = .ok (.invokevirtual 52, 3) := by decide +kernel
theorem dw_divide_10 : decode method_14_code 10 = .ok (.ifCond .eq 7, 3) := by decide +kernel
theorem dw_divide_13 : decode method_14_code 13 = .ok (.lconst 1, 1) := by decide +kernel
theorem dw_divide_14 : decode method_14_code 14 = .ok (.goto 4, 3) := by decide +kernel
theorem dw_divide_17 : decode method_14_code 17 = .ok (.lconst 0, 1) := by decide +kernel
theorem dw_divide_18 : decode method_14_code 18 = .ok (.lastore, 1) := by decide +kernel
theorem dw_divide_19 : decode method_14_code 19 = .ok (.goto 11, 3) := by decide +kernel
theorem dw_divide_22 : decode method_14_code 22 = .ok (.astore 5, 2) := by decide +kernel
theorem dw_divide_24 : decode method_14_code 24 = .ok (.iconst 1, 1) := by decide +kernel
theorem dw_divide_25 : decode method_14_code 25 = .ok (.ireturn, 1) := by decide +kernel
theorem dw_divide_26 : decode method_14_code 26 = .ok (.astore 5, 2) := by decide +kernel
theorem dw_divide_28 : decode method_14_code 28 = .ok (.iconst 2, 1) := by decide +kernel
theorem dw_divide_29 : decode method_14_code 29 = .ok (.ireturn, 1) := by decide +kernel
theorem dw_divide_30 : decode method_14_code 30 = .ok (.iconst 0, 1) := by decide +kernel
theorem dw_divide_31 : decode method_14_code 31 = .ok (.ireturn, 1) := by decide +kernel
set_option maxRecDepth 100000 in
theorem okw_divide : okL "RootDeskLaw" 52 135 3 := okLB_ok (by decide +kernel)
set_option maxRecDepth 100000 in
set_option maxHeartbeats 4000000 in
theorem w_divide_t {l : Launch} (hl0 : ∀ e : Env, l.admits e → e.platform.stackTraces = false) {x y z : Int32} (hv : ¬ (sl x ∧ sl y ∧ sl z)) {v0 : Int64} {D : va_G} {as : List Nat} {tys : List (ClassId × FieldType)} {ws : va_W} {sz a0 o : Nat} (hw : wr as tys (H0 ++ (Ms ++ [outC v0])) ws) (h0 : as[0]? = some a0) (ho : as[662]? = some o) : Met l nw_divide ws_divide rmW (va_Pc [.ref a0, .int x, .int y, .int z, .ref o] (xPre2 D xcl xNN tys ws sz)) (xPost D xcl (va_A ws sz) (asJ as (List.range' 649 14)) (some (.int (nI 1)), mI ++ [outC v0], 1, 6)) 1 6 (va_A ws sz) := by
  refine va_MetW (hh := hh_divide) (cc := method_14_code) (maxL := 6) (ret := some .int) (by decide) rfl ?_
  intro p e s m args below meth c s₁ b hml hpc
  obtain ⟨rfl, ⟨hsz, hP, hK, hD0, hN⟩, hT⟩ := hpc
  have hts0 := atoms_spec (ws := ws_divide) b.pre
  have htab : c.exceptionTable.toList = tableOf hh_divide := by
    obtain ⟨m9, meth9, c9, z1, z2, z3, z4, z5, z6, -⟩ := Cond.codeWith_spec (hts0 _ List.mem_cons_self)
    cases b.named.symm.trans z1
    cases b.method.symm.trans z2
    cases (Stand.of_body b).code.symm.trans z3
    rw [← z6, table_eq]
  subst hsz
  have G : sg D xcl (va_A ws s.heap.size) s (H0 ++ (Ms ++ [outC v0])) as tys ws s.heap [] := ⟨hw, hK, hP, hD0.self, va_S.rf, fun q h => Or.inr h⟩
  have S : CallFix p m c method_14_code 6 s _ TB "RootDeskLaw" := ⟨b.exec, b.bytes, hml, findClass_of_methodNamed b.named, fun w hw => hts0 w (List.mem_cons_of_mem _ hw)⟩
  have hx := b.exec
  have hb := b.bytes
  obtain ⟨vs, hc0⟩ := H0_at0 (t := (Ms ++ [outC v0]))
  have hl := lv_entry ([.ref a0, .int x, .int y, .int z, .ref o] : List Value) (n := 6) (Nat.le_of_ble_eq_true rfl)
  rw [lg_entry_eq]
  show W p l e rmW s m _ below meth c s.heap [] 0 0 _ _
  refine lv_aload hx hb dw_divide_0 (lv_at hl 4 rfl) ?_
  refine lv_iconst (v := 0) hx hb dw_divide_2 rfl ?_
  refine lv_aload_n hx hb dw_divide_3 rfl (lv_at hl 0 rfl) ?_
  refine lv_iload_n hx hb dw_divide_4 rfl (lv_at hl 1 rfl) ?_
  refine lv_iload_n hx hb dw_divide_5 rfl (lv_at hl 2 rfl) ?_
  refine lv_iload_n hx hb dw_divide_6 rfl (lv_at hl 3 rfl) ?_
  refine lw_T1 (p := p) (e := e) (R := rmW) (m := m) (below := below) (meth := meth) (J := List.range' 0 649) (i0 := 0) (ci := 11) (vs := vs) (fb := 11) (lb := 400) (cells := 0) (slots := 0) (pc := 7) (crest := [.int 0, .ref o]) hl0 S hN hT okw_divide (by decide) (t_divide x y z hv) (Nat.le_of_ble_eq_true rfl) (Nat.le_of_ble_eq_true rfl) (Nat.le_of_ble_eq_true rfl) G (cut_pre H0_len H0_bd rfl) (vrs_cr h0 (vrs_ci (vrs_ci (vrs_ci (rfl))))) h0 hc0 rfl (Nat.le_of_ble_eq_true rfl) (Nat.le_of_ble_eq_true rfl) (Nat.le_of_ble_eq_true rfl) (Nat.le_of_ble_eq_true rfl) rfl hl.1 rfl (Nat.le_of_ble_eq_true rfl) dw_divide_7 htab rfl (by decide) (inT_ok (w := Cond.classLink "RootDeskLaw" 13 "java/lang/IllegalArgumentException") lk_13) (hT.1 _ (by simp [thV])) (fun xa H1 L hk => ?_)
  have G3 := kept_sg hk G (ndp_r 649 0) r649_lt cut_K (vrs_cr ho rfl) K_dis
  refine lv_astore hx hb dw_divide_22 hl (by decide) rfl (fun ls' hl' => ?_)
  refine lv_iconst (v := (nI 1)) hx hb dw_divide_24 rfl ?_
  exact W.iret hx hb b.returns (fun t ht hW => ⟨⟨some (.int (nI 1)), _, _, _, rfl, pre_rf, ⟨_, rfl, rfl⟩, G3.1, va_K.moved hW.alike G3.2.1, by rw [ht]; exact G3.2.2.1, G3.2.2.2.1⟩, G3.2.2.2.2.1.F ht⟩) G3.2.2.2.2.1.2.2 dw_divide_25 b.notSynchronized
set_option maxRecDepth 100000 in
set_option maxHeartbeats 4000000 in
theorem w_divide_a {l : Launch} (hl0 : ∀ e : Env, l.admits e → e.platform.stackTraces = false) {x y z : Int32} (hv : sl x ∧ sl y ∧ sl z) {v0 : Int64} {D : va_G} {as : List Nat} {tys : List (ClassId × FieldType)} {ws : va_W} {sz a0 o : Nat} (hw : wr as tys (H0 ++ (Ms ++ [outC v0])) ws) (h0 : as[0]? = some a0) (ho : as[662]? = some o) : Met l nw_divide ws_divide rmW (va_Pc [.ref a0, .int x, .int y, .int z, .ref o] (xPre3 D tys ws sz)) (xPost D xcl (va_A ws sz) (asJ as (List.range' 649 14)) (some (.int (nI 2)), mI ++ [outC v0], 1, 6)) 1 6 (va_A ws sz) := by
  have hc : cT 135 8 121 [.ref 0, .int x, .int y, .int z] H0 "java/lang/ArithmeticException" := by
    obtain ⟨⟨i, hi, rfl⟩, ⟨j, hj, rfl⟩, k, hk, rfl⟩ := hv
    exact a_divide hi hj hk
  refine va_MetW (hh := hh_divide) (cc := method_14_code) (maxL := 6) (ret := some .int) (by decide) rfl ?_
  intro p e s m args below meth c s₁ b hml hpc
  obtain ⟨rfl, ⟨⟨hsz, hP, hK, hD0, hN⟩, hT⟩, hNC⟩ := hpc
  have hts0 := atoms_spec (ws := ws_divide) b.pre
  have htab : c.exceptionTable.toList = tableOf hh_divide := by
    obtain ⟨m9, meth9, c9, z1, z2, z3, z4, z5, z6, -⟩ := Cond.codeWith_spec (hts0 _ List.mem_cons_self)
    cases b.named.symm.trans z1
    cases b.method.symm.trans z2
    cases (Stand.of_body b).code.symm.trans z3
    rw [← z6, table_eq]
  subst hsz
  have G : sg D xcl (va_A ws s.heap.size) s (H0 ++ (Ms ++ [outC v0])) as tys ws s.heap [] := ⟨hw, hK, hP, hD0.self, va_S.rf, fun q h => Or.inr h⟩
  have S : CallFix p m c method_14_code 6 s _ TB "RootDeskLaw" := ⟨b.exec, b.bytes, hml, findClass_of_methodNamed b.named, fun w hw => hts0 w (List.mem_cons_of_mem _ hw)⟩
  have hx := b.exec
  have hb := b.bytes
  obtain ⟨vs, hc0⟩ := H0_at0 (t := (Ms ++ [outC v0]))
  have hl := lv_entry ([.ref a0, .int x, .int y, .int z, .ref o] : List Value) (n := 6) (Nat.le_of_ble_eq_true rfl)
  rw [lg_entry_eq]
  show W p l e rmW s m _ below meth c s.heap [] 0 0 _ _
  refine lv_aload hx hb dw_divide_0 (lv_at hl 4 rfl) ?_
  refine lv_iconst (v := 0) hx hb dw_divide_2 rfl ?_
  refine lv_aload_n hx hb dw_divide_3 rfl (lv_at hl 0 rfl) ?_
  refine lv_iload_n hx hb dw_divide_4 rfl (lv_at hl 1 rfl) ?_
  refine lv_iload_n hx hb dw_divide_5 rfl (lv_at hl 2 rfl) ?_
  refine lv_iload_n hx hb dw_divide_6 rfl (lv_at hl 3 rfl) ?_
  refine lw_T2 (p := p) (e := e) (R := rmW) (m := m) (below := below) (meth := meth) (J := List.range' 0 649) (i0 := 0) (ci := 11) (vs := vs) (fb := 11) (lb := 400) (cells := 0) (slots := 0) (pc := 7) (crest := [.int 0, .ref o]) hl0 S hN hT okw_divide (by decide) (hc) (Nat.le_of_ble_eq_true rfl) (Nat.le_of_ble_eq_true rfl) (Nat.le_of_ble_eq_true rfl) G (cut_pre H0_len H0_bd rfl) (vrs_cr h0 (vrs_ci (vrs_ci (vrs_ci (rfl))))) h0 hc0 rfl (Nat.le_of_ble_eq_true rfl) (Nat.le_of_ble_eq_true rfl) (Nat.le_of_ble_eq_true rfl) (Nat.le_of_ble_eq_true rfl) rfl hl.1 rfl (Nat.le_of_ble_eq_true rfl) dw_divide_7 htab rfl (by decide) (inT_ok (w := Cond.classLink "RootDeskLaw" 13 "java/lang/IllegalArgumentException") lk_13) rfl (by decide) (inT_ok (w := Cond.classLink "RootDeskLaw" 40 "java/lang/ArithmeticException") lk_40) (hT.1 _ (by simp [thV])) hNC (fun xa H1 L hk => ?_)
  have G3 := kept_sg hk G (ndp_r 649 0) r649_lt cut_K (vrs_cr ho rfl) K_dis
  refine lv_astore hx hb dw_divide_26 hl (by decide) rfl (fun ls' hl' => ?_)
  refine lv_iconst (v := (nI 2)) hx hb dw_divide_28 rfl ?_
  exact W.iret hx hb b.returns (fun t ht hW => ⟨⟨some (.int (nI 2)), _, _, _, rfl, pre_rf, ⟨_, rfl, rfl⟩, G3.1, va_K.moved hW.alike G3.2.1, by rw [ht]; exact G3.2.2.1, G3.2.2.2.1⟩, G3.2.2.2.2.1.F ht⟩) G3.2.2.2.2.1.2.2 dw_divide_29 b.notSynchronized
def nw_root : MethodName := ⟨"RootDeskLaw", "root", "(LRootDesk;III[J)I"⟩
def hh_root : List (Nat × Nat × Nat × Nat) := [(0, 19, 22, 13), (0, 19, 26, 40)]
def ws_root : List Cond := Cond.codeWith nw_root method_15_code 6 (some .int) hh_root :: TB
theorem dw_root_0 : decode method_15_code 0 = .ok (.aload 4, 2) := by decide +kernel
theorem dw_root_2 : decode method_15_code 2 = .ok (.iconst 0, 1) := by decide +kernel
theorem dw_root_3 : decode method_15_code 3 = .ok (.aload_n 0, 1) := by decide +kernel
theorem dw_root_4 : decode method_15_code 4 = .ok (.iload_n 1, 1) := by decide +kernel
theorem dw_root_5 : decode method_15_code 5 = .ok (.iload_n 2, 1) := by decide +kernel
theorem dw_root_6 : decode method_15_code 6 = .ok (.iload_n 3, 1) := by decide +kernel
theorem dw_root_7 : decode method_15_code 7 = .ok (.invokevirtual 55, 3) := by decide +kernel
theorem dw_root_10 : decode method_15_code 10 = .ok (.ifCond .eq 7, 3) := by decide +kernel
theorem dw_root_13 : decode method_15_code 13 = .ok (.lconst 1, 1) := by decide +kernel
theorem dw_root_14 : decode method_15_code 14 = .ok (.goto 4, 3) := by decide +kernel
theorem dw_root_17 : decode method_15_code 17 = .ok (.lconst 0, 1) := by decide +kernel
theorem dw_root_18 : decode method_15_code 18 = .ok (.lastore, 1) := by decide +kernel
theorem dw_root_19 : decode method_15_code 19 = .ok (.goto 11, 3) := by decide +kernel
theorem dw_root_22 : decode method_15_code 22 = .ok (.astore 5, 2) := by decide +kernel
theorem dw_root_24 : decode method_15_code 24 = .ok (.iconst 1, 1) := by decide +kernel
theorem dw_root_25 : decode method_15_code 25 = .ok (.ireturn, 1) := by decide +kernel
theorem dw_root_26 : decode method_15_code 26 = .ok (.astore 5, 2) := by decide +kernel
theorem dw_root_28 : decode method_15_code 28 = .ok (.iconst 2, 1) := by decide +kernel
theorem dw_root_29 : decode method_15_code 29 = .ok (.ireturn, 1) := by decide +kernel
theorem dw_root_30 : decode method_15_code 30 = .ok (.iconst 0, 1) := by decide +kernel
theorem dw_root_31 : decode method_15_code 31 = .ok (.ireturn, 1) := by decide +kernel
set_option maxRecDepth 100000 in
theorem okw_root : okL "RootDeskLaw" 55 136 3 := okLB_ok (by decide +kernel)
set_option maxRecDepth 100000 in
set_option maxHeartbeats 4000000 in
theorem w_root_v {l : Launch} (hl0 : ∀ e : Env, l.admits e → e.platform.stackTraces = false) {x y z : Int32} (hv : sl x ∧ sl y ∧ (z = nI 2 ∨ z = nI 3)) {v0 : Int64} {D : va_G} {as : List Nat} {tys : List (ClassId × FieldType)} {ws : va_W} {sz a0 o : Nat} (hw : wr as tys (H0 ++ (Ms ++ [outC v0])) ws) (h0 : as[0]? = some a0) (ho : as[662]? = some o) : Met l nw_root ws_root rmW (va_Pc [.ref a0, .int x, .int y, .int z, .ref o] (xPre2 D xcl xNN tys ws sz)) (xPost D xcl (va_A ws sz) (asJ as (List.range' 649 14)) (some (.int (nI 0)), mI ++ [outC 1], 1, 6)) 1 6 (va_A ws sz) := by
  have hc : cR 136 7 250 [.ref 0, .int x, .int y, .int z] H0 (fun v _ => v = some (.int 1)) := by
    obtain ⟨⟨i, hi, rfl⟩, ⟨j, hj, rfl⟩, hz⟩ := hv
    obtain ⟨k, hk, rfl⟩ : ∃ k : Nat, (k = 2 ∨ k = 3) ∧ z = nI k := by
      rcases hz with rfl | rfl
      · exact ⟨2, Or.inl rfl, rfl⟩
      · exact ⟨3, Or.inr rfl, rfl⟩
    exact k_root hi hj hk
  refine va_MetW (hh := hh_root) (cc := method_15_code) (maxL := 6) (ret := some .int) (by decide) rfl ?_
  intro p e s m args below meth c s₁ b hml hpc
  obtain ⟨rfl, ⟨hsz, hP, hK, hD0, hN⟩, hT⟩ := hpc
  have hts0 := atoms_spec (ws := ws_root) b.pre
  have htab : c.exceptionTable.toList = tableOf hh_root := by
    obtain ⟨m9, meth9, c9, z1, z2, z3, z4, z5, z6, -⟩ := Cond.codeWith_spec (hts0 _ List.mem_cons_self)
    cases b.named.symm.trans z1
    cases b.method.symm.trans z2
    cases (Stand.of_body b).code.symm.trans z3
    rw [← z6, table_eq]
  subst hsz
  have G : sg D xcl (va_A ws s.heap.size) s (H0 ++ (Ms ++ [outC v0])) as tys ws s.heap [] := ⟨hw, hK, hP, hD0.self, va_S.rf, fun q h => Or.inr h⟩
  have S : CallFix p m c method_15_code 6 s _ TB "RootDeskLaw" := ⟨b.exec, b.bytes, hml, findClass_of_methodNamed b.named, fun w hw => hts0 w (List.mem_cons_of_mem _ hw)⟩
  have hx := b.exec
  have hb := b.bytes
  obtain ⟨vs, hc0⟩ := H0_at0 (t := (Ms ++ [outC v0]))
  have hl := lv_entry ([.ref a0, .int x, .int y, .int z, .ref o] : List Value) (n := 6) (Nat.le_of_ble_eq_true rfl)
  rw [lg_entry_eq]
  show W p l e rmW s m _ below meth c s.heap [] 0 0 _ _
  refine lv_aload hx hb dw_root_0 (lv_at hl 4 rfl) ?_
  refine lv_iconst (v := 0) hx hb dw_root_2 rfl ?_
  refine lv_aload_n hx hb dw_root_3 rfl (lv_at hl 0 rfl) ?_
  refine lv_iload_n hx hb dw_root_4 rfl (lv_at hl 1 rfl) ?_
  refine lv_iload_n hx hb dw_root_5 rfl (lv_at hl 2 rfl) ?_
  refine lv_iload_n hx hb dw_root_6 rfl (lv_at hl 3 rfl) ?_
  obtain ⟨v, h', hv', -, hr⟩ := lw_V (p := p) (e := e) (R := rmW) (m := m) (below := below) (meth := meth) (J := List.range' 0 649) (i0 := 0) (ci := 11) (vs := vs) (fb := 11) (lb := 400) (cells := 0) (slots := 0) (pc := 7) (crest := [.int 0, .ref o]) hl0 S hN hT okw_root (by decide) (hc) (Nat.le_of_ble_eq_true rfl) (Nat.le_of_ble_eq_true rfl) (Nat.le_of_ble_eq_true rfl) G (cut_pre H0_len H0_bd rfl) (vrs_cr h0 (vrs_ci (vrs_ci (vrs_ci (rfl))))) h0 hc0 rfl (Nat.le_of_ble_eq_true rfl) (Nat.le_of_ble_eq_true rfl) (Nat.le_of_ble_eq_true rfl) (Nat.le_of_ble_eq_true rfl) rfl hl.1 rfl (Nat.le_of_ble_eq_true rfl) dw_root_7
  obtain rfl := hv'
  refine lw_drop hr G (ndp_r 649 0) r649_lt cut_K (vrs_cr ho rfl) K_dis (Or.inr ⟨_, rfl⟩) (fun as' tys' ws' H1 locs1 k1 k2 G3 => ?_)
  obtain ⟨o1, t1, e1, hoo, -⟩ := vrs_r k2
  cases e1
  refine lv_if_eq hx hb dw_root_10 (tgt := 17) rfl (fun z => absurd z (by decide)) (fun _ => ?_)
  refine lv_lconst (v := 1) hx hb dw_root_13 rfl ?_
  refine lv_goto hx hb dw_root_14 (tgt := 18) rfl ?_
  refine sg_last hx hb G3 hoo (i := 13) (x := [v0]) rfl (x_in_ok (n := 1) rfl) dw_root_18 (fun ws4 H4 locs4 G4 => ?_)
  refine lv_goto hx hb dw_root_19 (tgt := 30) rfl ?_
  refine lv_iconst (v := nI 0) hx hb dw_root_30 rfl ?_
  refine W.widen (k := 1) (n := 6) (by omega) (by omega) ?_
  exact W.iret hx hb b.returns (fun t ht hW => ⟨⟨some (.int (nI 0)), as', _, _, rfl, k1, ⟨_, rfl, rfl⟩, G4.1, va_K.moved hW.alike G4.2.1, by rw [ht]; exact G4.2.2.1, G4.2.2.2.1⟩, G4.2.2.2.2.1.F ht⟩) G4.2.2.2.2.1.2.2 dw_root_31 b.notSynchronized
set_option maxRecDepth 100000 in
set_option maxHeartbeats 4000000 in
theorem w_root_t {l : Launch} (hl0 : ∀ e : Env, l.admits e → e.platform.stackTraces = false) {x y z : Int32} (hv : ¬ (sl x ∧ sl y ∧ (z = nI 2 ∨ z = nI 3))) {v0 : Int64} {D : va_G} {as : List Nat} {tys : List (ClassId × FieldType)} {ws : va_W} {sz a0 o : Nat} (hw : wr as tys (H0 ++ (Ms ++ [outC v0])) ws) (h0 : as[0]? = some a0) (ho : as[662]? = some o) : Met l nw_root ws_root rmW (va_Pc [.ref a0, .int x, .int y, .int z, .ref o] (xPre2 D xcl xNN tys ws sz)) (xPost D xcl (va_A ws sz) (asJ as (List.range' 649 14)) (some (.int (nI 1)), mI ++ [outC v0], 1, 6)) 1 6 (va_A ws sz) := by
  refine va_MetW (hh := hh_root) (cc := method_15_code) (maxL := 6) (ret := some .int) (by decide) rfl ?_
  intro p e s m args below meth c s₁ b hml hpc
  obtain ⟨rfl, ⟨hsz, hP, hK, hD0, hN⟩, hT⟩ := hpc
  have hts0 := atoms_spec (ws := ws_root) b.pre
  have htab : c.exceptionTable.toList = tableOf hh_root := by
    obtain ⟨m9, meth9, c9, z1, z2, z3, z4, z5, z6, -⟩ := Cond.codeWith_spec (hts0 _ List.mem_cons_self)
    cases b.named.symm.trans z1
    cases b.method.symm.trans z2
    cases (Stand.of_body b).code.symm.trans z3
    rw [← z6, table_eq]
  subst hsz
  have G : sg D xcl (va_A ws s.heap.size) s (H0 ++ (Ms ++ [outC v0])) as tys ws s.heap [] := ⟨hw, hK, hP, hD0.self, va_S.rf, fun q h => Or.inr h⟩
  have S : CallFix p m c method_15_code 6 s _ TB "RootDeskLaw" := ⟨b.exec, b.bytes, hml, findClass_of_methodNamed b.named, fun w hw => hts0 w (List.mem_cons_of_mem _ hw)⟩
  have hx := b.exec
  have hb := b.bytes
  obtain ⟨vs, hc0⟩ := H0_at0 (t := (Ms ++ [outC v0]))
  have hl := lv_entry ([.ref a0, .int x, .int y, .int z, .ref o] : List Value) (n := 6) (Nat.le_of_ble_eq_true rfl)
  rw [lg_entry_eq]
  show W p l e rmW s m _ below meth c s.heap [] 0 0 _ _
  refine lv_aload hx hb dw_root_0 (lv_at hl 4 rfl) ?_
  refine lv_iconst (v := 0) hx hb dw_root_2 rfl ?_
  refine lv_aload_n hx hb dw_root_3 rfl (lv_at hl 0 rfl) ?_
  refine lv_iload_n hx hb dw_root_4 rfl (lv_at hl 1 rfl) ?_
  refine lv_iload_n hx hb dw_root_5 rfl (lv_at hl 2 rfl) ?_
  refine lv_iload_n hx hb dw_root_6 rfl (lv_at hl 3 rfl) ?_
  refine lw_T1 (p := p) (e := e) (R := rmW) (m := m) (below := below) (meth := meth) (J := List.range' 0 649) (i0 := 0) (ci := 11) (vs := vs) (fb := 11) (lb := 400) (cells := 0) (slots := 0) (pc := 7) (crest := [.int 0, .ref o]) hl0 S hN hT okw_root (by decide) (t_root x y z hv) (Nat.le_of_ble_eq_true rfl) (Nat.le_of_ble_eq_true rfl) (Nat.le_of_ble_eq_true rfl) G (cut_pre H0_len H0_bd rfl) (vrs_cr h0 (vrs_ci (vrs_ci (vrs_ci (rfl))))) h0 hc0 rfl (Nat.le_of_ble_eq_true rfl) (Nat.le_of_ble_eq_true rfl) (Nat.le_of_ble_eq_true rfl) (Nat.le_of_ble_eq_true rfl) rfl hl.1 rfl (Nat.le_of_ble_eq_true rfl) dw_root_7 htab rfl (by decide) (inT_ok (w := Cond.classLink "RootDeskLaw" 13 "java/lang/IllegalArgumentException") lk_13) (hT.1 _ (by simp [thV])) (fun xa H1 L hk => ?_)
  have G3 := kept_sg hk G (ndp_r 649 0) r649_lt cut_K (vrs_cr ho rfl) K_dis
  refine lv_astore hx hb dw_root_22 hl (by decide) rfl (fun ls' hl' => ?_)
  refine lv_iconst (v := (nI 1)) hx hb dw_root_24 rfl ?_
  exact W.iret hx hb b.returns (fun t ht hW => ⟨⟨some (.int (nI 1)), _, _, _, rfl, pre_rf, ⟨_, rfl, rfl⟩, G3.1, va_K.moved hW.alike G3.2.1, by rw [ht]; exact G3.2.2.1, G3.2.2.2.1⟩, G3.2.2.2.2.1.F ht⟩) G3.2.2.2.2.1.2.2 dw_root_25 b.notSynchronized
def nw_compare : MethodName := ⟨"RootDeskLaw", "compare", "(LRootDesk;II[J)I"⟩
def hh_compare : List (Nat × Nat × Nat × Nat) := [(0, 10, 13, 13)]
def ws_compare : List Cond := Cond.codeWith nw_compare method_16_code 5 (some .int) hh_compare :: TB
theorem dw_compare_0 : decode method_16_code 0 = .ok (.aload_n 3, 1) := by decide +kernel
theorem dw_compare_1 : decode method_16_code 1 = .ok (.iconst 0, 1) := by decide +kernel
theorem dw_compare_2 : decode method_16_code 2 = .ok (.aload_n 0, 1) := by decide +kernel
theorem dw_compare_3 : decode method_16_code 3 = .ok (.iload_n 1, 1) := by decide +kernel
theorem dw_compare_4 : decode method_16_code 4 = .ok (.iload_n 2, 1) := by decide +kernel
theorem dw_compare_5 : decode method_16_code 5 = .ok (.invokevirtual 58, 3) := by decide +kernel
theorem dw_compare_8 : decode method_16_code 8 = .ok (.i2l, 1) := by decide +kernel
theorem dw_compare_9 : decode method_16_code 9 = .ok (.lastore, 1) := by decide +kernel
theorem dw_compare_10 : decode method_16_code 10 = .ok (.goto 7, 3) := by decide +kernel
theorem dw_compare_13 : decode method_16_code 13 = .ok (.astore 4, 2) := by decide +kernel
theorem dw_compare_15 : decode method_16_code 15 = .ok (.iconst 1, 1) := by decide +kernel
theorem dw_compare_16 : decode method_16_code 16 = .ok (.ireturn, 1) := by decide +kernel
theorem dw_compare_17 : decode method_16_code 17 = .ok (.iconst 0, 1) := by decide +kernel
theorem dw_compare_18 : decode method_16_code 18 = .ok (.ireturn, 1) := by decide +kernel
set_option maxRecDepth 100000 in
theorem okw_compare : okL "RootDeskLaw" 58 143 2 := okLB_ok (by decide +kernel)
set_option maxRecDepth 100000 in
set_option maxHeartbeats 4000000 in
theorem w_compare_v {l : Launch} (hl0 : ∀ e : Env, l.admits e → e.platform.stackTraces = false) {x y : Int32} (hv : sl x ∧ sl y) {v0 : Int64} {D : va_G} {as : List Nat} {tys : List (ClassId × FieldType)} {ws : va_W} {sz a0 o : Nat} (hw : wr as tys (H0 ++ (Ms ++ [outC v0])) ws) (h0 : as[0]? = some a0) (ho : as[662]? = some o) : Met l nw_compare ws_compare rmW (va_Pc [.ref a0, .int x, .int y, .ref o] (xPre2 D xcl xNN tys ws sz)) (xPost D xcl (va_A ws sz) (asJ as (List.range' 649 14)) (some (.int (nI 0)), mI ++ [outC (0 : Int32).toInt64], 1, 6)) 1 6 (va_A ws sz) := by
  have hc : cR 143 6 200 [.ref 0, .int x, .int y] H0 (fun v _ => v = some (.int 0)) := by
    obtain ⟨⟨i, hi, rfl⟩, j, hj, rfl⟩ := hv
    exact k_compare hi hj
  refine va_MetW (hh := hh_compare) (cc := method_16_code) (maxL := 5) (ret := some .int) (by decide) rfl ?_
  intro p e s m args below meth c s₁ b hml hpc
  obtain ⟨rfl, ⟨hsz, hP, hK, hD0, hN⟩, hT⟩ := hpc
  have hts0 := atoms_spec (ws := ws_compare) b.pre
  have htab : c.exceptionTable.toList = tableOf hh_compare := by
    obtain ⟨m9, meth9, c9, z1, z2, z3, z4, z5, z6, -⟩ := Cond.codeWith_spec (hts0 _ List.mem_cons_self)
    cases b.named.symm.trans z1
    cases b.method.symm.trans z2
    cases (Stand.of_body b).code.symm.trans z3
    rw [← z6, table_eq]
  subst hsz
  have G : sg D xcl (va_A ws s.heap.size) s (H0 ++ (Ms ++ [outC v0])) as tys ws s.heap [] := ⟨hw, hK, hP, hD0.self, va_S.rf, fun q h => Or.inr h⟩
  have S : CallFix p m c method_16_code 5 s _ TB "RootDeskLaw" := ⟨b.exec, b.bytes, hml, findClass_of_methodNamed b.named, fun w hw => hts0 w (List.mem_cons_of_mem _ hw)⟩
  have hx := b.exec
  have hb := b.bytes
  obtain ⟨vs, hc0⟩ := H0_at0 (t := (Ms ++ [outC v0]))
  have hl := lv_entry ([.ref a0, .int x, .int y, .ref o] : List Value) (n := 5) (Nat.le_of_ble_eq_true rfl)
  rw [lg_entry_eq]
  show W p l e rmW s m _ below meth c s.heap [] 0 0 _ _
  refine lv_aload_n hx hb dw_compare_0 rfl (lv_at hl 3 rfl) ?_
  refine lv_iconst (v := 0) hx hb dw_compare_1 rfl ?_
  refine lv_aload_n hx hb dw_compare_2 rfl (lv_at hl 0 rfl) ?_
  refine lv_iload_n hx hb dw_compare_3 rfl (lv_at hl 1 rfl) ?_
  refine lv_iload_n hx hb dw_compare_4 rfl (lv_at hl 2 rfl) ?_
  obtain ⟨v, h', hv', -, hr⟩ := lw_V (p := p) (e := e) (R := rmW) (m := m) (below := below) (meth := meth) (J := List.range' 0 649) (i0 := 0) (ci := 11) (vs := vs) (fb := 11) (lb := 400) (cells := 0) (slots := 0) (pc := 5) (crest := [.int 0, .ref o]) hl0 S hN hT okw_compare (by decide) (hc) (Nat.le_of_ble_eq_true rfl) (Nat.le_of_ble_eq_true rfl) (Nat.le_of_ble_eq_true rfl) G (cut_pre H0_len H0_bd rfl) (vrs_cr h0 (vrs_ci (vrs_ci (rfl)))) h0 hc0 rfl (Nat.le_of_ble_eq_true rfl) (Nat.le_of_ble_eq_true rfl) (Nat.le_of_ble_eq_true rfl) (Nat.le_of_ble_eq_true rfl) rfl hl.1 rfl (Nat.le_of_ble_eq_true rfl) dw_compare_5
  obtain rfl := hv'
  refine lw_drop hr G (ndp_r 649 0) r649_lt cut_K (vrs_cr ho rfl) K_dis (Or.inr ⟨_, rfl⟩) (fun as' tys' ws' H1 locs1 k1 k2 G3 => ?_)
  obtain ⟨o1, t1, e1, hoo, -⟩ := vrs_r k2
  cases e1
  refine lv_i2l (v := (0 : Int32).toInt64) hx hb dw_compare_8 rfl ?_
  refine sg_last hx hb G3 hoo (i := 13) (x := [v0]) rfl (x_in_ok (n := 1) rfl) dw_compare_9 (fun ws4 H4 locs4 G4 => ?_)
  refine lv_goto hx hb dw_compare_10 (tgt := 17) rfl ?_
  refine lv_iconst (v := nI 0) hx hb dw_compare_17 rfl ?_
  refine W.widen (k := 1) (n := 6) (by omega) (by omega) ?_
  exact W.iret hx hb b.returns (fun t ht hW => ⟨⟨some (.int (nI 0)), as', _, _, rfl, k1, ⟨_, rfl, rfl⟩, G4.1, va_K.moved hW.alike G4.2.1, by rw [ht]; exact G4.2.2.1, G4.2.2.2.1⟩, G4.2.2.2.2.1.F ht⟩) G4.2.2.2.2.1.2.2 dw_compare_18 b.notSynchronized
set_option maxRecDepth 100000 in
set_option maxHeartbeats 4000000 in
theorem w_compare_t {l : Launch} (hl0 : ∀ e : Env, l.admits e → e.platform.stackTraces = false) {x y : Int32} (hv : ¬ (sl x ∧ sl y)) {v0 : Int64} {D : va_G} {as : List Nat} {tys : List (ClassId × FieldType)} {ws : va_W} {sz a0 o : Nat} (hw : wr as tys (H0 ++ (Ms ++ [outC v0])) ws) (h0 : as[0]? = some a0) (ho : as[662]? = some o) : Met l nw_compare ws_compare rmW (va_Pc [.ref a0, .int x, .int y, .ref o] (xPre2 D xcl xNN tys ws sz)) (xPost D xcl (va_A ws sz) (asJ as (List.range' 649 14)) (some (.int (nI 1)), mI ++ [outC v0], 1, 6)) 1 6 (va_A ws sz) := by
  refine va_MetW (hh := hh_compare) (cc := method_16_code) (maxL := 5) (ret := some .int) (by decide) rfl ?_
  intro p e s m args below meth c s₁ b hml hpc
  obtain ⟨rfl, ⟨hsz, hP, hK, hD0, hN⟩, hT⟩ := hpc
  have hts0 := atoms_spec (ws := ws_compare) b.pre
  have htab : c.exceptionTable.toList = tableOf hh_compare := by
    obtain ⟨m9, meth9, c9, z1, z2, z3, z4, z5, z6, -⟩ := Cond.codeWith_spec (hts0 _ List.mem_cons_self)
    cases b.named.symm.trans z1
    cases b.method.symm.trans z2
    cases (Stand.of_body b).code.symm.trans z3
    rw [← z6, table_eq]
  subst hsz
  have G : sg D xcl (va_A ws s.heap.size) s (H0 ++ (Ms ++ [outC v0])) as tys ws s.heap [] := ⟨hw, hK, hP, hD0.self, va_S.rf, fun q h => Or.inr h⟩
  have S : CallFix p m c method_16_code 5 s _ TB "RootDeskLaw" := ⟨b.exec, b.bytes, hml, findClass_of_methodNamed b.named, fun w hw => hts0 w (List.mem_cons_of_mem _ hw)⟩
  have hx := b.exec
  have hb := b.bytes
  obtain ⟨vs, hc0⟩ := H0_at0 (t := (Ms ++ [outC v0]))
  have hl := lv_entry ([.ref a0, .int x, .int y, .ref o] : List Value) (n := 5) (Nat.le_of_ble_eq_true rfl)
  rw [lg_entry_eq]
  show W p l e rmW s m _ below meth c s.heap [] 0 0 _ _
  refine lv_aload_n hx hb dw_compare_0 rfl (lv_at hl 3 rfl) ?_
  refine lv_iconst (v := 0) hx hb dw_compare_1 rfl ?_
  refine lv_aload_n hx hb dw_compare_2 rfl (lv_at hl 0 rfl) ?_
  refine lv_iload_n hx hb dw_compare_3 rfl (lv_at hl 1 rfl) ?_
  refine lv_iload_n hx hb dw_compare_4 rfl (lv_at hl 2 rfl) ?_
  refine lw_T1 (p := p) (e := e) (R := rmW) (m := m) (below := below) (meth := meth) (J := List.range' 0 649) (i0 := 0) (ci := 11) (vs := vs) (fb := 11) (lb := 400) (cells := 0) (slots := 0) (pc := 5) (crest := [.int 0, .ref o]) hl0 S hN hT okw_compare (by decide) (t_compare x y hv) (Nat.le_of_ble_eq_true rfl) (Nat.le_of_ble_eq_true rfl) (Nat.le_of_ble_eq_true rfl) G (cut_pre H0_len H0_bd rfl) (vrs_cr h0 (vrs_ci (vrs_ci (rfl)))) h0 hc0 rfl (Nat.le_of_ble_eq_true rfl) (Nat.le_of_ble_eq_true rfl) (Nat.le_of_ble_eq_true rfl) (Nat.le_of_ble_eq_true rfl) rfl hl.1 rfl (Nat.le_of_ble_eq_true rfl) dw_compare_5 htab rfl (by decide) (inT_ok (w := Cond.classLink "RootDeskLaw" 13 "java/lang/IllegalArgumentException") lk_13) (hT.1 _ (by simp [thV])) (fun xa H1 L hk => ?_)
  have G3 := kept_sg hk G (ndp_r 649 0) r649_lt cut_K (vrs_cr ho rfl) K_dis
  refine lv_astore hx hb dw_compare_13 hl (by decide) rfl (fun ls' hl' => ?_)
  refine lv_iconst (v := (nI 1)) hx hb dw_compare_15 rfl ?_
  exact W.iret hx hb b.returns (fun t ht hW => ⟨⟨some (.int (nI 1)), _, _, _, rfl, pre_rf, ⟨_, rfl, rfl⟩, G3.1, va_K.moved hW.alike G3.2.1, by rw [ht]; exact G3.2.2.1, G3.2.2.2.1⟩, G3.2.2.2.2.1.F ht⟩) G3.2.2.2.2.1.2.2 dw_compare_16 b.notSynchronized
def nw_sign : MethodName := ⟨"RootDeskLaw", "sign", "(LRootDesk;I[J)I"⟩
def hh_sign : List (Nat × Nat × Nat × Nat) := [(0, 9, 12, 13)]
def ws_sign : List Cond := Cond.codeWith nw_sign method_17_code 4 (some .int) hh_sign :: TB
theorem dw_sign_0 : decode method_17_code 0 = .ok (.aload_n 2, 1) := by decide +kernel
theorem dw_sign_1 : decode method_17_code 1 = .ok (.iconst 0, 1) := by decide +kernel
theorem dw_sign_2 : decode method_17_code 2 = .ok (.aload_n 0, 1) := by decide +kernel
theorem dw_sign_3 : decode method_17_code 3 = .ok (.iload_n 1, 1) := by decide +kernel
theorem dw_sign_4 : decode method_17_code 4 = .ok (.invokevirtual 61, 3) := by decide +kernel
theorem dw_sign_7 : decode method_17_code 7 = .ok (.i2l, 1) := by decide +kernel
theorem dw_sign_8 : decode method_17_code 8 = .ok (.lastore, 1) := by decide +kernel
theorem dw_sign_9 : decode method_17_code 9 = .ok (.goto 6, 3) := by decide +kernel
theorem dw_sign_12 : decode method_17_code 12 = .ok (.astore_n 3, 1) := by decide +kernel
theorem dw_sign_13 : decode method_17_code 13 = .ok (.iconst 1, 1) := by decide +kernel
theorem dw_sign_14 : decode method_17_code 14 = .ok (.ireturn, 1) := by decide +kernel
theorem dw_sign_15 : decode method_17_code 15 = .ok (.iconst 0, 1) := by decide +kernel
theorem dw_sign_16 : decode method_17_code 16 = .ok (.ireturn, 1) := by decide +kernel
set_option maxRecDepth 100000 in
theorem okw_sign : okL "RootDeskLaw" 61 144 1 := okLB_ok (by decide +kernel)
set_option maxRecDepth 100000 in
set_option maxHeartbeats 4000000 in
theorem w_sign_v {l : Launch} (hl0 : ∀ e : Env, l.admits e → e.platform.stackTraces = false) {x : Int32} (hv : sl x) {v0 : Int64} {D : va_G} {as : List Nat} {tys : List (ClassId × FieldType)} {ws : va_W} {sz a0 o : Nat} (hw : wr as tys (H0 ++ (Ms ++ [outC v0])) ws) (h0 : as[0]? = some a0) (ho : as[662]? = some o) : Met l nw_sign ws_sign rmW (va_Pc [.ref a0, .int x, .ref o] (xPre2 D xcl xNN tys ws sz)) (xPost D xcl (va_A ws sz) (asJ as (List.range' 649 14)) (some (.int (nI 0)), mI ++ [outC (0 : Int32).toInt64], 1, 6)) 1 6 (va_A ws sz) := by
  have hc : cR 144 3 100 [.ref 0, .int x] H0 (fun v _ => v = some (.int (0))) := by
    obtain ⟨i, hi, rfl⟩ := hv
    exact k_sign hi
  refine va_MetW (hh := hh_sign) (cc := method_17_code) (maxL := 4) (ret := some .int) (by decide) rfl ?_
  intro p e s m args below meth c s₁ b hml hpc
  obtain ⟨rfl, ⟨hsz, hP, hK, hD0, hN⟩, hT⟩ := hpc
  have hts0 := atoms_spec (ws := ws_sign) b.pre
  have htab : c.exceptionTable.toList = tableOf hh_sign := by
    obtain ⟨m9, meth9, c9, z1, z2, z3, z4, z5, z6, -⟩ := Cond.codeWith_spec (hts0 _ List.mem_cons_self)
    cases b.named.symm.trans z1
    cases b.method.symm.trans z2
    cases (Stand.of_body b).code.symm.trans z3
    rw [← z6, table_eq]
  subst hsz
  have G : sg D xcl (va_A ws s.heap.size) s (H0 ++ (Ms ++ [outC v0])) as tys ws s.heap [] := ⟨hw, hK, hP, hD0.self, va_S.rf, fun q h => Or.inr h⟩
  have S : CallFix p m c method_17_code 4 s _ TB "RootDeskLaw" := ⟨b.exec, b.bytes, hml, findClass_of_methodNamed b.named, fun w hw => hts0 w (List.mem_cons_of_mem _ hw)⟩
  have hx := b.exec
  have hb := b.bytes
  obtain ⟨vs, hc0⟩ := H0_at0 (t := (Ms ++ [outC v0]))
  have hl := lv_entry ([.ref a0, .int x, .ref o] : List Value) (n := 4) (Nat.le_of_ble_eq_true rfl)
  rw [lg_entry_eq]
  show W p l e rmW s m _ below meth c s.heap [] 0 0 _ _
  refine lv_aload_n hx hb dw_sign_0 rfl (lv_at hl 2 rfl) ?_
  refine lv_iconst (v := 0) hx hb dw_sign_1 rfl ?_
  refine lv_aload_n hx hb dw_sign_2 rfl (lv_at hl 0 rfl) ?_
  refine lv_iload_n hx hb dw_sign_3 rfl (lv_at hl 1 rfl) ?_
  obtain ⟨v, h', hv', -, hr⟩ := lw_V (p := p) (e := e) (R := rmW) (m := m) (below := below) (meth := meth) (J := List.range' 0 649) (i0 := 0) (ci := 11) (vs := vs) (fb := 11) (lb := 400) (cells := 0) (slots := 0) (pc := 4) (crest := [.int 0, .ref o]) hl0 S hN hT okw_sign (by decide) (hc) (Nat.le_of_ble_eq_true rfl) (Nat.le_of_ble_eq_true rfl) (Nat.le_of_ble_eq_true rfl) G (cut_pre H0_len H0_bd rfl) (vrs_cr h0 (vrs_ci (rfl))) h0 hc0 rfl (Nat.le_of_ble_eq_true rfl) (Nat.le_of_ble_eq_true rfl) (Nat.le_of_ble_eq_true rfl) (Nat.le_of_ble_eq_true rfl) rfl hl.1 rfl (Nat.le_of_ble_eq_true rfl) dw_sign_4
  obtain rfl := hv'
  refine lw_drop hr G (ndp_r 649 0) r649_lt cut_K (vrs_cr ho rfl) K_dis (Or.inr ⟨_, rfl⟩) (fun as' tys' ws' H1 locs1 k1 k2 G3 => ?_)
  obtain ⟨o1, t1, e1, hoo, -⟩ := vrs_r k2
  cases e1
  refine lv_i2l (v := (0 : Int32).toInt64) hx hb dw_sign_7 rfl ?_
  refine sg_last hx hb G3 hoo (i := 13) (x := [v0]) rfl (x_in_ok (n := 1) rfl) dw_sign_8 (fun ws4 H4 locs4 G4 => ?_)
  refine lv_goto hx hb dw_sign_9 (tgt := 15) rfl ?_
  refine lv_iconst (v := nI 0) hx hb dw_sign_15 rfl ?_
  refine W.widen (k := 1) (n := 6) (by omega) (by omega) ?_
  exact W.iret hx hb b.returns (fun t ht hW => ⟨⟨some (.int (nI 0)), as', _, _, rfl, k1, ⟨_, rfl, rfl⟩, G4.1, va_K.moved hW.alike G4.2.1, by rw [ht]; exact G4.2.2.1, G4.2.2.2.1⟩, G4.2.2.2.2.1.F ht⟩) G4.2.2.2.2.1.2.2 dw_sign_16 b.notSynchronized
set_option maxRecDepth 100000 in
set_option maxHeartbeats 4000000 in
theorem w_sign_t {l : Launch} (hl0 : ∀ e : Env, l.admits e → e.platform.stackTraces = false) {x : Int32} (hv : ¬ (sl x)) {v0 : Int64} {D : va_G} {as : List Nat} {tys : List (ClassId × FieldType)} {ws : va_W} {sz a0 o : Nat} (hw : wr as tys (H0 ++ (Ms ++ [outC v0])) ws) (h0 : as[0]? = some a0) (ho : as[662]? = some o) : Met l nw_sign ws_sign rmW (va_Pc [.ref a0, .int x, .ref o] (xPre2 D xcl xNN tys ws sz)) (xPost D xcl (va_A ws sz) (asJ as (List.range' 649 14)) (some (.int (nI 1)), mI ++ [outC v0], 1, 6)) 1 6 (va_A ws sz) := by
  refine va_MetW (hh := hh_sign) (cc := method_17_code) (maxL := 4) (ret := some .int) (by decide) rfl ?_
  intro p e s m args below meth c s₁ b hml hpc
  obtain ⟨rfl, ⟨hsz, hP, hK, hD0, hN⟩, hT⟩ := hpc
  have hts0 := atoms_spec (ws := ws_sign) b.pre
  have htab : c.exceptionTable.toList = tableOf hh_sign := by
    obtain ⟨m9, meth9, c9, z1, z2, z3, z4, z5, z6, -⟩ := Cond.codeWith_spec (hts0 _ List.mem_cons_self)
    cases b.named.symm.trans z1
    cases b.method.symm.trans z2
    cases (Stand.of_body b).code.symm.trans z3
    rw [← z6, table_eq]
  subst hsz
  have G : sg D xcl (va_A ws s.heap.size) s (H0 ++ (Ms ++ [outC v0])) as tys ws s.heap [] := ⟨hw, hK, hP, hD0.self, va_S.rf, fun q h => Or.inr h⟩
  have S : CallFix p m c method_17_code 4 s _ TB "RootDeskLaw" := ⟨b.exec, b.bytes, hml, findClass_of_methodNamed b.named, fun w hw => hts0 w (List.mem_cons_of_mem _ hw)⟩
  have hx := b.exec
  have hb := b.bytes
  obtain ⟨vs, hc0⟩ := H0_at0 (t := (Ms ++ [outC v0]))
  have hl := lv_entry ([.ref a0, .int x, .ref o] : List Value) (n := 4) (Nat.le_of_ble_eq_true rfl)
  rw [lg_entry_eq]
  show W p l e rmW s m _ below meth c s.heap [] 0 0 _ _
  refine lv_aload_n hx hb dw_sign_0 rfl (lv_at hl 2 rfl) ?_
  refine lv_iconst (v := 0) hx hb dw_sign_1 rfl ?_
  refine lv_aload_n hx hb dw_sign_2 rfl (lv_at hl 0 rfl) ?_
  refine lv_iload_n hx hb dw_sign_3 rfl (lv_at hl 1 rfl) ?_
  refine lw_T1 (p := p) (e := e) (R := rmW) (m := m) (below := below) (meth := meth) (J := List.range' 0 649) (i0 := 0) (ci := 11) (vs := vs) (fb := 11) (lb := 400) (cells := 0) (slots := 0) (pc := 4) (crest := [.int 0, .ref o]) hl0 S hN hT okw_sign (by decide) (t_sign x hv) (Nat.le_of_ble_eq_true rfl) (Nat.le_of_ble_eq_true rfl) (Nat.le_of_ble_eq_true rfl) G (cut_pre H0_len H0_bd rfl) (vrs_cr h0 (vrs_ci (rfl))) h0 hc0 rfl (Nat.le_of_ble_eq_true rfl) (Nat.le_of_ble_eq_true rfl) (Nat.le_of_ble_eq_true rfl) (Nat.le_of_ble_eq_true rfl) rfl hl.1 rfl (Nat.le_of_ble_eq_true rfl) dw_sign_4 htab rfl (by decide) (inT_ok (w := Cond.classLink "RootDeskLaw" 13 "java/lang/IllegalArgumentException") lk_13) (hT.1 _ (by simp [thV])) (fun xa H1 L hk => ?_)
  have G3 := kept_sg hk G (ndp_r 649 0) r649_lt cut_K (vrs_cr ho rfl) K_dis
  refine lv_astore_n hx hb dw_sign_12 rfl hl (by decide) rfl (fun ls' hl' => ?_)
  refine lv_iconst (v := (nI 1)) hx hb dw_sign_13 rfl ?_
  exact W.iret hx hb b.returns (fun t ht hW => ⟨⟨some (.int (nI 1)), _, _, _, rfl, pre_rf, ⟨_, rfl, rfl⟩, G3.1, va_K.moved hW.alike G3.2.1, by rw [ht]; exact G3.2.2.1, G3.2.2.2.1⟩, G3.2.2.2.2.1.F ht⟩) G3.2.2.2.2.1.2.2 dw_sign_14 b.notSynchronized
def nw_print : MethodName := ⟨"RootDeskLaw", "print", "(LRootDesk;II[J)I"⟩
def hh_print : List (Nat × Nat × Nat × Nat) := [(0, 10, 13, 13)]
def ws_print : List Cond := Cond.codeWith nw_print method_18_code 5 (some .int) hh_print :: TB
theorem dw_print_0 : decode method_18_code 0 = .ok (.aload_n 3, 1) := by decide +kernel
theorem dw_print_1 : decode method_18_code 1 = .ok (.iconst 0, 1) := by decide +kernel
theorem dw_print_2 : decode method_18_code 2 = .ok (.aload_n 0, 1) := by decide +kernel
theorem dw_print_3 : decode method_18_code 3 = .ok (.iload_n 1, 1) := by decide +kernel
theorem dw_print_4 : decode method_18_code 4 = .ok (.iload_n 2, 1) := by decide +kernel
theorem dw_print_5 : decode method_18_code 5 = .ok (.invokevirtual 64, 3) := by decide +kernel
theorem dw_print_8 : decode method_18_code 8 = .ok (.i2l, 1) := by decide +kernel
theorem dw_print_9 : decode method_18_code 9 = .ok (.lastore, 1) := by decide +kernel
theorem dw_print_10 : decode method_18_code 10 = .ok (.goto 7, 3) := by decide +kernel
theorem dw_print_13 : decode method_18_code 13 = .ok (.astore 4, 2) := by decide +kernel
theorem dw_print_15 : decode method_18_code 15 = .ok (.iconst 1, 1) := by decide +kernel
theorem dw_print_16 : decode method_18_code 16 = .ok (.ireturn, 1) := by decide +kernel
theorem dw_print_17 : decode method_18_code 17 = .ok (.iconst 0, 1) := by decide +kernel
theorem dw_print_18 : decode method_18_code 18 = .ok (.ireturn, 1) := by decide +kernel
set_option maxRecDepth 100000 in
theorem okw_print : okL "RootDeskLaw" 64 145 2 := okLB_ok (by decide +kernel)
set_option maxRecDepth 100000 in
set_option maxHeartbeats 4000000 in
theorem w_print_v {l : Launch} (hl0 : ∀ e : Env, l.admits e → e.platform.stackTraces = false) {x y : Int32} (hv : sl x ∧ ¬ y < 0 ∧ ¬ nI 30 < y) {v0 : Int64} {D : va_G} {as : List Nat} {tys : List (ClassId × FieldType)} {ws : va_W} {sz a0 o : Nat} (hw : wr as tys (H0 ++ (Ms ++ [outC v0])) ws) (h0 : as[0]? = some a0) (ho : as[662]? = some o) : Met l nw_print ws_print rmW (va_Pc [.ref a0, .int x, .int y, .ref o] (xPre2 D xcl xNN tys ws sz)) (xPost D xcl (va_A ws sz) (asJ as (List.range' 649 14)) (some (.int (nI 0)), mI ++ [outC (1 : Int32).toInt64], 1, 6)) 1 6 (va_A ws sz) := by
  have hc : cR 145 7 260 [.ref 0, .int x, .int y] H0 (fun v _ => v = some (.int 1)) := by
    obtain ⟨⟨i, hi, rfl⟩, h1, h2⟩ := hv
    obtain ⟨k, hk, rfl⟩ : ∃ k : Nat, k ≤ 30 ∧ y = nI k := by
      obtain ⟨k, hk, rfl⟩ := nI_of h1
      refine ⟨k, ?_, rfl⟩
      rcases Nat.lt_or_ge 30 k with z | z
      · exact absurd (nI_lt z hk) h2
      · exact z
    exact k_print hk hi
  refine va_MetW (hh := hh_print) (cc := method_18_code) (maxL := 5) (ret := some .int) (by decide) rfl ?_
  intro p e s m args below meth c s₁ b hml hpc
  obtain ⟨rfl, ⟨hsz, hP, hK, hD0, hN⟩, hT⟩ := hpc
  have hts0 := atoms_spec (ws := ws_print) b.pre
  have htab : c.exceptionTable.toList = tableOf hh_print := by
    obtain ⟨m9, meth9, c9, z1, z2, z3, z4, z5, z6, -⟩ := Cond.codeWith_spec (hts0 _ List.mem_cons_self)
    cases b.named.symm.trans z1
    cases b.method.symm.trans z2
    cases (Stand.of_body b).code.symm.trans z3
    rw [← z6, table_eq]
  subst hsz
  have G : sg D xcl (va_A ws s.heap.size) s (H0 ++ (Ms ++ [outC v0])) as tys ws s.heap [] := ⟨hw, hK, hP, hD0.self, va_S.rf, fun q h => Or.inr h⟩
  have S : CallFix p m c method_18_code 5 s _ TB "RootDeskLaw" := ⟨b.exec, b.bytes, hml, findClass_of_methodNamed b.named, fun w hw => hts0 w (List.mem_cons_of_mem _ hw)⟩
  have hx := b.exec
  have hb := b.bytes
  obtain ⟨vs, hc0⟩ := H0_at0 (t := (Ms ++ [outC v0]))
  have hl := lv_entry ([.ref a0, .int x, .int y, .ref o] : List Value) (n := 5) (Nat.le_of_ble_eq_true rfl)
  rw [lg_entry_eq]
  show W p l e rmW s m _ below meth c s.heap [] 0 0 _ _
  refine lv_aload_n hx hb dw_print_0 rfl (lv_at hl 3 rfl) ?_
  refine lv_iconst (v := 0) hx hb dw_print_1 rfl ?_
  refine lv_aload_n hx hb dw_print_2 rfl (lv_at hl 0 rfl) ?_
  refine lv_iload_n hx hb dw_print_3 rfl (lv_at hl 1 rfl) ?_
  refine lv_iload_n hx hb dw_print_4 rfl (lv_at hl 2 rfl) ?_
  obtain ⟨v, h', hv', -, hr⟩ := lw_V (p := p) (e := e) (R := rmW) (m := m) (below := below) (meth := meth) (J := List.range' 0 649) (i0 := 0) (ci := 11) (vs := vs) (fb := 11) (lb := 400) (cells := 0) (slots := 0) (pc := 5) (crest := [.int 0, .ref o]) hl0 S hN hT okw_print (by decide) (hc) (Nat.le_of_ble_eq_true rfl) (Nat.le_of_ble_eq_true rfl) (Nat.le_of_ble_eq_true rfl) G (cut_pre H0_len H0_bd rfl) (vrs_cr h0 (vrs_ci (vrs_ci (rfl)))) h0 hc0 rfl (Nat.le_of_ble_eq_true rfl) (Nat.le_of_ble_eq_true rfl) (Nat.le_of_ble_eq_true rfl) (Nat.le_of_ble_eq_true rfl) rfl hl.1 rfl (Nat.le_of_ble_eq_true rfl) dw_print_5
  obtain rfl := hv'
  refine lw_drop hr G (ndp_r 649 0) r649_lt cut_K (vrs_cr ho rfl) K_dis (Or.inr ⟨_, rfl⟩) (fun as' tys' ws' H1 locs1 k1 k2 G3 => ?_)
  obtain ⟨o1, t1, e1, hoo, -⟩ := vrs_r k2
  cases e1
  refine lv_i2l (v := (1 : Int32).toInt64) hx hb dw_print_8 rfl ?_
  refine sg_last hx hb G3 hoo (i := 13) (x := [v0]) rfl (x_in_ok (n := 1) rfl) dw_print_9 (fun ws4 H4 locs4 G4 => ?_)
  refine lv_goto hx hb dw_print_10 (tgt := 17) rfl ?_
  refine lv_iconst (v := nI 0) hx hb dw_print_17 rfl ?_
  refine W.widen (k := 1) (n := 6) (by omega) (by omega) ?_
  exact W.iret hx hb b.returns (fun t ht hW => ⟨⟨some (.int (nI 0)), as', _, _, rfl, k1, ⟨_, rfl, rfl⟩, G4.1, va_K.moved hW.alike G4.2.1, by rw [ht]; exact G4.2.2.1, G4.2.2.2.1⟩, G4.2.2.2.2.1.F ht⟩) G4.2.2.2.2.1.2.2 dw_print_18 b.notSynchronized
set_option maxRecDepth 100000 in
set_option maxHeartbeats 4000000 in
theorem w_print_t {l : Launch} (hl0 : ∀ e : Env, l.admits e → e.platform.stackTraces = false) {x y : Int32} (hv : ¬ (sl x ∧ ¬ y < 0 ∧ ¬ nI 30 < y)) {v0 : Int64} {D : va_G} {as : List Nat} {tys : List (ClassId × FieldType)} {ws : va_W} {sz a0 o : Nat} (hw : wr as tys (H0 ++ (Ms ++ [outC v0])) ws) (h0 : as[0]? = some a0) (ho : as[662]? = some o) : Met l nw_print ws_print rmW (va_Pc [.ref a0, .int x, .int y, .ref o] (xPre2 D xcl xNN tys ws sz)) (xPost D xcl (va_A ws sz) (asJ as (List.range' 649 14)) (some (.int (nI 1)), mI ++ [outC v0], 1, 6)) 1 6 (va_A ws sz) := by
  refine va_MetW (hh := hh_print) (cc := method_18_code) (maxL := 5) (ret := some .int) (by decide) rfl ?_
  intro p e s m args below meth c s₁ b hml hpc
  obtain ⟨rfl, ⟨hsz, hP, hK, hD0, hN⟩, hT⟩ := hpc
  have hts0 := atoms_spec (ws := ws_print) b.pre
  have htab : c.exceptionTable.toList = tableOf hh_print := by
    obtain ⟨m9, meth9, c9, z1, z2, z3, z4, z5, z6, -⟩ := Cond.codeWith_spec (hts0 _ List.mem_cons_self)
    cases b.named.symm.trans z1
    cases b.method.symm.trans z2
    cases (Stand.of_body b).code.symm.trans z3
    rw [← z6, table_eq]
  subst hsz
  have G : sg D xcl (va_A ws s.heap.size) s (H0 ++ (Ms ++ [outC v0])) as tys ws s.heap [] := ⟨hw, hK, hP, hD0.self, va_S.rf, fun q h => Or.inr h⟩
  have S : CallFix p m c method_18_code 5 s _ TB "RootDeskLaw" := ⟨b.exec, b.bytes, hml, findClass_of_methodNamed b.named, fun w hw => hts0 w (List.mem_cons_of_mem _ hw)⟩
  have hx := b.exec
  have hb := b.bytes
  obtain ⟨vs, hc0⟩ := H0_at0 (t := (Ms ++ [outC v0]))
  have hl := lv_entry ([.ref a0, .int x, .int y, .ref o] : List Value) (n := 5) (Nat.le_of_ble_eq_true rfl)
  rw [lg_entry_eq]
  show W p l e rmW s m _ below meth c s.heap [] 0 0 _ _
  refine lv_aload_n hx hb dw_print_0 rfl (lv_at hl 3 rfl) ?_
  refine lv_iconst (v := 0) hx hb dw_print_1 rfl ?_
  refine lv_aload_n hx hb dw_print_2 rfl (lv_at hl 0 rfl) ?_
  refine lv_iload_n hx hb dw_print_3 rfl (lv_at hl 1 rfl) ?_
  refine lv_iload_n hx hb dw_print_4 rfl (lv_at hl 2 rfl) ?_
  refine lw_T1 (p := p) (e := e) (R := rmW) (m := m) (below := below) (meth := meth) (J := List.range' 0 649) (i0 := 0) (ci := 11) (vs := vs) (fb := 11) (lb := 400) (cells := 0) (slots := 0) (pc := 5) (crest := [.int 0, .ref o]) hl0 S hN hT okw_print (by decide) (t_print x y hv) (Nat.le_of_ble_eq_true rfl) (Nat.le_of_ble_eq_true rfl) (Nat.le_of_ble_eq_true rfl) G (cut_pre H0_len H0_bd rfl) (vrs_cr h0 (vrs_ci (vrs_ci (rfl)))) h0 hc0 rfl (Nat.le_of_ble_eq_true rfl) (Nat.le_of_ble_eq_true rfl) (Nat.le_of_ble_eq_true rfl) (Nat.le_of_ble_eq_true rfl) rfl hl.1 rfl (Nat.le_of_ble_eq_true rfl) dw_print_5 htab rfl (by decide) (inT_ok (w := Cond.classLink "RootDeskLaw" 13 "java/lang/IllegalArgumentException") lk_13) (hT.1 _ (by simp [thV])) (fun xa H1 L hk => ?_)
  have G3 := kept_sg hk G (ndp_r 649 0) r649_lt cut_K (vrs_cr ho rfl) K_dis
  refine lv_astore hx hb dw_print_13 hl (by decide) rfl (fun ls' hl' => ?_)
  refine lv_iconst (v := (nI 1)) hx hb dw_print_15 rfl ?_
  exact W.iret hx hb b.returns (fun t ht hW => ⟨⟨some (.int (nI 1)), _, _, _, rfl, pre_rf, ⟨_, rfl, rfl⟩, G3.1, va_K.moved hW.alike G3.2.1, by rw [ht]; exact G3.2.2.1, G3.2.2.2.1⟩, G3.2.2.2.2.1.F ht⟩) G3.2.2.2.2.1.2.2 dw_print_16 b.notSynchronized
def nw_weight : MethodName := ⟨"RootDeskLaw", "weight", "(LRootDesk;I[J)I"⟩
def hh_weight : List (Nat × Nat × Nat × Nat) := [(0, 9, 12, 13)]
def ws_weight : List Cond := Cond.codeWith nw_weight method_19_code 4 (some .int) hh_weight :: TB
theorem dw_weight_0 : decode method_19_code 0 = .ok (.aload_n 2, 1) := by decide +kernel
theorem dw_weight_1 : decode method_19_code 1 = .ok (.iconst 0, 1) := by decide +kernel
theorem dw_weight_2 : decode method_19_code 2 = .ok (.aload_n 0, 1) := by decide +kernel
theorem dw_weight_3 : decode method_19_code 3 = .ok (.iload_n 1, 1) := by decide +kernel
theorem dw_weight_4 : decode method_19_code 4 = .ok (.invokevirtual 67, 3) := by decide +kernel
theorem dw_weight_7 : decode method_19_code 7 = .ok (.i2l, 1) := by decide +kernel
theorem dw_weight_8 : decode method_19_code 8 = .ok (.lastore, 1) := by decide +kernel
theorem dw_weight_9 : decode method_19_code 9 = .ok (.goto 6, 3) := by decide +kernel
theorem dw_weight_12 : decode method_19_code 12 = .ok (.astore_n 3, 1) := by decide +kernel
theorem dw_weight_13 : decode method_19_code 13 = .ok (.iconst 1, 1) := by decide +kernel
theorem dw_weight_14 : decode method_19_code 14 = .ok (.ireturn, 1) := by decide +kernel
theorem dw_weight_15 : decode method_19_code 15 = .ok (.iconst 0, 1) := by decide +kernel
theorem dw_weight_16 : decode method_19_code 16 = .ok (.ireturn, 1) := by decide +kernel
set_option maxRecDepth 100000 in
theorem okw_weight : okL "RootDeskLaw" 67 150 1 := okLB_ok (by decide +kernel)
set_option maxRecDepth 100000 in
set_option maxHeartbeats 4000000 in
theorem w_weight_v {l : Launch} (hl0 : ∀ e : Env, l.admits e → e.platform.stackTraces = false) {x : Int32} (hv : sl x) {v0 : Int64} {D : va_G} {as : List Nat} {tys : List (ClassId × FieldType)} {ws : va_W} {sz a0 o : Nat} (hw : wr as tys (H0 ++ (Ms ++ [outC v0])) ws) (h0 : as[0]? = some a0) (ho : as[662]? = some o) : Met l nw_weight ws_weight rmW (va_Pc [.ref a0, .int x, .ref o] (xPre2 D xcl xNN tys ws sz)) (xPost D xcl (va_A ws sz) (asJ as (List.range' 649 14)) (some (.int (nI 0)), mI ++ [outC (1 : Int32).toInt64], 1, 6)) 1 6 (va_A ws sz) := by
  have hc : cR 150 3 100 [.ref 0, .int x] H0 (fun v _ => v = some (.int (1))) := by
    obtain ⟨i, hi, rfl⟩ := hv
    exact k_weight hi
  refine va_MetW (hh := hh_weight) (cc := method_19_code) (maxL := 4) (ret := some .int) (by decide) rfl ?_
  intro p e s m args below meth c s₁ b hml hpc
  obtain ⟨rfl, ⟨hsz, hP, hK, hD0, hN⟩, hT⟩ := hpc
  have hts0 := atoms_spec (ws := ws_weight) b.pre
  have htab : c.exceptionTable.toList = tableOf hh_weight := by
    obtain ⟨m9, meth9, c9, z1, z2, z3, z4, z5, z6, -⟩ := Cond.codeWith_spec (hts0 _ List.mem_cons_self)
    cases b.named.symm.trans z1
    cases b.method.symm.trans z2
    cases (Stand.of_body b).code.symm.trans z3
    rw [← z6, table_eq]
  subst hsz
  have G : sg D xcl (va_A ws s.heap.size) s (H0 ++ (Ms ++ [outC v0])) as tys ws s.heap [] := ⟨hw, hK, hP, hD0.self, va_S.rf, fun q h => Or.inr h⟩
  have S : CallFix p m c method_19_code 4 s _ TB "RootDeskLaw" := ⟨b.exec, b.bytes, hml, findClass_of_methodNamed b.named, fun w hw => hts0 w (List.mem_cons_of_mem _ hw)⟩
  have hx := b.exec
  have hb := b.bytes
  obtain ⟨vs, hc0⟩ := H0_at0 (t := (Ms ++ [outC v0]))
  have hl := lv_entry ([.ref a0, .int x, .ref o] : List Value) (n := 4) (Nat.le_of_ble_eq_true rfl)
  rw [lg_entry_eq]
  show W p l e rmW s m _ below meth c s.heap [] 0 0 _ _
  refine lv_aload_n hx hb dw_weight_0 rfl (lv_at hl 2 rfl) ?_
  refine lv_iconst (v := 0) hx hb dw_weight_1 rfl ?_
  refine lv_aload_n hx hb dw_weight_2 rfl (lv_at hl 0 rfl) ?_
  refine lv_iload_n hx hb dw_weight_3 rfl (lv_at hl 1 rfl) ?_
  obtain ⟨v, h', hv', -, hr⟩ := lw_V (p := p) (e := e) (R := rmW) (m := m) (below := below) (meth := meth) (J := List.range' 0 649) (i0 := 0) (ci := 11) (vs := vs) (fb := 11) (lb := 400) (cells := 0) (slots := 0) (pc := 4) (crest := [.int 0, .ref o]) hl0 S hN hT okw_weight (by decide) (hc) (Nat.le_of_ble_eq_true rfl) (Nat.le_of_ble_eq_true rfl) (Nat.le_of_ble_eq_true rfl) G (cut_pre H0_len H0_bd rfl) (vrs_cr h0 (vrs_ci (rfl))) h0 hc0 rfl (Nat.le_of_ble_eq_true rfl) (Nat.le_of_ble_eq_true rfl) (Nat.le_of_ble_eq_true rfl) (Nat.le_of_ble_eq_true rfl) rfl hl.1 rfl (Nat.le_of_ble_eq_true rfl) dw_weight_4
  obtain rfl := hv'
  refine lw_drop hr G (ndp_r 649 0) r649_lt cut_K (vrs_cr ho rfl) K_dis (Or.inr ⟨_, rfl⟩) (fun as' tys' ws' H1 locs1 k1 k2 G3 => ?_)
  obtain ⟨o1, t1, e1, hoo, -⟩ := vrs_r k2
  cases e1
  refine lv_i2l (v := (1 : Int32).toInt64) hx hb dw_weight_7 rfl ?_
  refine sg_last hx hb G3 hoo (i := 13) (x := [v0]) rfl (x_in_ok (n := 1) rfl) dw_weight_8 (fun ws4 H4 locs4 G4 => ?_)
  refine lv_goto hx hb dw_weight_9 (tgt := 15) rfl ?_
  refine lv_iconst (v := nI 0) hx hb dw_weight_15 rfl ?_
  refine W.widen (k := 1) (n := 6) (by omega) (by omega) ?_
  exact W.iret hx hb b.returns (fun t ht hW => ⟨⟨some (.int (nI 0)), as', _, _, rfl, k1, ⟨_, rfl, rfl⟩, G4.1, va_K.moved hW.alike G4.2.1, by rw [ht]; exact G4.2.2.1, G4.2.2.2.1⟩, G4.2.2.2.2.1.F ht⟩) G4.2.2.2.2.1.2.2 dw_weight_16 b.notSynchronized
set_option maxRecDepth 100000 in
set_option maxHeartbeats 4000000 in
theorem w_weight_t {l : Launch} (hl0 : ∀ e : Env, l.admits e → e.platform.stackTraces = false) {x : Int32} (hv : ¬ (sl x)) {v0 : Int64} {D : va_G} {as : List Nat} {tys : List (ClassId × FieldType)} {ws : va_W} {sz a0 o : Nat} (hw : wr as tys (H0 ++ (Ms ++ [outC v0])) ws) (h0 : as[0]? = some a0) (ho : as[662]? = some o) : Met l nw_weight ws_weight rmW (va_Pc [.ref a0, .int x, .ref o] (xPre2 D xcl xNN tys ws sz)) (xPost D xcl (va_A ws sz) (asJ as (List.range' 649 14)) (some (.int (nI 1)), mI ++ [outC v0], 1, 6)) 1 6 (va_A ws sz) := by
  refine va_MetW (hh := hh_weight) (cc := method_19_code) (maxL := 4) (ret := some .int) (by decide) rfl ?_
  intro p e s m args below meth c s₁ b hml hpc
  obtain ⟨rfl, ⟨hsz, hP, hK, hD0, hN⟩, hT⟩ := hpc
  have hts0 := atoms_spec (ws := ws_weight) b.pre
  have htab : c.exceptionTable.toList = tableOf hh_weight := by
    obtain ⟨m9, meth9, c9, z1, z2, z3, z4, z5, z6, -⟩ := Cond.codeWith_spec (hts0 _ List.mem_cons_self)
    cases b.named.symm.trans z1
    cases b.method.symm.trans z2
    cases (Stand.of_body b).code.symm.trans z3
    rw [← z6, table_eq]
  subst hsz
  have G : sg D xcl (va_A ws s.heap.size) s (H0 ++ (Ms ++ [outC v0])) as tys ws s.heap [] := ⟨hw, hK, hP, hD0.self, va_S.rf, fun q h => Or.inr h⟩
  have S : CallFix p m c method_19_code 4 s _ TB "RootDeskLaw" := ⟨b.exec, b.bytes, hml, findClass_of_methodNamed b.named, fun w hw => hts0 w (List.mem_cons_of_mem _ hw)⟩
  have hx := b.exec
  have hb := b.bytes
  obtain ⟨vs, hc0⟩ := H0_at0 (t := (Ms ++ [outC v0]))
  have hl := lv_entry ([.ref a0, .int x, .ref o] : List Value) (n := 4) (Nat.le_of_ble_eq_true rfl)
  rw [lg_entry_eq]
  show W p l e rmW s m _ below meth c s.heap [] 0 0 _ _
  refine lv_aload_n hx hb dw_weight_0 rfl (lv_at hl 2 rfl) ?_
  refine lv_iconst (v := 0) hx hb dw_weight_1 rfl ?_
  refine lv_aload_n hx hb dw_weight_2 rfl (lv_at hl 0 rfl) ?_
  refine lv_iload_n hx hb dw_weight_3 rfl (lv_at hl 1 rfl) ?_
  refine lw_T1 (p := p) (e := e) (R := rmW) (m := m) (below := below) (meth := meth) (J := List.range' 0 649) (i0 := 0) (ci := 11) (vs := vs) (fb := 11) (lb := 400) (cells := 0) (slots := 0) (pc := 4) (crest := [.int 0, .ref o]) hl0 S hN hT okw_weight (by decide) (t_weight x hv) (Nat.le_of_ble_eq_true rfl) (Nat.le_of_ble_eq_true rfl) (Nat.le_of_ble_eq_true rfl) G (cut_pre H0_len H0_bd rfl) (vrs_cr h0 (vrs_ci (rfl))) h0 hc0 rfl (Nat.le_of_ble_eq_true rfl) (Nat.le_of_ble_eq_true rfl) (Nat.le_of_ble_eq_true rfl) (Nat.le_of_ble_eq_true rfl) rfl hl.1 rfl (Nat.le_of_ble_eq_true rfl) dw_weight_4 htab rfl (by decide) (inT_ok (w := Cond.classLink "RootDeskLaw" 13 "java/lang/IllegalArgumentException") lk_13) (hT.1 _ (by simp [thV])) (fun xa H1 L hk => ?_)
  have G3 := kept_sg hk G (ndp_r 649 0) r649_lt cut_K (vrs_cr ho rfl) K_dis
  refine lv_astore_n hx hb dw_weight_12 rfl hl (by decide) rfl (fun ls' hl' => ?_)
  refine lv_iconst (v := (nI 1)) hx hb dw_weight_13 rfl ?_
  exact W.iret hx hb b.returns (fun t ht hW => ⟨⟨some (.int (nI 1)), _, _, _, rfl, pre_rf, ⟨_, rfl, rfl⟩, G3.1, va_K.moved hW.alike G3.2.1, by rw [ht]; exact G3.2.2.1, G3.2.2.2.1⟩, G3.2.2.2.2.1.F ht⟩) G3.2.2.2.2.1.2.2 dw_weight_14 b.notSynchronized
def nw_size : MethodName := ⟨"RootDeskLaw", "size", "(LRootDesk;I[J)I"⟩
def hh_size : List (Nat × Nat × Nat × Nat) := [(0, 9, 12, 13)]
def ws_size : List Cond := Cond.codeWith nw_size method_20_code 4 (some .int) hh_size :: TB
theorem dw_size_0 : decode method_20_code 0 = .ok (.aload_n 2, 1) := by decide +kernel
theorem dw_size_1 : decode method_20_code 1 = .ok (.iconst 0, 1) := by decide +kernel
theorem dw_size_2 : decode method_20_code 2 = .ok (.aload_n 0, 1) := by decide +kernel
theorem dw_size_3 : decode method_20_code 3 = .ok (.iload_n 1, 1) := by decide +kernel
theorem dw_size_4 : decode method_20_code 4 = .ok (.invokevirtual 70, 3) := by decide +kernel
theorem dw_size_7 : decode method_20_code 7 = .ok (.i2l, 1) := by decide +kernel
theorem dw_size_8 : decode method_20_code 8 = .ok (.lastore, 1) := by decide +kernel
theorem dw_size_9 : decode method_20_code 9 = .ok (.goto 6, 3) := by decide +kernel
theorem dw_size_12 : decode method_20_code 12 = .ok (.astore_n 3, 1) := by decide +kernel
theorem dw_size_13 : decode method_20_code 13 = .ok (.iconst 1, 1) := by decide +kernel
theorem dw_size_14 : decode method_20_code 14 = .ok (.ireturn, 1) := by decide +kernel
theorem dw_size_15 : decode method_20_code 15 = .ok (.iconst 0, 1) := by decide +kernel
theorem dw_size_16 : decode method_20_code 16 = .ok (.ireturn, 1) := by decide +kernel
set_option maxRecDepth 100000 in
theorem okw_size : okL "RootDeskLaw" 70 151 1 := okLB_ok (by decide +kernel)
set_option maxRecDepth 100000 in
set_option maxHeartbeats 4000000 in
theorem w_size_v {l : Launch} (hl0 : ∀ e : Env, l.admits e → e.platform.stackTraces = false) {x : Int32} (hv : sl x) {v0 : Int64} {D : va_G} {as : List Nat} {tys : List (ClassId × FieldType)} {ws : va_W} {sz a0 o : Nat} (hw : wr as tys (H0 ++ (Ms ++ [outC v0])) ws) (h0 : as[0]? = some a0) (ho : as[662]? = some o) : Met l nw_size ws_size rmW (va_Pc [.ref a0, .int x, .ref o] (xPre2 D xcl xNN tys ws sz)) (xPost D xcl (va_A ws sz) (asJ as (List.range' 649 14)) (some (.int (nI 0)), mI ++ [outC (20 : Int32).toInt64], 1, 6)) 1 6 (va_A ws sz) := by
  have hc : cR 151 3 100 [.ref 0, .int x] H0 (fun v _ => v = some (.int (20))) := by
    obtain ⟨i, hi, rfl⟩ := hv
    exact k_size hi
  refine va_MetW (hh := hh_size) (cc := method_20_code) (maxL := 4) (ret := some .int) (by decide) rfl ?_
  intro p e s m args below meth c s₁ b hml hpc
  obtain ⟨rfl, ⟨hsz, hP, hK, hD0, hN⟩, hT⟩ := hpc
  have hts0 := atoms_spec (ws := ws_size) b.pre
  have htab : c.exceptionTable.toList = tableOf hh_size := by
    obtain ⟨m9, meth9, c9, z1, z2, z3, z4, z5, z6, -⟩ := Cond.codeWith_spec (hts0 _ List.mem_cons_self)
    cases b.named.symm.trans z1
    cases b.method.symm.trans z2
    cases (Stand.of_body b).code.symm.trans z3
    rw [← z6, table_eq]
  subst hsz
  have G : sg D xcl (va_A ws s.heap.size) s (H0 ++ (Ms ++ [outC v0])) as tys ws s.heap [] := ⟨hw, hK, hP, hD0.self, va_S.rf, fun q h => Or.inr h⟩
  have S : CallFix p m c method_20_code 4 s _ TB "RootDeskLaw" := ⟨b.exec, b.bytes, hml, findClass_of_methodNamed b.named, fun w hw => hts0 w (List.mem_cons_of_mem _ hw)⟩
  have hx := b.exec
  have hb := b.bytes
  obtain ⟨vs, hc0⟩ := H0_at0 (t := (Ms ++ [outC v0]))
  have hl := lv_entry ([.ref a0, .int x, .ref o] : List Value) (n := 4) (Nat.le_of_ble_eq_true rfl)
  rw [lg_entry_eq]
  show W p l e rmW s m _ below meth c s.heap [] 0 0 _ _
  refine lv_aload_n hx hb dw_size_0 rfl (lv_at hl 2 rfl) ?_
  refine lv_iconst (v := 0) hx hb dw_size_1 rfl ?_
  refine lv_aload_n hx hb dw_size_2 rfl (lv_at hl 0 rfl) ?_
  refine lv_iload_n hx hb dw_size_3 rfl (lv_at hl 1 rfl) ?_
  obtain ⟨v, h', hv', -, hr⟩ := lw_V (p := p) (e := e) (R := rmW) (m := m) (below := below) (meth := meth) (J := List.range' 0 649) (i0 := 0) (ci := 11) (vs := vs) (fb := 11) (lb := 400) (cells := 0) (slots := 0) (pc := 4) (crest := [.int 0, .ref o]) hl0 S hN hT okw_size (by decide) (hc) (Nat.le_of_ble_eq_true rfl) (Nat.le_of_ble_eq_true rfl) (Nat.le_of_ble_eq_true rfl) G (cut_pre H0_len H0_bd rfl) (vrs_cr h0 (vrs_ci (rfl))) h0 hc0 rfl (Nat.le_of_ble_eq_true rfl) (Nat.le_of_ble_eq_true rfl) (Nat.le_of_ble_eq_true rfl) (Nat.le_of_ble_eq_true rfl) rfl hl.1 rfl (Nat.le_of_ble_eq_true rfl) dw_size_4
  obtain rfl := hv'
  refine lw_drop hr G (ndp_r 649 0) r649_lt cut_K (vrs_cr ho rfl) K_dis (Or.inr ⟨_, rfl⟩) (fun as' tys' ws' H1 locs1 k1 k2 G3 => ?_)
  obtain ⟨o1, t1, e1, hoo, -⟩ := vrs_r k2
  cases e1
  refine lv_i2l (v := (20 : Int32).toInt64) hx hb dw_size_7 rfl ?_
  refine sg_last hx hb G3 hoo (i := 13) (x := [v0]) rfl (x_in_ok (n := 1) rfl) dw_size_8 (fun ws4 H4 locs4 G4 => ?_)
  refine lv_goto hx hb dw_size_9 (tgt := 15) rfl ?_
  refine lv_iconst (v := nI 0) hx hb dw_size_15 rfl ?_
  refine W.widen (k := 1) (n := 6) (by omega) (by omega) ?_
  exact W.iret hx hb b.returns (fun t ht hW => ⟨⟨some (.int (nI 0)), as', _, _, rfl, k1, ⟨_, rfl, rfl⟩, G4.1, va_K.moved hW.alike G4.2.1, by rw [ht]; exact G4.2.2.1, G4.2.2.2.1⟩, G4.2.2.2.2.1.F ht⟩) G4.2.2.2.2.1.2.2 dw_size_16 b.notSynchronized
set_option maxRecDepth 100000 in
set_option maxHeartbeats 4000000 in
theorem w_size_t {l : Launch} (hl0 : ∀ e : Env, l.admits e → e.platform.stackTraces = false) {x : Int32} (hv : ¬ (sl x)) {v0 : Int64} {D : va_G} {as : List Nat} {tys : List (ClassId × FieldType)} {ws : va_W} {sz a0 o : Nat} (hw : wr as tys (H0 ++ (Ms ++ [outC v0])) ws) (h0 : as[0]? = some a0) (ho : as[662]? = some o) : Met l nw_size ws_size rmW (va_Pc [.ref a0, .int x, .ref o] (xPre2 D xcl xNN tys ws sz)) (xPost D xcl (va_A ws sz) (asJ as (List.range' 649 14)) (some (.int (nI 1)), mI ++ [outC v0], 1, 6)) 1 6 (va_A ws sz) := by
  refine va_MetW (hh := hh_size) (cc := method_20_code) (maxL := 4) (ret := some .int) (by decide) rfl ?_
  intro p e s m args below meth c s₁ b hml hpc
  obtain ⟨rfl, ⟨hsz, hP, hK, hD0, hN⟩, hT⟩ := hpc
  have hts0 := atoms_spec (ws := ws_size) b.pre
  have htab : c.exceptionTable.toList = tableOf hh_size := by
    obtain ⟨m9, meth9, c9, z1, z2, z3, z4, z5, z6, -⟩ := Cond.codeWith_spec (hts0 _ List.mem_cons_self)
    cases b.named.symm.trans z1
    cases b.method.symm.trans z2
    cases (Stand.of_body b).code.symm.trans z3
    rw [← z6, table_eq]
  subst hsz
  have G : sg D xcl (va_A ws s.heap.size) s (H0 ++ (Ms ++ [outC v0])) as tys ws s.heap [] := ⟨hw, hK, hP, hD0.self, va_S.rf, fun q h => Or.inr h⟩
  have S : CallFix p m c method_20_code 4 s _ TB "RootDeskLaw" := ⟨b.exec, b.bytes, hml, findClass_of_methodNamed b.named, fun w hw => hts0 w (List.mem_cons_of_mem _ hw)⟩
  have hx := b.exec
  have hb := b.bytes
  obtain ⟨vs, hc0⟩ := H0_at0 (t := (Ms ++ [outC v0]))
  have hl := lv_entry ([.ref a0, .int x, .ref o] : List Value) (n := 4) (Nat.le_of_ble_eq_true rfl)
  rw [lg_entry_eq]
  show W p l e rmW s m _ below meth c s.heap [] 0 0 _ _
  refine lv_aload_n hx hb dw_size_0 rfl (lv_at hl 2 rfl) ?_
  refine lv_iconst (v := 0) hx hb dw_size_1 rfl ?_
  refine lv_aload_n hx hb dw_size_2 rfl (lv_at hl 0 rfl) ?_
  refine lv_iload_n hx hb dw_size_3 rfl (lv_at hl 1 rfl) ?_
  refine lw_T1 (p := p) (e := e) (R := rmW) (m := m) (below := below) (meth := meth) (J := List.range' 0 649) (i0 := 0) (ci := 11) (vs := vs) (fb := 11) (lb := 400) (cells := 0) (slots := 0) (pc := 4) (crest := [.int 0, .ref o]) hl0 S hN hT okw_size (by decide) (t_size x hv) (Nat.le_of_ble_eq_true rfl) (Nat.le_of_ble_eq_true rfl) (Nat.le_of_ble_eq_true rfl) G (cut_pre H0_len H0_bd rfl) (vrs_cr h0 (vrs_ci (rfl))) h0 hc0 rfl (Nat.le_of_ble_eq_true rfl) (Nat.le_of_ble_eq_true rfl) (Nat.le_of_ble_eq_true rfl) (Nat.le_of_ble_eq_true rfl) rfl hl.1 rfl (Nat.le_of_ble_eq_true rfl) dw_size_4 htab rfl (by decide) (inT_ok (w := Cond.classLink "RootDeskLaw" 13 "java/lang/IllegalArgumentException") lk_13) (hT.1 _ (by simp [thV])) (fun xa H1 L hk => ?_)
  have G3 := kept_sg hk G (ndp_r 649 0) r649_lt cut_K (vrs_cr ho rfl) K_dis
  refine lv_astore_n hx hb dw_size_12 rfl hl (by decide) rfl (fun ls' hl' => ?_)
  refine lv_iconst (v := (nI 1)) hx hb dw_size_13 rfl ?_
  exact W.iret hx hb b.returns (fun t ht hW => ⟨⟨some (.int (nI 1)), _, _, _, rfl, pre_rf, ⟨_, rfl, rfl⟩, G3.1, va_K.moved hW.alike G3.2.1, by rw [ht]; exact G3.2.2.1, G3.2.2.2.1⟩, G3.2.2.2.2.1.F ht⟩) G3.2.2.2.2.1.2.2 dw_size_14 b.notSynchronized
