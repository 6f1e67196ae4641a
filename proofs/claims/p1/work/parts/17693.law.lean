/-! the law: its end (out of the skeleton), its calls -/
def R_law : String := "RootDeskLaw"
def lw_P (b : Addr) (xs : List Int32) (args : Array Value) (s : State) : Prop := args = #[.ref b] ∧ s.IntsAt b xs ∧ xs.length ≤ 4 ∧ (Jvm.Cond.and given_1 narrow_1).before args s = true
def lw_Q (_ : Array Value) (s : State) (o : Outcome) (t : State) : Prop := o = .returned (some (.int 1)) ∧ Framed s o t [] 600002 7302232
def lw_Z (below : List Frame) (a : Array Value) (s : State) : State → Prop := fun t => ∃ o, t.status = .running ∧ Ended t below o ∧ lw_Q a s o t
/-- the law's own end, with 1 on the stack, nothing written that was there before, its room as the claim has it -/
theorem lw_ret {p : Program} {l : Launch} {e : Env} {s : State} {m : MethodId} {below : List Frame} {meth : Method} {c : Code} {b : Nat} (hx : p.tables.exec = Jvm.exec) (hb : c.code = code) (hr : meth.sig.returnType = ret) (hlocks : meth.locks = false) {pc : Nat} {H : Heap} {ls : Array Slot} (hdg : decode code pc = .ok (.ireturn, 1)) : W p l e room_1 s m #[Value.ref b] below meth c H [] 600002 7302232 (lw_Z below #[Value.ref b] s) (F0 m pc ls [.int 1]) := by
  intro T hT X
  obtain ⟨fs, hret, hrun, hended, hW, hframe⟩ := X.leave (v := some (.int 1)) (hlocks := hlocks) (fun h => by rw [hr] at h; cases h)
  have hmeth' : T.vm.method? m = some meth := X.method'
  refine ⟨T.setFrames fs, ?_, .returned (some (.int 1)), hrun, hended, rfl, ⟨_, rfl⟩, hW, hframe⟩
  jvm_step X.here [X.here.top, hx, hb, hdg, hmeth', hr, ret, narrow_b1]
  (try refine ⟨rfl, ?_⟩); (try refine ⟨rfl, ?_⟩)
  first | (intro acts; rw [hret _ acts rfl rfl rfl]) | rw [hret _ _ rfl rfl rfl]
  exact Steps.refl _
/-- what holds at the law's entry: the machine, the code, the tables' words (any of lw_tbl by 'hts w (by decide +kernel)'), the script of L ints xs at the cell b, what the Statement gives of the start (any of its parts by flat_of_before) -/
def lw_At (p : Program) (s : State) (m : MethodId) (meth : Method) (c : Code) (b L : Nat) (xs : Nat → Int32) : Prop :=
  p.tables.exec = Jvm.exec ∧ c.code = code ∧ meth.sig.returnType = ret ∧ c.maxLocals = 7 ∧ s.vm.findClass R_law = some m.cls ∧ (∀ w ∈ lw_tbl, w.before #[Value.ref b] s = true) ∧ va_X b L xs s s.heap ∧ b < s.heap.size ∧ meth.locks = false ∧ (Jvm.Cond.and given_1 narrow_1).before #[Value.ref b] s = true
set_option maxRecDepth 100000 in
theorem okm_thrown : okL "RootDeskLaw" 83 153 0 := okLB_ok (by decide +kernel)
/-! the law's walk: its parts -/
def AA (s : State) : Nat → Prop := fun q => s.heap.size ≤ q
/-- what stands at the law's entry, for a script of four ints -/
def LC (p : Program) (l : Launch) (s : State) (m : MethodId) (b : Nat) (meth : Method) (c : Code) (L : Nat) (xs : Nat → Int32) : Prop := p.tables.exec = Jvm.exec ∧ c.code = code ∧ meth.sig.returnType = ret ∧ c.maxLocals = 7 ∧ s.vm.findClass "RootDeskLaw" = some m.cls ∧ (∀ w ∈ TB, w.before #[Value.ref b] s = true) ∧ va_X b L xs s s.heap ∧ b < s.heap.size ∧ meth.locks = false ∧ nx xNN s ∧ thS (AA s) s ∧ NC s ∧ ∀ e : Env, l.admits e → e.platform.stackTraces = false
theorem rs_i {x : Int32} {v : Option Value} {t : Option FieldType} (ht : t = some .int ∨ t = some .boolean) (h : rsh t v) : ∃ x, v = some (.int x) := by
  rcases ht with rfl | rfl <;> exact h
theorem FA_mg {h h' cs t : xH} {f : Int32} {n : Nat} (hl : h.length = n + 1) (hcs : rcs (bk (List.range' 0 (n + 1)) (h ++ t).length) h' = some cs) (hJ : n + 1 ≤ cs.length) (hF : FA h' f) : FA (mg (h ++ t) (List.range' 0 (n + 1)) cs) f := by
  obtain ⟨vs, hv⟩ := hF
  obtain ⟨c1, c2⟩ := rcs_at hcs
  have h0 : 0 < cs.length := by omega
  obtain ⟨c, g1, g2⟩ := c2 0 _ (List.getElem?_eq_getElem h0)
  rw [hv] at g1
  cases g1
  have g2 : (rvs (bk (List.range' 0 (n + 1)) (h ++ t).length) (.int f :: vs)).map (fun w => Sum.inl (12, w)) = some cs[0] := g2
  obtain ⟨w, hw⟩ := rvs_tot (bk_tot (List.range' 0 (n + 1)) (h ++ t).length) vs
  rw [rvs_j (x := .int f) rfl hw] at g2
  have g2 : some (Sum.inl (12, .int f :: w)) = some cs[0] := g2
  refine ⟨w, ?_⟩
  rw [mg_at (by rw [List.length_range']; omega) (ndp_r _ _) (fun j hj => by
    have := (List.mem_range'_1.mp hj).2
    rw [List.length_append]; omega) 0, if_pos (by rw [List.length_append]; omega), show sp (List.range' 0 (n + 1)) 0 = some 0 from sp_h (l := List.range' 1 n)]
  show cs[0]? = _
  rw [List.getElem?_eq_getElem h0, g2]
theorem out_mg {h cs : xH} {x : xC} {n : Nat} (hl : h.length = n) (hJ : n ≤ cs.length) : (mg (h ++ [x]) (List.range' 0 n) cs)[n]? = some x := by
  rw [mg_at (by rw [List.length_range']; omega) (ndp_r _ _) (fun j hj => by
    have := (List.mem_range'_1.mp hj).2
    rw [List.length_append]; omega) n, if_pos (by rw [List.length_append, hl]; exact Nat.lt_succ_self n), sp_hi n 0 n (by omega)]
  show (h ++ [x])[n]? = _
  rw [List.getElem?_append_right (by omega), hl, Nat.sub_self]
  rfl
theorem mI_len : mI.length = 13 := rfl
theorem mI_bd : mI.all (cBd 13) = true := rfl
section LAW
variable {p : Program} {l : Launch} {e : Env} {s : State} {m : MethodId} {below : List Frame} {meth : Method} {c : Code} {H : Heap} {locs : List Loc} {cells slots b L : Nat} {xs : Nat → Int32} {Q : State → Prop}
variable {D : va_G} {h : xH} {as : List Nat} {tys : List (ClassId × FieldType)} {ws : va_W} {pc : Nat} {ls : Array Slot} {cst rest crest : List Value}
/-- script[i + k], for i = 0 -/
theorem rd (C : LC p l s m b meth c L xs) {k : Nat} (hk : k < L) (hL : L ≤ 4) (d1 : decode code pc = .ok (.aload_n 0, 1)) (d2 : decode code (pc + 1) = .ok (.iload 4, 2)) (d3 : decode code (pc + 3) = .ok (.iconst (k : Int), 1)) (d4 : decode code (pc + 4) = .ok (.iadd, 1)) (d5 : decode code (pc + 5) = .ok (.iaload, 1)) (l0 : ls[0]? = some (.val (.ref b))) (l4 : ls[4]? = some (.val (.int 0))) (hS : va_S (AA s) s.heap H locs)
    (kk : W p l e room_1 s m #[Value.ref b] below meth c H locs cells slots Q (F0 m (pc + 6) ls (.int (xs k) :: rest))) : W p l e room_1 s m #[Value.ref b] below meth c H locs cells slots Q (F0 m pc ls rest) := by
  obtain ⟨hx, hb, -, -, -, -, hX, hbl, -⟩ := C
  refine lv_aload_n hx hb d1 rfl l0 ?_
  refine lv_iload hx hb d2 l4 ?_
  refine lv_iconst (v := nI k) hx hb d3 (by
    have : ∀ k : Nat, k < 4 → Int32.ofInt (k : Int) = nI k := by decide
    exact this k (by omega)) ?_
  refine lv_iadd hx hb d4 ?_
  have e0 : (0 : Int32) + nI k = nI k := Int32.zero_add _
  rw [e0]
  refine va_sld hx hb hX hbl (Nat.not_le.mpr hbl) hS (vp_in_nI hk (by omega)) d5 ?_
  rw [nI_clamp (by omega)]
  exact kk
/-- the loop's end, and the law's -/
theorem lw_end (C : LC p l s m b meth c L xs) (hS : va_S (AA s) s.heap H locs) (hc : cells ≤ 600002) (hs : slots ≤ 7302232) : W p l e room_1 s m #[Value.ref b] below meth c H locs cells slots (lw_Z below #[Value.ref b] s) (F0 m 1403 ls []) := by
  obtain ⟨hx, hb, hr, hml, hown, hts, hX, hbl, hlocks, -⟩ := C
  refine lv_iconst (v := 1) hx hb d_1403 rfl ?_
  refine W.widen hc hs (va_forget (fun q hq => hS.2.2 q hq) (lw_ret hx hb hr hlocks d_1404))
theorem lw_tail (C : LC p l s m b meth c 4 xs) (hS : va_S (AA s) s.heap H locs) (hc : cells ≤ 600002) (hs : slots ≤ 7302232) (hl : lv_has ls 7 [(4, .int 0), (0, .ref b)]) : W p l e room_1 s m #[Value.ref b] below meth c H locs cells slots (lw_Z below #[Value.ref b] s) (F0 m 1397 ls []) := by
  obtain ⟨hx, hb, hr, hml, hown, hts, hX, hbl, hlocks, -⟩ := id C
  refine lv_iinc (k := 0) (v := 4) hx hb d_1397 hl rfl (by decide) (by decide) rfl (fun ls' hl' => ?_)
  refine lv_goto hx hb d_1400 (tgt := 23) rfl ?_
  refine lv_iload hx hb d_23 (lv_at hl' 0 rfl) ?_
  refine lv_aload_n hx hb d_25 rfl (lv_at hl' 1 rfl) ?_
  refine va_slen hx hb hX hbl (Nat.not_le.mpr hbl) hS d_26 ?_
  refine lv_iconst (v := 4) hx hb d_27 rfl ?_
  refine lv_isub hx hb d_28 ?_
  refine lv_icmp_gt hx hb d_29 (tgt := 1403) rfl (fun _ => lw_end C hS hc hs) (fun z => absurd (show Int32.ofNat 4 - 4 < (4 : Int32) by decide) z)
set_option maxHeartbeats 4000000 in
/-- a helper is called -/
theorem lw_S {y : MethodName} {bytes : ByteArray} {maxL idx : Nat} {hh : List (Nat × Nat × Nat × Nat)} {Pc : Array Value → State → Prop} {k : Int32} {h1 : xH} {cvs : List Value} (C : LC p l s m b meth c L xs) (hM : Met l y (Cond.codeWith y bytes maxL (some .int) hh :: TB) rmW Pc (xPost D xcl (va_A ws H.size) (asJ as (List.range' 649 14)) (some (.int k), h1, 1, 6)) 1 6 (va_A ws H.size)) (hbl : FrameBlind Pc) (hpre : ∀ U : State, U.heap = H → s.WarmedH U.vm → Pc cvs.toArray U) (hcw : inT (Cond.codeWith y bytes maxL (some .int) hh) = true) (hini : inT (Cond.initialized y.cls) = true) (hlk : inT (Cond.methodLink "RootDeskLaw" idx y) = true) (hst : inT (Cond.static y) = true) (hy : y.cls ≠ "java/lang/invoke/MethodHandle" ∧ y.cls ≠ "java/lang/invoke/VarHandle") (hlen : (parseMethodDescriptor y.desc).map (fun d => d.parameters.length) = some cvs.length) (hmx : maxL ≤ 19)
    (G : sg D xcl (AA s) s h as tys ws H locs) (hc1 : cells + 1 ≤ 600002) (hs1 : slots + 6 ≤ 7302232) (hsz : ls.size = 7) (hcst : cst = cvs.reverse ++ []) (hdc : decode code pc = .ok (.invokestatic idx, 3))
    (kk : ∀ (as' : List Nat) (tys' : List (ClassId × FieldType)) (ws' : va_W) (H1 : Heap) (locs1 : List Loc), pre (asJ as (List.range' 649 14)) as' → sg D xcl (AA s) s h1 as' tys' ws' H1 locs1 → W p l e room_1 s m #[Value.ref b] below meth c H1 locs1 (cells + 1) (slots + 6) Q (F0 m (pc + 3) ls [.int k])) : W p l e room_1 s m #[Value.ref b] below meth c H locs cells slots Q (F0 m pc ls cst) := by
  obtain ⟨hx, hb, hr, hml, hown, hts, hX, hbl0, hlocks, hN, hTs, hNC, hl0⟩ := C
  have hG : GoodIn TB (Cond.codeWith y bytes maxL (some .int) hh :: TB) := fun w hw => by
    rcases List.mem_cons.mp hw with rfl | hw
    · exact ⟨inT_ok hcw, TB_good _ (inT_ok hcw)⟩
    · exact ⟨hw, TB_good _ hw⟩
  have hrun := va_runSW (R := room_1) (cells := cells) (slots := slots) (locs := locs) (H := H) (below := below) (meth := meth) (e := e) (rest := []) (g := F0 m pc ls cst) hx hb hml hown hM rfl rfl (show 12 + 1 ≤ 13 by decide) (show 8 + (maxL + 11) + 500 ≤ 538 by omega) (pay_in hts hG) List.mem_cons_self (hts _ (inT_ok hini)) (hts _ (inT_ok hlk)) (hts _ (inT_ok hst)) (hts _ (inT_ok hcw)) hy (fun sig hp => by
    rw [hp] at hlen
    exact (Option.some.inj hlen).symm) ⟨hbl, hpre⟩ rfl hsz hcst (lv_room (by decide)) hdc ⟨hc1, hs1⟩
  refine x_callH hrun G (sg_A G) (fun cv as' tys' ws' H1 locs1 k1 k2 k3 => ?_)
  rw [ovr_i k2]
  exact kk as' tys' ws' H1 locs1 k1 k3
set_option maxHeartbeats 4000000 in
/-- a method of the reference is called, for the first time -/
theorem lw_M {mj idx q F B am : Nat} {K : Option Value → xH → Prop} {iv : List Value} {V : Int64} (C : LC p l s m b meth c L xs) (hok : okL "RootDeskLaw" idx mj q) (hVj : mj < nM) (hc : cR mj F B (.ref 0 :: iv) mI K) (hF : F ≤ 12) (hB : B ≤ 480) (hmx : xml xX mj ≤ 30) (hsl : (lg_sl (.ref 0 :: iv)).length ≤ xml xX mj) (hcn : (xB.1 mj).cls = "RootDeskModel") (hiv : iv.all (vBd 13) = true) (hir : vrs as iv iv) (hlen : iv.length = q)
    (G : sg D xcl (AA s) s (mI ++ [outC V]) as tys ws H locs) (hm : as[0]? = some am) (hc1 : cells ≤ 600002) (hs1 : slots ≤ 7302232) (hsz : ls.size = 7) (hcst : cst = iv.reverse ++ .ref am :: crest) (hsum : (crest.map fun v => v.category).sum ≤ 8) (hdc : decode code pc = .ok (.invokevirtual idx, 3)) (hty : xrt xX mj = none ∨ xrt xX mj = some .int ∨ xrt xX mj = some .boolean)
    (kk : ∀ (v : Option Value) (h' h3 : xH) (as' : List Nat) (tys' : List (ClassId × FieldType)) (ws' : va_W) (H1 : Heap) (locs1 : List Loc), K v h' → rsh (xrt xX mj) v → (∀ f, FA h' f → FA h3 f) → h3[13]? = some (outC V) → pre as as' → sg D xcl (AA s) s h3 as' tys' ws' H1 locs1 → W p l e room_1 s m #[Value.ref b] below meth c H1 locs1 cells slots Q (F0 m (pc + 3) ls (v.toList ++ crest))) : W p l e room_1 s m #[Value.ref b] below meth c H locs cells slots Q (F0 m pc ls cst) := by
  obtain ⟨hx, hb, hr, hml, hown, hts, hX, hbl0, hlocks, hN, hTs, hNC, hl0⟩ := C
  have hcut : cutJ (mI ++ [outC V]) (.ref 0 :: iv) (List.range' 0 13) mI (.ref 0 :: iv) := cut_pre mI_len mI_bd (by rw [List.all_cons, hiv]; rfl)
  have hJ : ∀ j ∈ List.range' 0 13, j < (mI ++ [outC V]).length := fun j hj => by
    have := (List.mem_range'_1.mp hj).2
    rw [List.length_append, mI_len]; omega
  obtain ⟨v, h', hK, hsh, hrun⟩ := lw_V (R := room_1) (p := p) (e := e) (m := m) (below := below) (meth := meth) (ls := ls) (cells := cells) (slots := slots) (pc := pc) (crest := crest) (fb := 12) (lb := 480) (i0 := 0) (ci := 12) hl0 ⟨hx, hb, hml, hown, hts⟩ hN hTs hok hVj hc hF hB hsl G hcut (vrs_cr hm hir) hm rfl (by rw [hcn]; rfl) (by decide) (show 8 + (xml xX mj + 11) + 480 ≤ 538 by omega) hc1 hs1 hlen hsz hcst hsum hdc
  have hrv : ∀ f : Nat → Option Nat, rvo f v = some v := by
    intro f
    rcases hty with z | z | z <;> rw [z] at hsh
    · have hsh : v = none := hsh
      rw [hsh]; rfl
    · obtain ⟨x, rfl⟩ := hsh; rfl
    · obtain ⟨x, rfl⟩ := hsh; rfl
  refine x_callM hrun G (ndp_r 13 0) hJ hrv (lw_A1 G (ndp_r 13 0) hJ) (far_of G (ndp_r 13 0) hJ) (fun cs cv as' tys' ws' H1 locs1 z1 z2 k1 k2 k3 => ?_)
  have hcv : cv = v := by
    rcases hty with z | z | z <;> rw [z] at hsh
    · have hsh : v = none := hsh
      subst hsh
      exact k2
    · obtain ⟨x, rfl⟩ := hsh; exact ovr_i k2
    · obtain ⟨x, rfl⟩ := hsh; exact ovr_i k2
  subst hcv
  have z2 : 13 ≤ cs.length := by rw [List.length_range'] at z2; exact z2
  exact kk _ h' _ as' tys' ws' H1 locs1 hK hsh (fun f hf => FA_mg (n := 12) mI_len z1 z2 hf) (out_mg mI_len z2) k1 k3
set_option maxHeartbeats 4000000 in
/-- .. and asked whether it threw -/
theorem lw_Th {am : Nat} {f : Int32} (C : LC p l s m b meth c L xs) (hF : FA h f) (G : sg D xcl (AA s) s h as tys ws H locs) (hm : as[0]? = some am) (hc1 : cells ≤ 600002) (hs1 : slots ≤ 7302232) (hsz : ls.size = 7) (hsum : (crest.map fun v => v.category).sum ≤ 8) (hdc : decode code pc = .ok (.invokevirtual 83, 3))
    (kk : ∀ (as' : List Nat) (tys' : List (ClassId × FieldType)) (ws' : va_W) (H1 : Heap) (locs1 : List Loc), pre as as' → sg D xcl (AA s) s h as' tys' ws' H1 locs1 → W p l e room_1 s m #[Value.ref b] below meth c H1 locs1 cells slots Q (F0 m (pc + 3) ls (.int f :: crest))) : W p l e room_1 s m #[Value.ref b] below meth c H locs cells slots Q (F0 m pc ls (.ref am :: crest)) := by
  obtain ⟨hx, hb, hr, hml, hown, hts, hX, hbl0, hlocks, hN, hTs, hNC, hl0⟩ := C
  obtain ⟨vs, hcell⟩ := id hF
  obtain ⟨v, h', hK, -, hrun⟩ := lw_V0 (R := room_1) (p := p) (e := e) (m := m) (below := below) (meth := meth) (ls := ls) (cells := cells) (slots := slots) (pc := pc) (crest := crest) (fb := 12) (lb := 400) (i0 := 0) (ci := 12) (As := []) hl0 ⟨hx, hb, hml, hown, hts⟩ hN hTs okm_thrown (by decide) (c_thrown hF) (by decide) (by decide) (Nat.le_of_ble_eq_true rfl) G (vrs_cr hm rfl) hm hcell rfl (by decide) (Nat.le_of_ble_eq_true rfl) hc1 hs1 rfl hsz rfl hsum hdc
  obtain ⟨rfl, rfl⟩ := hK
  refine x_call hrun G (sg_A G) (fun cv as' tys' ws' H1 locs1 k1 k2 k3 => ?_)
  rw [ovr_i k2]
  exact kk as' tys' ws' H1 locs1 k1 k3
end LAW
