/-! calls out of the law and its helpers -/
def inT (w : Cond) : Bool := decide (w ∈ lw_tbl) && goodWord w
theorem inT_ok {w : Cond} (h : inT w = true) : w ∈ TB := by
  unfold inT at h
  rw [Bool.and_eq_true] at h
  exact List.mem_filter.mpr ⟨of_decide_eq_true h.1, h.2⟩
def okL (own : String) (idx mj q : Nat) : Prop := Cond.initialized (xB.1 mj).cls ∈ TB ∧ ((xB.1 mj).cls ≠ "java/lang/invoke/MethodHandle" ∧ (xB.1 mj).cls ≠ "java/lang/invoke/VarHandle" ∧ (parseMethodDescriptor (xB.1 mj).desc).map (fun d => d.parameters.length) = some q) ∧ Cond.methodLink own idx (xB.1 mj) ∈ TB ∧ Cond.instanceMethod (xB.1 mj) ∈ TB ∧ Cond.selects (xB.1 mj).cls (xB.1 mj) (xB.1 mj) ∈ TB
def okLB (own : String) (idx mj q : Nat) : Bool := inT (.initialized (xB.1 mj).cls) && (decide ((xB.1 mj).cls ≠ "java/lang/invoke/MethodHandle") && (decide ((xB.1 mj).cls ≠ "java/lang/invoke/VarHandle") && (decide ((parseMethodDescriptor (xB.1 mj).desc).map (fun d => d.parameters.length) = some q) && (inT (.methodLink own idx (xB.1 mj)) && (inT (.instanceMethod (xB.1 mj)) && inT (.selects (xB.1 mj).cls (xB.1 mj) (xB.1 mj)))))))
theorem okLB_ok {own : String} {idx mj q : Nat} (h : okLB own idx mj q = true) : okL own idx mj q := by
  unfold okLB at h
  simp only [Bool.and_eq_true, decide_eq_true_eq] at h
  exact ⟨inT_ok h.1, ⟨h.2.1, h.2.2.1, h.2.2.2.1⟩, inT_ok h.2.2.2.2.1, inT_ok h.2.2.2.2.2.1, inT_ok h.2.2.2.2.2.2⟩
/-! the first cells, all their references among themselves -/
def vBd (n : Nat) (v : Value) : Bool := match v with
  | .ref i => Nat.blt i n
  | _ => true
def cBd (n : Nat) (c : xC) : Bool := match c with
  | .inl q => q.2.all (vBd n)
  | .inr (_, .inr (.inr x)) => x.all (fun o => match o with | some i => Nat.blt i n | none => true)
  | _ => true
theorem blt_lt {i n : Nat} (h : Nat.blt i n = true) : i < n := Nat.le_of_ble_eq_true h
theorem rvs_id {f : Nat → Option Nat} {n : Nat} (hf : ∀ i, i < n → f i = some i) : ∀ {l : List Value}, l.all (vBd n) = true → rvs f l = some l
  | [], _ => rfl
  | v :: l, h => by
    rw [List.all_cons, Bool.and_eq_true] at h
    refine rvs_j ?_ (rvs_id hf h.2)
    cases v <;> first | rfl | exact rv_r (hf _ (blt_lt h.1))
theorem ros_id {f : Nat → Option Nat} {n : Nat} (hf : ∀ i, i < n → f i = some i) : ∀ {l : List (Option Nat)}, l.all (fun o => match o with | some i => Nat.blt i n | none => true) = true → ros f l = some l
  | [], _ => rfl
  | v :: l, h => by
    rw [List.all_cons, Bool.and_eq_true] at h
    show (ro f v).bind (fun x => (ros f l).map (fun m => x :: m)) = _
    rw [ros_id hf h.2]
    cases v with
    | none => rfl
    | some i =>
      have e : ro f (some i) = some (some i) := by
        show (f i).bind (fun j => fN j (fun j => some (some j))) = _
        rw [hf i (blt_lt h.1)]
        show fN i (fun j => some (some j)) = _
        exact fN_eq i _
      rw [e]
      rfl
theorem rc_id {f : Nat → Option Nat} {n : Nat} (hf : ∀ i, i < n → f i = some i) {c : xC} (h : cBd n c = true) : rc f c = some c := by
  obtain q | ⟨ty, l | l | l⟩ := c
  · have h : q.2.all (vBd n) = true := h
    show (rvs f q.2).map (fun w => Sum.inl (q.1, w)) = _
    rw [rvs_id hf h]
    rfl
  · rfl
  · rfl
  · show (ros f l).map (fun w => Sum.inr (ty, Sum.inr (Sum.inr w))) = _
    rw [ros_id hf h]
    rfl
theorem rcs_id {f : Nat → Option Nat} {n : Nat} (hf : ∀ i, i < n → f i = some i) : ∀ {h : xH}, h.all (cBd n) = true → rcs f h = some h
  | [], _ => rfl
  | c :: l, h => by
    rw [List.all_cons, Bool.and_eq_true] at h
    exact rcs_c (rc_id hf h.1) (rcs_id hf h.2)
theorem pick_r : ∀ (h a t : xH), pick (a ++ (h ++ t)) (List.range' a.length h.length) = some h
  | [], a, t => rfl
  | x :: h, a, t => by
    show pick (a ++ (x :: h ++ t)) (a.length :: List.range' (a.length + 1) h.length) = _
    refine pick_c ?_ ?_
    · rw [List.getElem?_append_right (Nat.le_refl _), Nat.sub_self]; rfl
    · have e := pick_r h (a ++ [x]) t
      rw [List.length_append] at e
      rw [show a ++ (x :: h ++ t) = (a ++ [x]) ++ (h ++ t) by simp]
      exact e
theorem sp_lo : ∀ (n a i : Nat), i < a → sp (List.range' a n) i = none
  | 0, a, i, _ => rfl
  | n + 1, a, i, h => sp_tn (l := List.range' (a + 1) n) (by omega) (sp_lo n (a + 1) i (by omega))
theorem sp_hi : ∀ (n a i : Nat), a + n ≤ i → sp (List.range' a n) i = none
  | 0, a, i, _ => rfl
  | n + 1, a, i, h => sp_tn (l := List.range' (a + 1) n) (by omega) (sp_hi n (a + 1) i (by omega))
theorem sp_in : ∀ (n a i : Nat), i < n → sp (List.range' a n) (a + i) = some i
  | n + 1, a, 0, _ => sp_h (l := List.range' (a + 1) n)
  | n + 1, a, i + 1, h => by
    have e := sp_in n (a + 1) i (by omega)
    rw [show a + 1 + i = a + (i + 1) by omega] at e
    exact sp_t (l := List.range' (a + 1) n) (by omega) e
theorem ndp_r : ∀ (n a : Nat), ndp (List.range' a n) = true
  | 0, _ => rfl
  | n + 1, a => ndp_c (l := List.range' (a + 1) n) (sp_lo n (a + 1) a (by omega)) (ndp_r n (a + 1))
theorem cut_pre {h t : xH} {n : Nat} {avs : List Value} (hn : h.length = n) (hc : h.all (cBd n) = true) (ha : avs.all (vBd n) = true) : cutJ (h ++ t) avs (List.range' 0 n) h avs := by
  subst hn
  have hf : ∀ i, i < h.length → sp (List.range' 0 h.length) i = some i := fun i hi => by
    have := sp_in h.length 0 i hi
    rwa [Nat.zero_add] at this
  exact ⟨ndp_r _ _, h, pick_r h [] t, rcs_id hf hc, rvs_id hf ha⟩
set_option maxRecDepth 1000000 in
theorem H0_bd : H0.all (cBd 649) = true := by decide +kernel
set_option maxRecDepth 1000000 in
theorem H0_len : H0.length = 649 := by decide +kernel
/-- a renaming that leaves nothing out -/
theorem rv_tot {f : Nat → Option Nat} (hf : ∀ i, ∃ j, f i = some j) (v : Value) : ∃ w, rv f v = some w := by
  cases v <;> first | exact ⟨_, rfl⟩ | (next i => obtain ⟨j, hj⟩ := hf i; exact ⟨_, rv_r hj⟩)
theorem rvs_tot {f : Nat → Option Nat} (hf : ∀ i, ∃ j, f i = some j) : ∀ l : List Value, ∃ w, rvs f l = some w
  | [] => ⟨_, rfl⟩
  | v :: l => by
    obtain ⟨a, ha⟩ := rv_tot hf v
    obtain ⟨b, hb⟩ := rvs_tot hf l
    exact ⟨_, rvs_j ha hb⟩
theorem ros_tot {f : Nat → Option Nat} (hf : ∀ i, ∃ j, f i = some j) : ∀ l : List (Option Nat), ∃ w, ros f l = some w
  | [] => ⟨_, rfl⟩
  | v :: l => by
    obtain ⟨b, hb⟩ := ros_tot hf l
    have ha : ∃ a, ro f v = some a := by
      cases v with
      | none => exact ⟨_, rfl⟩
      | some i =>
        obtain ⟨j, hj⟩ := hf i
        refine ⟨some j, ?_⟩
        show (f i).bind (fun j => fN j (fun j => some (some j))) = _
        rw [hj]
        show fN j (fun j => some (some j)) = _
        exact fN_eq j _
    obtain ⟨a, ha⟩ := ha
    refine ⟨a :: b, ?_⟩
    show (ro f v).bind (fun x => (ros f l).map (fun m => x :: m)) = _
    rw [ha, hb]
    rfl
theorem rcs_tot {f : Nat → Option Nat} (hf : ∀ i, ∃ j, f i = some j) : ∀ l : xH, ∃ w, rcs f l = some w
  | [] => ⟨_, rfl⟩
  | c :: l => by
    obtain ⟨b, hb⟩ := rcs_tot hf l
    have ha : ∃ a, rc f c = some a := by
      obtain q | ⟨ty, x | x | x⟩ := c
      · obtain ⟨w, hw⟩ := rvs_tot hf q.2
        refine ⟨.inl (q.1, w), ?_⟩
        show (rvs f q.2).map (fun w => Sum.inl (q.1, w)) = _
        rw [hw]
        rfl
      · exact ⟨_, rfl⟩
      · exact ⟨_, rfl⟩
      · obtain ⟨w, hw⟩ := ros_tot hf x
        refine ⟨.inr (ty, .inr (.inr w)), ?_⟩
        show (ros f x).map (fun w => Sum.inr (ty, Sum.inr (Sum.inr w))) = _
        rw [hw]
        rfl
    obtain ⟨a, ha⟩ := ha
    exact ⟨_, rcs_c ha hb⟩
theorem bk_tot (J : List Nat) (n i : Nat) : ∃ j, bk J n i = some j := by
  unfold bk
  by_cases h : i < J.length
  · rw [if_pos h]; exact ⟨J[i], List.getElem?_eq_getElem h⟩
  · rw [if_neg h]; exact ⟨_, rfl⟩
/-- what a method's end looks like, by its type -/
def rsh (t : Option FieldType) (v : Option Value) : Prop := match t with
  | none => v = none
  | some .int => ∃ x, v = some (.int x)
  | some .boolean => ∃ x, v = some (.int x)
  | _ => True
theorem Rn_ret {X : xProg} {Y : Nat → MethodName} {kd : Nat → Nat} {TH : xTh} : ∀ (n fb lb mi pc : Nat) (lv : xL) (st : List Value) (h : xH) (c s : Nat) (r : yR), Rn X Y kd TH n fb lb mi pc lv st h c s r → ∀ v, r.1 = .inl v → rsh (xrt X mi) v := by
  intro n
  induction n with
  | zero => intro fb lb mi pc lv st h c s r hr; exact hr.elim
  | succ n ih =>
    intro fb lb mi pc lv st h c s r hr v hv
    obtain ⟨i, hd, hr⟩ := hr
    have go : ∀ {rest : List Value} {mj : Nat} {avs : List Value} {vt : Prop}, y_go X (Rn X Y kd TH n) fb lb mi pc lv rest h c s mj avs vt r → rsh (xrt X mi) v := by
      intro rest mj avs vt hg
      obtain ⟨-, -, -, hh⟩ := hg
      rcases hh with ⟨v', h1, c1, s1, k1, k2, k3⟩ | ⟨J, ds, bvs, v1, h1, c1, s1, cs, v', k1, k2, k3, k4, k5, k6, k7⟩ | ⟨k, h1, c1, s1, k1, k2, k3, rfl⟩
      · exact ih _ _ _ _ _ _ _ _ _ _ k3 v hv
      · exact ih _ _ _ _ _ _ _ _ _ _ k7 v hv
      · cases hv
    rcases hr with ⟨w, -, -, ⟨ty, hz, -⟩, rfl⟩ | ⟨w, -, -, hz, rfl⟩ | ⟨a, rt, -, -, hz, hrt, rfl⟩ | ⟨-, -, hz, rfl⟩ | ⟨idx, q, mj, b, rest, ci, vs, -, -, -, -, -, -, -, hg⟩ | ⟨idx, q, mj, -, -, -, -, hg⟩ | ⟨idx, q, mj, b, rest, -, -, -, -, -, hg⟩ | ⟨idx, b, rest, -, -, -, -, -, hg⟩ | ⟨idx, q, w, -, -, -, -, -, hg⟩ | ⟨o, -, hg⟩ | ⟨ia, ic, k, -, -, -, -, -, -, -, rfl⟩ | ⟨lv', -, hg⟩
    · cases hv
      rw [hz]
      cases ty <;> first | exact ⟨w, rfl⟩ | trivial
    · rw [hz]; trivial
    · rw [hz]
      rcases hrt with ⟨n, rfl⟩ | ⟨t, rfl⟩ <;> trivial
    · cases hv; rw [hz]; rfl
    · exact go hg
    · exact go hg
    · exact go hg
    · exact ih _ _ _ _ _ _ _ _ _ _ hg v hv
    · exact ih _ _ _ _ _ _ _ _ _ _ hg v hv
    · exact ih _ _ _ _ _ _ _ _ _ _ hg v hv
    · cases hv
    · exact ih _ _ _ _ _ _ _ _ _ _ hg v hv
section LWC
variable {p : Program} {l : Launch} {e : Env} {R : Room} {s : State} {m : MethodId} {args : Array Value} {below : List Frame} {meth : Method} {c : Code} {H : Heap} {locs : List Loc} {cells slots : Nat} {Q : State → Prop}
variable {D : va_G} {A : Nat → Prop} {h : xH} {as : List Nat} {tys : List (ClassId × FieldType)} {ws : va_W} {pc idx mj q F B fb lb nL : Nat} {own : String} {cc : ByteArray} {ls : Array Slot} {cst crest : List Value} {J : List Nat} {ds : xH} {avs bvs As vs : List Value} {K : Option Value → xH → Prop} {i0 a0 ci : Nat}
theorem lw_good (hVj : mj < nM) : GoodIn TB (xws xX xB TB mj) := fun w hw => by
  rcases List.mem_cons.mp hw with rfl | hw
  · exact ⟨(okP_all.2.2 mj hVj).2.2.1, okP_all.2.1 _ (okP_all.2.2 mj hVj).2.2.1⟩
  · exact ⟨hw, okP_all.2.1 _ hw⟩
theorem lw_rec (G : sg D xcl A s h as tys ws H locs) (hi0 : as[i0]? = some a0) (hcell : h[i0]? = some (.inl (ci, vs))) (hcn : xcn xX ci = (xB.1 mj).cls) : ∃ cell : Cell, H[a0]? = some cell ∧ cell.vm.isStatics = false ∧ s.vm.findClass (xB.1 mj).cls = some cell.cls := by
  obtain ⟨a', e', g1, g2, u, rfl, g3⟩ := G.1.2.2 i0 _ hcell
  have haa : a' = a0 := Option.some.inj (g1.symm.trans hi0)
  subst haa
  obtain ⟨⟨C9, T9, N9⟩, hr9⟩ := sg_cl G hcell
  have hC9 : xcn xX ci = C9 := (okP_all.1.1 ci C9 T9 N9 hr9).2.2.2.2.2.2.2.2
  have hrec := va_recv (q := (C9, T9, N9)) G.2.1 G.2.2.1 hr9 g2
  rw [← hC9, hcn] at hrec
  exact hrec
theorem lw_A1 (G : sg D xcl A s h as tys ws H locs) (hn : ndp J = true) (hJ : ∀ j ∈ J, j < h.length) : ∀ q, va_A (wsJ ws J) H.size q → A q := by
  have hJw : ∀ j ∈ J, j < ws.length := fun j hj => by rw [G.1.2.1]; exact hJ j hj
  intro q hq
  rcases hq with ⟨k, x, hk⟩ | hq
  · exact (wsJ_D hn G.2.2.2.1 hJw).2 k (q, x) hk
  · exact G.2.2.2.2.2 q (Nat.le_trans G.2.2.2.2.1.1 hq)
theorem lw_pre (G : sg D xcl A s h as tys ws H locs) (hN : nx xNN s) (hTs : thS A s) (hn : ndp J = true) (hJ : ∀ j ∈ J, j < h.length) (cvs : List Value) (U : State) (hU : U.heap = H) (hW : s.WarmedH U.vm) : va_Pc cvs (xPre2 D xcl xNN tys (wsJ ws J) H.size) cvs.toArray U := by
  have hJw : ∀ j ∈ J, j < ws.length := fun j hj => by rw [G.1.2.1]; exact hJ j hj
  exact ⟨rfl, ⟨by rw [hU], by rw [hU]; exact wsJ_P G.2.2.1 hJw, va_K.moved hW.alike G.2.1, wsJ_D hn (G.2.2.2.1.weaken (fun _ _ _ _ => trivial)) hJw, nx_warm hW hN⟩, thS_call hTs G.2.2.2.2.1 (lw_A1 G hn hJ) hU hW⟩
set_option maxHeartbeats 4000000 in
/-- a call on a part that returns -/
theorem lw_V (hl0 : ∀ e : Env, l.admits e → e.platform.stackTraces = false) (S : CallFix p m c cc nL s args TB own) (hN : nx xNN s) (hTs : thS A s) (hok : okL own idx mj q) (hVj : mj < nM) (hc : cR mj F B bvs ds K) (hF : F ≤ fb) (hB : B ≤ lb) (hsl : (lg_sl bvs).length ≤ xml xX mj)
    (G : sg D xcl A s h as tys ws H locs) (hcut : cutJ h avs J ds bvs) (ha : vrs as avs (.ref a0 :: As)) (hi0 : as[i0]? = some a0) (hcell : h[i0]? = some (.inl (ci, vs))) (hcn : xcn xX ci = (xB.1 mj).cls)
    (hR1 : fb + 1 ≤ R.frames) (hR2 : 8 + (xml xX mj + 11) + lb ≤ R.locals) (hR3 : cells ≤ R.cells) (hR4 : slots ≤ R.slots) (hlen : As.length = q) (hsz : ls.size = nL) (hcst : cst = As.reverse ++ .ref a0 :: crest) (hsum : (crest.map fun v => v.category).sum ≤ 8) (hdc : decode cc pc = .ok (.invokevirtual idx, 3)) :
    ∃ v h', K v h' ∧ rsh (xrt xX mj) v ∧ va_Run p l e R s m args below meth c H locs cells slots 0 0 (F0 m pc ls cst) crest (xPost D xcl (va_A (wsJ ws J) H.size) (asJ as J) (v, h', 0, 0) (Value.ref a0 :: As).toArray) (va_A (wsJ ws J) H.size) := by
  obtain ⟨n, r, hr, v, h', rfl, hK⟩ := hc fb lb hF hB
  obtain ⟨u1, u2, u3, u4⟩ := cutJ_wr G.1 hcut ha
  have hM := met_of2 hl0 (D := D) (tys := tys) (sz := H.size) (rn_snd hl0 okP_all okT_all n) okP_all hr hVj hsl u3 u4
  obtain ⟨o1, o2, o3, o5, o6⟩ := hok
  have hts := S.2.2.2.2
  exact ⟨v, h', hK, Rn_ret _ _ _ _ _ _ _ _ _ _ _ hr v rfl, va_runV (Ts := TB) (own := own) (C := (xB.1 mj).cls) (b := a0) (As := As) (rest := crest) S hM ⟨callB_of q hts (lw_good hVj) rfl rfl rfl (hts _ o1) (hts _ o3) o2 ⟨hR1, hR2⟩, hts _ o5, hts _ o6⟩ ⟨FB2, lw_rec G hi0 hcell hcn, lw_pre G hN hTs u1 u2 _⟩ rfl hlen hsz hcst (lv_room hsum) hdc ⟨hR3, hR4⟩⟩
set_option maxHeartbeats 4000000 in
/-- a call on the whole that returns -/
theorem lw_V0 (hl0 : ∀ e : Env, l.admits e → e.platform.stackTraces = false) (S : CallFix p m c cc nL s args TB own) (hN : nx xNN s) (hTs : thS A s) (hok : okL own idx mj q) (hVj : mj < nM) (hc : cR mj F B avs h K) (hF : F ≤ fb) (hB : B ≤ lb) (hsl : (lg_sl avs).length ≤ xml xX mj)
    (G : sg D xcl A s h as tys ws H locs) (ha : vrs as avs (.ref a0 :: As)) (hi0 : as[i0]? = some a0) (hcell : h[i0]? = some (.inl (ci, vs))) (hcn : xcn xX ci = (xB.1 mj).cls)
    (hR1 : fb + 1 ≤ R.frames) (hR2 : 8 + (xml xX mj + 11) + lb ≤ R.locals) (hR3 : cells ≤ R.cells) (hR4 : slots ≤ R.slots) (hlen : As.length = q) (hsz : ls.size = nL) (hcst : cst = As.reverse ++ .ref a0 :: crest) (hsum : (crest.map fun v => v.category).sum ≤ 8) (hdc : decode cc pc = .ok (.invokevirtual idx, 3)) :
    ∃ v h', K v h' ∧ rsh (xrt xX mj) v ∧ va_Run p l e R s m args below meth c H locs cells slots 0 0 (F0 m pc ls cst) crest (xPost D xcl (va_A ws H.size) as (v, h', 0, 0) (Value.ref a0 :: As).toArray) (va_A ws H.size) := by
  obtain ⟨n, r, hr, v, h', rfl, hK⟩ := hc fb lb hF hB
  have hM := met_of2 hl0 (D := D) (tys := tys) (sz := H.size) (rn_snd hl0 okP_all okT_all n) okP_all hr hVj hsl G.1 ha
  obtain ⟨o1, o2, o3, o5, o6⟩ := hok
  have hts := S.2.2.2.2
  exact ⟨v, h', hK, Rn_ret _ _ _ _ _ _ _ _ _ _ _ hr v rfl, va_runV (Ts := TB) (own := own) (C := (xB.1 mj).cls) (b := a0) (As := As) (rest := crest) S hM ⟨callB_of q hts (lw_good hVj) rfl rfl rfl (hts _ o1) (hts _ o3) o2 ⟨hR1, hR2⟩, hts _ o5, hts _ o6⟩ ⟨FB2, lw_rec G hi0 hcell hcn, fun U hU hW => ⟨rfl, ⟨by rw [hU], by rw [hU]; exact G.2.2.1, va_K.moved hW.alike G.2.1, G.2.2.2.1.weaken (fun _ _ _ _ => trivial), nx_warm hW hN⟩, thS_call hTs G.2.2.2.2.1 (sg_A G) hU hW⟩⟩ rfl hlen hsz hcst (lv_room hsum) hdc ⟨hR3, hR4⟩⟩
/-- what is left of the world when a call on a part has ended by a throw -/
def Kept (A1 : Nat → Prop) (H H1 : Heap) (L : List Loc) : Prop := (∀ q ∈ L, A1 q.base) ∧ H.size ≤ H1.size ∧ ∀ q : Nat, q < H.size → ¬ A1 q → H1[q]? = H[q]?
set_option maxHeartbeats 4000000 in
/-- a call on a part that throws, caught by the first row -/
theorem lw_T1 {k : String} {x : ExceptionTableEntry} {rest : List ExceptionTableEntry} (hl0 : ∀ e : Env, l.admits e → e.platform.stackTraces = false) (S : CallFix p m c cc nL s args TB own) (hN : nx xNN s) (hTs : thS A s) (hok : okL own idx mj q) (hVj : mj < nM) (hc : cT mj F B bvs ds k) (hF : F ≤ fb) (hB : B ≤ lb) (hsl : (lg_sl bvs).length ≤ xml xX mj)
    (G : sg D xcl A s h as tys ws H locs) (hcut : cutJ h avs J ds bvs) (ha : vrs as avs (.ref a0 :: As)) (hi0 : as[i0]? = some a0) (hcell : h[i0]? = some (.inl (ci, vs))) (hcn : xcn xX ci = (xB.1 mj).cls)
    (hR1 : fb + 1 ≤ R.frames) (hR2 : 8 + (xml xX mj + 11) + lb ≤ R.locals) (hR3 : cells + 1 ≤ R.cells) (hR4 : slots + 6 ≤ R.slots) (hlen : As.length = q) (hsz : ls.size = nL) (hcst : cst = As.reverse ++ .ref a0 :: crest) (hsum : (crest.map fun v => v.category).sum ≤ 8) (hdc : decode cc pc = .ok (.invokevirtual idx, 3))
    (htab : c.exceptionTable.toList = x :: rest) (hx : covers x pc = true) (h0 : x.catchType ≠ 0) (hlk : Cond.classLink own x.catchType k ∈ TB) (hcs : (Cond.castable k k).before #[] s = true)
    (kk : ∀ (xa : Addr) (H1 : Heap) (L : List Loc), Kept (va_A (wsJ ws J) H.size) H H1 L → W p l e R s m args below meth c H1 (locs ++ L) (cells + 1) (slots + 6) Q (F0 m x.handlerPc ls [.ref xa])) : W p l e R s m args below meth c H locs cells slots Q (F0 m pc ls cst) := by
  obtain ⟨n, r, hr, h', rfl⟩ := hc fb lb hF hB
  obtain ⟨u1, u2, u3, u4⟩ := cutJ_wr G.1 hcut ha
  have hM := met_of2T hl0 (D := D) (tys := tys) (sz := H.size) (rn_snd hl0 okP_all okT_all n) okP_all hr hVj hsl u3 u4
  obtain ⟨o1, o2, o3, o5, o6⟩ := hok
  have hts := S.2.2.2.2
  intro T hT X
  obtain ⟨xa, st₀, t, T', L, e0, X', e1, e2, hQ, hL, hst⟩ := goVT (C := (xB.1 mj).cls) (b := a0) (As := As) (rest := crest) (g := F0 m pc ls cst) S hM ⟨callB_of q hts (lw_good hVj) rfl rfl rfl (hts _ o1) (hts _ o3) o2 ⟨hR1, hR2⟩, hts _ o5, hts _ o6⟩ ⟨FB2, lw_rec G hi0 hcell hcn, lw_pre G hN hTs u1 u2 _⟩ hT X rfl hlen hsz hcst (lv_room hsum) hdc ⟨hR3, hR4⟩
  obtain ⟨⟨ce, q1, q2, q3⟩, q4, q5, q6⟩ := hQ
  rw [e0] at q5 q6
  have hfc : s.vm.findClass k = some ce.cls := by rw [← X'.warmed.alike.findClass, e2]; exact q2
  obtain ⟨c1, t1, w1, w2, w3⟩ := Cond.castable_spec hcs
  have ec : c1 = ce.cls := Option.some.inj (w1.symm.trans hfc)
  have et : t1 = ce.cls := Option.some.inj (w2.symm.trans hfc)
  rw [ec, et] at w3
  obtain ⟨vm', X2, hst2⟩ := catchC1 (a := xa) (cell := ce) X' S.2.2.2.1 (hts _ hlk) (by rw [e1]; exact q1) (by rw [q3]; rfl) hfc w3 (g := { F0 m pc ls cst with stack := crest }) rfl htab hx rfl h0
  obtain ⟨t2, a1, b1⟩ := kk xa t.heap L ⟨hL, q5, q6⟩ (T'.setVm vm') e1 X2
  exact ⟨t2, hst _ (hst2 _ a1), b1⟩
set_option maxHeartbeats 4000000 in
/-- .. caught by the second -/
theorem lw_T2 {k k0 : String} {x x2 : ExceptionTableEntry} {rest : List ExceptionTableEntry} (hl0 : ∀ e : Env, l.admits e → e.platform.stackTraces = false) (S : CallFix p m c cc nL s args TB own) (hN : nx xNN s) (hTs : thS A s) (hok : okL own idx mj q) (hVj : mj < nM) (hc : cT mj F B bvs ds k) (hF : F ≤ fb) (hB : B ≤ lb) (hsl : (lg_sl bvs).length ≤ xml xX mj)
    (G : sg D xcl A s h as tys ws H locs) (hcut : cutJ h avs J ds bvs) (ha : vrs as avs (.ref a0 :: As)) (hi0 : as[i0]? = some a0) (hcell : h[i0]? = some (.inl (ci, vs))) (hcn : xcn xX ci = (xB.1 mj).cls)
    (hR1 : fb + 1 ≤ R.frames) (hR2 : 8 + (xml xX mj + 11) + lb ≤ R.locals) (hR3 : cells + 1 ≤ R.cells) (hR4 : slots + 6 ≤ R.slots) (hlen : As.length = q) (hsz : ls.size = nL) (hcst : cst = As.reverse ++ .ref a0 :: crest) (hsum : (crest.map fun v => v.category).sum ≤ 8) (hdc : decode cc pc = .ok (.invokevirtual idx, 3))
    (htab : c.exceptionTable.toList = x :: x2 :: rest) (hx : covers x pc = true) (h0 : x.catchType ≠ 0) (hlk : Cond.classLink own x.catchType k0 ∈ TB) (hx2 : covers x2 pc = true) (h02 : x2.catchType ≠ 0) (hlk2 : Cond.classLink own x2.catchType k ∈ TB) (hcs : (Cond.castable k k).before #[] s = true) (hno : ∀ c1 c2 : ClassId, s.vm.findClass k = some c1 → s.vm.findClass k0 = some c2 → s.vm.assignable c1 c2 = false)
    (kk : ∀ (xa : Addr) (H1 : Heap) (L : List Loc), Kept (va_A (wsJ ws J) H.size) H H1 L → W p l e R s m args below meth c H1 (locs ++ L) (cells + 1) (slots + 6) Q (F0 m x2.handlerPc ls [.ref xa])) : W p l e R s m args below meth c H locs cells slots Q (F0 m pc ls cst) := by
  obtain ⟨n, r, hr, h', rfl⟩ := hc fb lb hF hB
  obtain ⟨u1, u2, u3, u4⟩ := cutJ_wr G.1 hcut ha
  have hM := met_of2T hl0 (D := D) (tys := tys) (sz := H.size) (rn_snd hl0 okP_all okT_all n) okP_all hr hVj hsl u3 u4
  obtain ⟨o1, o2, o3, o5, o6⟩ := hok
  have hts := S.2.2.2.2
  intro T hT X
  obtain ⟨xa, st₀, t, T', L, e0, X', e1, e2, hQ, hL, hst⟩ := goVT (C := (xB.1 mj).cls) (b := a0) (As := As) (rest := crest) (g := F0 m pc ls cst) S hM ⟨callB_of q hts (lw_good hVj) rfl rfl rfl (hts _ o1) (hts _ o3) o2 ⟨hR1, hR2⟩, hts _ o5, hts _ o6⟩ ⟨FB2, lw_rec G hi0 hcell hcn, lw_pre G hN hTs u1 u2 _⟩ hT X rfl hlen hsz hcst (lv_room hsum) hdc ⟨hR3, hR4⟩
  obtain ⟨⟨ce, q1, q2, q3⟩, q4, q5, q6⟩ := hQ
  rw [e0] at q5 q6
  have hfc : s.vm.findClass k = some ce.cls := by rw [← X'.warmed.alike.findClass, e2]; exact q2
  obtain ⟨c1, t1, w1, w2, w3⟩ := Cond.castable_spec hcs
  have ec : c1 = ce.cls := Option.some.inj (w1.symm.trans hfc)
  have et : t1 = ce.cls := Option.some.inj (w2.symm.trans hfc)
  rw [ec, et] at w3
  have hpl : e.platform.magicAccessors = ({} : Platform).magicAccessors := by rw [X.admits.platform]
  obtain ⟨c0, hc0, -⟩ := Cond.classLink_spec S.2.2.2.1 (hts _ hlk) e.platform hpl
  obtain ⟨vm', X2, hst2⟩ := catchC2 (a := xa) (cell := ce) X' S.2.2.2.1 (hts _ hlk) (hts _ hlk2) (by rw [e1]; exact q1) (by rw [q3]; rfl) hc0 (hno _ _ hfc hc0) hfc w3 (g := { F0 m pc ls cst with stack := crest }) rfl htab hx rfl h0 hx2 rfl h02
  obtain ⟨t2, a1, b1⟩ := kk xa t.heap L ⟨hL, q5, q6⟩ (T'.setVm vm') e1 X2
  exact ⟨t2, hst _ (hst2 _ a1), b1⟩
/-- behind a call on a part whose end isn't known in full -/
theorem x_callM {A1 : Nat → Prop} {r1 : xR} {mc ms : Nat} {st0 rest : List Value} {a : Array Value} (hr : va_Run p l e R s m args below meth c H locs cells slots mc ms (F0 m pc ls st0) rest (xPost D xcl A1 (asJ as J) r1 a) A1) (G : sg D xcl A s h as tys ws H locs) (hn : ndp J = true) (hJ : ∀ j ∈ J, j < h.length) (hv : ∀ f : Nat → Option Nat, rvo f r1.1 = some r1.1) (hA1 : ∀ q, A1 q → A q) (hfar : ∀ (i : Nat) (x : Nat × va_E), sp J i = none → ws[i]? = some x → ¬ A1 x.1)
    (kk : ∀ (cs : xH) (cv : Option Value) (as' : List Nat) (tys' : List (ClassId × FieldType)) (ws' : va_W) (H1 : Heap) (locs1 : List Loc), rcs (bk J h.length) r1.2.1 = some cs → J.length ≤ cs.length → pre as as' → ovr as' r1.1 cv → sg D xcl A s (mg h J cs) as' tys' ws' H1 locs1 → W p l e R s m args below meth c H1 locs1 (cells + mc) (slots + ms) Q (F0 m (pc + 3) ls (cv.toList ++ rest))) : W p l e R s m args below meth c H locs cells slots Q (F0 m pc ls st0) := by
  obtain ⟨hw, hK, hP, hD, hS, hA⟩ := G
  intro T hT X
  obtain ⟨w, st₀, t, T', L, h0, X', hL, e1, e2, ⟨⟨cv, as', tys', ws', hcv, ⟨tt, rfl⟩, g2, g3, g4, g5, g6⟩, hz, hk⟩, st⟩ := hr T hT X
  cases hcv
  rw [h0] at hz hk
  have hal : s.vm.Alike t.vm := by rw [← e2]; exact X'.warmed.alike
  obtain ⟨cs, hcs⟩ := rcs_tot (bk_tot J h.length) r1.2.1
  have hJl : J.length ≤ r1.2.1.length := by
    rw [← g3.1, List.length_append]
    simp [asJ]
  have hcl : J.length ≤ cs.length := by
    rw [(rcs_at hcs).1]
    exact hJl
  obtain ⟨n1, n2, n3, n4⟩ := mg_worldG (H1 := t.heap) hw hP hD hn hJ g3 hJl hcs g5 g6 hk hA1 hfar
  obtain ⟨t2, a1, b1⟩ := kk cs w (as ++ tt) (tys ++ tys') (mg ws J ws') T'.heap (locs ++ L) hcs hcl ⟨tt, rfl⟩ (ovr_ren n4 (hv _) g2) ⟨n1, hK.app (va_K.moved hal.symm g4), by rw [e1]; exact n2, n3, ⟨Nat.le_trans hS.1 (by rw [e1]; exact hz), fun q h1 h2 => by rw [e1, hk q (Nat.lt_of_lt_of_le h1 hS.1) (fun z => h2 (hA1 q z))]; exact hS.2.1 q h1 h2, fun q hq => by
      rcases List.mem_append.mp hq with h | h
      · exact hS.2.2 q h
      · exact hA1 _ (hL q h)⟩, hA⟩ T' rfl X'
  exact ⟨t2, st t2 a1, b1⟩
/-- behind a call that is told of in its own words -/
theorem x_callH {A1 : Nat → Prop} {asX : List Nat} {r1 : xR} {mc ms : Nat} {st0 rest : List Value} {a : Array Value} (hr : va_Run p l e R s m args below meth c H locs cells slots mc ms (F0 m pc ls st0) rest (xPost D xcl A1 asX r1 a) A1) (G : sg D xcl A s h as tys ws H locs) (hA1 : ∀ q, A1 q → A q)
    (kk : ∀ (cv : Option Value) (as' : List Nat) (tys' : List (ClassId × FieldType)) (ws' : va_W) (H1 : Heap) (locs1 : List Loc), pre asX as' → ovr as' r1.1 cv → sg D xcl A s r1.2.1 as' tys' ws' H1 locs1 → W p l e R s m args below meth c H1 locs1 (cells + mc) (slots + ms) Q (F0 m (pc + 3) ls (cv.toList ++ rest))) : W p l e R s m args below meth c H locs cells slots Q (F0 m pc ls st0) := by
  obtain ⟨hw, hK, hP, hD, hS, hA⟩ := G
  intro T hT X
  obtain ⟨w, st₀, t, T', L, h0, X', hL, e1, e2, ⟨⟨cv, as', tys', ws', hcv, g1, g2, g3, g4, g5, g6⟩, hz, hk⟩, st⟩ := hr T hT X
  cases hcv
  rw [h0] at hz hk
  have hal : s.vm.Alike t.vm := by rw [← e2]; exact X'.warmed.alike
  obtain ⟨t2, a1, b1⟩ := kk w as' tys' ws' T'.heap (locs ++ L) g1 g2 ⟨g3, va_K.moved hal.symm g4, by rw [e1]; exact g5, ⟨g6.1, fun k q hq => hA1 _ (g6.2 k q hq)⟩, ⟨Nat.le_trans hS.1 (by rw [e1]; exact hz), fun q h1 h2 => by rw [e1, hk q (Nat.lt_of_lt_of_le h1 hS.1) (fun z => h2 (hA1 q z))]; exact hS.2.1 q h1 h2, fun q hq => by
      rcases List.mem_append.mp hq with h | h
      · exact hS.2.2 q h
      · exact hA1 _ (hL q h)⟩, hA⟩ T' rfl X'
  exact ⟨t2, st t2 a1, b1⟩
end LWC
