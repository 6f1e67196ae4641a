/-! the whole run, by the number of its steps -/
theorem FB {D : va_G} {cl : List vw_C} {N : xN} {tys : List (ClassId × FieldType)} {ws : va_W} {sz : Nat} {cvs : List Value} : FrameBlind (va_Pc cvs (xPre D cl N tys ws sz)) := fun a U g mk q => by
  obtain ⟨q0, q1, qP, qK, qD, qN⟩ := q
  exact ⟨q0, q1, qP, va_K.moved (u := U) (U := U.calling g mk a) (Vm.Alike.refl U.vm) qK, qD, nx_same (s := U) (U := U.calling g mk a) rfl qN⟩
theorem sg_A {D : va_G} {cl : List vw_C} {A : Nat → Prop} {s : State} {h : xH} {as : List Nat} {tys : List (ClassId × FieldType)} {ws : va_W} {H : Heap} {locs : List Loc} (G : sg D cl A s h as tys ws H locs) : ∀ q, va_A ws H.size q → A q := by
  obtain ⟨hw, hK, hP, hD, hS, hA⟩ := G
  intro q hq
  rcases hq with ⟨k, e, hk⟩ | hq
  · exact hD.2 k (q, e) hk
  · exact hA q (Nat.le_trans hS.1 hq)
theorem ovr_ren {f : Nat → Option Nat} {as bs : List Nat} (R : Ren f as bs) {v w x : Option Value} (h : rvo f v = some w) (hx : ovr as v x) : ovr bs w x := by
  cases v with
  | none => cases h; exact hx
  | some y =>
    have h : (rv f y).map some = some w := h
    cases h1 : rv f y with
    | none => rw [h1] at h; cases h
    | some z =>
      rw [h1] at h
      cases h
      obtain ⟨u, rfl, h2⟩ := hx
      exact ⟨u, rfl, rv_ok R h1 h2⟩
section XCUT
variable {p : Program} {l : Launch} {e : Env} {R : Room} {s : State} {m : MethodId} {args : Array Value} {below : List Frame} {meth : Method} {c : Code} {H : Heap} {locs : List Loc} {cells slots : Nat} {Q : State → Prop}
/-- behind a call on a part -/
theorem x_callC {D : va_G} {cl : List vw_C} {A : Nat → Prop} {as : List Nat} {r1 : xR} {h cs : xH} {v : Option Value} {J : List Nat} {tys : List (ClassId × FieldType)} {ws : va_W} {pc mc ms : Nat} {ls : Array Slot} {st0 rest : List Value} {a : Array Value} (hr : va_Run p l e R s m args below meth c H locs cells slots mc ms (F0 m pc ls st0) rest (xPost D cl (va_A (wsJ ws J) H.size) (asJ as J) r1 a) (va_A (wsJ ws J) H.size)) (G : sg D cl A s h as tys ws H locs) (hn : ndp J = true) (hJ : ∀ j ∈ J, j < h.length) (hJl : J.length ≤ r1.2.1.length) (hcs : rcs (bk J h.length) r1.2.1 = some cs) (hv : rvo (bk J h.length) r1.1 = some v) (hA1 : ∀ q, va_A (wsJ ws J) H.size q → A q)
    (kk : ∀ (cv : Option Value) (as' : List Nat) (tys' : List (ClassId × FieldType)) (ws' : va_W) (H1 : Heap) (locs1 : List Loc), pre as as' → ovr as' v cv → sg D cl A s (mg h J cs) as' tys' ws' H1 locs1 → W p l e R s m args below meth c H1 locs1 (cells + mc) (slots + ms) Q (F0 m (pc + 3) ls (cv.toList ++ rest))) : W p l e R s m args below meth c H locs cells slots Q (F0 m pc ls st0) := by
  obtain ⟨hw, hK, hP, hD, hS, hA⟩ := G
  intro T hT X
  obtain ⟨w, st₀, t, T', L, h0, X', hL, e1, e2, ⟨⟨cv, as', tys', ws', hcv, ⟨tt, rfl⟩, g2, g3, g4, g5, g6⟩, hz, hk⟩, st⟩ := hr T hT X
  cases hcv
  rw [h0] at hz hk
  have hal : s.vm.Alike t.vm := by rw [← e2]; exact X'.warmed.alike
  obtain ⟨n1, n2, n3, n4⟩ := mg_world (H1 := t.heap) hw hP hD hn hJ g3 hJl hcs g5 g6 hk hA1
  obtain ⟨t2, a1, b1⟩ := kk w (as ++ tt) (tys ++ tys') (mg ws J ws') T'.heap (locs ++ L) ⟨tt, rfl⟩ (ovr_ren n4 hv g2) ⟨n1, hK.app (va_K.moved hal.symm g4), by rw [e1]; exact n2, n3, ⟨Nat.le_trans hS.1 (by rw [e1]; exact hz), fun q h1 h2 => by rw [e1, hk q (Nat.lt_of_lt_of_le h1 hS.1) (fun z => h2 (hA1 q z))]; exact hS.2.1 q h1 h2, fun q hq => by
      rcases List.mem_append.mp hq with h | h
      · exact hS.2.2 q h
      · exact hA1 _ (hL q h)⟩, hA⟩ T' rfl X'
  exact ⟨t2, st t2 a1, b1⟩
end XCUT
set_option maxHeartbeats 4000000 in
theorem run_snd {X : xProg} {B : xTab} {TB : List Cond} {cl : List vw_C} {N : xN} {V : Nat → Prop} {l : Launch} (oP : okP X B TB cl N V) : ∀ n, Snd X B TB cl N V l n := by
  intro n
  induction n with
  | zero => intro fb lb mi pc lv st h c0 s0 r hr; cases hr
  | succ n ih =>
    intro fb lb mi pc lv st h c0 s0 r hr hV p e R s m args below meth c C hfb hlb hcells hslots D A as0 as tys ws H locs ls clv cst hpre hl hlr hst G
    obtain ⟨m1, m2, m3, m4, m5⟩ := oP.2.2 mi hV
    obtain ⟨hx, hb, hret, hlocks, hml, hown, hnm, hts, hN⟩ := id C
    rw [run_s] at hr
    cases hd : xdec X mi pc with
    | none => rw [hd] at hr; cases hr
    | some i =>
      rw [hd] at hr
      have hdc := m2.1 pc i hd
      have fin : ∀ (cv : Option Value), ovr as r.1 cv → r.2.1 = h → ∀ t : State, t.heap = H → s.WarmedH t.vm → xPost D cl A as0 r args s (.returned cv) t := fun cv h1 h2 t ht hW => ⟨⟨cv, as, tys, ws, rfl, hpre, h1, by rw [h2]; exact G.1, va_K.moved hW.alike G.2.1, by rw [ht]; exact G.2.2.1, G.2.2.2.1⟩, G.2.2.2.2.1.F ht⟩
      -- a call
      have call : ∀ {idx q mj : Nat} {rest crest avs cvs : List Value}, xinv X mi idx = some (some mj, q) → x_go X (run X B.1 B.2.1 n) fb lb mi pc lv rest h c0 s0 mj avs = some r → vrs as avs cvs → vrs as rest crest →
          (∀ (ws0 : va_W) (rm : Room) (mc ms : Nat) (Qc : Array Value → State → Outcome → State → Prop) (free : Addr → Prop), va_P D cl ws0 H → va_D (fun _ => True) ws0 → Met l (B.1 mj) (xws X B TB mj) rm (va_Pc cvs (xPre D cl N tys ws0 H.size)) Qc mc ms free → rm.cells = mc → rm.slots = ms → rm.frames + 1 ≤ R.frames ∧ 8 + (xml X mj + 11) + rm.locals ≤ R.locals → c0 + mc ≤ R.cells ∧ s0 + ms ≤ R.slots → 2 * (F0 m pc ls cst).monitorRoom + (crest.map fun v => v.category).sum ≤ 8 → va_Run p l e R s m args below meth c H locs c0 s0 mc ms (F0 m pc ls cst) crest (Qc cvs.toArray) free) →
          W p l e R s m args below meth c H locs c0 s0 (MQ below (xPost D cl A as0 r) args s r.2.2.1 r.2.2.2 A) (F0 m pc ls cst) := by
        intro idx q mj rest crest avs cvs hinv hg ha hrest hrun
        obtain ⟨g1, g2, g3, gg⟩ := x_go_v hg
        obtain ⟨hVj, -⟩ := m5 idx mj q hinv
        rcases gg with ⟨g4, r1, g5, g6⟩ | ⟨J, ds, bvs, r1, cs, v, k0, g4, g5, k1, k2, k3, g6⟩
        · have hmono := run_mono _ _ _ _ _ _ _ _ _ _ _ g6
          have hM := met_of (D := D) (tys := tys) (sz := H.size) ih oP g5 hVj g4 G.1 ha
          have hR := hrun ws _ _ _ _ _ G.2.2.1 (G.2.2.2.1.weaken (fun _ _ _ _ => trivial)) hM rfl rfl ⟨by show fb - 1 + 1 ≤ R.frames; omega, by show 8 + (xml X mj + 11) + (lb - (19 + xml X mj)) ≤ R.locals; omega⟩ ⟨by omega, by omega⟩ (lv_room (by rw [vrs_sum hrest]; exact g1))
          refine x_call hR G (sg_A G) (fun cv as' tys' ws' H1 locs1 k1 k2 k3 => ?_)
          exact ih _ _ _ _ _ _ _ _ _ _ g6 hV p e R s m args below meth c C hfb hlb hcells hslots D A as0 as' tys' ws' H1 locs1 ls clv _ (pre_tr hpre k1) hl (lrs_pre k1 hlr) (ovr_list k2 (vrs_pre k1 hrest)) k3
        · have hmono := run_mono _ _ _ _ _ _ _ _ _ _ _ g6
          obtain ⟨u1, u2, u3, u4⟩ := cut_wr G.1 k0 ha
          have hJw : ∀ j ∈ J, j < ws.length := fun j hj => by rw [G.1.2.1]; exact u2 j hj
          have hM := met_of (D := D) (tys := tys) (sz := H.size) ih oP g5 hVj g4 u3 u4
          have hR := hrun (wsJ ws J) _ _ _ _ _ (wsJ_P G.2.2.1 hJw) (wsJ_D u1 (G.2.2.2.1.weaken (fun _ _ _ _ => trivial)) hJw) hM rfl rfl ⟨by show fb - 1 + 1 ≤ R.frames; omega, by show 8 + (xml X mj + 11) + (lb - (19 + xml X mj)) ≤ R.locals; omega⟩ ⟨by omega, by omega⟩ (lv_room (by rw [vrs_sum hrest]; exact g1))
          have hA1 : ∀ q, va_A (wsJ ws J) H.size q → A q := by
            intro q hq
            rcases hq with ⟨k, x, hk⟩ | hq
            · exact (wsJ_D u1 G.2.2.2.1 hJw).2 k (q, x) hk
            · exact G.2.2.2.2.2 q (Nat.le_trans G.2.2.2.2.1.1 hq)
          refine x_callC hR G u1 u2 k1 k2 k3 hA1 (fun cv as' tys' ws' H1 locs1 j1 j2 j3 => ?_)
          exact ih _ _ _ _ _ _ _ _ _ _ g6 hV p e R s m args below meth c C hfb hlb hcells hslots D A as0 as' tys' ws' H1 locs1 ls clv _ (pre_tr hpre j1) hl (lrs_pre j1 hlr) (ovr_list j2 (vrs_pre j1 hrest)) j3
      have good : ∀ mj, V mj → GoodIn TB (xws X B TB mj) := fun mj hj w hw => by
        rcases List.mem_cons.mp hw with rfl | hw
        · exact ⟨(oP.2.2 mj hj).2.2.1, oP.2.1 _ (oP.2.2 mj hj).2.2.1⟩
        · exact ⟨hw, oP.2.1 _ hw⟩
      have pre2 : ∀ (ws0 : va_W), va_P D cl ws0 H → va_D (fun _ => True) ws0 → ∀ (cvs : List Value) (U : State), U.heap = H → s.WarmedH U.vm → va_Pc cvs (xPre D cl N tys ws0 H.size) cvs.toArray U := fun ws0 hP0 hD0 cvs U hU hW => ⟨rfl, by rw [hU], by rw [hU]; exact hP0, va_K.moved hW.alike G.2.1, hD0, nx_warm hW hN⟩
      rcases x_run_v hr with ⟨v, rfl, rfl, ⟨ty, hty, hnw⟩, rfl⟩ | ⟨v, rfl, rfl, hty, rfl⟩ | ⟨a, rt, rfl, rfl, hty, hrt, rfl⟩ | ⟨rfl, rfl, hty, rfl⟩ | ⟨idx, q, mj, b, rest, ci, vs, rfl, hinv, hst2, hq, hcell, hcn, hkd, hg⟩ | ⟨idx, q, mj, rfl, hinv, hq, hkd, hg⟩ | ⟨idx, q, mj, b, rest, rfl, hinv, hst2, hq, hkd, hg⟩ | ⟨idx, b, rest, rfl, hinv, rfl, hf1, hf2, hg⟩ | ⟨idx, q, w, rfl, hinv, hm, hf1, hf2, hg⟩ | ⟨o, ho, hg⟩
      · obtain ⟨t, rfl, ht⟩ := vrs_i hst
        have ht : t = [] := ht
        subst ht
        exact W.zret hx hb (hret.trans hty) hnw (fin _ ⟨_, rfl, rfl⟩ rfl) G.2.2.2.2.1.2.2 hdc hlocks
      · obtain ⟨t, rfl, ht⟩ := vrs_l hst
        have ht : t = [] := ht
        subst ht
        exact W.lret hx hb (hret.trans hty) (fin _ ⟨_, rfl, rfl⟩ rfl) G.2.2.2.2.1.2.2 hdc hlocks
      · obtain ⟨a', t, rfl, ha', ht⟩ := vrs_r hst
        have ht : t = [] := ht
        subst ht
        exact W.aret hx hb (hret.trans hty) hrt (Or.inr ⟨a', rfl⟩) (fin _ ⟨_, rfl, ⟨a', rfl, ha'⟩⟩ rfl) G.2.2.2.2.1.2.2 hdc hlocks
      · have ht : cst = [] := hst
        subst ht
        exact W.vret hx hb (hret.trans hty) (fin none rfl rfl) G.2.2.2.2.1.2.2 hdc hlocks
      · -- invokevirtual
        obtain ⟨hVj, o1, o2, o3, o4, -, -⟩ := m5 idx mj q hinv
        obtain ⟨o5, o6⟩ := o4 hkd
        have hl1 : Cond.methodLink (B.1 mi).cls idx (B.1 mj) ∈ TB := by
          rcases o3 with z | ⟨z, -⟩
          · exact z
          · omega
        have hdr := vrs_drop q hst
        rw [hst2] at hdr
        obtain ⟨bb, crest, hcr, hbb, hrest⟩ := vrs_r hdr
        refine call hinv hg (vrs_cr hbb (vrs_rev (vrs_take q hst))) hrest (fun ws0 rm mc ms Qc free hP0 hD0 hM hc1 hc2 hR hcap hroom => ?_)
        obtain ⟨a', e', g1, g2, u, rfl, g3⟩ := G.1.2.2 b _ hcell
        have haa : a' = bb := Option.some.inj (g1.symm.trans hbb)
        subst haa
        obtain ⟨r9, hr9⟩ := sg_cl G hcell
        obtain ⟨C9, T9, N9⟩ := r9
        have hC9 : xcn X ci = C9 := (oP.1.1 ci C9 T9 N9 hr9).2.2.2.2.2.2.2.2
        have hrec := va_recv (q := (C9, T9, N9)) G.2.1 G.2.2.1 hr9 g2
        rw [← hC9, hcn] at hrec
        have hlen : (cst.take q).reverse.length = q := by rw [List.length_reverse, List.length_take, vrs_len hst]; omega
        exact va_runV (Ts := TB) (own := (B.1 mi).cls) (C := (B.1 mj).cls) (b := a') (As := (cst.take q).reverse) (rest := crest) ⟨hx, hb, hml, hown, hts⟩ hM ⟨callB_of q hts (good mj hVj) rfl hc1 hc2 (hts _ o1) (hts _ hl1) o2 hR, hts _ o5, hts _ o6⟩ ⟨FB, hrec, pre2 ws0 hP0 hD0 _⟩ rfl hlen hl.1 (by show cst = _; rw [List.reverse_reverse, ← hcr, List.take_append_drop]) hroom hdc hcap
      · -- invokestatic
        obtain ⟨hVj, o1, o2, o3, -, o4, -⟩ := m5 idx mj q hinv
        have o5 := o4 hkd
        have hl1 : Cond.methodLink (B.1 mi).cls idx (B.1 mj) ∈ TB := by
          rcases o3 with z | ⟨z, -⟩
          · exact z
          · omega
        refine call hinv hg (vrs_rev (vrs_take q hst)) (vrs_drop q hst) (fun ws0 rm mc ms Qc free hP0 hD0 hM hc1 hc2 hR hcap hroom => ?_)
        have hlen : (cst.take q).reverse.length = q := by rw [List.length_reverse, List.length_take, vrs_len hst]; omega
        exact va_runS (Ts := TB) (own := (B.1 mi).cls) (As := (cst.take q).reverse) (rest := cst.drop q) ⟨hx, hb, hml, hown, hts⟩ hM ⟨callB_of q hts (good mj hVj) rfl hc1 hc2 (hts _ o1) (hts _ hl1) o2 hR, hts _ o5⟩ ⟨FB, pre2 ws0 hP0 hD0 _⟩ rfl hlen hl.1 (by show cst = _; rw [List.reverse_reverse, List.take_append_drop]) hroom hdc hcap
      · -- invokespecial
        obtain ⟨hVj, o1, o2, o3, -, -, o4⟩ := m5 idx mj q hinv
        obtain ⟨o5, o6, o7⟩ := o4 hkd
        have hdr := vrs_drop q hst
        rw [hst2] at hdr
        obtain ⟨bb, crest, hcr, hbb, hrest⟩ := vrs_r hdr
        refine call hinv hg (vrs_cr hbb (vrs_rev (vrs_take q hst))) hrest (fun ws0 rm mc ms Qc free hP0 hD0 hM hc1 hc2 hR hcap hroom => ?_)
        have hlen : (cst.take q).reverse.length = q := by rw [List.length_reverse, List.length_take, vrs_len hst]; omega
        have hsk : cst = (cst.take q).reverse.reverse ++ .ref bb :: crest := by rw [List.reverse_reverse, ← hcr, List.take_append_drop]
        have hw0 : xws X B TB mj = Cond.code (B.1 mj) (B.2.2 mj) (xml X mj) none :: TB := by unfold xws; rw [o7]
        rcases o3 with z | ⟨-, host, z⟩
        · exact va_runI (Ts := TB) (own := (B.1 mi).cls) (b := bb) (As := (cst.take q).reverse) (rest := crest) ⟨hx, hb, hml, hown, hts⟩ hM ⟨callB_of q hts (good mj hVj) hw0 hc1 hc2 (hts _ o1) (hts _ z) o2 hR, o6, hts _ o5⟩ ⟨FB, pre2 ws0 hP0 hD0 _⟩ rfl hlen hl.1 hsk hroom hdc hcap
        · exact va_runIN (Ts := TB) (own := (B.1 mi).cls) (host := host) (b := bb) (As := (cst.take q).reverse) (rest := crest) ⟨hx, hb, hml, hown, hts⟩ hM ⟨va_cnB q hts (good mj hVj) hw0 hc1 hc2 (hN.2 _ z) (hts _ o1) o2 hR, o6, hts _ o5⟩ ⟨FB, pre2 ws0 hP0 hD0 _⟩ rfl hlen hl.1 hsk hroom hdc hcap
      · -- Object's constructor
        obtain ⟨o1, o2, o3⟩ := (m4 idx 0 hinv).1 rfl
        obtain ⟨bb, crest, rfl, hbb, hrest⟩ := vrs_r hst
        refine W.objInit hx hb hown (hts _ o1) (hts _ o2) (hts _ o3) rfl (by rw [hml]; exact hl.1) rfl hdc (by omega) ?_ ?_
        · have := vrs_sum hrest
          show 2 * (F0 m pc ls (Value.ref bb :: crest)).monitorRoom + (crest.map fun v => v.category).sum + 12 ≤ R.locals
          have h0 : (F0 m pc ls (Value.ref bb :: crest)).monitorRoom = 0 := rfl
          rw [h0, this]
          omega
        · exact ih _ _ _ _ _ _ _ _ _ _ hg hV p e R s m args below meth c C hfb hlb hcells hslots D A as0 as tys ws H locs ls clv _ hpre hl hlr hrest G
      · -- Math
        have hmono := run_mono _ _ _ _ _ _ _ _ _ _ _ hg
        have hml2 : c.maxLocals = ls.size := by rw [hml]; exact hl.1.symm
        have go : ∀ (crest : List Value), vrs as w.2 crest → W p l e R s m args below meth c H locs c0 s0 (MQ below (xPost D cl A as0 r) args s r.2.2.1 r.2.2.2 A) (F0 m (pc + 3) ls (.int w.1 :: crest)) := fun crest hcr => ih _ _ _ _ _ _ _ _ _ _ hg hV p e R s m args below meth c C hfb hlb hcells hslots D A as0 as tys ws H locs ls clv _ hpre hl hlr (vrs_ci hcr) G
        rcases x_math_v hm with ⟨x, rfl, hs, hw1⟩ | ⟨x, y, rfl, hs, hw1⟩ | ⟨x, y, rfl, hs, hw1⟩
        · obtain ⟨o1, o2, o3, o4⟩ := (m4 idx _ hinv).2.2.2 rfl
          rw [hs] at hst
          obtain ⟨crest, rfl, hcr⟩ := vrs_i hst
          refine va_mabs hx hb hml2 hown (hts _ o1) (hts _ o2) (hts _ o3) (hts _ o4) (by omega) (by rw [vrs_sum hcr]; omega) (by omega) (by omega) hdc ?_
          rw [← hw1]
          exact go crest hcr
        · obtain ⟨o1, o2, o3, o4⟩ := (m4 idx _ hinv).2.1 rfl
          rw [hs] at hst
          obtain ⟨c1, rfl, hc1⟩ := vrs_i hst
          obtain ⟨crest, rfl, hcr⟩ := vrs_i hc1
          refine va_mmax hx hb hml2 hown (hts _ o1) (hts _ o2) (hts _ o3) (hts _ o4) (by omega) (by rw [vrs_sum hcr]; omega) (by omega) (by omega) hdc ?_
          rw [← hw1]
          exact go crest hcr
        · obtain ⟨o1, o2, o3, o4⟩ := (m4 idx _ hinv).2.2.1 rfl
          rw [hs] at hst
          obtain ⟨c1, rfl, hc1⟩ := vrs_i hst
          obtain ⟨crest, rfl, hcr⟩ := vrs_i hc1
          refine va_mmin hx hb hml2 hown (hts _ o1) (hts _ o2) (hts _ o3) (hts _ o4) (by omega) (by rw [vrs_sum hcr]; omega) (by omega) (by omega) hdc ?_
          rw [← hw1]
          exact go crest hcr
      · have hmono := run_mono _ _ _ _ _ _ _ _ _ _ _ hg
        refine x_hs_ok hx hb hts hown hnm oP.1 m2 hN.1 hdc ho hl hlr hst G (by omega) (by omega) (fun as' ls' clv' cst' tys' ws' H' locs' k1 k2 k3 k4 k5 => ?_)
        exact ih _ _ _ _ _ _ _ _ _ _ hg hV p e R s m args below meth c C hfb hlb hcells hslots D A as0 as' tys' ws' H' locs' ls' clv' cst' (pre_tr hpre k1) k2 k3 k4 k5
