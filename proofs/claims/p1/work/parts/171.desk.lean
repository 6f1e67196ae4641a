/-! the fresh desk: slots, throws -/
def cT (mj F B : Nat) (avs : List Value) (h : xH) (k : String) : Prop := cX mj F B avs h (fun r => ∃ h', r = (.inr k, h', 1, 6))
theorem vT {mi pc idx mj q n F B fb lb b ci : Nat} {lv : xL} {st rest vs : List Value} {h : xH} {Q : yR → Prop} {k : String} (avs : List Value) (hd : xdec xX mi pc = some (.invokevirtual idx)) (hi : xinv xX mi idx = some (some mj, q)) (hst : st.drop q = .ref b :: rest) (hq : q ≤ st.length) (ha : avs = .ref b :: (st.take q).reverse) (hb : h[b]? = some (.inl (ci, vs))) (hcn : xcn xX ci = (xB.1 mj).cls) (hkd : xB.2.1 mj = 0) (hc : cT mj F B avs h k) (hs : x_sum rest ≤ 8) (hf : F + 1 ≤ fb) (hml : xml xX mj = n) (hl : B + (19 + n) ≤ lb) (hn : (lg_sl avs).length ≤ n)
    (hQ : ∀ h', Q (.inr k, h', 1, 6)) : gX fb lb mi pc lv st h 0 0 Q := by
  subst hml
  refine go_v avs hd hi hst hq ha hb hcn hkd hc hs hf hl hn (fun v h1 c1 s1 e => ?_) (fun k h1 c1 s1 e => ?_)
  · obtain ⟨h', e⟩ := e
    cases e
  · obtain ⟨h', e⟩ := e
    cases e
    exact hQ _
def dO : xC := .inl (11, [.ref 1, .ref 2, .ref 3, .ref 19, .ref 104, .ref 125, .ref 282, .ref 434, .ref 451, .int 0])
def dS : xC := .inr (.object "RootDesk$Real", .inr (.inr [some 481, some 502, some 523, some 544, some 565, some 586, some 607, some 628]))
def rl (j : Nat) : xC := .inl (2, [.ref (482 + 21 * j), .ref (498 + 21 * j), .ref (500 + 21 * j), .int 0, .int 0, .int 1, .int 1, .int 20])
/-- the desk's own cells stand -/
def dk (h : xH) : Prop := h[0]? = some dO ∧ h[2]? = some dS ∧ ∀ j, j < 8 → h[481 + 21 * j]? = some (rl j)
def eqO (a : Option xC) (b : xC) : Bool := match a with
  | some c => eqC c b
  | none => false
theorem eqO_ok {a : Option xC} {b : xC} (h : eqO a b = true) : a = some b := by
  unfold eqO at h
  split at h
  · rw [eqC_ok h]
  · cases h
def dkB (h : xH) : Bool := eqO h[0]? dO && (eqO h[2]? dS && (List.range 8).all (fun j => eqO h[481 + 21 * j]? (rl j)))
theorem dkB_ok {h : xH} (e : dkB h = true) : dk h := by
  unfold dkB at e
  simp only [Bool.and_eq_true] at e
  exact ⟨eqO_ok e.1, eqO_ok e.2.1, fun j hj => eqO_ok (List.all_eq_true.mp e.2.2 j (List.mem_range.mpr hj))⟩
set_option maxRecDepth 1000000 in
theorem dk_H0 : dk H0 := dkB_ok (by decide +kernel)
theorem sl_at {j : Nat} (h : j < 8) : ([some 481, some 502, some 523, some 544, some 565, some 586, some 607, some 628] : List (Option Nat)).getD j none = some (481 + 21 * j) := by
  have : ∀ j, j < 8 → ([some 481, some 502, some 523, some 544, some 565, some 586, some 607, some 628] : List (Option Nat)).getD j none = some (481 + 21 * j) := by decide
  exact this j h
set_option maxRecDepth 100000 in
set_option maxHeartbeats 4000000 in
theorem c_slotT {h : xH} {j : Nat} (hd : dk h) (hj : j < 8) : cR 78 0 0 [.ref 0, .int (nI j)] h (fun v h' => h' = h ∧ v = some (.ref (481 + 21 * j))) := by
  intro fb lb _ _
  refine blk_go ob_78 (fun _ => false) 30 ?_
  (conv => whnf); refine br_f (show ¬ nI j < 0 from nI_pos (by omega)) ?_
  (conv => whnf); refine br_t (show nI j < nI 8 from nI_lt hj (by decide)) ?_
  (conv => whnf)
  rw [hd.1]
  (conv => whnf)
  rw [hd.2.1]
  (conv => whnf); refine ⟨j, rfl, by simpa using hj, by decide, ?_⟩
  (conv => whnf)
  rw [sl_at hj]
  exact go_aret ((ob_78.1 24).trans rfl) rfl (Or.inl ⟨_, rfl⟩) ⟨_, _, rfl, rfl, rfl⟩
set_option maxRecDepth 100000 in
set_option maxHeartbeats 4000000 in
theorem c_slotF {h : xH} {x : Int32} (hx : ¬ sl x) : cT 78 7 100 [.ref 0, .int x] h "java/lang/IllegalArgumentException" := by
  intro fb lb hf hl
  have fin : gX fb lb 78 10 [(0, .ref 0), (1, .int x)] [] h 0 0 (fun r => ∃ h', r = (.inr "java/lang/IllegalArgumentException", h', 1, 6)) := go_throw ((ob_78.1 10).trans rfl) rfl ((ob_78.1 13).trans rfl) ((ob_78.1 14).trans rfl) ((ob_78.1 17).trans rfl) hf (by show 0 + 100 ≤ lb; omega) ⟨h, rfl⟩
  refine blk_go ob_78 (fun pc => Nat.beq pc 10) 30 ?_
  (conv => whnf); refine ⟨fun c1 => ?_, fun c1 => ?_⟩
  · exact fin
  · (conv => whnf); refine ⟨fun c2 => ?_, fun c2 => ?_⟩
    · rcases sl_no hx with q | q
      · exact absurd q c1
      · exact absurd (show x < nI 8 from c2) (Int32.not_lt.mpr q)
    · exact fin
set_option maxRecDepth 1000000 in
theorem kr_sign : (List.range 8).all (fun j => t_ok (run3 xX xB.1 xB.2.1 60 3 100 144 0 (lv_args 0 [.ref 0, .int (nI j)]) [] H0T) (fun v _ => decide (v = some (.int (0))))) = true := by decide +kernel
theorem k_sign {j : Nat} (hj : j < 8) : cR 144 3 100 [.ref 0, .int (nI j)] H0 (fun v _ => v = some (.int (0))) := (cR_run3 H0T_rep (List.all_eq_true.mp kr_sign j (List.mem_range.mpr hj))).weak (fun v h z => by
  obtain ⟨t', h1, -⟩ := z
  exact of_decide_eq_true h1)
set_option maxRecDepth 1000000 in
theorem kr_weight : (List.range 8).all (fun j => t_ok (run3 xX xB.1 xB.2.1 60 3 100 150 0 (lv_args 0 [.ref 0, .int (nI j)]) [] H0T) (fun v _ => decide (v = some (.int (1))))) = true := by decide +kernel
theorem k_weight {j : Nat} (hj : j < 8) : cR 150 3 100 [.ref 0, .int (nI j)] H0 (fun v _ => v = some (.int (1))) := (cR_run3 H0T_rep (List.all_eq_true.mp kr_weight j (List.mem_range.mpr hj))).weak (fun v h z => by
  obtain ⟨t', h1, -⟩ := z
  exact of_decide_eq_true h1)
set_option maxRecDepth 1000000 in
theorem kr_size : (List.range 8).all (fun j => t_ok (run3 xX xB.1 xB.2.1 60 3 100 151 0 (lv_args 0 [.ref 0, .int (nI j)]) [] H0T) (fun v _ => decide (v = some (.int (20))))) = true := by decide +kernel
theorem k_size {j : Nat} (hj : j < 8) : cR 151 3 100 [.ref 0, .int (nI j)] H0 (fun v _ => v = some (.int (20))) := (cR_run3 H0T_rep (List.all_eq_true.mp kr_size j (List.mem_range.mpr hj))).weak (fun v h z => by
  obtain ⟨t', h1, -⟩ := z
  exact of_decide_eq_true h1)
set_option maxRecDepth 1000000 in
theorem kr_signAt : (List.range 8).all (fun j => t_ok (run3 xX xB.1 xB.2.1 200 3 100 94 0 (lv_args 0 [.ref 0, .int (nI j)]) [] H0T) (fun v _ => decide (v = some (.int (0))))) = true := by decide +kernel
theorem k_signAt {j : Nat} (hj : j < 8) : cR 94 3 100 [.ref 0, .int (nI j)] H0 (fun v _ => v = some (.int (0))) := (cR_run3 H0T_rep (List.all_eq_true.mp kr_signAt j (List.mem_range.mpr hj))).weak (fun v h z => by
  obtain ⟨t', h1, -⟩ := z
  exact of_decide_eq_true h1)
set_option maxRecDepth 1000000 in
theorem kr_rootsIn : (List.range 8).all (fun i => (List.range 8).all (fun j => t_ok (run3 xX xB.1 xB.2.1 200 3 100 77 0 (lv_args 0 [.ref 0, .int (nI i), .int (nI j)]) [] H0T) (fun v _ => decide (v = some (.int (-1)))))) = true := by decide +kernel
theorem k_rootsIn {i j : Nat} (hi : i < 8) (hj : j < 8) : cR 77 3 100 [.ref 0, .int (nI i), .int (nI j)] H0 (fun v _ => v = some (.int (-1))) := (cR_run3 H0T_rep (List.all_eq_true.mp (List.all_eq_true.mp kr_rootsIn i (List.mem_range.mpr hi)) j (List.mem_range.mpr hj))).weak (fun v h z => by
  obtain ⟨t', h1, -⟩ := z
  exact of_decide_eq_true h1)
set_option maxRecDepth 1000000 in
theorem kr_compare : (List.range 8).all (fun i => (List.range 8).all (fun j => t_ok (run3 xX xB.1 xB.2.1 200 6 200 143 0 (lv_args 0 [.ref 0, .int (nI i), .int (nI j)]) [] H0T) (fun v _ => decide (v = some (.int (0)))))) = true := by decide +kernel
theorem k_compare {i j : Nat} (hi : i < 8) (hj : j < 8) : cR 143 6 200 [.ref 0, .int (nI i), .int (nI j)] H0 (fun v _ => v = some (.int 0)) := (cR_run3 H0T_rep (List.all_eq_true.mp (List.all_eq_true.mp kr_compare i (List.mem_range.mpr hi)) j (List.mem_range.mpr hj))).weak (fun v h z => by
  obtain ⟨t', h1, -⟩ := z
  exact of_decide_eq_true h1)
set_option maxRecDepth 1000000 in
theorem kr_copy : (List.range 8).all (fun i => (List.range 8).all (fun j => t_ok (run3 xX xB.1 xB.2.1 300 6 200 102 0 (lv_args 0 [.ref 0, .int (nI i), .int (nI j)]) [] H0T) (fun v _ => v.isNone))) = true := by decide +kernel
theorem k_copy {i j : Nat} (hi : i < 8) (hj : j < 8) : cR 102 6 200 [.ref 0, .int (nI i), .int (nI j)] H0 (fun v _ => v = none) := (cR_run3 H0T_rep (List.all_eq_true.mp (List.all_eq_true.mp kr_copy i (List.mem_range.mpr hi)) j (List.mem_range.mpr hj))).weak (fun v h z => by
  obtain ⟨t', h1, -⟩ := z
  exact by simpa using h1)
set_option maxRecDepth 1000000 in
theorem kr_negate : (List.range 8).all (fun i => (List.range 8).all (fun j => t_ok (run3 xX xB.1 xB.2.1 600 7 250 103 0 (lv_args 0 [.ref 0, .int (nI i), .int (nI j)]) [] H0T) (fun v _ => v.isNone))) = true := by decide +kernel
theorem k_negate {i j : Nat} (hi : i < 8) (hj : j < 8) : cR 103 7 250 [.ref 0, .int (nI i), .int (nI j)] H0 (fun v _ => v = none) := (cR_run3 H0T_rep (List.all_eq_true.mp (List.all_eq_true.mp kr_negate i (List.mem_range.mpr hi)) j (List.mem_range.mpr hj))).weak (fun v h z => by
  obtain ⟨t', h1, -⟩ := z
  exact by simpa using h1)
