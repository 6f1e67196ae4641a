/-! the fresh desk: root, print -/
-- RootDesk$Blender.blend(LRootDesk$Poly;LRootDesk$Poly;ZLRootDesk$Poly;)V
def bp_119 : bP := (fun pc => look (D119.getD (pc / 16) []) pc, fun i => look [(41, 1, 1, .int, true), (11, 7, 1, .array (.object "RootDesk$Big"), false), (17, 7, 2, .array (.object "RootDesk$Big"), false), (20, 7, 3, .array (.object "RootDesk$Big"), false), (31, 7, 6, .object "RootDesk$Big", false), (37, 7, 0, .object "RootDesk$Divider", false)] i, fun i => look [] i, fun i => look [] i, 7)
theorem ob_119 : okB xX 119 bp_119 := okB_of rfl (by decide +kernel) (by decide +kernel) (by decide +kernel) rfl
-- RootDesk$Blender.sumPowers(LRootDesk$Poly;[LRootDesk$Big;I)V
def bp_120 : bP := (fun pc => look (D120.getD (pc / 16) []) pc, fun i => look [(31, 7, 6, .object "RootDesk$Big", false), (41, 1, 1, .int, true), (23, 7, 4, .array (.object "RootDesk$Big"), false), (95, 1, 0, .array (.object "RootDesk$Big"), false), (27, 7, 5, .object "RootDesk$Big", false)] i, fun i => look [] i, fun i => look [] i, 6)
theorem ob_120 : okB xX 120 bp_120 := okB_of rfl (by decide +kernel) (by decide +kernel) (by decide +kernel) rfl
-- RootDesk$Blender.rescale([LRootDesk$Big;LRootDesk$Big;I)V
def bp_121 : bP := (fun pc => look (D121.getD (pc / 16) []) pc, fun i => look [(31, 7, 6, .object "RootDesk$Big", false), (27, 7, 5, .object "RootDesk$Big", false)] i, fun i => look [] i, fun i => look [] i, 5)
theorem ob_121 : okB xX 121 bp_121 := okB_of rfl (by decide +kernel) (by decide +kernel) (by decide +kernel) rfl
-- RootDesk$Blender.joinForSum(I)V
def bp_122 : bP := (fun pc => look (D122.getD (pc / 16) []) pc, fun i => look [(20, 7, 3, .array (.object "RootDesk$Big"), false), (27, 7, 5, .object "RootDesk$Big", false), (11, 7, 1, .array (.object "RootDesk$Big"), false), (17, 7, 2, .array (.object "RootDesk$Big"), false)] i, fun i => look [] i, fun i => look [] i, 5)
theorem ob_122 : okB xX 122 bp_122 := okB_of rfl (by decide +kernel) (by decide +kernel) (by decide +kernel) rfl
-- RootDesk$Blender.fromPowers(ILRootDesk$Poly;)V
def bp_123 : bP := (fun pc => look (D123.getD (pc / 16) []) pc, fun i => look [(23, 7, 4, .array (.object "RootDesk$Big"), false), (27, 7, 5, .object "RootDesk$Big", false), (20, 7, 3, .array (.object "RootDesk$Big"), false), (34, 7, 7, .object "RootDesk$Big", false), (95, 1, 0, .array (.object "RootDesk$Big"), false), (31, 7, 6, .object "RootDesk$Big", false), (41, 1, 1, .int, true)] i, fun i => look [] i, fun i => look [] i, 6)
theorem ob_123 : okB xX 123 bp_123 := okB_of rfl (by decide +kernel) (by decide +kernel) (by decide +kernel) rfl
-- RootDesk$Blender.raise(LRootDesk$Big;I)V
def bp_124 : bP := (fun pc => look (D124.getD (pc / 16) []) pc, fun i => look [(31, 7, 6, .object "RootDesk$Big", false), (27, 7, 5, .object "RootDesk$Big", false)] i, fun i => look [] i, fun i => look [] i, 4)
theorem ob_124 : okB xX 124 bp_124 := okB_of rfl (by decide +kernel) (by decide +kernel) (by decide +kernel) rfl
-- RootDesk$Printer.write(LRootDesk$Real;I)I
def bp_146 : bP := (fun pc => look (D146.getD (pc / 16) []) pc, fun i => look [(29, 10, 5, .object "RootDesk$Big", false), (64, 2, 0, .object "RootDesk$Poly", false), (69, 1, 1, .int, true), (36, 10, 7, .object "RootDesk$Big", false), (72, 1, 0, .array (.object "RootDesk$Big"), false), (48, 10, 2, .object "RootDesk$Divider", false), (39, 10, 8, .object "RootDesk$Big", false), (42, 10, 9, .object "RootDesk$Big", false), (52, 10, 3, .object "RootDesk$Narrower", false), (15, 10, 1, .int, true)] i, fun i => look [] i, fun i => look [] i, 4)
theorem ob_146 : okB xX 146 bp_146 := okB_of rfl (by decide +kernel) (by decide +kernel) (by decide +kernel) rfl
-- RootDesk$Printer.roundDown(LRootDesk$Real;)V
def bp_147 : bP := (fun pc => look (D147.getD (pc / 16) []) pc, fun i => look [(39, 10, 8, .object "RootDesk$Big", false), (102, 2, 1, .object "RootDesk$Big", false), (29, 10, 5, .object "RootDesk$Big", false), (105, 2, 3, .int, true), (111, 2, 5, .boolean, true), (42, 10, 9, .object "RootDesk$Big", false), (115, 2, 2, .object "RootDesk$Big", false), (45, 10, 10, .object "RootDesk$Big", false), (64, 2, 0, .object "RootDesk$Poly", false), (36, 10, 7, .object "RootDesk$Big", false), (52, 10, 3, .object "RootDesk$Narrower", false), (22, 10, 4, .object "RootDesk$Poly", false), (139, 2, 4, .int, true)] i, fun i => look [] i, fun i => look [] i, 4)
theorem ob_147 : okB xX 147 bp_147 := okB_of rfl (by decide +kernel) (by decide +kernel) (by decide +kernel) rfl
-- RootDesk$Printer.scalePoly(LRootDesk$Poly;)V
def bp_148 : bP := (fun pc => look (D148.getD (pc / 16) []) pc, fun i => look [(22, 10, 4, .object "RootDesk$Poly", false), (33, 10, 6, .object "RootDesk$Big", false), (29, 10, 5, .object "RootDesk$Big", false), (69, 1, 1, .int, true), (72, 1, 0, .array (.object "RootDesk$Big"), false), (36, 10, 7, .object "RootDesk$Big", false)] i, fun i => look [] i, fun i => look [] i, 3)
theorem ob_148 : okB xX 148 bp_148 := okB_of rfl (by decide +kernel) (by decide +kernel) (by decide +kernel) rfl
-- RootDesk$Printer.writeDigits()V
def bp_149 : bP := (fun pc => look (D149.getD (pc / 16) []) pc, fun i => look [(39, 10, 8, .object "RootDesk$Big", false), (147, 0, 2, .int, true), (15, 10, 1, .int, true), (9, 10, 0, .array (.char), false)] i, fun i => look [(150, 1000000000)] i, fun i => look [] i, 5)
theorem ob_149 : okB xX 149 bp_149 := okB_of rfl (by decide +kernel) (by decide +kernel) (by decide +kernel) rfl
theorem rep_sets : ∀ {l : List (Nat × xC)} {t : xT} {h : xH}, rep t h → (∀ q ∈ l, q.1 < h.length) → rep (l.foldl (fun t q => tset t q.1 q.2) t) (l.foldl (fun h q => h.set q.1 q.2) h)
  | [], _, _, R, _ => R
  | q :: l, t, h, R, hl => by
    have h1 := hl q List.mem_cons_self
    refine rep_sets (l := l) (rep_set R (List.getElem?_eq_getElem h1)) (fun p hp => ?_)
    rw [List.length_set]
    exact hl p (List.mem_cons_of_mem _ hp)
theorem sets_len : ∀ {l : List (Nat × xC)} {h : xH}, (l.foldl (fun h q => h.set q.1 q.2) h).length = h.length
  | [], _ => rfl
  | q :: l, h => by
    show (l.foldl (fun h q => h.set q.1 q.2) (h.set q.1 q.2)).length = h.length
    rw [sets_len (l := l), List.length_set]
theorem rep_inj {t : xT} {h h' : xH} (R : rep t h) (R' : rep t h') : h = h' := List.ext_getElem? (fun i => (R i).symm.trans (R' i))
/-- a run by the kernel, from anywhere -/
theorem go_run3 {n F B fb lb mi pc c s : Nat} {lv : xL} {st : List Value} {h : xH} {t : xT} {p : Option Value → xT → Bool} {Q : yR → Prop} (R : rep t h) (hr : t_ok (run3 xX xB.1 xB.2.1 n F B mi pc lv st t) p = true) (hf : F ≤ fb) (hl : B ≤ lb) (hq : ∀ v t' h', p v t' = true → rep t' h' → Q (.inl v, h', c, s)) : gX fb lb mi pc lv st h c s Q := by
  unfold t_ok at hr
  split at hr
  · next r e =>
    obtain ⟨h', h1, h2, h3⟩ := run3_ok (TH := TH0) _ _ _ _ _ _ _ _ h c s _ R e
    exact ⟨n, _, Rn_room _ _ _ _ _ _ _ _ _ _ _ _ _ hf hl h1, hq _ _ _ hr h2⟩
  · cases hr
set_option maxRecDepth 1000000 in
theorem kr_root_0 : (List.range 8).all (fun j => [2, 3].all (fun k => t_ok (run3 xX xB.1 xB.2.1 700 7 250 136 0 (lv_args 0 [.ref 0, .int (nI 0), .int (nI j), .int (nI k)]) [] H0T) (fun v _ => decide (v = some (.int 1))))) = true := by decide +kernel
set_option maxRecDepth 1000000 in
theorem kr_root_1 : (List.range 8).all (fun j => [2, 3].all (fun k => t_ok (run3 xX xB.1 xB.2.1 700 7 250 136 0 (lv_args 0 [.ref 0, .int (nI 1), .int (nI j), .int (nI k)]) [] H0T) (fun v _ => decide (v = some (.int 1))))) = true := by decide +kernel
set_option maxRecDepth 1000000 in
theorem kr_root_2 : (List.range 8).all (fun j => [2, 3].all (fun k => t_ok (run3 xX xB.1 xB.2.1 700 7 250 136 0 (lv_args 0 [.ref 0, .int (nI 2), .int (nI j), .int (nI k)]) [] H0T) (fun v _ => decide (v = some (.int 1))))) = true := by decide +kernel
set_option maxRecDepth 1000000 in
theorem kr_root_3 : (List.range 8).all (fun j => [2, 3].all (fun k => t_ok (run3 xX xB.1 xB.2.1 700 7 250 136 0 (lv_args 0 [.ref 0, .int (nI 3), .int (nI j), .int (nI k)]) [] H0T) (fun v _ => decide (v = some (.int 1))))) = true := by decide +kernel
set_option maxRecDepth 1000000 in
theorem kr_root_4 : (List.range 8).all (fun j => [2, 3].all (fun k => t_ok (run3 xX xB.1 xB.2.1 700 7 250 136 0 (lv_args 0 [.ref 0, .int (nI 4), .int (nI j), .int (nI k)]) [] H0T) (fun v _ => decide (v = some (.int 1))))) = true := by decide +kernel
set_option maxRecDepth 1000000 in
theorem kr_root_5 : (List.range 8).all (fun j => [2, 3].all (fun k => t_ok (run3 xX xB.1 xB.2.1 700 7 250 136 0 (lv_args 0 [.ref 0, .int (nI 5), .int (nI j), .int (nI k)]) [] H0T) (fun v _ => decide (v = some (.int 1))))) = true := by decide +kernel
set_option maxRecDepth 1000000 in
theorem kr_root_6 : (List.range 8).all (fun j => [2, 3].all (fun k => t_ok (run3 xX xB.1 xB.2.1 700 7 250 136 0 (lv_args 0 [.ref 0, .int (nI 6), .int (nI j), .int (nI k)]) [] H0T) (fun v _ => decide (v = some (.int 1))))) = true := by decide +kernel
set_option maxRecDepth 1000000 in
theorem kr_root_7 : (List.range 8).all (fun j => [2, 3].all (fun k => t_ok (run3 xX xB.1 xB.2.1 700 7 250 136 0 (lv_args 0 [.ref 0, .int (nI 7), .int (nI j), .int (nI k)]) [] H0T) (fun v _ => decide (v = some (.int 1))))) = true := by decide +kernel
theorem kr_root : ∀ i, i < 8 → (List.range 8).all (fun j => [2, 3].all (fun k => t_ok (run3 xX xB.1 xB.2.1 700 7 250 136 0 (lv_args 0 [.ref 0, .int (nI i), .int (nI j), .int (nI k)]) [] H0T) (fun v _ => decide (v = some (.int 1))))) = true := fun i h => match i, h with
  | 0, _ => kr_root_0
  | 1, _ => kr_root_1
  | 2, _ => kr_root_2
  | 3, _ => kr_root_3
  | 4, _ => kr_root_4
  | 5, _ => kr_root_5
  | 6, _ => kr_root_6
  | 7, _ => kr_root_7
  | k + 8, h => absurd h (by omega)
theorem k_root {i j k : Nat} (hi : i < 8) (hj : j < 8) (hk : k = 2 ∨ k = 3) : cR 136 7 250 [.ref 0, .int (nI i), .int (nI j), .int (nI k)] H0 (fun v _ => v = some (.int 1)) := (cR_run3 H0T_rep (List.all_eq_true.mp (List.all_eq_true.mp (kr_root i hi) j (List.mem_range.mpr hj)) k (by rcases hk with rfl | rfl <;> simp))).weak (fun v h z => by
  obtain ⟨t', h1, -⟩ := z
  exact of_decide_eq_true h1)
