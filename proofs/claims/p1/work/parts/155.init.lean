/-! a tree out of a list; runs by the kernel as contracts -/
def tT (h : xH) : xT := (List.range 9).map (fun i => (List.range 9).map (fun j => (h.drop (81 * i + 9 * j)).take 9))
theorem gd_mr {α : Type} {f : Nat → α} {n i : Nat} {d : α} : ((List.range n).map f).getD i d = if i < n then f i else d := by
  by_cases h : i < n
  · rw [if_pos h, List.getD_eq_getElem?_getD, List.getElem?_map, List.getElem?_range h]; rfl
  · rw [if_neg h, List.getD_eq_getElem?_getD, List.getElem?_map, List.getElem?_eq_none (by simpa using h)]; rfl
theorem rep_tT {h : xH} (hl : h.length ≤ 729) : rep (tT h) h := by
  intro i
  unfold tg tT
  rw [gd_mr]
  by_cases h1 : i / 81 < 9
  · rw [if_pos h1, gd_mr, if_pos (by omega), List.getElem?_take, if_pos (by omega), List.getElem?_drop]
    congr 1
    omega
  · have e : h[i]? = none := List.getElem?_eq_none (by omega)
    rw [if_neg h1, e]
    rfl
/-- a run by the kernel, what is to hold behind it checked by a program -/
def t_ok (o : Option tR) (p : Option Value → xT → Bool) : Bool := match o with
  | some r => p r.1 r.2
  | none => false
theorem c_run3 {mj n F B : Nat} {avs : List Value} {h : xH} {t : xT} {p : Option Value → xT → Bool} (R : rep t h) (hr : t_ok (run3 xX xB.1 xB.2.1 n F B mj 0 (lv_args 0 avs) [] t) p = true) : ∃ v t' h', p v t' = true ∧ rep t' h' ∧ h'.length = h.length ∧ ∀ c s, gX F B mj 0 (lv_args 0 avs) [] h c s (fun r => r = (.inl v, h', c, s)) := by
  unfold t_ok at hr
  split at hr
  · next r e =>
    obtain ⟨h', h1, h2, h3⟩ := run3_ok (TH := TH0) _ _ _ _ _ _ _ _ h 0 0 _ R e
    refine ⟨r.1, r.2, h', hr, h2, h3, fun c s => ?_⟩
    obtain ⟨h'', k1, k2, k3⟩ := run3_ok (TH := TH0) _ _ _ _ _ _ _ _ h c s _ R e
    have e2 : h'' = h' := List.ext_getElem? (fun i => (k2 i).symm.trans (h2 i))
    subst e2
    exact ⟨_, _, k1, rfl⟩
  · cases hr
/-- the relation may have more room -/
theorem Rn_room {X : xProg} {Y : Nat → MethodName} {kd : Nat → Nat} {TH : xTh} : ∀ (n fb lb mi pc : Nat) (lv : xL) (st : List Value) (h : xH) (c s : Nat) (r : yR) (fb' lb' : Nat), fb ≤ fb' → lb ≤ lb' → Rn X Y kd TH n fb lb mi pc lv st h c s r → Rn X Y kd TH n fb' lb' mi pc lv st h c s r := by
  intro n
  induction n with
  | zero => intro fb lb mi pc lv st h c s r fb' lb' _ _ hr; exact hr.elim
  | succ n ih =>
    intro fb lb mi pc lv st h c s r fb' lb' hf hl hr
    obtain ⟨i, hd, hr⟩ := hr
    refine ⟨i, hd, ?_⟩
    have go : ∀ {rest : List Value} {mj : Nat} {avs : List Value} {vt : Prop}, y_go X (Rn X Y kd TH n) fb lb mi pc lv rest h c s mj avs vt r → y_go X (Rn X Y kd TH n) fb' lb' mi pc lv rest h c s mj avs vt r := by
      intro rest mj avs vt hg
      obtain ⟨g1, g2, g3, hh⟩ := hg
      refine ⟨g1, by omega, by omega, ?_⟩
      rcases hh with ⟨v, h1, c1, s1, k1, k2, k3⟩ | ⟨J, ds, bvs, v1, h1, c1, s1, cs, v, k1, k2, k3, k4, k5, k6, k7⟩ | ⟨k, h1, c1, s1, k1, k2, k3, k4⟩
      · exact Or.inl ⟨v, h1, c1, s1, k1, ih _ _ _ _ _ _ _ _ _ _ _ _ (by omega) (by omega) k2, ih _ _ _ _ _ _ _ _ _ _ _ _ hf hl k3⟩
      · exact Or.inr (Or.inl ⟨J, ds, bvs, v1, h1, c1, s1, cs, v, k1, k2, ih _ _ _ _ _ _ _ _ _ _ _ _ (by omega) (by omega) k3, k4, k5, k6, ih _ _ _ _ _ _ _ _ _ _ _ _ hf hl k7⟩)
      · exact Or.inr (Or.inr ⟨k, h1, c1, s1, k1, k2, ih _ _ _ _ _ _ _ _ _ _ _ _ (by omega) (by omega) k3, k4⟩)
    rcases hr with q | q | q | q | ⟨idx, q, mj, b, rest, ci, vs, k1, k2, k3, k4, k5, k6, k7, k8⟩ | ⟨idx, q, mj, k1, k2, k3, k4, k5⟩ | ⟨idx, q, mj, b, rest, k1, k2, k3, k4, k5, k6⟩ | ⟨idx, b, rest, k1, k2, k3, k4, k5, k6⟩ | ⟨idx, q, w, k1, k2, k3, k4, k5, k6⟩ | ⟨o, k1, k2⟩ | ⟨ia, ic, k, k1, k2, k3, k4, k5, k6, k7, k8⟩ | ⟨lv', k1, k2⟩
    · exact Or.inl q
    · exact Or.inr (Or.inl q)
    · exact Or.inr (Or.inr (Or.inl q))
    · exact Or.inr (Or.inr (Or.inr (Or.inl q)))
    · exact Or.inr (Or.inr (Or.inr (Or.inr (Or.inl ⟨idx, q, mj, b, rest, ci, vs, k1, k2, k3, k4, k5, k6, k7, go k8⟩))))
    · exact Or.inr (Or.inr (Or.inr (Or.inr (Or.inr (Or.inl ⟨idx, q, mj, k1, k2, k3, k4, go k5⟩)))))
    · exact Or.inr (Or.inr (Or.inr (Or.inr (Or.inr (Or.inr (Or.inl ⟨idx, q, mj, b, rest, k1, k2, k3, k4, k5, go k6⟩))))))
    · exact Or.inr (Or.inr (Or.inr (Or.inr (Or.inr (Or.inr (Or.inr (Or.inl ⟨idx, b, rest, k1, k2, k3, by omega, by omega, ih _ _ _ _ _ _ _ _ _ _ _ _ hf hl k6⟩)))))))
    · exact Or.inr (Or.inr (Or.inr (Or.inr (Or.inr (Or.inr (Or.inr (Or.inr (Or.inl ⟨idx, q, w, k1, k2, k3, by omega, by omega, ih _ _ _ _ _ _ _ _ _ _ _ _ hf hl k6⟩))))))))
    · exact Or.inr (Or.inr (Or.inr (Or.inr (Or.inr (Or.inr (Or.inr (Or.inr (Or.inr (Or.inl ⟨o, k1, ih _ _ _ _ _ _ _ _ _ _ _ _ hf hl k2⟩)))))))))
    · exact Or.inr (Or.inr (Or.inr (Or.inr (Or.inr (Or.inr (Or.inr (Or.inr (Or.inr (Or.inr (Or.inl ⟨ia, ic, k, k1, k2, k3, k4, k5, by omega, by omega, k8⟩))))))))))
    · exact Or.inr (Or.inr (Or.inr (Or.inr (Or.inr (Or.inr (Or.inr (Or.inr (Or.inr (Or.inr (Or.inr ⟨lv', k1, ih _ _ _ _ _ _ _ _ _ _ _ _ hf hl k2⟩))))))))))
theorem cR_run3 {mj n F B : Nat} {avs : List Value} {h : xH} {t : xT} {p : Option Value → xT → Bool} (R : rep t h) (hr : t_ok (run3 xX xB.1 xB.2.1 n F B mj 0 (lv_args 0 avs) [] t) p = true) : cR mj F B avs h (fun v h' => ∃ t', p v t' = true ∧ rep t' h' ∧ h'.length = h.length) := by
  obtain ⟨v, t', h', h1, h2, h3, h4⟩ := c_run3 R hr
  intro fb lb hf hl
  obtain ⟨n', r, k1, k2⟩ := h4 0 0
  exact ⟨n', r, Rn_room _ _ _ _ _ _ _ _ _ _ _ _ _ hf hl k1, v, h', k2, t', h1, h2, h3⟩
/-! the fresh reference -/
def L00 : List Int64 := List.replicate 6000 0
def S00 : List Int32 := List.replicate 60 0
def C00 : List Int64 := List.replicate 200 0
def mI : xH := mH 0 0 0 0 0 0 [0, 0, 0, 0, 0, 0, 0] [1, 1, 1, 1, 1, 1, 1, 1] [20, 20, 20, 20, 20, 20, 20, 20] [2230, 2230, 2230, 2230, 2230, 2230, 2230, 2230] (List.replicate 49 0) (List.replicate 400 0) L00 S00 C00
def mIT : xT := [[[mO 0 0 0 0 0 0, .inr (.long, .inr (.inl L00)), .inr (.int, .inl S00), .inr (.long, .inr (.inl C00)), .inr (.int, .inl [0, 0, 0, 0, 0, 0, 0]), .inr (.int, .inl [1, 1, 1, 1, 1, 1, 1, 1]), .inr (.int, .inl [20, 20, 20, 20, 20, 20, 20, 20]), .inr (.int, .inl [2230, 2230, 2230, 2230, 2230, 2230, 2230, 2230]), .inr (.long, .inr (.inl (List.replicate 49 0)))], [.inr (.int, .inl [0, 0, 0, 0, 0, 0]), .inr (.boolean, .inl [0, 0, 0, 0, 0, 0]), .inr (.int, .inl [0, 0, 0, 0, 0, 0]), .inr (.char, .inl (List.replicate 400 0))], [], [], [], [], [], [], []], [[], [], [], [], [], [], [], [], []], [[], [], [], [], [], [], [], [], []], [[], [], [], [], [], [], [], [], []], [[], [], [], [], [], [], [], [], []], [[], [], [], [], [], [], [], [], []], [[], [], [], [], [], [], [], [], []], [[], [], [], [], [], [], [], [], []], [[], [], [], [], [], [], [], [], []]]
theorem mIT_rep : rep mIT mI := by
  have e : mIT = tT mI := rfl
  rw [e]
  exact rep_tT (by decide)
/-- behind findRoots: nothing thrown, no degree -/
def fR_ok (v : Option Value) (t : xT) : Bool := v.isNone && (match tg t 0 with
  | some (.inl (12, [.int f, _, _, _, _, _, _, _, _, _, .int d, _, .int r, _, _, _, _, _, _, _, _])) => decide (f = 0) && (decide (d = -1) && decide (r = 0))
  | _ => false)
set_option maxRecDepth 1000000 in
theorem fR_run : t_ok (run3 xX xB.1 xB.2.1 3000 3 100 157 0 (lv_args 0 [.ref 0]) [] mIT) fR_ok = true := by decide +kernel
