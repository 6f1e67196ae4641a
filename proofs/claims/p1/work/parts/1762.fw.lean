/-! a number of the desk among all its cells: calls on it -/
theorem rvs_j {f : Nat → Option Nat} {v x : Value} {l r : List Value} (h1 : rv f v = some x) (h2 : rvs f l = some r) : rvs f (v :: l) = some (x :: r) := by
  show (rv f v).bind (fun x => (rvs f l).map (fun m => x :: m)) = _
  rw [h1, h2]
  rfl
def mkD : xC := .inl (8, [.ref 35, .ref 65, .ref 104, .ref 125, .ref 367, .ref 283, .ref 304, .ref 325, .ref 341, .ref 357, .ref 359, .ref 361, .ref 363, .ref 365])
def bgA (h : xH) (b : Nat) (u s : Int32) (l : List Int32) : Prop := h[b]? = some (.inl (0, [.ref (b + 1), .int u, .int s])) ∧ h[b + 1]? = some (.inr (.int, .inl l))
def st2 (h : xH) (b : Nat) (u s : Int32) (l : List Int32) : xH := (h.set b (.inl (0, [.ref (b + 1), .int u, .int s]))).set (b + 1) (.inr (.int, .inl l))
theorem set_same {α : Type} {h : List α} {i : Nat} {c : α} (hc : h[i]? = some c) : h.set i c = h := by
  apply List.ext_getElem?
  intro j
  by_cases e : i = j
  · subst e
    rw [List.getElem?_set_self (List.getElem?_eq_some_iff.mp hc).1, hc]
  · rw [List.getElem?_set_ne e]
theorem bgA_ne {h : xH} {a b : Nat} {u s u1 s1 : Int32} {l l1 : List Int32} (ha : bgA h a u1 s1 l1) (h1 : b ≠ a) (h2 : b + 1 ≠ a) (h3 : a + 1 ≠ b) : bgA (st2 h b u s l) a u1 s1 l1 := by
  unfold st2
  refine ⟨?_, ?_⟩
  · rw [List.getElem?_set_ne h2, List.getElem?_set_ne h1]; exact ha.1
  · rw [List.getElem?_set_ne (by omega), List.getElem?_set_ne (by omega)]; exact ha.2
theorem bgA_st {h : xH} {b : Nat} {u s u1 s1 : Int32} {l l1 : List Int32} (hb : bgA h b u1 s1 l1) : bgA (st2 h b u s l) b u s l := by
  have h1 := (List.getElem?_eq_some_iff.mp hb.1).1
  have h2 := (List.getElem?_eq_some_iff.mp hb.2).1
  unfold st2
  refine ⟨?_, ?_⟩
  · rw [List.getElem?_set_ne (by omega), List.getElem?_set_self h1]
  · rw [List.getElem?_set_self (by rw [List.length_set]; exact h2)]
theorem st2_same {h : xH} {b : Nat} {u s : Int32} {l : List Int32} (hb : bgA h b u s l) : st2 h b u s l = h := by
  unfold st2
  rw [set_same hb.1, set_same hb.2]
theorem st2_set {h : xH} {b : Nat} {u s u' s' : Int32} {l : List Int32} : st2 (h.set b (.inl (0, [.ref (b + 1), .int u', .int s']))) b u s l = st2 h b u s l := by
  unfold st2
  rw [List.set_set]
theorem set_st2 {h : xH} {b : Nat} {u s u' s' : Int32} {l : List Int32} (hb : bgA h b u s l) : h.set b (.inl (0, [.ref (b + 1), .int u', .int s'])) = st2 h b u' s' l := by
  unfold st2
  exact (set_same (by rw [List.getElem?_set_ne (by omega)]; exact hb.2)).symm
theorem rv_r {f : Nat → Option Nat} {i j : Nat} (h : f i = some j) : rv f (.ref i) = some (.ref j) := by
  show (f i).bind (fun j => fN j (fun j => some (Value.ref j))) = _
  rw [h]
  show fN j (fun j => some (Value.ref j)) = _
  exact fN_eq j _
theorem rcs_c {f : Nat → Option Nat} {c d : xC} {l m : List xC} (h1 : rc f c = some d) (h2 : rcs f l = some m) : rcs f (c :: l) = some (d :: m) := by
  show (rc f c).bind (fun x => (rcs f l).map (fun m => x :: m)) = _
  rw [h1, h2]
  rfl
theorem rc_big {f : Nat → Option Nat} {i j : Nat} {u s : Int32} (h : f i = some j) : rc f (.inl (0, [.ref i, .int u, .int s])) = some (.inl (0, [.ref j, .int u, .int s])) := by
  show (rvs f [.ref i, .int u, .int s]).map (fun w => Sum.inl (0, w)) = _
  rw [rvs_j (rv_r h) (rvs_j (x := .int u) rfl (rvs_j (x := .int s) rfl rfl))]
  rfl
theorem pick_c {h : xH} {j : Nat} {J : List Nat} {c : xC} {m : List xC} (h1 : h[j]? = some c) (h2 : pick h J = some m) : pick h (j :: J) = some (c :: m) := by
  unfold pick
  rw [h1, h2]
  rfl
theorem sp_h {j : Nat} {l : List Nat} : sp (j :: l) j = some 0 := by
  unfold sp
  rw [Nat.beq_refl]
  rfl
theorem beq_f {j i : Nat} (h : j ≠ i) : Nat.beq j i = false := by
  cases hb : Nat.beq j i
  · rfl
  · exact absurd (Nat.eq_of_beq_eq_true hb) h
theorem sp_t {j i k : Nat} {l : List Nat} (h : j ≠ i) (h2 : sp l i = some k) : sp (j :: l) i = some (k + 1) := by
  unfold sp
  rw [beq_f h, h2]
  rfl
theorem sp_tn {j i : Nat} {l : List Nat} (h : j ≠ i) (h2 : sp l i = none) : sp (j :: l) i = none := by
  unfold sp
  rw [beq_f h, h2]
  rfl
theorem sp_0 {i : Nat} : sp [] i = none := rfl
theorem ndp_c {j : Nat} {l : List Nat} (h1 : sp l j = none) (h2 : ndp l = true) : ndp (j :: l) = true := by
  unfold ndp
  rw [h1, h2]
  rfl
set_option maxHeartbeats 4000000 in
theorem vb1 {mi pc idx mj q n F B fb lb c s b : Nat} {lv : xL} {st rest w : List Value} {h : xH} {u sg : Int32} {l : List Int32} {Q : yR → Prop} {K : Option Value → xH → Prop} (hd : xdec xX mi pc = some (.invokevirtual idx)) (hi : xinv xX mi idx = some (some mj, q)) (hst : st.drop q = .ref b :: rest) (hq : q ≤ st.length) (ha : (.ref b :: w : List Value) = .ref b :: (st.take q).reverse) (hb : bgA h b u sg l) (hcn : xcn xX 0 = (xB.1 mj).cls) (hkd : xB.2.1 mj = 0) (hw : ∀ f, rvs f w = some w) (hc : cR mj F B (.ref 0 :: w) (bH u sg l) K) (hs : x_sum rest ≤ 8) (hf : F + 1 ≤ fb) (hml : xml xX mj = n) (hl : B + (19 + n) ≤ lb) (hn : (lg_sl (.ref 0 :: w)).length ≤ n)
    (hk : ∀ v h1, K v h1 → ∃ u' s' l', h1 = bH u' s' l' ∧ (∀ f, rvo f v = some v) ∧ gX fb lb mi (pc + 3) lv (v.toList ++ rest) (st2 h b u' s' l') c s Q) : gX fb lb mi pc lv st h c s Q := by
  subst hml
  have hJ : cutJ h (.ref b :: w) [b, b + 1] (bH u sg l) (.ref 0 :: w) := ⟨ndp_c (sp_tn (by omega) sp_0) (ndp_c sp_0 rfl), _, pick_c hb.1 (pick_c hb.2 rfl), rcs_c (rc_big (sp_t (by omega) sp_h)) (rcs_c rfl rfl), rvs_j (rv_r sp_h) (hw _)⟩
  refine go_vc (.ref b :: w) hd hi hst hq ha hb.1 hcn hkd hJ hc hs hf hl hn (fun v h1 c1 s1 e => ?_) (fun k h1 c1 s1 e => ?_)
  · obtain ⟨v', h', e, hK⟩ := e
    cases e
    obtain ⟨u', s', l', rfl, hv, hg⟩ := hk _ _ hK
    refine ⟨[.inl (0, [.ref (b + 1), .int u', .int s']), .inr (.int, .inl l')], _, Nat.le_refl 2, rcs_c (rc_big rfl) (rcs_c rfl rfl), hv _, ?_⟩
    rw [mg_c, mg_c, mg_n, List.append_nil]
    exact hg
  · obtain ⟨v', h', e, hK⟩ := e
    cases e
set_option maxHeartbeats 4000000 in
theorem vb2 {mi pc idx mj q n F B fb lb c s b a : Nat} {lv : xL} {st rest bvs : List Value} {h : xH} {u sg u1 s1 : Int32} {l l1 : List Int32} {Q : yR → Prop} {K : Option Value → xH → Prop} (avs : List Value) (hd : xdec xX mi pc = some (.invokevirtual idx)) (hi : xinv xX mi idx = some (some mj, q)) (hst : st.drop q = .ref b :: rest) (hq : q ≤ st.length) (ha : avs = .ref b :: (st.take q).reverse) (hb : bgA h b u sg l) (hb1 : bgA h a u1 s1 l1) (hne : b ≠ a ∧ b + 1 ≠ a ∧ a + 1 ≠ b) (hcn : xcn xX 0 = (xB.1 mj).cls) (hkd : xB.2.1 mj = 0) (hw : ∀ f : Nat → Option Nat, f b = some 0 → f a = some 2 → rvs f avs = some bvs) (hc : cR mj F B bvs (bH2 u sg l u1 s1 l1) K) (hs : x_sum rest ≤ 8) (hf : F + 1 ≤ fb) (hml : xml xX mj = n) (hl : B + (19 + n) ≤ lb) (hn : (lg_sl bvs).length ≤ n)
    (hk : ∀ v h1, K v h1 → ∃ u' s' l', h1 = bH2 u' s' l' u1 s1 l1 ∧ (∀ f, rvo f v = some v) ∧ gX fb lb mi (pc + 3) lv (v.toList ++ rest) (st2 h b u' s' l') c s Q) : gX fb lb mi pc lv st h c s Q := by
  subst hml
  obtain ⟨n1, n2, n3⟩ := hne
  have hJ : cutJ h avs [b, b + 1, a, a + 1] (bH2 u sg l u1 s1 l1) bvs := ⟨ndp_c (sp_tn (by omega) (sp_tn (Ne.symm n1) (sp_tn n3 sp_0))) (ndp_c (sp_tn (Ne.symm n2) (sp_tn (by omega) sp_0)) (ndp_c (sp_tn (by omega) sp_0) (ndp_c sp_0 rfl))), _, pick_c hb.1 (pick_c hb.2 (pick_c hb1.1 (pick_c hb1.2 rfl))), rcs_c (rc_big (sp_t (by omega) sp_h)) (rcs_c rfl (rcs_c (rc_big (sp_t (by omega) (sp_t (by omega) (sp_t (by omega) sp_h)))) (rcs_c rfl rfl))), hw _ sp_h (sp_t n1 (sp_t n2 sp_h))⟩
  refine go_vc avs hd hi hst hq ha hb.1 hcn hkd hJ hc hs hf hl hn (fun v h1 c1 s1 e => ?_) (fun k h1 c1 s1 e => ?_)
  · obtain ⟨v', h', e, hK⟩ := e
    cases e
    obtain ⟨u', s', l', rfl, hv, hg⟩ := hk _ _ hK
    refine ⟨[.inl (0, [.ref (b + 1), .int u', .int s']), .inr (.int, .inl l'), .inl (0, [.ref (a + 1), .int u1, .int s1]), .inr (.int, .inl l1)], _, Nat.le_refl 4, rcs_c (rc_big rfl) (rcs_c rfl (rcs_c (rc_big rfl) (rcs_c rfl rfl))), hv _, ?_⟩
    rw [mg_c, mg_c, mg_c, mg_c, mg_n, List.append_nil]
    have e1 : st2 (st2 h b u' s' l') a u1 s1 l1 = st2 h b u' s' l' := st2_same (bgA_ne hb1 n1 n2 n3)
    show gX fb lb mi (pc + 3) lv _ (st2 (st2 h b u' s' l') a u1 s1 l1) (c + 0) (s + 0) Q
    rw [e1]
    exact hg
  · obtain ⟨v', h', e, hK⟩ := e
    cases e
set_option maxHeartbeats 4000000 in
theorem vb3 {mi pc idx mj q n F B fb lb c s b a d : Nat} {lv : xL} {st rest bvs : List Value} {h : xH} {u sg u1 s1 u2 s2 : Int32} {l l1 l2 : List Int32} {Q : yR → Prop} {K : Option Value → xH → Prop} (avs : List Value) (hd : xdec xX mi pc = some (.invokevirtual idx)) (hi : xinv xX mi idx = some (some mj, q)) (hst : st.drop q = .ref b :: rest) (hq : q ≤ st.length) (ha : avs = .ref b :: (st.take q).reverse) (hb : bgA h b u sg l) (hb1 : bgA h a u1 s1 l1) (hb2 : bgA h d u2 s2 l2) (hne : b ≠ a ∧ b + 1 ≠ a ∧ a + 1 ≠ b) (hne2 : b ≠ d ∧ b + 1 ≠ d ∧ d + 1 ≠ b) (hne3 : a ≠ d ∧ a + 1 ≠ d ∧ d + 1 ≠ a) (hcn : xcn xX 0 = (xB.1 mj).cls) (hkd : xB.2.1 mj = 0) (hw : ∀ f : Nat → Option Nat, f b = some 0 → f a = some 2 → f d = some 4 → rvs f avs = some bvs) (hc : cR mj F B bvs (bH3 u sg l u1 s1 l1 u2 s2 l2) K) (hs : x_sum rest ≤ 8) (hf : F + 1 ≤ fb) (hml : xml xX mj = n) (hl : B + (19 + n) ≤ lb) (hn : (lg_sl bvs).length ≤ n)
    (hk : ∀ v h1, K v h1 → ∃ u' s' l', h1 = bH3 u' s' l' u1 s1 l1 u2 s2 l2 ∧ (∀ f, rvo f v = some v) ∧ gX fb lb mi (pc + 3) lv (v.toList ++ rest) (st2 h b u' s' l') c s Q) : gX fb lb mi pc lv st h c s Q := by
  subst hml
  obtain ⟨n1, n2, n3⟩ := hne
  obtain ⟨m1, m2, m3⟩ := hne2
  obtain ⟨k1, k2, k3⟩ := hne3
  have hJ : cutJ h avs [b, b + 1, a, a + 1, d, d + 1] (bH3 u sg l u1 s1 l1 u2 s2 l2) bvs := ⟨ndp_c (sp_tn (by omega) (sp_tn (by omega) (sp_tn (by omega) (sp_tn (by omega) (sp_tn (by omega) sp_0))))) (ndp_c (sp_tn (by omega) (sp_tn (by omega) (sp_tn (by omega) (sp_tn (by omega) sp_0)))) (ndp_c (sp_tn (by omega) (sp_tn (by omega) (sp_tn (by omega) sp_0))) (ndp_c (sp_tn (by omega) (sp_tn (by omega) sp_0)) (ndp_c (sp_tn (by omega) sp_0) (ndp_c sp_0 rfl))))), _, pick_c hb.1 (pick_c hb.2 (pick_c hb1.1 (pick_c hb1.2 (pick_c hb2.1 (pick_c hb2.2 rfl))))), rcs_c (rc_big (sp_t (by omega) sp_h)) (rcs_c rfl (rcs_c (rc_big (sp_t (by omega) (sp_t (by omega) (sp_t (by omega) sp_h)))) (rcs_c rfl (rcs_c (rc_big (sp_t (by omega) (sp_t (by omega) (sp_t (by omega) (sp_t (by omega) (sp_t (by omega) sp_h)))))) (rcs_c rfl rfl))))), hw _ sp_h (sp_t n1 (sp_t n2 sp_h)) (sp_t m1 (sp_t m2 (sp_t k1 (sp_t k2 sp_h))))⟩
  refine go_vc avs hd hi hst hq ha hb.1 hcn hkd hJ hc hs hf hl hn (fun v h1 c1 s1 e => ?_) (fun k h1 c1 s1 e => ?_)
  · obtain ⟨v', h', e, hK⟩ := e
    cases e
    obtain ⟨u', s', l', rfl, hv, hg⟩ := hk _ _ hK
    refine ⟨[.inl (0, [.ref (b + 1), .int u', .int s']), .inr (.int, .inl l'), .inl (0, [.ref (a + 1), .int u1, .int s1]), .inr (.int, .inl l1), .inl (0, [.ref (d + 1), .int u2, .int s2]), .inr (.int, .inl l2)], _, Nat.le_refl 6, rcs_c (rc_big rfl) (rcs_c rfl (rcs_c (rc_big rfl) (rcs_c rfl (rcs_c (rc_big rfl) (rcs_c rfl rfl))))), hv _, ?_⟩
    rw [mg_c, mg_c, mg_c, mg_c, mg_c, mg_c, mg_n, List.append_nil]
    have e1 : st2 (st2 h b u' s' l') a u1 s1 l1 = st2 h b u' s' l' := st2_same (bgA_ne hb1 n1 n2 n3)
    have e2 : st2 (st2 h b u' s' l') d u2 s2 l2 = st2 h b u' s' l' := st2_same (bgA_ne hb2 m1 m2 m3)
    show gX fb lb mi (pc + 3) lv _ (st2 (st2 (st2 h b u' s' l') a u1 s1 l1) d u2 s2 l2) (c + 0) (s + 0) Q
    rw [e1, e2]
    exact hg
  · obtain ⟨v', h', e, hK⟩ := e
    cases e
/-- the numbers that a fraction reaches; S: its place -/
def BL (S : Nat) : List Nat := [286, 288, 300, 302, S + 3, S + 5, S + 17, S + 19, 36, 38, 40, 59, 61, 63, 113, 117, 121]
def fX (S : Nat) : List Nat := [35, 104, 282, 284, 285, 283, S, S + 1, S + 2]
theorem BLq : ∀ t, t < 8 → ∀ b ∈ BL (481 + 21 * t), (∀ x ∈ BL (481 + 21 * t), x = b ∨ (b ≠ x ∧ b + 1 ≠ x ∧ x + 1 ≠ b)) ∧ (∀ f ∈ fX (481 + 21 * t), b ≠ f ∧ b + 1 ≠ f) := by decide +kernel
def c284 : xC := .inr (.object "RootDesk$Big", .inr (.inr [some 286, some 288, some 290, some 292, some 294, some 296, some 298]))
def cArr (S : Nat) : xC := .inr (.object "RootDesk$Big", .inr (.inr [some (S + 3), some (S + 5), some (S + 7), some (S + 9), some (S + 11), some (S + 13), some (S + 15)]))
def rM (e lo ex he bu : Int32) : xC := .inl (2, [.ref 284, .ref 300, .ref 302, .int e, .int lo, .int ex, .int he, .int bu])
def rS (S : Nat) (e lo ex he bu : Int32) : xC := .inl (2, [.ref (S + 1), .ref (S + 17), .ref (S + 19), .int e, .int lo, .int ex, .int he, .int bu])
def dvC : xC := .inl (3, [.ref 36, .ref 38, .ref 40, .ref 42, .ref 58, .ref 59, .ref 61, .ref 63])
def nrC : xC := .inl (5, [.ref 35, .ref 105, .ref 107, .ref 109, .ref 111, .ref 113, .ref 115, .ref 117, .ref 119, .ref 121, .ref 123])
def FW (N S : Nat) (h : xH) : Prop := (∀ b ∈ BL S, ∃ u s l, bgA h b u s l ∧ Bv N u s l) ∧ h[35]? = some dvC ∧ h[104]? = some nrC ∧ h[282]? = some mkD ∧ h[284]? = some (.inl (1, [.ref 285, .int 1])) ∧ h[285]? = some c284 ∧ h[S + 1]? = some (.inl (1, [.ref (S + 2), .int 1])) ∧ h[S + 2]? = some (cArr S) ∧ (∃ e lo ex he bu, h[283]? = some (rM e lo ex he bu) ∧ (ex = 0 ∨ ex = 1)) ∧ ∃ e lo ex he bu, h[S]? = some (rS S e lo ex he bu)
theorem FW.le {N M S : Nat} {h : xH} (hF : FW N S h) (hM : N ≤ M) : FW M S h := ⟨fun b hb => by
  obtain ⟨u, s, l, h1, h2⟩ := hF.1 b hb
  exact ⟨u, s, l, h1, h2.le hM⟩, hF.2⟩
theorem FW.st {N t b : Nat} {h : xH} {u s : Int32} {l : List Int32} (ht : t < 8) (hF : FW N (481 + 21 * t) h) (m : b ∈ BL (481 + 21 * t)) (hv : Bv N u s l) : FW N (481 + 21 * t) (st2 h b u s l) := by
  obtain ⟨q1, q2⟩ := BLq t ht b m
  obtain ⟨h1, h2, h3, h4, h5, h6, h7, h8, ⟨e, lo, ex, he, bu, h9, hex⟩, e', lo', ex', he', bu', h10⟩ := hF
  have g : ∀ f ∈ fX (481 + 21 * t), ∀ c, h[f]? = some c → (st2 h b u s l)[f]? = some c := fun f hf c hc => by
    obtain ⟨a1, a2⟩ := q2 f hf
    unfold st2
    rw [List.getElem?_set_ne a2, List.getElem?_set_ne a1]
    exact hc
  refine ⟨fun x hx => ?_, g _ (by simp [fX]) _ h2, g _ (by simp [fX]) _ h3, g _ (by simp [fX]) _ h4, g _ (by simp [fX]) _ h5, g _ (by simp [fX]) _ h6, g _ (by simp [fX]) _ h7, g _ (by simp [fX]) _ h8, ⟨_, _, _, _, _, g _ (by simp [fX]) _ h9, hex⟩, _, _, _, _, _, g _ (by simp [fX]) _ h10⟩
  obtain ⟨u1, s1, l1, k1, k2⟩ := h1 x hx
  rcases q1 x hx with rfl | ⟨a1, a2, a3⟩
  · exact ⟨u, s, l, bgA_st k1, hv⟩
  · exact ⟨u1, s1, l1, bgA_ne k1 a1 a2 a3, k2⟩
theorem bgA_one {h : xH} {a i : Nat} {u s : Int32} {l : List Int32} {c : xC} (ha : bgA h a u s l) (h1 : a ≠ i) (h2 : a + 1 ≠ i) : bgA (h.set i c) a u s l := ⟨by rw [List.getElem?_set_ne (Ne.symm h1)]; exact ha.1, by rw [List.getElem?_set_ne (Ne.symm h2)]; exact ha.2⟩
theorem FW.rm {N t : Nat} {h : xH} (ht : t < 8) (hF : FW N (481 + 21 * t) h) (e lo ex he bu : Int32) (hex : ex = 0 ∨ ex = 1) : FW N (481 + 21 * t) (h.set 283 (rM e lo ex he bu)) := by
  obtain ⟨h1, h2, h3, h4, h5, h6, h7, h8, ⟨e1, lo1, ex1, he1, bu1, h9, hex1⟩, e', lo', ex', he', bu', h10⟩ := hF
  have g : ∀ (f : Nat) (c : xC), f ≠ 283 → h[f]? = some c → (h.set 283 (rM e lo ex he bu))[f]? = some c := fun f c hf hc => by rw [List.getElem?_set_ne (Ne.symm hf)]; exact hc
  refine ⟨fun x hx => ?_, g _ _ (by decide) h2, g _ _ (by decide) h3, g _ _ (by decide) h4, g _ _ (by decide) h5, g _ _ (by decide) h6, g _ _ (by omega) h7, g _ _ (by omega) h8, ⟨e, lo, ex, he, bu, List.getElem?_set_self (List.getElem?_eq_some_iff.mp h9).1, hex⟩, _, _, _, _, _, g _ _ (by omega) h10⟩
  obtain ⟨u1, s1, l1, k1, k2⟩ := h1 x hx
  obtain ⟨a1, a2⟩ := (BLq t ht x hx).2 283 (by simp [fX])
  exact ⟨u1, s1, l1, bgA_one k1 a1 a2, k2⟩
theorem FW.rs {N t : Nat} {h : xH} (ht : t < 8) (hF : FW N (481 + 21 * t) h) (e lo ex he bu : Int32) : FW N (481 + 21 * t) (h.set (481 + 21 * t) (rS (481 + 21 * t) e lo ex he bu)) := by
  obtain ⟨h1, h2, h3, h4, h5, h6, h7, h8, ⟨e1, lo1, ex1, he1, bu1, h9, hex1⟩, e', lo', ex', he', bu', h10⟩ := hF
  have g : ∀ (f : Nat) (c : xC), f ≠ 481 + 21 * t → h[f]? = some c → (h.set (481 + 21 * t) (rS (481 + 21 * t) e lo ex he bu))[f]? = some c := fun f c hf hc => by rw [List.getElem?_set_ne (Ne.symm hf)]; exact hc
  refine ⟨fun x hx => ?_, g _ _ (by omega) h2, g _ _ (by omega) h3, g _ _ (by omega) h4, g _ _ (by omega) h5, g _ _ (by omega) h6, g _ _ (by omega) h7, g _ _ (by omega) h8, ⟨_, _, _, _, _, g _ _ (by omega) h9, hex1⟩, e, lo, ex, he, bu, List.getElem?_set_self (List.getElem?_eq_some_iff.mp h10).1⟩
  obtain ⟨u1, s1, l1, k1, k2⟩ := h1 x hx
  obtain ⟨a1, a2⟩ := (BLq t ht x hx).2 (481 + 21 * t) (by simp [fX])
  exact ⟨u1, s1, l1, bgA_one k1 a1 a2, k2⟩
theorem FW.ne {t a b : Nat} (ht : t < 8) (ma : a ∈ BL (481 + 21 * t)) (mb : b ∈ BL (481 + 21 * t)) (h : b ≠ a) : b ≠ a ∧ b + 1 ≠ a ∧ a + 1 ≠ b := ((BLq t ht b mb).1 a ma).resolve_left (fun e => h e.symm)
section CALLS
variable {mi pc idx fb lb c s a b t N : Nat} {lv : xL} {rest : List Value} {h : xH} {Q : yR → Prop}
set_option maxHeartbeats 4000000 in
/-- assign -/
theorem fA (ht : t < 8) (hF : FW N (481 + 21 * t) h) (mb : b ∈ BL (481 + 21 * t)) (ma : a ∈ BL (481 + 21 * t)) (hne : b ≠ a) (hd : xdec xX mi pc = some (.invokevirtual idx)) (hi : xinv xX mi idx = some (some 19, 1)) (hs : x_sum rest ≤ 8) (hf : 1 ≤ fb) (hl : 22 ≤ lb)
    (hk : ∀ h', FW N (481 + 21 * t) h' → (∃ u1 s1 l1 l', bgA h a u1 s1 l1 ∧ Bv N u1 s1 l1 ∧ Bv N u1 s1 l' ∧ h' = st2 h b u1 s1 l') → gX fb lb mi (pc + 3) lv rest h' c s Q) : gX fb lb mi pc lv (.ref a :: .ref b :: rest) h c s Q := by
  obtain ⟨u, sg, l, hb, hvb⟩ := hF.1 b mb
  obtain ⟨u1, s1, l1, hb1, hva⟩ := hF.1 a ma
  refine vb2 (mj := 19) (q := 1) (n := 3) (bvs := [.ref 0, .ref 2]) [.ref b, .ref a] hd hi rfl (Nat.le_add_left 1 _) rfl hb hb1 (FW.ne ht ma mb hne) rfl rfl (fun f h0 h2 => rvs_j (rv_r h0) (rvs_j (rv_r h2) rfl)) (bg_assign hvb.1 hva) hs (by omega) rfl (by omega) (Nat.le_of_ble_eq_true rfl) (fun v h1 e => ?_)
  obtain ⟨rfl, l', rfl, hB⟩ := e
  exact ⟨_, _, _, rfl, fun _ => rfl, hk _ (FW.st ht hF mb hB) ⟨_, _, _, _, hb1, hva, hB, rfl⟩⟩
set_option maxHeartbeats 4000000 in
/-- clear -/
theorem fC (ht : t < 8) (hF : FW N (481 + 21 * t) h) (mb : b ∈ BL (481 + 21 * t)) (hd : xdec xX mi pc = some (.invokevirtual idx)) (hi : xinv xX mi idx = some (some 22, 0)) (hs : x_sum rest ≤ 8) (hf : 1 ≤ fb) (hl : 20 ≤ lb)
    (hk : ∀ h', FW N (481 + 21 * t) h' → (∃ l', h' = st2 h b 0 0 l') → gX fb lb mi (pc + 3) lv rest h' c s Q) : gX fb lb mi pc lv (.ref b :: rest) h c s Q := by
  obtain ⟨u, sg, l, hb, hvb⟩ := hF.1 b mb
  refine vb1 (mj := 22) (q := 0) (n := 1) (w := []) hd hi rfl (Nat.zero_le _) rfl hb rfl rfl (fun _ => rfl) bg_clear hs (by omega) rfl (by omega) (Nat.le_of_ble_eq_true rfl) (fun v h1 e => ?_)
  obtain ⟨rfl, rfl⟩ := e
  exact ⟨_, _, _, rfl, fun _ => rfl, hk _ (FW.st ht hF mb hvb.zero) ⟨_, rfl⟩⟩
set_option maxHeartbeats 4000000 in
/-- flip -/
theorem fF (ht : t < 8) (hF : FW N (481 + 21 * t) h) (mb : b ∈ BL (481 + 21 * t)) (hd : xdec xX mi pc = some (.invokevirtual idx)) (hi : xinv xX mi idx = some (some 38, 0)) (hs : x_sum rest ≤ 8) (hf : 1 ≤ fb) (hl : 20 ≤ lb)
    (hk : ∀ h', FW N (481 + 21 * t) h' → (∃ u' s' l', h' = st2 h b u' s' l') → gX fb lb mi (pc + 3) lv rest h' c s Q) : gX fb lb mi pc lv (.ref b :: rest) h c s Q := by
  obtain ⟨u, sg, l, hb, hvb⟩ := hF.1 b mb
  refine vb1 (mj := 38) (q := 0) (n := 1) (w := []) hd hi rfl (Nat.zero_le _) rfl hb rfl rfl (fun _ => rfl) bg_flip hs (by omega) rfl (by omega) (Nat.le_of_ble_eq_true rfl) (fun v h1 e => ?_)
  obtain ⟨rfl, rfl⟩ := e
  exact ⟨_, _, _, rfl, fun _ => rfl, hk _ (FW.st ht hF mb hvb.neg) ⟨_, _, _, rfl⟩⟩
set_option maxHeartbeats 4000000 in
/-- isOne -/
theorem fO (hF : FW N (481 + 21 * t) h) (mb : b ∈ BL (481 + 21 * t)) (hd : xdec xX mi pc = some (.invokevirtual idx)) (hi : xinv xX mi idx = some (some 23, 0)) (hs : x_sum rest ≤ 8) (hf : 1 ≤ fb) (hl : 20 ≤ lb)
    (hk : ∀ v, (v = nI 0 ∨ v = nI 1) → gX fb lb mi (pc + 3) lv (.int v :: rest) h c s Q) : gX fb lb mi pc lv (.ref b :: rest) h c s Q := by
  obtain ⟨u, sg, l, hb, hvb⟩ := hF.1 b mb
  refine vb1 (mj := 23) (q := 0) (n := 1) (w := []) hd hi rfl (Nat.zero_le _) rfl hb rfl rfl (fun _ => rfl) (bg_isOne hvb.1) hs (by omega) rfl (by omega) (Nat.le_of_ble_eq_true rfl) (fun v h1 e => ?_)
  obtain ⟨rfl, x, rfl, hx⟩ := e
  exact ⟨_, _, _, rfl, fun _ => rfl, by rw [st2_same hb]; exact hk x hx⟩
set_option maxHeartbeats 4000000 in
/-- smallSize -/
theorem fS (hN : N < 2 ^ 30) (hF : FW N (481 + 21 * t) h) (mb : b ∈ BL (481 + 21 * t)) (hd : xdec xX mi pc = some (.invokevirtual idx)) (hi : xinv xX mi idx = some (some 33, 0)) (hs : x_sum rest ≤ 8) (hf : 1 ≤ fb) (hl : 22 ≤ lb)
    (hk : ∀ n, n ≤ N → gX fb lb mi (pc + 3) lv (.long (lN n) :: rest) h c s Q) : gX fb lb mi pc lv (.ref b :: rest) h c s Q := by
  obtain ⟨u, sg, l, hb, hvb⟩ := hF.1 b mb
  refine vb1 (mj := 33) (q := 0) (n := 3) (w := []) hd hi rfl (Nat.zero_le _) rfl hb rfl rfl (fun _ => rfl) (bg_small hN hvb) hs (by omega) rfl (by omega) (Nat.le_of_ble_eq_true rfl) (fun v h1 e => ?_)
  obtain ⟨rfl, n, hn, rfl⟩ := e
  exact ⟨_, _, _, rfl, fun _ => rfl, by rw [st2_same hb]; exact hk n hn⟩
set_option maxHeartbeats 4000000 in
/-- assignLong -/
theorem fLg {n : Nat} {v : Int64} (ht : t < 8) (hN : N < 2 ^ 30) (hF : FW N (481 + 21 * t) h) (mb : b ∈ BL (481 + 21 * t)) (hn : n ≤ N) (hv : v = lN n ∨ v = -lN n) (hd : xdec xX mi pc = some (.invokevirtual idx)) (hi : xinv xX mi idx = some (some 4, 1)) (hs : x_sum rest ≤ 8) (hf : 1 ≤ fb) (hl : 25 ≤ lb)
    (hk : ∀ h', FW N (481 + 21 * t) h' → (∃ u' s' l', Bv N u' s' l' ∧ h' = st2 h b u' s' l') → gX fb lb mi (pc + 3) lv rest h' c s Q) : gX fb lb mi pc lv (.long v :: .ref b :: rest) h c s Q := by
  obtain ⟨u, sg, l, hb, hvb⟩ := hF.1 b mb
  refine vb1 (mj := 4) (q := 1) (n := 6) (w := [.long v]) hd hi rfl (Nat.le_add_left 1 _) rfl hb rfl rfl (fun _ => rfl) (bg_aL hn hN hvb.1 hv) hs (by omega) rfl (by omega) (Nat.le_of_ble_eq_true rfl) (fun v h1 e => ?_)
  obtain ⟨rfl, u', s', l', rfl, hB⟩ := e
  exact ⟨_, _, _, rfl, fun _ => rfl, hk _ (FW.st ht hF mb hB) ⟨_, _, _, hB, rfl⟩⟩
set_option maxHeartbeats 4000000 in
/-- lowZeros -/
theorem fZ (hN : N < 2 ^ 30) (hF : FW N (481 + 21 * t) h) (mb : b ∈ BL (481 + 21 * t)) (hd : xdec xX mi pc = some (.invokevirtual idx)) (hi : xinv xX mi idx = some (some 70, 0)) (hs : x_sum rest ≤ 8) (hf : 1 ≤ fb) (hl : 22 ≤ lb)
    (hk : ∀ k, k ≤ 30 → gX fb lb mi (pc + 3) lv (.int (nI k) :: rest) h c s Q) : gX fb lb mi pc lv (.ref b :: rest) h c s Q := by
  obtain ⟨u, sg, l, hb, hvb⟩ := hF.1 b mb
  refine vb1 (mj := 70) (q := 0) (n := 3) (w := []) hd hi rfl (Nat.zero_le _) rfl hb rfl rfl (fun _ => rfl) (bg_low hN hvb) hs (by omega) rfl (by omega) (Nat.le_of_ble_eq_true rfl) (fun v h1 e => ?_)
  obtain ⟨rfl, k, hk1, rfl⟩ := e
  exact ⟨_, _, _, rfl, fun _ => rfl, by rw [st2_same hb]; exact hk k hk1⟩
set_option maxHeartbeats 4000000 in
/-- shiftDown(0) -/
theorem fD (hF : FW N (481 + 21 * t) h) (mb : b ∈ BL (481 + 21 * t)) (hd : xdec xX mi pc = some (.invokevirtual idx)) (hi : xinv xX mi idx = some (some 71, 1)) (hs : x_sum rest ≤ 8) (hf : 1 ≤ fb) (hl : 27 ≤ lb)
    (hk : gX fb lb mi (pc + 3) lv rest h c s Q) : gX fb lb mi pc lv (.int (nI 0) :: .ref b :: rest) h c s Q := by
  obtain ⟨u, sg, l, hb, hvb⟩ := hF.1 b mb
  refine vb1 (mj := 71) (q := 1) (n := 8) (w := [.int (nI 0)]) hd hi rfl (Nat.le_add_left 1 _) rfl hb rfl rfl (fun _ => rfl) bg_down hs (by omega) rfl (by omega) (Nat.le_of_ble_eq_true rfl) (fun v h1 e => ?_)
  obtain ⟨rfl, rfl⟩ := e
  exact ⟨_, _, _, rfl, fun _ => rfl, by rw [st2_same hb]; exact hk⟩
set_option maxHeartbeats 4000000 in
/-- assignPower(0) -/
theorem fP (ht : t < 8) (h1 : 1 ≤ N) (hN : N < 2 ^ 30) (hF : FW N (481 + 21 * t) h) (mb : b ∈ BL (481 + 21 * t)) (hd : xdec xX mi pc = some (.invokevirtual idx)) (hi : xinv xX mi idx = some (some 73, 1)) (hs : x_sum rest ≤ 8) (hf : 2 ≤ fb) (hl : 51 ≤ lb)
    (hk : ∀ h', FW N (481 + 21 * t) h' → (∃ u' s' l', h' = st2 h b u' s' l') → gX fb lb mi (pc + 3) lv rest h' c s Q) : gX fb lb mi pc lv (.int (nI 0) :: .ref b :: rest) h c s Q := by
  obtain ⟨u, sg, l, hb, hvb⟩ := hF.1 b mb
  refine vb1 (mj := 73) (q := 1) (n := 2) (w := [.int (nI 0)]) hd hi rfl (Nat.le_add_left 1 _) rfl hb rfl rfl (fun _ => rfl) (bg_power h1 hN hvb.1) hs (by omega) rfl (by omega) (Nat.le_of_ble_eq_true rfl) (fun v h1 e => ?_)
  obtain ⟨rfl, u', s', l', rfl, hB⟩ := e
  exact ⟨_, _, _, rfl, fun _ => rfl, hk _ (FW.st ht hF mb hB) ⟨_, _, _, rfl⟩⟩
end CALLS
theorem FW.k {t b f : Nat} {h : xH} {u s : Int32} {l : List Int32} {c : xC} (ht : t < 8) (m : b ∈ BL (481 + 21 * t)) (hf : f ∈ fX (481 + 21 * t)) (hc : h[f]? = some c) : (st2 h b u s l)[f]? = some c := by
  obtain ⟨a1, a2⟩ := (BLq t ht b m).2 f hf
  unfold st2
  rw [List.getElem?_set_ne a2, List.getElem?_set_ne a1]
  exact hc
theorem bgA_set {h : xH} {b : Nat} {u s u' s' : Int32} {l : List Int32} (hb : bgA h b u s l) : bgA (h.set b (.inl (0, [.ref (b + 1), .int u', .int s']))) b u' s' l := ⟨List.getElem?_set_self (List.getElem?_eq_some_iff.mp hb.1).1, by rw [List.getElem?_set_ne (by omega)]; exact hb.2⟩
theorem FW.set1 {N t b : Nat} {h : xH} {u s u' s' : Int32} {l : List Int32} (ht : t < 8) (hF : FW N (481 + 21 * t) h) (mb : b ∈ BL (481 + 21 * t)) (hb : bgA h b u s l) (hv : Bv N u' s' l) : FW N (481 + 21 * t) (h.set b (.inl (0, [.ref (b + 1), .int u', .int s']))) := by
  rw [set_st2 hb]
  exact FW.st ht hF mb hv
theorem sg_mul {a b : Int32} (ha : a = 1 ∨ a = -1) (hb : b = 1 ∨ b = -1) : a * b = 1 ∨ a * b = -1 := by
  rcases ha with rfl | rfl <;> rcases hb with rfl | rfl <;> decide
theorem Bv.mul {N : Nat} {u s a : Int32} {l : List Int32} (h : Bv N u s l) (ha : a = 1 ∨ a = -1) : Bv N u (s * a) l := by
  obtain ⟨h1, h2⟩ := h
  refine ⟨h1, ?_⟩
  rcases h2 with ⟨rfl, rfl⟩ | ⟨n, q1, q2, q3, q4, q5⟩
  · exact Or.inl ⟨rfl, Int32.zero_mul⟩
  · exact Or.inr ⟨n, q1, q2, q3, sg_mul q4 ha, q5⟩
theorem Bv.abs {N : Nat} {u s : Int32} {l : List Int32} (h : Bv N u s l) : Bv N u (if 0 ≤ s then s else 0 - s) l := by
  obtain ⟨h1, h2⟩ := h
  refine ⟨h1, ?_⟩
  rcases h2 with ⟨rfl, rfl⟩ | ⟨n, q1, q2, q3, q4, q5⟩
  · exact Or.inl ⟨rfl, by decide⟩
  · refine Or.inr ⟨n, q1, q2, q3, ?_, q5⟩
    rcases q4 with rfl | rfl <;> decide
theorem Bt.of {N : Nat} {u s s' : Int32} {l : List Int32} (h : Bv N u s l) (hs : s' = 1 ∨ s' = -1) : Bt N u s' l := by
  obtain ⟨h1, h2⟩ := h
  refine ⟨h1, ?_⟩
  rcases h2 with ⟨rfl, -⟩ | ⟨n, q1, q2, q3, q4, q5⟩
  · exact Or.inl rfl
  · exact Or.inr ⟨n, q1, q2, q3, hs, q5⟩
