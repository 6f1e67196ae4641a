/-! the reference's cells: what its calls do to them -/
abbrev gX : Nat → Nat → Nat → Nat → xL → List Value → xH → Nat → Nat → (yR → Prop) → Prop := Go xX xB.1 xB.2.1 TH0
abbrev cX : Nat → Nat → Nat → List Value → xH → (yR → Prop) → Prop := Ct xX xB.1 xB.2.1 TH0
/-- a contract of a method that returns and makes no cells -/
def cR (mj F B : Nat) (avs : List Value) (h : xH) (K : Option Value → xH → Prop) : Prop := cX mj F B avs h (fun r => ∃ v h1, r = (.inl v, h1, 0, 0) ∧ K v h1)
theorem cR.weak {mj F B : Nat} {avs : List Value} {h : xH} {K K' : Option Value → xH → Prop} (hc : cR mj F B avs h K) (hk : ∀ v h1, K v h1 → K' v h1) : cR mj F B avs h K' := Ct.weak hc (fun r hr => by obtain ⟨v, h1, e, hK⟩ := hr; exact ⟨v, h1, e, hk v h1 hK⟩)
theorem cR.wide {mj F B F' B' : Nat} {avs : List Value} {h : xH} {K : Option Value → xH → Prop} (hc : cR mj F B avs h K) (hF : F ≤ F') (hB : B ≤ B') : cR mj F' B' avs h K := fun fb lb h1 h2 => hc fb lb (Nat.le_trans hF h1) (Nat.le_trans hB h2)
theorem vB {mi pc idx mj q n F B fb lb c s b ci : Nat} {lv : xL} {st rest vs : List Value} {h : xH} {Q : yR → Prop} {K : Option Value → xH → Prop} (avs : List Value) (hd : xdec xX mi pc = some (.invokevirtual idx)) (hi : xinv xX mi idx = some (some mj, q)) (hst : st.drop q = .ref b :: rest) (hq : q ≤ st.length) (ha : avs = .ref b :: (st.take q).reverse) (hb : h[b]? = some (.inl (ci, vs))) (hcn : xcn xX ci = (xB.1 mj).cls) (hkd : xB.2.1 mj = 0) (hc : cR mj F B avs h K) (hs : x_sum rest ≤ 8) (hf : F + 1 ≤ fb) (hml : xml xX mj = n) (hl : B + (19 + n) ≤ lb) (hn : (lg_sl avs).length ≤ n)
    (hk : ∀ v h1, K v h1 → gX fb lb mi (pc + 3) lv (v.toList ++ rest) h1 c s Q) : gX fb lb mi pc lv st h c s Q := by
  subst hml
  refine go_v avs hd hi hst hq ha hb hcn hkd hc hs hf hl hn (fun v h1 c1 s1 e => ?_) (fun k h1 c1 s1 e => ?_)
  · obtain ⟨v', h', e, hK⟩ := e
    cases e
    exact hk _ _ hK
  · obtain ⟨v', h', e, hK⟩ := e
    cases e
theorem vM {mi pc idx mj q n F B fb lb c s : Nat} {lv : xL} {st rest vs : List Value} {h : xH} {Q : yR → Prop} {K : Option Value → xH → Prop} (avs : List Value) (hd : xdec xX mi pc = some (.invokevirtual idx)) (hi : xinv xX mi idx = some (some mj, q)) (hst : st.drop q = .ref 0 :: rest) (hq : q ≤ st.length) (ha : avs = .ref 0 :: (st.take q).reverse) (hb : h[0]? = some (.inl (12, vs))) (hcn : xcn xX 12 = (xB.1 mj).cls) (hkd : xB.2.1 mj = 0) (hc : cR mj F B avs h K) (hs : x_sum rest ≤ 8) (hf : F + 1 ≤ fb) (hml : xml xX mj = n) (hl : B + (19 + n) ≤ lb) (hn : (lg_sl avs).length ≤ n)
    (hk : ∀ v h1, K v h1 → gX fb lb mi (pc + 3) lv (v.toList ++ rest) h1 c s Q) : gX fb lb mi pc lv st h c s Q := vB avs hd hi hst hq ha hb hcn hkd hc hs hf hml hl hn hk
theorem vS {mi pc idx mj q n F B fb lb c s : Nat} {lv : xL} {st : List Value} {h : xH} {Q : yR → Prop} {K : Option Value → xH → Prop} (avs : List Value) (hd : xdec xX mi pc = some (.invokestatic idx)) (hi : xinv xX mi idx = some (some mj, q)) (hq : q ≤ st.length) (ha : avs = (st.take q).reverse) (hkd : xB.2.1 mj = 1) (hc : cR mj F B avs h K) (hs : x_sum (st.drop q) ≤ 8) (hf : F + 1 ≤ fb) (hml : xml xX mj = n) (hl : B + (19 + n) ≤ lb) (hn : (lg_sl avs).length ≤ n)
    (hk : ∀ v h1, K v h1 → gX fb lb mi (pc + 3) lv (v.toList ++ st.drop q) h1 c s Q) : gX fb lb mi pc lv st h c s Q := by
  subst hml
  refine go_s avs hd hi hq ha hkd hc hs hf hl hn (fun v h1 c1 s1 e => ?_) (fun k h1 c1 s1 e => ?_)
  · obtain ⟨v', h', e, hK⟩ := e
    cases e
    exact hk _ _ hK
  · obtain ⟨v', h', e, hK⟩ := e
    cases e
def mO (fa fr kn dg rc pr : Int32) : xC := .inl (12, [.int fa, .ref 1, .ref 2, .ref 3, .int fr, .ref 4, .ref 5, .ref 6, .ref 7, .int kn, .int dg, .ref 8, .int rc, .ref 9, .ref 10, .int 0, .ref 11, .int 0, .int 0, .int pr, .ref 12])
def mH (fa fr kn dg rc pr : Int32) (co we si ex : List Int32) (le : List Int64) (tx : List Int32) (L : List Int64) (S : List Int32) (C : List Int64) : xH := [mO fa fr kn dg rc pr, .inr (.long, .inr (.inl L)), .inr (.int, .inl S), .inr (.long, .inr (.inl C)), .inr (.int, .inl co), .inr (.int, .inl we), .inr (.int, .inl si), .inr (.int, .inl ex), .inr (.long, .inr (.inl le)), .inr (.int, .inl [0, 0, 0, 0, 0, 0]), .inr (.boolean, .inl [0, 0, 0, 0, 0, 0]), .inr (.int, .inl [0, 0, 0, 0, 0, 0]), .inr (.char, .inl tx)]
theorem n_inc (k : Nat) : nI k + Int32.ofInt 1 = nI (k + 1) := nI_1 k
theorem n_dec (k : Nat) : nI (k + 1) + Int32.ofInt (-1) = nI k := pk_m1 k
theorem k100 (r k : Nat) : nI 100 * nI r + nI k = nI (100 * r + k) := by rw [pk_mul, nI_add]
theorem gd_s {α : Type} {l : List α} {i : Nat} {v d : α} (h : i < l.length) : (l.set i v).getD i d = v := by simp [List.getD, h]
theorem gd_n {α : Type} {l : List α} {i j : Nat} {v d : α} (h : i ≠ j) : (l.set i v).getD j d = l.getD j d := by simp [List.getD, List.getElem?_set_ne h]
/-- the limbs of register r are all 0 -/
def Zr (r : Nat) (L : List Int64) : Prop := ∀ i, i < 100 → L.getD (100 * r + i) 0 = 0
/-- outside register r nothing has changed -/
def Fr (r : Nat) (L L' : List Int64) : Prop := ∀ j, j < 100 * r ∨ 100 * r + 100 ≤ j → L'.getD j 0 = L.getD j 0
theorem Fr.rf {r : Nat} {L : List Int64} : Fr r L L := fun _ _ => rfl
theorem Fr.tr {r : Nat} {L L' L'' : List Int64} (h : Fr r L L') (h2 : Fr r L' L'') : Fr r L L'' := fun j hj => (h2 j hj).trans (h j hj)
theorem Fr.at {r a : Nat} {L L' : List Int64} (h : Fr r L L') (ha : a ≠ r) {i : Nat} (hi : i < 100) : L'.getD (100 * a + i) 0 = L.getD (100 * a + i) 0 := h _ (by omega)
theorem Fr.set {r k : Nat} {L L' : List Int64} {v : Int64} (h : Fr r L L') (hk : k < 100) : Fr r L (L'.set (100 * r + k) v) := fun j hj => by rw [gd_n (by omega)]; exact h j hj
section MDL
variable {fa fr kn dg rc pr : Int32} {co we si ex : List Int32} {le : List Int64} {tx : List Int32} {L C : List Int64} {S : List Int32}
set_option maxRecDepth 100000 in
set_option maxHeartbeats 4000000 in
theorem zero_loop {fb lb c s r : Nat} (hr : r < 60) (hS : S.length = 60) (L0 : List Int64) {Q : yR → Prop} (hq : ∀ L', L'.length = 6000 → Zr r L' → Fr r L0 L' → Q (.inl none, mH fa fr kn dg rc pr co we si ex le tx L' (S.set r (nI 0)) C, c, s)) :
    ∀ (d k : Nat) (L : List Int64), k + d = 100 → L.length = 6000 → (∀ i, i < k → L.getD (100 * r + i) 0 = 0) → Fr r L0 L → gX fb lb 164 2 [(2, .int (nI k)), (0, .ref 0), (1, .int (nI r))] [] (mH fa fr kn dg rc pr co we si ex le tx L S C) c s Q := by
  intro d
  induction d with
  | zero =>
    intro k L hk hL hz hf
    have hk : k = 100 := by omega
    subst hk
    refine blk_go ob_164 (fun pc => Nat.beq pc 2) 30 ?_
    (conv => whnf); refine br_t (show nI 100 ≤ nI 100 by decide) ?_
    (conv => whnf); refine ⟨r, rfl, by omega, by omega, ?_⟩
    exact go_vret ((ob_164.1 33).trans rfl) rfl (hq L hL hz hf)
  | succ d ih =>
    intro k L hk hL hz hf
    refine blk_go ob_164 (fun pc => Nat.beq pc 2) 30 ?_
    (conv => whnf); refine br_f (nI_ge (a := k) (b := 100) (by omega) (by omega)) ?_
    (conv => whnf); refine ⟨100 * r + k, k100 r k, by omega, by omega, ?_⟩
    show gX fb lb 164 2 [(2, .int (nI k + Int32.ofInt 1)), (0, .ref 0), (1, .int (nI r))] [] (mH fa fr kn dg rc pr co we si ex le tx (L.set (100 * r + k) (lN 0)) S C) c s Q
    rw [n_inc]
    refine ih (k + 1) _ (by omega) (by rw [List.length_set]; exact hL) (fun i hi => ?_) (hf.set (by omega))
    by_cases e : i = k
    · subst e; rw [gd_s (by rw [hL]; omega)]; rfl
    · rw [gd_n (by omega)]; exact hz i (by omega)
theorem c_zero {r : Nat} (hr : r < 60) (hL : L.length = 6000) (hS : S.length = 60) : cR 164 0 0 [.ref 0, .int (nI r)] (mH fa fr kn dg rc pr co we si ex le tx L S C) (fun v h => v = none ∧ ∃ L', h = mH fa fr kn dg rc pr co we si ex le tx L' (S.set r (nI 0)) C ∧ L'.length = 6000 ∧ Zr r L' ∧ Fr r L L') := by
  intro fb lb _ _
  refine blk_go ob_164 (fun pc => Nat.beq pc 2) 30 ?_
  exact zero_loop hr hS L (fun L' h1 h2 h3 => ⟨none, _, rfl, rfl, L', rfl, h1, h2, h3⟩) 100 0 L (by omega) hL (fun i hi => absurd hi (by omega)) Fr.rf
end MDL
