/-! a block is a run -/
theorem b_i1_v {st : List Value} {f : Int32 → List Value → Prop} (h : b_i1 st f) : ∃ x r, st = .int x :: r ∧ f x r := by
  unfold b_i1 at h
  split at h
  · exact ⟨_, _, rfl, h⟩
  · exact h.elim
theorem b_i2_v {st : List Value} {f : Int32 → Int32 → List Value → Prop} (h : b_i2 st f) : ∃ x y r, st = .int y :: .int x :: r ∧ f x y r := by
  unfold b_i2 at h
  split at h
  · exact ⟨_, _, _, rfl, h⟩
  · exact h.elim
theorem b_l2_v {st : List Value} {f : Int64 → Int64 → List Value → Prop} (h : b_l2 st f) : ∃ x y r, st = .long y :: .long x :: r ∧ f x y r := by
  unfold b_l2 at h
  split at h
  · exact ⟨_, _, _, rfl, h⟩
  · exact h.elim
theorem b_r1_v {st : List Value} {f : Nat → List Value → Prop} (h : b_r1 st f) : ∃ x r, st = .ref x :: r ∧ f x r := by
  unfold b_r1 at h
  split at h
  · exact ⟨_, _, rfl, h⟩
  · exact h.elim
theorem b_r2_v {st : List Value} {f : Nat → Nat → List Value → Prop} (h : b_r2 st f) : ∃ x y r, st = .ref y :: .ref x :: r ∧ f x y r := by
  unfold b_r2 at h
  split at h
  · exact ⟨_, _, _, rfl, h⟩
  · exact h.elim
theorem b_vr_v {st : List Value} {f : Nat → Value → List Value → Prop} (h : b_vr st f) : ∃ x v r, st = v :: .ref x :: r ∧ f x v r := by
  unfold b_vr at h
  split at h
  · exact ⟨_, _, _, rfl, h⟩
  · exact h.elim
theorem b_ri_v {st : List Value} {f : Nat → Int32 → List Value → Prop} (h : b_ri st f) : ∃ x y r, st = .int y :: .ref x :: r ∧ f x y r := by
  unfold b_ri at h
  split at h
  · exact ⟨_, _, _, rfl, h⟩
  · exact h.elim
theorem b_rii_v {st : List Value} {f : Nat → Int32 → Int32 → List Value → Prop} (h : b_rii st f) : ∃ x y z r, st = .int z :: .int y :: .ref x :: r ∧ f x y z r := by
  unfold b_rii at h
  split at h
  · exact ⟨_, _, _, _, rfl, h⟩
  · exact h.elim
theorem b_ril_v {st : List Value} {f : Nat → Int32 → Int64 → List Value → Prop} (h : b_ril st f) : ∃ x y z r, st = .long z :: .int y :: .ref x :: r ∧ f x y z r := by
  unfold b_ril at h
  split at h
  · exact ⟨_, _, _, _, rfl, h⟩
  · exact h.elim
theorem b_tg_v {pc : Nat} {off : Int} {f : Nat → Prop} (h : b_tg pc off f) : ∃ t, x_tg pc off = some t ∧ f t := by
  unfold b_tg at h
  split at h
  · next t e => exact ⟨t, e, h⟩
  · exact h.elim
theorem b_gf_v {P : bP} {idx : Nat} {f : Nat → Nat → FieldType → Bool → Prop} (h : b_gf P idx f) : ∃ ci k ty p, P.2.1 idx = some (ci, k, ty, p) ∧ f ci k ty p := by
  unfold b_gf at h
  split at h
  · next ci k ty p e => exact ⟨ci, k, ty, p, e, h⟩
  · exact h.elim
theorem b_df_v {o : Option xS} {f : Nat → xL → List Value → Prop} (h : b_df o f) : ∃ pc lv st, o = some (pc, lv, st) ∧ f pc lv st := by
  unfold b_df at h
  split at h
  · exact ⟨_, _, _, rfl, h⟩
  · exact h.elim
set_option maxHeartbeats 4000000 in
theorem blk_go {X : xProg} {Y : Nat → MethodName} {kd : Nat → Nat} {TH : xTh} {fb lb mi c s : Nat} {Q : yR → Prop} {P : bP} (hP : okB X mi P) (stop : Nat → Bool) (n : Nat) : ∀ {pc : Nat} {lv : xL} {st : List Value} {h : xH}, blk P stop (fun pc lv st h => Go X Y kd TH fb lb mi pc lv st h c s Q) n pc lv st h → Go X Y kd TH fb lb mi pc lv st h c s Q := by
  induction n with
  | zero => intro pc lv st h hb; exact hb
  | succ n ih =>
    intro pc lv st h hb
    rw [blk_s] at hb
    cases hpi : P.1 pc with
    | none => rw [hpi] at hb; exact hb.elim
    | some i =>
      rw [hpi] at hb
      have hd : xdec X mi pc = some i := (hP.1 pc).trans hpi
      have nxt : ∀ {pc : Nat} {lv : xL} {st : List Value} {h : xH}, (bif stop pc then Go X Y kd TH fb lb mi pc lv st h c s Q else blk P stop (fun pc lv st h => Go X Y kd TH fb lb mi pc lv st h c s Q) n pc lv st h) → Go X Y kd TH fb lb mi pc lv st h c s Q := by
        intro pc lv st h hh
        cases hs : stop pc
        · rw [hs] at hh; exact ih hh
        · rw [hs] at hh; exact hh
      have step : ∀ {pc' : Nat} {lv' : xL} {st' : List Value} {h' : xH}, x_hs X mi i pc lv st h = some ((pc', lv', st'), h', 0, 0) → Go X Y kd TH fb lb mi pc' lv' st' h' c s Q → Go X Y kd TH fb lb mi pc lv st h c s Q := fun h1 h2 => go_hs hd h1 h2
      have dflt : x_hs X mi i pc lv st h = (x_op (xml X mi) i pc lv st).map (fun o => (o, h, 0, 0)) → b_df (x_op P.2.2.2.2 i pc lv st) (fun pc lv st => frl lv (fun lv => bif stop pc then Go X Y kd TH fb lb mi pc lv st h c s Q else blk P stop (fun pc lv st h => Go X Y kd TH fb lb mi pc lv st h c s Q) n pc lv st h)) → Go X Y kd TH fb lb mi pc lv st h c s Q := by
        intro e1 e2
        obtain ⟨q1, q2, q3, g1, g3⟩ := b_df_v e2
        rw [frl_eq] at g3
        rw [← hP.2.2.2.2] at g1
        exact step (by rw [e1, g1]; rfl) (nxt g3)
      cases i with
      | ifCond cd off =>
        obtain ⟨x, r, rfl, h1⟩ := b_i1_v hb
        obtain ⟨t, ht, h2⟩ := b_tg_v h1
        by_cases hc : b_c0 cd x
        · refine step (pc' := t) (lv' := lv) (st' := r) (h' := h) ?_ (nxt (h2.1 hc))
          simp [x_hs, x_op, x_1i, x_br, ht, b_c0_t.mpr hc]
        · refine step (pc' := pc + 3) (lv' := lv) (st' := r) (h' := h) ?_ (nxt (h2.2 hc))
          have : x_c0 cd x = false := by
            cases hx : x_c0 cd x
            · rfl
            · exact absurd (b_c0_t.mp hx) hc
          simp [x_hs, x_op, x_1i, x_br, ht, this]
      | if_icmp cd off =>
        obtain ⟨x, y, r, rfl, h1⟩ := b_i2_v hb
        obtain ⟨t, ht, h2⟩ := b_tg_v h1
        by_cases hc : b_c2 cd x y
        · refine step (pc' := t) (lv' := lv) (st' := r) (h' := h) ?_ (nxt (h2.1 hc))
          simp [x_hs, x_op, x_2i, x_br, ht, b_c2_t.mpr hc]
        · refine step (pc' := pc + 3) (lv' := lv) (st' := r) (h' := h) ?_ (nxt (h2.2 hc))
          have : x_c2 cd x y = false := by
            cases hx : x_c2 cd x y
            · rfl
            · exact absurd (b_c2_t.mp hx) hc
          simp [x_hs, x_op, x_2i, x_br, ht, this]
      | if_acmp cd off =>
        obtain ⟨x, y, r, rfl, h1⟩ := b_r2_v hb
        obtain ⟨t, ht, h2⟩ := b_tg_v h1
        by_cases hc : x = y
        · subst hc
          cases cd with
          | eq => exact step (pc' := t) (lv' := lv) (st' := r) (h' := h) (by simp [x_hs, y_r, ht, Nat.beq_refl]) (nxt (h2.1 rfl))
          | ne => exact step (pc' := pc + 3) (lv' := lv) (st' := r) (h' := h) (by simp [x_hs, y_r, ht, Nat.beq_refl]) (nxt (h2.1 rfl))
        · have hf : Nat.beq x y = false := by
            cases hb' : Nat.beq x y
            · rfl
            · exact absurd (Nat.eq_of_beq_eq_true hb') hc
          cases cd with
          | eq => exact step (pc' := pc + 3) (lv' := lv) (st' := r) (h' := h) (by simp [x_hs, y_r, ht, hf]) (nxt (h2.2 hc))
          | ne => exact step (pc' := t) (lv' := lv) (st' := r) (h' := h) (by simp [x_hs, y_r, ht, hf]) (nxt (h2.2 hc))
      | getfield idx =>
        obtain ⟨a, r, rfl, h1⟩ := b_r1_v hb
        obtain ⟨ci, k, ty, p, h2, h2'⟩ := b_gf_v h1
        obtain ⟨cj, vs, h3, h3'⟩ := b_ob_v h2'
        obtain ⟨h4, h5⟩ := b_ck_v h3'
        obtain ⟨k1, k2, k3, k4⟩ := hP.2.1 idx ci k ty p h2
        have h4 := Nat.eq_of_beq_eq_true h4
        subst h4
        have h6 : (match vs[k]? with | some v => (bif stop (pc + 3) then Go X Y kd TH fb lb mi (pc + 3) lv (v :: r) h c s Q else blk P stop (fun pc lv st h => Go X Y kd TH fb lb mi pc lv st h c s Q) n (pc + 3) lv (v :: r) h) | none => False) := h5
        cases hv : vs[k]? with
        | none => rw [hv] at h6; exact h6.elim
        | some v =>
          rw [hv] at h6
          refine step (pc' := pc + 3) (lv' := lv) (st' := v :: r) (h' := h) ?_ (nxt h6)
          have e1 : Nat.blt k (xnf X cj) = true := Nat.ble_eq_true_of_le k3
          simp [x_hs, y_r, h_o, h3, k1, x_ck, Nat.beq_refl, e1, hv]
      | putfield idx =>
        obtain ⟨a, v, r, rfl, h1⟩ := b_vr_v hb
        obtain ⟨ci, k, ty, p, h2, h2'⟩ := b_gf_v h1
        obtain ⟨cj, vs, h3, h3'⟩ := b_ob_v h2'
        obtain ⟨h4', h6⟩ := b_ck_v h3'
        simp only [Bool.and_eq_true] at h4'
        obtain ⟨h4, h5⟩ := h4'
        have h6' : (match vs[k]? with | some _ => b_fit ty v (bif stop (pc + 3) then Go X Y kd TH fb lb mi (pc + 3) lv r (h.set a (.inl (cj, vs.set k v))) c s Q else blk P stop (fun pc lv st h => Go X Y kd TH fb lb mi pc lv st h c s Q) n (pc + 3) lv r (h.set a (.inl (cj, vs.set k v)))) | none => False) := h6
        cases hv : vs[k]? with
        | none => rw [hv] at h6'; exact h6'.elim
        | some w0 =>
        rw [hv] at h6'
        have e2 : Nat.blt k vs.length = true := Nat.ble_eq_true_of_le (List.getElem?_eq_some_iff.mp hv).1
        obtain ⟨k1, k2, k3, k4⟩ := hP.2.1 idx ci k ty p h2
        have h4 := Nat.eq_of_beq_eq_true h4
        subst h4
        subst h5
        obtain ⟨⟨f1, f2⟩, h7⟩ := b_fit_v h6'
        refine step (pc' := pc + 3) (lv' := lv) (st' := r) (h' := h.set a (.inl (cj, vs.set k v))) ?_ (nxt h7)
        have e1 : Nat.blt k (xnf X cj) = true := Nat.ble_eq_true_of_le k3
        simp [x_hs, y_v, y_r, h_o, h3, k1, x_ck, Nat.beq_refl, e1, e2, k4, f1, f2, k2]
      | iaload =>
        obtain ⟨a, j, r, rfl, h0⟩ := b_ri_v hb
        obtain ⟨x, h1, h0'⟩ := b_ai_v h0
        obtain ⟨h2, h3⟩ := b_in_v h0'
        exact step (by simp [x_hs, y_i, y_r, h_i, h1, x_ck, h2]) (nxt h3)
      | caload =>
        obtain ⟨a, j, r, rfl, h0⟩ := b_ri_v hb
        obtain ⟨x, h1, h0'⟩ := b_ai_v h0
        obtain ⟨h2, h3⟩ := b_in_v h0'
        exact step (by simp [x_hs, y_i, y_r, h_i, h1, x_ck, h2]) (nxt h3)
      | baload =>
        obtain ⟨a, j, r, rfl, h0⟩ := b_ri_v hb
        obtain ⟨x, h1, h0'⟩ := b_ai_v h0
        obtain ⟨h2, h3⟩ := b_in_v h0'
        exact step (by simp [x_hs, y_i, y_r, h_i, h1, x_ck, h2]) (nxt h3)
      | laload =>
        obtain ⟨a, j, r, rfl, h0⟩ := b_ri_v hb
        obtain ⟨x, h1, h0'⟩ := b_al_v h0
        obtain ⟨h2, h3⟩ := b_in_v h0'
        exact step (by simp [x_hs, y_i, y_r, h_l, h1, x_ck, h2]) (nxt h3)
      | aaload =>
        obtain ⟨a, j, r, rfl, h0⟩ := b_ri_v hb
        obtain ⟨C, x, h1, h0'⟩ := b_ar_v h0
        obtain ⟨h2, h2'⟩ := b_in_v h0'
        obtain ⟨i, h3, h4⟩ := b_el_v h2'
        refine step (pc' := pc + 1) (lv' := lv) (st' := .ref i :: r) (h' := h) ?_ (nxt h4)
        simp only [x_hs, y_i, y_r, h_q, h1, x_ck, h2, cond_true, h3, va_rf]
      | iastore =>
        obtain ⟨a, j, y, r, rfl, h0⟩ := b_rii_v hb
        obtain ⟨x, h1, h0'⟩ := b_ai_v h0
        obtain ⟨h2, h3⟩ := b_in_v h0'
        exact step (by simp [x_hs, y_i, y_r, h_i, h1, x_ck, h2]) (nxt h3)
      | castore =>
        obtain ⟨a, j, y, r, rfl, h0⟩ := b_rii_v hb
        obtain ⟨x, h1, h0'⟩ := b_ai_v h0
        obtain ⟨h2, h3⟩ := b_in_v h0'
        exact step (by simp [x_hs, y_i, y_r, h_i, h1, x_ck, h2]) (nxt h3)
      | bastore =>
        obtain ⟨a, j, y, r, rfl, h0⟩ := b_rii_v hb
        obtain ⟨x, h1, h0'⟩ := b_ai_v h0
        obtain ⟨h2, h3⟩ := b_in_v h0'
        exact step (by simp [x_hs, y_i, y_r, h_i, h1, x_ck, h2]) (nxt h3)
      | lastore =>
        obtain ⟨a, j, y, r, rfl, h0⟩ := b_ril_v hb
        obtain ⟨x, h1, h0'⟩ := b_al_v h0
        obtain ⟨h2, h3⟩ := b_in_v h0'
        exact step (by simp [x_hs, y_i, y_l, y_r, h_l, h1, x_ck, h2]) (nxt h3)
      | arraylength =>
        obtain ⟨a, r, rfl, h1⟩ := b_r1_v hb
        split at h1
        · next e => exact step (by simp only [x_hs, y_r, e]) (nxt h1)
        · next e => exact step (by simp only [x_hs, y_r, e]) (nxt h1)
        · next e => exact step (by simp only [x_hs, y_r, e]) (nxt h1)
        · exact h1.elim
      | idiv =>
        obtain ⟨x, y, r, rfl, h1, h2⟩ := b_i2_v hb
        exact step (by simp only [x_hs, x_op, x_2i, if_neg h1, Option.map_some]) (nxt h2)
      | irem =>
        obtain ⟨x, y, r, rfl, h1, h2⟩ := b_i2_v hb
        exact step (by simp only [x_hs, x_op, x_2i, if_neg h1, Option.map_some]) (nxt h2)
      | ldiv =>
        obtain ⟨x, y, r, rfl, h1, h2⟩ := b_l2_v hb
        exact step (by simp only [x_hs, x_op, x_2l, if_neg h1, Option.map_some]) (nxt h2)
      | lrem =>
        obtain ⟨x, y, r, rfl, h1, h2⟩ := b_l2_v hb
        exact step (by simp only [x_hs, x_op, x_2l, if_neg h1, Option.map_some]) (nxt h2)
      | ldc idx =>
        have h1 : (match P.2.2.1 idx with | some v => (bif stop (pc + 2) then Go X Y kd TH fb lb mi (pc + 2) lv (.int v :: st) h c s Q else blk P stop (fun pc lv st h => Go X Y kd TH fb lb mi pc lv st h c s Q) n (pc + 2) lv (.int v :: st) h) | none => False) := hb
        split at h1
        · next v e => exact step (by simp only [x_hs, hP.2.2.1 idx v e, Option.bind_some]) (nxt h1)
        · exact h1.elim
      | ldc2_w idx =>
        have h1 : (match P.2.2.2.1 idx with | some v => (bif stop (pc + 3) then Go X Y kd TH fb lb mi (pc + 3) lv (.long v :: st) h c s Q else blk P stop (fun pc lv st h => Go X Y kd TH fb lb mi pc lv st h c s Q) n (pc + 3) lv (.long v :: st) h) | none => False) := hb
        split at h1
        · next v e => exact step (by simp only [x_hs, hP.2.2.2.1 idx v e, Option.bind_some]) (nxt h1)
        · exact h1.elim
      | bipush k =>
        obtain ⟨h1, h2⟩ := b_ck_v hb
        have h3 := b_cI_v h2
        rw [← of_decide_eq_true h1] at h3
        exact step rfl (nxt h3)
      | sipush k =>
        obtain ⟨h1, h2⟩ := b_ck_v hb
        have h3 := b_cI_v h2
        rw [← of_decide_eq_true h1] at h3
        exact step rfl (nxt h3)
      | iconst k =>
        obtain ⟨h1, h2⟩ := b_ck_v hb
        have h3 := b_cI_v h2
        rw [← of_decide_eq_true h1] at h3
        exact step rfl (nxt h3)
      | lconst k => exact step rfl (nxt hb)
      | ireturn => exact hb
      | lreturn => exact hb
      | areturn => exact hb
      | return_ => exact hb
      | invokevirtual _ => exact hb
      | invokestatic _ => exact hb
      | invokespecial _ => exact hb
      | new _ => exact hb
      | newarray _ => exact hb
      | anewarray _ => exact hb
      | aastore => exact hb
      | athrow => exact hb
      | _ => exact dflt rfl hb
