section XOP2
variable {p : Program} {l : Launch} {e : Env} {R : Room} {s : State} {m : MethodId} {args : Array Value} {below : List Frame} {meth : Method} {c : Code} {H : Heap} {locs : List Loc} {cells slots : Nat} {Q : State → Prop}
variable {cc : ByteArray} {pc nL : Nat} {ls : Array Slot} {as : List Nat} {lv clv : xL} {st cst : List Value} {o : xS}
/-- what x_op does, the machine does -/
theorem x_op_ok (hx : p.tables.exec = Jvm.exec) (hb : c.code = cc) {i : Instr} (hd : decode cc pc = .ok (i, x_len i)) (h : x_op nL i pc lv st = some o) (hl : lv_has ls nL clv) (hlr : lrs as lv clv) (hst : vrs as st cst)
    (k : ∀ (ls' : Array Slot) (clv' : xL) (cst' : List Value), lv_has ls' nL clv' → lrs as o.2.1 clv' → vrs as o.2.2 cst' → W p l e R s m args below meth c H locs cells slots Q (F0 m o.1 ls' cst')) : W p l e R s m args below meth c H locs cells slots Q (F0 m pc ls cst) := by
  cases i with
  | iconst n => cases h; exact lv_iconst hx hb hd rfl (k _ _ _ hl hlr (vrs_ci hst))
  | bipush n => cases h; exact lv_bipush hx hb hd rfl (k _ _ _ hl hlr (vrs_ci hst))
  | sipush n => cases h; exact lv_sipush hx hb hd rfl (k _ _ _ hl hlr (vrs_ci hst))
  | lconst n => cases h; exact lv_lconst hx hb hd rfl (k _ _ _ hl hlr (vrs_cl hst))
  | iload_n n =>
    simp only [x_op] at h
    split at h
    · next x hg =>
      cases h
      obtain ⟨q, y, h1, h2⟩ := x_g_at hlr hg
      have h2 := vr_i h2
      subst h2
      exact lv_iload_n hx hb hd rfl (lv_at hl q h1) (k _ _ _ hl hlr (vrs_ci hst))
    · cases h
  | iload n =>
    simp only [x_op] at h
    split at h
    · next x hg =>
      cases h
      obtain ⟨q, y, h1, h2⟩ := x_g_at hlr hg
      have h2 := vr_i h2
      subst h2
      exact lv_iload hx hb hd (lv_at hl q h1) (k _ _ _ hl hlr (vrs_ci hst))
    · cases h
  | lload_n n =>
    simp only [x_op] at h
    split at h
    · next x hg =>
      cases h
      obtain ⟨q, y, h1, h2⟩ := x_g_at hlr hg
      have h2 := vr_l h2
      subst h2
      exact lv_lload_n hx hb hd rfl (lv_at hl q h1) (k _ _ _ hl hlr (vrs_cl hst))
    · cases h
  | lload n =>
    simp only [x_op] at h
    split at h
    · next x hg =>
      cases h
      obtain ⟨q, y, h1, h2⟩ := x_g_at hlr hg
      have h2 := vr_l h2
      subst h2
      exact lv_lload hx hb hd (lv_at hl q h1) (k _ _ _ hl hlr (vrs_cl hst))
    · cases h
  | aload_n n =>
    simp only [x_op] at h
    split at h
    · next x hg =>
      cases h
      obtain ⟨q, y, h1, h2⟩ := x_g_at hlr hg
      obtain ⟨a, h2, h3⟩ := vr_r h2
      subst h2
      exact lv_aload_n hx hb hd rfl (lv_at hl q h1) (k _ _ _ hl hlr (vrs_cr h3 hst))
    · cases h
  | aload n =>
    simp only [x_op] at h
    split at h
    · next x hg =>
      cases h
      obtain ⟨q, y, h1, h2⟩ := x_g_at hlr hg
      obtain ⟨a, h2, h3⟩ := vr_r h2
      subst h2
      exact lv_aload hx hb hd (lv_at hl q h1) (k _ _ _ hl hlr (vrs_cr h3 hst))
    · cases h
  | istore_n n =>
    obtain ⟨x, r, rfl, h⟩ := x_1i_v h
    obtain ⟨h1, rfl⟩ := x_st_v h
    obtain ⟨t, rfl, h2⟩ := vrs_i hst
    exact lv_istore_n hx hb hd rfl hl h1 rfl (fun ls' hl' => k _ _ _ hl' (lrs_c rfl (lrs_filter _ (x_f1_c _) hlr)) h2)
  | astore_n n =>
    obtain ⟨x, r, rfl, h⟩ := x_1r_v h
    obtain ⟨h1, rfl⟩ := x_st_v h
    obtain ⟨a, t, rfl, h3, h2⟩ := vrs_r hst
    exact lv_astore_n hx hb hd rfl hl h1 rfl (fun ls' hl' => k _ _ _ hl' (lrs_c ⟨a, rfl, h3⟩ (lrs_filter _ (x_f1_c _) hlr)) h2)
  | lstore_n n =>
    obtain ⟨x, r, rfl, h⟩ := x_1l_v h
    obtain ⟨h1, rfl⟩ := x_st2_v h
    obtain ⟨t, rfl, h2⟩ := vrs_l hst
    exact lv_lstore_n hx hb hd rfl hl h1 rfl (fun ls' hl' => k _ _ _ hl' (lrs_c rfl (lrs_filter _ (x_f2_c _) hlr)) h2)
  | istore n =>
    obtain ⟨x, r, rfl, h⟩ := x_1i_v h
    obtain ⟨h1, rfl⟩ := x_st_v h
    obtain ⟨t, rfl, h2⟩ := vrs_i hst
    exact lv_istore hx hb hd hl h1 rfl (fun ls' hl' => k _ _ _ hl' (lrs_c rfl (lrs_filter _ (x_f1_c _) hlr)) h2)
  | astore n =>
    obtain ⟨x, r, rfl, h⟩ := x_1r_v h
    obtain ⟨h1, rfl⟩ := x_st_v h
    obtain ⟨a, t, rfl, h3, h2⟩ := vrs_r hst
    exact lv_astore hx hb hd hl h1 rfl (fun ls' hl' => k _ _ _ hl' (lrs_c ⟨a, rfl, h3⟩ (lrs_filter _ (x_f1_c _) hlr)) h2)
  | lstore n =>
    obtain ⟨x, r, rfl, h⟩ := x_1l_v h
    obtain ⟨h1, rfl⟩ := x_st2_v h
    obtain ⟨t, rfl, h2⟩ := vrs_l hst
    exact lv_lstore hx hb hd hl h1 rfl (fun ls' hl' => k _ _ _ hl' (lrs_c rfl (lrs_filter _ (x_f2_c _) hlr)) h2)
  | iinc n d =>
    simp only [x_op] at h
    split at h
    · next x hg =>
      obtain ⟨h1, rfl⟩ := x_st_v h
      obtain ⟨q, y, h3, h2⟩ := x_g_at hlr hg
      have h2 := vr_i h2
      subst h2
      exact lv_iinc hx hb hd hl h3 rfl h1 rfl (fun ls' hl' => k _ _ _ hl' (lrs_c rfl (lrs_filter _ (x_f1_c _) hlr)) hst)
    · cases h
  | iadd =>
    obtain ⟨x, y, r, rfl, h⟩ := x_2i_v h
    cases h
    obtain ⟨t1, rfl, h1⟩ := vrs_i hst
    obtain ⟨t, rfl, h2⟩ := vrs_i h1
    exact lv_iadd hx hb hd (k _ _ _ hl hlr (vrs_ci h2))
  | isub =>
    obtain ⟨x, y, r, rfl, h⟩ := x_2i_v h
    cases h
    obtain ⟨t1, rfl, h1⟩ := vrs_i hst
    obtain ⟨t, rfl, h2⟩ := vrs_i h1
    exact lv_isub hx hb hd (k _ _ _ hl hlr (vrs_ci h2))
  | imul =>
    obtain ⟨x, y, r, rfl, h⟩ := x_2i_v h
    cases h
    obtain ⟨t1, rfl, h1⟩ := vrs_i hst
    obtain ⟨t, rfl, h2⟩ := vrs_i h1
    exact lv_imul hx hb hd (k _ _ _ hl hlr (vrs_ci h2))
  | iand =>
    obtain ⟨x, y, r, rfl, h⟩ := x_2i_v h
    cases h
    obtain ⟨t1, rfl, h1⟩ := vrs_i hst
    obtain ⟨t, rfl, h2⟩ := vrs_i h1
    exact lv_iand hx hb hd (k _ _ _ hl hlr (vrs_ci h2))
  | ior =>
    obtain ⟨x, y, r, rfl, h⟩ := x_2i_v h
    cases h
    obtain ⟨t1, rfl, h1⟩ := vrs_i hst
    obtain ⟨t, rfl, h2⟩ := vrs_i h1
    exact lv_ior hx hb hd (k _ _ _ hl hlr (vrs_ci h2))
  | ishl =>
    obtain ⟨x, y, r, rfl, h⟩ := x_2i_v h
    cases h
    obtain ⟨t1, rfl, h1⟩ := vrs_i hst
    obtain ⟨t, rfl, h2⟩ := vrs_i h1
    exact lv_ishl hx hb hd (k _ _ _ hl hlr (vrs_ci h2))
  | ishr =>
    obtain ⟨x, y, r, rfl, h⟩ := x_2i_v h
    cases h
    obtain ⟨t1, rfl, h1⟩ := vrs_i hst
    obtain ⟨t, rfl, h2⟩ := vrs_i h1
    exact lv_ishr hx hb hd (k _ _ _ hl hlr (vrs_ci h2))
  | iushr =>
    obtain ⟨x, y, r, rfl, h⟩ := x_2i_v h
    cases h
    obtain ⟨t1, rfl, h1⟩ := vrs_i hst
    obtain ⟨t, rfl, h2⟩ := vrs_i h1
    exact lv_iushr hx hb hd rfl (k _ _ _ hl hlr (vrs_ci h2))
  | idiv =>
    obtain ⟨x, y, r, rfl, h9⟩ := x_2i_v h
    by_cases hy : y = 0
    · rw [if_pos hy] at h9; cases h9
    · rw [if_neg hy] at h9
      cases h9
      obtain ⟨t1, rfl, h1⟩ := vrs_i hst
      obtain ⟨t, rfl, h2⟩ := vrs_i h1
      exact lv_idiv hx hb hd hy (k _ _ _ hl hlr (vrs_ci h2))
  | irem =>
    obtain ⟨x, y, r, rfl, h9⟩ := x_2i_v h
    by_cases hy : y = 0
    · rw [if_pos hy] at h9; cases h9
    · rw [if_neg hy] at h9
      cases h9
      obtain ⟨t1, rfl, h1⟩ := vrs_i hst
      obtain ⟨t, rfl, h2⟩ := vrs_i h1
      exact lv_irem hx hb hd hy (k _ _ _ hl hlr (vrs_ci h2))
  | ladd =>
    obtain ⟨x, y, r, rfl, h⟩ := x_2l_v h
    cases h
    obtain ⟨t1, rfl, h1⟩ := vrs_l hst
    obtain ⟨t, rfl, h2⟩ := vrs_l h1
    exact lv_ladd hx hb hd (k _ _ _ hl hlr (vrs_cl h2))
  | lsub =>
    obtain ⟨x, y, r, rfl, h⟩ := x_2l_v h
    cases h
    obtain ⟨t1, rfl, h1⟩ := vrs_l hst
    obtain ⟨t, rfl, h2⟩ := vrs_l h1
    exact lv_lsub hx hb hd (k _ _ _ hl hlr (vrs_cl h2))
  | lmul =>
    obtain ⟨x, y, r, rfl, h⟩ := x_2l_v h
    cases h
    obtain ⟨t1, rfl, h1⟩ := vrs_l hst
    obtain ⟨t, rfl, h2⟩ := vrs_l h1
    exact lv_lmul hx hb hd (k _ _ _ hl hlr (vrs_cl h2))
  | land =>
    obtain ⟨x, y, r, rfl, h⟩ := x_2l_v h
    cases h
    obtain ⟨t1, rfl, h1⟩ := vrs_l hst
    obtain ⟨t, rfl, h2⟩ := vrs_l h1
    exact lv_land hx hb hd (k _ _ _ hl hlr (vrs_cl h2))
  | lor =>
    obtain ⟨x, y, r, rfl, h⟩ := x_2l_v h
    cases h
    obtain ⟨t1, rfl, h1⟩ := vrs_l hst
    obtain ⟨t, rfl, h2⟩ := vrs_l h1
    exact lv_lor hx hb hd (k _ _ _ hl hlr (vrs_cl h2))
  | ldiv =>
    obtain ⟨x, y, r, rfl, h9⟩ := x_2l_v h
    by_cases hy : y = 0
    · rw [if_pos hy] at h9; cases h9
    · rw [if_neg hy] at h9
      cases h9
      obtain ⟨t1, rfl, h1⟩ := vrs_l hst
      obtain ⟨t, rfl, h2⟩ := vrs_l h1
      exact lv_ldiv hx hb hd hy (k _ _ _ hl hlr (vrs_cl h2))
  | lrem =>
    obtain ⟨x, y, r, rfl, h9⟩ := x_2l_v h
    by_cases hy : y = 0
    · rw [if_pos hy] at h9; cases h9
    · rw [if_neg hy] at h9
      cases h9
      obtain ⟨t1, rfl, h1⟩ := vrs_l hst
      obtain ⟨t, rfl, h2⟩ := vrs_l h1
      exact lv_lrem hx hb hd hy (k _ _ _ hl hlr (vrs_cl h2))
  | lshl =>
    obtain ⟨x, y, r, rfl, h⟩ := x_li_v h
    cases h
    obtain ⟨t1, rfl, h1⟩ := vrs_i hst
    obtain ⟨t, rfl, h2⟩ := vrs_l h1
    exact lv_lshl hx hb hd rfl (k _ _ _ hl hlr (vrs_cl h2))
  | lshr =>
    obtain ⟨x, y, r, rfl, h⟩ := x_li_v h
    cases h
    obtain ⟨t1, rfl, h1⟩ := vrs_i hst
    obtain ⟨t, rfl, h2⟩ := vrs_l h1
    exact lv_lshr hx hb hd rfl (k _ _ _ hl hlr (vrs_cl h2))
  | lushr =>
    obtain ⟨x, y, r, rfl, h⟩ := x_li_v h
    cases h
    obtain ⟨t1, rfl, h1⟩ := vrs_i hst
    obtain ⟨t, rfl, h2⟩ := vrs_l h1
    exact lv_lushr hx hb hd rfl (k _ _ _ hl hlr (vrs_cl h2))
  | lcmp =>
    obtain ⟨x, y, r, rfl, h⟩ := x_2l_v h
    cases h
    obtain ⟨t1, rfl, h1⟩ := vrs_l hst
    obtain ⟨t, rfl, h2⟩ := vrs_l h1
    exact W.lcmp hx hb hd (k _ _ _ hl hlr (vrs_ci h2))
  | ineg =>
    obtain ⟨x, r, rfl, h⟩ := x_1i_v h
    cases h
    obtain ⟨t, rfl, h2⟩ := vrs_i hst
    exact lv_ineg hx hb hd (k _ _ _ hl hlr (vrs_ci h2))
  | lneg =>
    obtain ⟨x, r, rfl, h⟩ := x_1l_v h
    cases h
    obtain ⟨t, rfl, h2⟩ := vrs_l hst
    exact lv_lneg hx hb hd (k _ _ _ hl hlr (vrs_cl h2))
  | i2l =>
    obtain ⟨x, r, rfl, h⟩ := x_1i_v h
    cases h
    obtain ⟨t, rfl, h2⟩ := vrs_i hst
    exact lv_i2l hx hb hd rfl (k _ _ _ hl hlr (vrs_cl h2))
  | l2i =>
    obtain ⟨x, r, rfl, h⟩ := x_1l_v h
    cases h
    obtain ⟨t, rfl, h2⟩ := vrs_l hst
    exact lv_l2i hx hb hd rfl (k _ _ _ hl hlr (vrs_ci h2))
  | i2c =>
    obtain ⟨x, r, rfl, h⟩ := x_1i_v h
    cases h
    obtain ⟨t, rfl, h2⟩ := vrs_i hst
    exact lv_i2c hx hb hd rfl (k _ _ _ hl hlr (vrs_ci h2))
  | dup =>
    obtain ⟨v, r, rfl, h9⟩ := x_1v_v h
    by_cases hv : v.category = 1
    · rw [if_pos hv] at h9
      cases h9
      obtain ⟨y, t, rfl, h1, h2⟩ := vrs_v hst
      exact lv_dup hx hb hd ((vr_cat h1).trans hv) (k _ _ _ hl hlr (vrs_cv h1 (vrs_cv h1 h2)))
    · rw [if_neg hv] at h9; cases h9
  | pop =>
    obtain ⟨v, r, rfl, h9⟩ := x_1v_v h
    by_cases hv : v.category = 1
    · rw [if_pos hv] at h9
      cases h9
      obtain ⟨y, t, rfl, h1, h2⟩ := vrs_v hst
      exact lv_pop hx hb hd ((vr_cat h1).trans hv) (k _ _ _ hl hlr h2)
    · rw [if_neg hv] at h9; cases h9
  | dup_x1 =>
    obtain ⟨v, w, r, rfl, h9⟩ := x_2v_v h
    by_cases hv : v.category = 1 ∧ w.category = 1
    · rw [if_pos hv] at h9
      cases h9
      obtain ⟨y, t, rfl, h1, h2⟩ := vrs_v hst
      obtain ⟨y2, t2, rfl, h3, h4⟩ := vrs_v h2
      exact lv_dup_x1 hx hb hd ((vr_cat h1).trans hv.1) ((vr_cat h3).trans hv.2) (k _ _ _ hl hlr (vrs_cv h1 (vrs_cv h3 (vrs_cv h1 h4))))
    · rw [if_neg hv] at h9; cases h9
  | dup2 =>
    obtain ⟨v, w, r, rfl, h9⟩ := x_2v_v h
    by_cases hv : v.category = 1 ∧ w.category = 1
    · rw [if_pos hv] at h9
      cases h9
      obtain ⟨y, t, rfl, h1, h2⟩ := vrs_v hst
      obtain ⟨y2, t2, rfl, h3, h4⟩ := vrs_v h2
      exact lv_dup2_11 hx hb hd ((vr_cat h1).trans hv.1) ((vr_cat h3).trans hv.2) (k _ _ _ hl hlr (vrs_cv h1 (vrs_cv h3 (vrs_cv h1 (vrs_cv h3 h4)))))
    · rw [if_neg hv] at h9; cases h9
  | goto off =>
    simp only [x_op] at h
    cases ht : x_tg pc off with
    | none => rw [ht] at h; cases h
    | some t =>
      rw [ht] at h
      cases h
      exact lv_goto hx hb hd (x_tg_ok ht) (k _ _ _ hl hlr hst)
  | ifCond q off =>
    obtain ⟨x, r, rfl, h⟩ := x_1i_v h
    obtain ⟨t, ht, rfl⟩ := x_br_v h
    obtain ⟨u, rfl, h2⟩ := vrs_i hst
    have k := k ls clv u hl hlr h2
    cases q with
    | eq => exact lv_if_eq hx hb hd ht (fun z => by simpa only [x_c0, decide_eq_true z, cond_true] using k) (fun z => by simpa only [x_c0, decide_eq_false z, cond_false] using k)
    | ne => exact lv_if_ne hx hb hd ht (fun z => by simpa only [x_c0, decide_eq_true z, cond_true] using k) (fun z => by simpa only [x_c0, decide_eq_false (not_not_intro z), cond_false] using k)
    | lt => exact lv_if_lt hx hb hd ht (fun z => by simpa only [x_c0, decide_eq_true z, cond_true] using k) (fun z => by simpa only [x_c0, decide_eq_false z, cond_false] using k)
    | ge => exact lv_if_ge hx hb hd ht (fun z => by simpa only [x_c0, decide_eq_true z, cond_true] using k) (fun z => by simpa only [x_c0, decide_eq_false z, cond_false] using k)
    | gt => exact lv_if_gt hx hb hd ht (fun z => by simpa only [x_c0, decide_eq_true z, cond_true] using k) (fun z => by simpa only [x_c0, decide_eq_false z, cond_false] using k)
    | le => exact lv_if_le hx hb hd ht (fun z => by simpa only [x_c0, decide_eq_true z, cond_true] using k) (fun z => by simpa only [x_c0, decide_eq_false z, cond_false] using k)
  | if_icmp q off =>
    obtain ⟨x, y, r, rfl, h⟩ := x_2i_v h
    obtain ⟨t, ht, rfl⟩ := x_br_v h
    obtain ⟨t1, rfl, h1⟩ := vrs_i hst
    obtain ⟨u, rfl, h2⟩ := vrs_i h1
    have k := k ls clv u hl hlr h2
    cases q with
    | eq => exact lv_icmp_eq hx hb hd ht (fun z => by simpa only [x_c2, decide_eq_true z, cond_true] using k) (fun z => by simpa only [x_c2, decide_eq_false z, cond_false] using k)
    | ne => exact lv_icmp_ne hx hb hd ht (fun z => by simpa only [x_c2, decide_eq_true z, cond_true] using k) (fun z => by simpa only [x_c2, decide_eq_false (not_not_intro z), cond_false] using k)
    | lt => exact lv_icmp_lt hx hb hd ht (fun z => by simpa only [x_c2, decide_eq_true z, cond_true] using k) (fun z => by simpa only [x_c2, decide_eq_false z, cond_false] using k)
    | ge => exact lv_icmp_ge hx hb hd ht (fun z => by simpa only [x_c2, decide_eq_true z, cond_true] using k) (fun z => by simpa only [x_c2, decide_eq_false z, cond_false] using k)
    | gt => exact lv_icmp_gt hx hb hd ht (fun z => by simpa only [x_c2, decide_eq_true z, cond_true] using k) (fun z => by simpa only [x_c2, decide_eq_false z, cond_false] using k)
    | le => exact lv_icmp_le hx hb hd ht (fun z => by simpa only [x_c2, decide_eq_true z, cond_true] using k) (fun z => by simpa only [x_c2, decide_eq_false z, cond_false] using k)
  | _ => cases h
end XOP2
