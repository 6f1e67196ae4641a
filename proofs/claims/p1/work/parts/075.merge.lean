/-! the callee's part laid back into the caller's world -/
theorem cr_left {as : List Nat} {tys u : List (ClassId × FieldType)} {c : xC} {e : va_E} (h : cr as u c e) : cr as (tys ++ u) c e := by
  have sh : ∀ {t0 : Nat} {x : ClassId × FieldType}, u[t0]? = some x → (tys ++ u)[tys.length + t0]? = some x := fun {t0 x} h => by
    rw [List.getElem?_append_right (by omega), show tys.length + t0 - tys.length = t0 by omega]; exact h
  obtain q | ⟨ty, l | l | l⟩ := c
  · exact h
  · obtain ⟨cA, t0, h1, h2⟩ := h; exact ⟨cA, _, sh h1, h2⟩
  · obtain ⟨cA, t0, h1, h2⟩ := h; exact ⟨cA, _, sh h1, h2⟩
  · obtain ⟨cA, t0, g, h1, h2, h3⟩ := h; exact ⟨cA, _, g, sh h1, h2, h3⟩
def asJ (as J : List Nat) : List Nat := J.map (fun j => as.getD j 0)
def wsJ (ws : va_W) (J : List Nat) : va_W := J.map (fun j => ws.getD j (0, .inr (0, [])))
theorem asJ_at {as J : List Nat} {k j a : Nat} (hj : J[k]? = some j) (ha : as[j]? = some a) : (asJ as J)[k]? = some a := by
  unfold asJ
  rw [List.getElem?_map, hj]
  simp [List.getD, ha]
theorem asJ_inv {as J : List Nat} {k a : Nat} (h : (asJ as J)[k]? = some a) (hJ : ∀ j ∈ J, j < as.length) : ∃ j, J[k]? = some j ∧ as[j]? = some a := by
  unfold asJ at h
  rw [List.getElem?_map] at h
  cases hj : J[k]? with
  | none => rw [hj] at h; cases h
  | some j =>
    rw [hj] at h
    have hl := hJ j (List.mem_of_getElem? hj)
    refine ⟨j, rfl, ?_⟩
    have : as.getD j 0 = a := by simpa using h
    rw [← this]
    simp [List.getD, hl]
theorem wsJ_at {ws : va_W} {J : List Nat} {k j : Nat} {x : Nat × va_E} (hj : J[k]? = some j) (ha : ws[j]? = some x) : (wsJ ws J)[k]? = some x := by
  unfold wsJ
  rw [List.getElem?_map, hj]
  simp [List.getD, ha]
theorem wsJ_inv {ws : va_W} {J : List Nat} {k : Nat} {x : Nat × va_E} (h : (wsJ ws J)[k]? = some x) (hJ : ∀ j ∈ J, j < ws.length) : ∃ j, J[k]? = some j ∧ ws[j]? = some x := by
  unfold wsJ at h
  rw [List.getElem?_map] at h
  cases hj : J[k]? with
  | none => rw [hj] at h; cases h
  | some j =>
    rw [hj] at h
    have hl := hJ j (List.mem_of_getElem? hj)
    refine ⟨j, rfl, ?_⟩
    have : ws.getD j (0, .inr (0, [])) = x := by simpa using h
    rw [← this]
    simp [List.getD, hl]
theorem cut_wr {as : List Nat} {tys : List (ClassId × FieldType)} {h : xH} {ws : va_W} (hw : wr as tys h ws) {avs cvs : List Value} {J : List Nat} {ds : List xC} {bvs : List Value} (hc : cut h avs = some (J, ds, bvs)) (ha : vrs as avs cvs) : ndp J = true ∧ (∀ j ∈ J, j < h.length) ∧ wr (asJ as J) tys ds (wsJ ws J) ∧ vrs (asJ as J) bvs cvs := by
  obtain ⟨h1, cs, h2, h3, h4⟩ := cut_v hc
  obtain ⟨e1, e2⟩ := pick_at h2
  obtain ⟨e3, e4⟩ := rcs_at h3
  have R : Ren (sp J) as (asJ as J) := fun i j a h5 h6 => asJ_at (sp_at h5) h6
  have hJ : ∀ j ∈ J, j < h.length := fun j hj => by
    obtain ⟨k, hk⟩ := List.getElem?_of_mem hj
    obtain ⟨c, g1, -⟩ := e2 k j hk
    exact (List.getElem?_eq_some_iff.mp g1).1
  refine ⟨h1, hJ, ⟨by simp [asJ, e3, e1], by simp [wsJ, e3, e1], fun k d hd => ?_⟩, rvs_ok R h4 ha⟩
  obtain ⟨c, g1, g2⟩ := e4 k d hd
  have hkl : k < J.length := by rw [← e1]; exact (List.getElem?_eq_some_iff.mp g1).1
  obtain ⟨j, hj⟩ : ∃ j, J[k]? = some j := ⟨J[k], List.getElem?_eq_getElem hkl⟩
  obtain ⟨c', g3, g4⟩ := e2 k j hj
  have hcc : c' = c := Option.some.inj (g4.symm.trans g1)
  subst hcc
  obtain ⟨a, e, g5, g6, g7⟩ := hw.2.2 j _ g3
  refine ⟨a, e, asJ_at hj g5, wsJ_at hj g6, ?_⟩
  have := rc_ok (u := []) R g2 g7
  rw [List.append_nil] at this
  exact this
theorem wsJ_P {D : va_G} {cl : List vw_C} {ws : va_W} {H : Heap} {J : List Nat} (hP : va_P D cl ws H) (hJ : ∀ j ∈ J, j < ws.length) : va_P D cl (wsJ ws J) H := fun k q hq => by
  obtain ⟨j, -, h2⟩ := wsJ_inv hq hJ
  exact hP j q h2
theorem wsJ_D {A : Nat → Prop} {ws : va_W} {J : List Nat} (hn : ndp J = true) (hD : va_D A ws) (hJ : ∀ j ∈ J, j < ws.length) : va_D A (wsJ ws J) := by
  refine ⟨fun i j p q hp hq e => ?_, fun k q hq => ?_⟩
  · obtain ⟨i', h1, h2⟩ := wsJ_inv hp hJ
    obtain ⟨j', h3, h4⟩ := wsJ_inv hq hJ
    have e2 := hD.1 i' j' p q h2 h4 e
    subst e2
    have a1 := sp_ofnd hn h1
    have a2 := sp_ofnd hn h3
    exact Option.some.inj (a1.symm.trans a2)
  · obtain ⟨j, -, h2⟩ := wsJ_inv hq hJ
    exact hD.2 j q h2
set_option maxHeartbeats 1000000 in
/-- laid back -/
theorem mg_world {D : va_G} {cl : List vw_C} {A : Nat → Prop} {as t : List Nat} {tys tys' : List (ClassId × FieldType)} {h cells cs : xH} {ws ws' : va_W} {H H1 : Heap} {J : List Nat} (hw : wr as tys h ws) (hP : va_P D cl ws H) (hD : va_D A ws) (hn : ndp J = true) (hJ : ∀ j ∈ J, j < h.length)
    (hw' : wr (asJ as J ++ t) tys' cells ws') (hJl : J.length ≤ cells.length) (hcs : rcs (bk J h.length) cells = some cs) (hP' : va_P D cl ws' H1) (hD' : va_D (va_A (wsJ ws J) H.size) ws') (hk : ∀ q : Nat, q < H.size → ¬ va_A (wsJ ws J) H.size q → H1[q]? = H[q]?) (hA1 : ∀ q, va_A (wsJ ws J) H.size q → A q) :
    wr (as ++ t) (tys ++ tys') (mg h J cs) (mg ws J ws') ∧ va_P D cl (mg ws J ws') H1 ∧ va_D A (mg ws J ws') ∧ Ren (bk J h.length) (asJ as J ++ t) (as ++ t) := by
  obtain ⟨w1, w2, w3⟩ := hw
  obtain ⟨v1, v2, v3⟩ := hw'
  obtain ⟨c1, c2⟩ := rcs_at hcs
  have lJ : (asJ as J).length = J.length := by simp [asJ]
  have hJa : ∀ j ∈ J, j < as.length := fun j hj => by rw [w1]; exact hJ j hj
  have hJw : ∀ j ∈ J, j < ws.length := fun j hj => by rw [w2]; exact hJ j hj
  have R : Ren (bk J h.length) (asJ as J ++ t) (as ++ t) := by
    intro k j a hb ha
    unfold bk at hb
    by_cases hkl : k < J.length
    · rw [if_pos hkl] at hb
      rw [List.getElem?_append_left (by omega)] at ha
      obtain ⟨j', g1, g2⟩ := asJ_inv ha hJa
      have e1 : j' = j := Option.some.inj (g1.symm.trans hb)
      subst e1
      rw [List.getElem?_append_left (List.getElem?_eq_some_iff.mp g2).1]
      exact g2
    · rw [if_neg hkl] at hb
      cases hb
      rw [List.getElem?_append_right (by omega), lJ] at ha
      rw [List.getElem?_append_right (by omega), show h.length + (k - J.length) - as.length = k - J.length by omega]
      exact ha
  have hcl : J.length ≤ cs.length := by omega
  have hwl : J.length ≤ ws'.length := by omega
  have mh := mg_at (h := h) (cs := cs) hcl hn hJ
  have mw := mg_at (h := ws) (cs := ws') hwl hn hJw
  -- where a cell of the new world comes from
  have src : ∀ (i : Nat) (x : Nat × va_E), (mg ws J ws')[i]? = some x → (∃ k, ws'[k]? = some x ∧ bk J h.length k = some i) ∨ (sp J i = none ∧ ws[i]? = some x) := by
    intro i x hx
    rw [mw i] at hx
    by_cases hi : i < ws.length
    · rw [if_pos hi] at hx
      cases hs : sp J i with
      | none => rw [hs] at hx; exact Or.inr ⟨rfl, hx⟩
      | some k =>
        rw [hs] at hx
        have hkJ := sp_at hs
        exact Or.inl ⟨k, hx, by unfold bk; rw [if_pos (List.getElem?_eq_some_iff.mp hkJ).1]; exact hkJ⟩
    · rw [if_neg hi] at hx
      exact Or.inl ⟨J.length + (i - ws.length), hx, by unfold bk; rw [if_neg (by omega)]; congr 1; omega⟩
  have far : ∀ (i : Nat) (x : Nat × va_E), sp J i = none → ws[i]? = some x → x.1 < H.size ∧ ¬ va_A (wsJ ws J) H.size x.1 := by
    intro i x hs hx
    have hl := (hP i x hx).lt
    refine ⟨hl, fun z => ?_⟩
    rcases z with ⟨k, e, z⟩ | z
    · obtain ⟨j, g1, g2⟩ := wsJ_inv z hJw
      have e1 := hD.1 i j x (x.1, e) hx g2 rfl
      subst e1
      rw [sp_ofnd hn g1] at hs
      cases hs
    · omega
  refine ⟨⟨?_, ?_, fun i d hd => ?_⟩, fun i x hx => ?_, ⟨fun i j p q hp hq e => ?_, fun i x hx => ?_⟩, R⟩
  · rw [List.length_append, mg_len hcl, w1]
    have := congrArg List.length (rfl : asJ as J ++ t = asJ as J ++ t)
    rw [List.length_append, lJ] at v1
    omega
  · rw [mg_len hwl, mg_len hcl]
    omega
  · rw [mh i] at hd
    by_cases hi : i < h.length
    · rw [if_pos hi] at hd
      cases hs : sp J i with
      | none =>
        rw [hs] at hd
        obtain ⟨a, e, g1, g2, g3⟩ := w3 i d hd
        exact ⟨a, e, by rw [List.getElem?_append_left (by omega)]; exact g1, by rw [mw i, if_pos (by omega), hs]; exact g2, cr_app g3⟩
      | some k =>
        rw [hs] at hd
        obtain ⟨c0, g1, g2⟩ := c2 k d hd
        obtain ⟨a, e, g3, g4, g5⟩ := v3 k c0 g1
        have hkJ := sp_at hs
        have hbk : bk J h.length k = some i := by unfold bk; rw [if_pos (List.getElem?_eq_some_iff.mp hkJ).1]; exact hkJ
        refine ⟨a, e, R k i a hbk g3, by rw [mw i, if_pos (by omega), hs]; exact g4, cr_left ?_⟩
        have := rc_ok (u := []) R g2 g5
        rw [List.append_nil] at this
        exact this
    · rw [if_neg hi] at hd
      obtain ⟨c0, g1, g2⟩ := c2 _ d hd
      obtain ⟨a, e, g3, g4, g5⟩ := v3 _ c0 g1
      have hbk : bk J h.length (J.length + (i - h.length)) = some i := by unfold bk; rw [if_neg (by omega)]; congr 1; omega
      refine ⟨a, e, R _ i a hbk g3, by rw [mw i, if_neg (by omega), w2]; exact g4, cr_left ?_⟩
      have := rc_ok (u := []) R g2 g5
      rw [List.append_nil] at this
      exact this
  · rcases src i x hx with ⟨k, g1, -⟩ | ⟨g1, g2⟩
    · exact hP' k x g1
    · obtain ⟨f1, f2⟩ := far i x g1 g2
      exact (hP i x g2).kept (hk x.1 f1 f2)
  · rcases src i p hp with ⟨k, g1, b1⟩ | ⟨g1, g2⟩ <;> rcases src j q hq with ⟨k2, g3, b2⟩ | ⟨g3, g4⟩
    · have e1 := hD'.1 k k2 p q g1 g3 e
      subst e1
      exact Option.some.inj (b1.symm.trans b2)
    · exact absurd (by rw [← e]; exact hD'.2 k p g1) (far j q g3 g4).2
    · exact absurd (by rw [e]; exact hD'.2 k2 q g3) (far i p g1 g2).2
    · exact hD.1 i j p q g2 g4 e
  · rcases src i x hx with ⟨k, g1, -⟩ | ⟨g1, g2⟩
    · exact hA1 _ (hD'.2 k x g1)
    · exact hD.2 i x g2
