/-! the fresh desk: print -/
/-- what stands at the printer's place -/
def prC : xC := .inl (10, [.ref 452, .int 0, .ref 35, .ref 104, .ref 453, .ref 469, .ref 471, .ref 473, .ref 475, .ref 477, .ref 479])
theorem HS_at {k i : Nat} {c : xC} (hk : k < 31) (h : tg (HST k) i = some c) : (HS k)[i]? = some c := by rw [← HS_rep hk i]; exact h
set_option maxRecDepth 1000000 in
theorem pr_HS : ∀ k, k < 31 → (HS k)[451]? = some prC ∧ (HS k)[469]?.isSome = true := by
  have : (List.range 31).all (fun k => eqO (tg (HST k) 451) prC && (tg (HST k) 469).isSome) = true := by decide +kernel
  intro k hk
  have h := List.all_eq_true.mp this k (List.mem_range.mpr hk)
  rw [Bool.and_eq_true] at h
  exact ⟨HS_at hk (eqO_ok h.1), by rw [← HS_rep hk 469]; exact h.2⟩
theorem sc_HS : ∀ k, k < 31 → ∃ vs, (HS k)[469]? = some (.inl (0, vs)) := by
  have : (List.range 31).all (fun k => match tg (HST k) 469 with | some (.inl (0, _)) => true | _ => false) = true := by decide +kernel
  intro k hk
  have h := List.all_eq_true.mp this k (List.mem_range.mpr hk)
  rw [HS_rep hk 469] at h
  split at h
  · next vs e => exact ⟨vs, e⟩
  · cases h
set_option maxRecDepth 100000 in
set_option maxHeartbeats 4000000 in
theorem wr_loop {fb lb kk j : Nat} (hf : 6 ≤ fb) (hl : 230 ≤ lb) (hkk : kk ≤ 30) (hj : j < 8) {Q : yR → Prop} (hq : ∀ h, Q (.inl (some (.int 1)), h, 0, 0)) :
    ∀ (d k : Nat), k + d = kk → gX fb lb 146 10 [(3, .int (nI k)), (0, .ref 451), (1, .ref (481 + 21 * j)), (2, .int (nI kk))] [] (HS k) 0 0 Q := by
  intro d
  induction d with
  | zero =>
    intro k hk
    have hk : k = kk := by omega
    subst hk
    refine blk_go ob_146 (fun pc => Nat.beq pc 10 || Nat.beq pc 30) 30 ?_
    (conv => whnf); refine br_t (nI_le (a := k) (b := k) (by omega) (by omega)) ?_
    exact go_run3 (HS_rep (by omega)) (List.all_eq_true.mp (kr_wr k (by omega)) j (List.mem_range.mpr hj)) (by omega) (by omega) (fun v t' h' h1 _ => by rw [of_decide_eq_true h1]; exact hq h')
  | succ d ih =>
    intro k hk
    obtain ⟨vs, hvs⟩ := sc_HS k (by omega)
    have hpr := (pr_HS k (by omega)).1
    generalize hH : HS k = Hk at hvs hpr ⊢
    refine blk_go ob_146 (fun pc => Nat.beq pc 10 || Nat.beq pc 30) 30 ?_
    (conv => whnf); refine br_f (nI_ge (a := k) (b := kk) (by omega) (by omega)) ?_
    (conv => whnf)
    rw [hpr]
    refine vB (idx := 60) (mj := 40) (q := 1) (n := 8) [.ref 469, .int (nI 10)] ((ob_146.1 21).trans rfl) rfl rfl (Nat.le_of_ble_eq_true rfl) rfl (hvs) rfl rfl (hH ▸ k_sc (by omega)) (Nat.le_of_ble_eq_true rfl) (by omega) rfl (by omega) (Nat.le_of_ble_eq_true rfl) (fun v h1 e => ?_)
    obtain ⟨rfl, rfl⟩ := e
    generalize hH2 : HS (k + 1) = Hk2
    refine blk_go ob_146 (fun pc => Nat.beq pc 10) 30 ?_
    show gX fb lb 146 10 [(3, .int (nI k + Int32.ofInt 1)), (0, .ref 451), (1, .ref (481 + 21 * j)), (2, .int (nI kk))] [] Hk2 0 0 Q
    rw [n_inc, ← hH2]
    exact ih (k + 1) (by omega)
