/-! the parts are those of the fresh desk -/
noncomputable def cutB (J : List Nat) (avs bvs : List Value) (D : xH) : Bool := ndp J && ((match pick H0 J with
  | some cs => (match rcs (sp J) cs with | some ds => eqH ds D | none => false)
  | none => false) && decide (rvs (sp J) avs = some bvs))
theorem cutB_ok {J : List Nat} {avs bvs : List Value} {D : xH} (h : cutB J avs bvs D = true) : cutJ H0 avs J D bvs := by
  unfold cutB at h
  simp only [Bool.and_eq_true, decide_eq_true_eq] at h
  obtain ⟨h1, h2, h3⟩ := h
  split at h2
  · next cs e1 =>
    split at h2
    · next ds e2 => exact ⟨h1, cs, e1, by rw [e2, eqH_ok h2], h3⟩
    · cases h2
  · cases h2
noncomputable def bkB (J : List Nat) (D H5 : xH) : Bool := Nat.ble J.length D.length && (match rcs (bk J 649) D with
  | some cs => eqH (mg H0 J cs) H5
  | none => false)
theorem bkB_ok {J : List Nat} {D H5 : xH} (h : bkB J D H5 = true) : J.length ≤ D.length ∧ ∃ cs, rcs (bk J H0.length) D = some cs ∧ mg H0 J cs = H5 := by
  unfold bkB at h
  rw [Bool.and_eq_true] at h
  refine ⟨Nat.le_of_ble_eq_true h.1, ?_⟩
  rw [len_H0]
  have h2 := h.2
  split at h2
  · next cs e => exact ⟨cs, e, eqH_ok h2⟩
  · cases h2
def H51 : xH := stH S51 H0
def H50 : xH := stH S50 H0
set_option maxRecDepth 1000000 in
theorem cutN_0 : (List.range 8).all (fun j => Nat.beq 0 j || (cutB (Jn (482 + 21 * 0) (482 + 21 * j)) [.ref 367, .ref (482 + 21 * 0), .ref (482 + 21 * j), .int (nI 1), .ref 284] [.ref 0, .ref 113, .ref 129, .int (nI 1), .ref 97] DN && (bkB (Jn (482 + 21 * 0) (482 + 21 * j)) (stH DN1 DN) H51 && bkB (Jn (482 + 21 * 0) (482 + 21 * j)) (stH DN0 DN) H50))) = true := by decide +kernel
set_option maxRecDepth 1000000 in
theorem cutN_1 : (List.range 8).all (fun j => Nat.beq 1 j || (cutB (Jn (482 + 21 * 1) (482 + 21 * j)) [.ref 367, .ref (482 + 21 * 1), .ref (482 + 21 * j), .int (nI 1), .ref 284] [.ref 0, .ref 113, .ref 129, .int (nI 1), .ref 97] DN && (bkB (Jn (482 + 21 * 1) (482 + 21 * j)) (stH DN1 DN) H51 && bkB (Jn (482 + 21 * 1) (482 + 21 * j)) (stH DN0 DN) H50))) = true := by decide +kernel
set_option maxRecDepth 1000000 in
theorem cutN_2 : (List.range 8).all (fun j => Nat.beq 2 j || (cutB (Jn (482 + 21 * 2) (482 + 21 * j)) [.ref 367, .ref (482 + 21 * 2), .ref (482 + 21 * j), .int (nI 1), .ref 284] [.ref 0, .ref 113, .ref 129, .int (nI 1), .ref 97] DN && (bkB (Jn (482 + 21 * 2) (482 + 21 * j)) (stH DN1 DN) H51 && bkB (Jn (482 + 21 * 2) (482 + 21 * j)) (stH DN0 DN) H50))) = true := by decide +kernel
set_option maxRecDepth 1000000 in
theorem cutN_3 : (List.range 8).all (fun j => Nat.beq 3 j || (cutB (Jn (482 + 21 * 3) (482 + 21 * j)) [.ref 367, .ref (482 + 21 * 3), .ref (482 + 21 * j), .int (nI 1), .ref 284] [.ref 0, .ref 113, .ref 129, .int (nI 1), .ref 97] DN && (bkB (Jn (482 + 21 * 3) (482 + 21 * j)) (stH DN1 DN) H51 && bkB (Jn (482 + 21 * 3) (482 + 21 * j)) (stH DN0 DN) H50))) = true := by decide +kernel
