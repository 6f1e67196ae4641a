/-! the parts are those of the fresh desk, further -/
set_option maxRecDepth 1000000 in
theorem cutN_4 : (List.range 8).all (fun j => Nat.beq 4 j || (cutB (Jn (482 + 21 * 4) (482 + 21 * j)) [.ref 367, .ref (482 + 21 * 4), .ref (482 + 21 * j), .int (nI 1), .ref 284] [.ref 0, .ref 113, .ref 129, .int (nI 1), .ref 97] DN && (bkB (Jn (482 + 21 * 4) (482 + 21 * j)) (stH DN1 DN) H51 && bkB (Jn (482 + 21 * 4) (482 + 21 * j)) (stH DN0 DN) H50))) = true := by decide +kernel
set_option maxRecDepth 1000000 in
theorem cutN_5 : (List.range 8).all (fun j => Nat.beq 5 j || (cutB (Jn (482 + 21 * 5) (482 + 21 * j)) [.ref 367, .ref (482 + 21 * 5), .ref (482 + 21 * j), .int (nI 1), .ref 284] [.ref 0, .ref 113, .ref 129, .int (nI 1), .ref 97] DN && (bkB (Jn (482 + 21 * 5) (482 + 21 * j)) (stH DN1 DN) H51 && bkB (Jn (482 + 21 * 5) (482 + 21 * j)) (stH DN0 DN) H50))) = true := by decide +kernel
set_option maxRecDepth 1000000 in
theorem cutN_6 : (List.range 8).all (fun j => Nat.beq 6 j || (cutB (Jn (482 + 21 * 6) (482 + 21 * j)) [.ref 367, .ref (482 + 21 * 6), .ref (482 + 21 * j), .int (nI 1), .ref 284] [.ref 0, .ref 113, .ref 129, .int (nI 1), .ref 97] DN && (bkB (Jn (482 + 21 * 6) (482 + 21 * j)) (stH DN1 DN) H51 && bkB (Jn (482 + 21 * 6) (482 + 21 * j)) (stH DN0 DN) H50))) = true := by decide +kernel
set_option maxRecDepth 1000000 in
theorem cutN_7 : (List.range 8).all (fun j => Nat.beq 7 j || (cutB (Jn (482 + 21 * 7) (482 + 21 * j)) [.ref 367, .ref (482 + 21 * 7), .ref (482 + 21 * j), .int (nI 1), .ref 284] [.ref 0, .ref 113, .ref 129, .int (nI 1), .ref 97] DN && (bkB (Jn (482 + 21 * 7) (482 + 21 * j)) (stH DN1 DN) H51 && bkB (Jn (482 + 21 * 7) (482 + 21 * j)) (stH DN0 DN) H50))) = true := by decide +kernel
theorem cutN : ∀ i, i < 8 → (List.range 8).all (fun j => Nat.beq i j || (cutB (Jn (482 + 21 * i) (482 + 21 * j)) [.ref 367, .ref (482 + 21 * i), .ref (482 + 21 * j), .int (nI 1), .ref 284] [.ref 0, .ref 113, .ref 129, .int (nI 1), .ref 97] DN && (bkB (Jn (482 + 21 * i) (482 + 21 * j)) (stH DN1 DN) H51 && bkB (Jn (482 + 21 * i) (482 + 21 * j)) (stH DN0 DN) H50))) = true := fun i h => match i, h with
  | 0, _ => cutN_0
  | 1, _ => cutN_1
  | 2, _ => cutN_2
  | 3, _ => cutN_3
  | 4, _ => cutN_4
  | 5, _ => cutN_5
  | 6, _ => cutN_6
  | 7, _ => cutN_7
  | k + 8, h => absurd h (by omega)
