/-! the parts are those of the fresh desk, the rest -/
set_option maxRecDepth 1000000 in
theorem cutS : (List.range 8).all (fun i => cutB (Jn (482 + 21 * i) 305) [.ref 367, .ref (482 + 21 * i), .ref 305, .int (nI 1), .ref 284] [.ref 0, .ref 113, .ref 129, .int (nI 1), .ref 97] DN && bkB (Jn (482 + 21 * i) 305) (stH DN1 DN) H51) = true := by decide +kernel
set_option maxRecDepth 1000000 in
theorem cutE : (List.range 8).all (fun i => cutB (Je (482 + 21 * i)) [.ref 367, .ref (482 + 21 * i), .ref (482 + 21 * i), .int (nI 1), .ref 284] [.ref 0, .ref 113, .ref 113, .int (nI 1), .ref 97] DE && (bkB (Je (482 + 21 * i)) (stH DE1 DE) H51 && bkB (Je (482 + 21 * i)) (stH DE0 DE) H50)) = true := by decide +kernel
