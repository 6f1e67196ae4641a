theorem okB_of {mi nL : Nat} {D : List (List (Nat × Instr))} {fl : List (Nat × Nat × Nat × FieldType × Bool)} {ki : List (Nat × Int32)} {kl : List (Nat × Int64)} (h1 : deT.getD mi [] = D) (h2 : fl.all (fun q => decide (xfld xX mi q.1 = some (q.2.1, q.2.2.1)) && (decide (xput xX mi q.1 = q.2.2.2.2) && (Nat.blt q.2.2.1 (xnf xX q.2.1) && decide (xft xX q.2.1 q.2.2.1 = q.2.2.2.1)))) = true)
    (h3 : ki.all (fun q => decide (xki xX mi q.1 = some q.2)) = true) (h4 : kl.all (fun q => decide (xkl xX mi q.1 = some q.2)) = true) (h5 : xml xX mi = nL) : okB xX mi (fun pc => look (D.getD (pc / 16) []) pc, fun i => look fl i, fun i => look ki i, fun i => look kl i, nL) := by
  refine ⟨fun pc => by rw [← h1]; rfl, fun idx ci k ty p h => ?_, fun idx v h => ?_, fun idx v h => ?_, h5⟩
  · have := List.all_eq_true.mp h2 _ (look_mem h)
    simp only [Bool.and_eq_true, decide_eq_true_eq] at this
    exact ⟨this.1, this.2.1, Nat.le_of_ble_eq_true this.2.2.1, this.2.2.2⟩
  · simpa using List.all_eq_true.mp h3 _ (look_mem h)
  · simpa using List.all_eq_true.mp h4 _ (look_mem h)
-- RootDesk$Big.assignLong(J)V
def bp_4 : bP := (fun pc => look (D4.getD (pc / 16) []) pc, fun i => look [(17, 0, 2, .int, true), (13, 0, 1, .int, true), (9, 0, 0, .array (.int), true)] i, fun i => look [] i, fun i => look [(20, 1073741823)] i, 6)
theorem ob_4 : okB xX 4 bp_4 := okB_of rfl (by decide +kernel) (by decide +kernel) (by decide +kernel) rfl
-- RootDesk$Real.weigh(II)V
def bp_13 : bP := (fun pc => look (D13.getD (pc / 16) []) pc, fun i => look [(37, 2, 6, .int, true), (40, 2, 7, .int, true)] i, fun i => look [] i, fun i => look [] i, 3)
theorem ob_13 : okB xX 13 bp_13 := okB_of rfl (by decide +kernel) (by decide +kernel) (by decide +kernel) rfl
-- RootDesk.degree()I
def bp_14 : bP := (fun pc => look (D14.getD (pc / 16) []) pc, fun i => look [(9, 11, 0, .array (.int), false)] i, fun i => look [] i, fun i => look [] i, 2)
theorem ob_14 : okB xX 14 bp_14 := okB_of rfl (by decide +kernel) (by decide +kernel) (by decide +kernel) rfl
-- RootDesk.roots()I
def bp_15 : bP := (fun pc => look (D15.getD (pc / 16) []) pc, fun i => look [(51, 11, 5, .object "RootDesk$Isolator", false), (97, 6, 1, .int, true)] i, fun i => look [] i, fun i => look [] i, 1)
theorem ob_15 : okB xX 15 bp_15 := okB_of rfl (by decide +kernel) (by decide +kernel) (by decide +kernel) rfl
-- RootDesk.findRoots()V
def bp_16 : bP := (fun pc => look (D16.getD (pc / 16) []) pc, fun i => look [(29, 11, 9, .boolean, true), (22, 11, 2, .object "RootDesk$Poly", false), (175, 1, 0, .array (.object "RootDesk$Big"), false), (9, 11, 0, .array (.int), false), (188, 1, 1, .int, true), (51, 11, 5, .object "RootDesk$Isolator", false), (97, 6, 1, .int, true), (26, 11, 3, .object "RootDesk$Poly", false), (60, 11, 6, .object "RootDesk$Maker", false)] i, fun i => look [] i, fun i => look [] i, 2)
theorem ob_16 : okB xX 16 bp_16 := okB_of rfl (by decide +kernel) (by decide +kernel) (by decide +kernel) rfl
-- RootDesk$Poly.settle(I)V
def bp_17 : bP := (fun pc => look (D17.getD (pc / 16) []) pc, fun i => look [(17, 1, 1, .int, true), (11, 1, 0, .array (.object "RootDesk$Big"), false), (26, 0, 2, .int, true)] i, fun i => look [] i, fun i => look [] i, 2)
theorem ob_17 : okB xX 17 bp_17 := okB_of rfl (by decide +kernel) (by decide +kernel) (by decide +kernel) rfl
-- RootDesk$Poly.assign(LRootDesk$Poly;)V
def bp_18 : bP := (fun pc => look (D18.getD (pc / 16) []) pc, fun i => look [(17, 1, 1, .int, true), (11, 1, 0, .array (.object "RootDesk$Big"), false)] i, fun i => look [] i, fun i => look [] i, 3)
theorem ob_18 : okB xX 18 bp_18 := okB_of rfl (by decide +kernel) (by decide +kernel) (by decide +kernel) rfl
-- RootDesk$Big.assign(LRootDesk$Big;)V
def bp_19 : bP := (fun pc => look (D19.getD (pc / 16) []) pc, fun i => look [(9, 0, 0, .array (.int), true), (13, 0, 1, .int, true), (17, 0, 2, .int, true)] i, fun i => look [] i, fun i => look [] i, 3)
theorem ob_19 : okB xX 19 bp_19 := okB_of rfl (by decide +kernel) (by decide +kernel) (by decide +kernel) rfl
-- RootDesk$Maker.dropDoubles(LRootDesk$Poly;)V
def bp_20 : bP := (fun pc => look (D20.getD (pc / 16) []) pc, fun i => look [(50, 8, 0, .object "RootDesk$Divider", false), (86, 1, 1, .int, true), (24, 8, 7, .object "RootDesk$Poly", false), (54, 8, 1, .object "RootDesk$Modular", false), (28, 8, 8, .object "RootDesk$Poly", false)] i, fun i => look [] i, fun i => look [] i, 2)
theorem ob_20 : okB xX 20 bp_20 := okB_of rfl (by decide +kernel) (by decide +kernel) (by decide +kernel) rfl
-- RootDesk$Divider.makePrimitive(LRootDesk$Poly;)V
def bp_21 : bP := (fun pc => look (D21.getD (pc / 16) []) pc, fun i => look [(19, 3, 2, .object "RootDesk$Big", false), (119, 1, 1, .int, true), (126, 1, 0, .array (.object "RootDesk$Big"), false), (83, 0, 2, .int, true)] i, fun i => look [] i, fun i => look [] i, 3)
theorem ob_21 : okB xX 21 bp_21 := okB_of rfl (by decide +kernel) (by decide +kernel) (by decide +kernel) rfl
-- RootDesk$Big.clear()V
def bp_22 : bP := (fun pc => look (D22.getD (pc / 16) []) pc, fun i => look [(13, 0, 1, .int, true), (17, 0, 2, .int, true)] i, fun i => look [] i, fun i => look [] i, 1)
theorem ob_22 : okB xX 22 bp_22 := okB_of rfl (by decide +kernel) (by decide +kernel) (by decide +kernel) rfl
-- RootDesk$Big.isOne()Z
def bp_23 : bP := (fun pc => look (D23.getD (pc / 16) []) pc, fun i => look [(17, 0, 2, .int, true), (13, 0, 1, .int, true), (9, 0, 0, .array (.int), true)] i, fun i => look [] i, fun i => look [] i, 1)
theorem ob_23 : okB xX 23 bp_23 := okB_of rfl (by decide +kernel) (by decide +kernel) (by decide +kernel) rfl
-- RootDesk$Divider.common(LRootDesk$Big;LRootDesk$Big;LRootDesk$Big;)V
def bp_24 : bP := (fun pc => look (D24.getD (pc / 16) []) pc, fun i => look [(33, 3, 5, .object "RootDesk$Big", true), (36, 3, 6, .object "RootDesk$Big", true), (83, 0, 2, .int, true), (46, 0, 1, .int, true), (10, 3, 0, .object "RootDesk$Big", false), (39, 3, 7, .object "RootDesk$Big", true)] i, fun i => look [(105, 1000000)] i, fun i => look [] i, 6)
theorem ob_24 : okB xX 24 bp_24 := okB_of rfl (by decide +kernel) (by decide +kernel) (by decide +kernel) rfl
-- RootDesk$Divider.quotient(LRootDesk$Big;LRootDesk$Big;LRootDesk$Big;LRootDesk$Big;)V
def bp_25 : bP := (fun pc => look (D25.getD (pc / 16) []) pc, fun i => look [(46, 0, 1, .int, true), (57, 0, 0, .array (.int), true), (29, 3, 4, .array (.int), true), (83, 0, 2, .int, true)] i, fun i => look [] i, fun i => look [] i, 9)
theorem ob_25 : okB xX 25 bp_25 := okB_of rfl (by decide +kernel) (by decide +kernel) (by decide +kernel) rfl
-- RootDesk$Big.divideSmall(I)I
def bp_26 : bP := (fun pc => look (D26.getD (pc / 16) []) pc, fun i => look [(13, 0, 1, .int, true), (9, 0, 0, .array (.int), true), (17, 0, 2, .int, true)] i, fun i => look [] i, fun i => look [] i, 5)
theorem ob_26 : okB xX 26 bp_26 := okB_of rfl (by decide +kernel) (by decide +kernel) (by decide +kernel) rfl
-- RootDesk$Divider.makeRoom(IILRootDesk$Big;LRootDesk$Big;)V
def bp_27 : bP := (fun pc => look (D27.getD (pc / 16) []) pc, fun i => look [(29, 3, 4, .array (.int), true), (57, 0, 0, .array (.int), true)] i, fun i => look [] i, fun i => look [] i, 5)
theorem ob_27 : okB xX 27 bp_27 := okB_of rfl (by decide +kernel) (by decide +kernel) (by decide +kernel) rfl
-- RootDesk$Big.bitsOf(I)I
def bp_28 : bP := (fun pc => look (D28.getD (pc / 16) []) pc, fun i => look [] i, fun i => look [] i, fun i => look [] i, 4)
theorem ob_28 : okB xX 28 bp_28 := okB_of rfl (by decide +kernel) (by decide +kernel) (by decide +kernel) rfl
-- RootDesk$Divider.shiftInto([ILRootDesk$Big;I)V
def bp_29 : bP := (fun pc => look (D29.getD (pc / 16) []) pc, fun i => look [(46, 0, 1, .int, true), (57, 0, 0, .array (.int), true)] i, fun i => look [(89, 1073741823)] i, fun i => look [] i, 6)
theorem ob_29 : okB xX 29 bp_29 := okB_of rfl (by decide +kernel) (by decide +kernel) (by decide +kernel) rfl
-- RootDesk$Divider.digit([I[III)I
def bp_30 : bP := (fun pc => look (D30.getD (pc / 16) []) pc, fun i => look [] i, fun i => look [(89, 1073741823)] i, fun i => look [(101, 1073741824), (103, 1073741823)] i, 17)
theorem ob_30 : okB xX 30 bp_30 := okB_of rfl (by decide +kernel) (by decide +kernel) (by decide +kernel) rfl
-- RootDesk$Divider.shiftBack([III)V
def bp_31 : bP := (fun pc => look (D31.getD (pc / 16) []) pc, fun i => look [] i, fun i => look [(89, 1073741823)] i, fun i => look [] i, 5)
theorem ob_31 : okB xX 31 bp_31 := okB_of rfl (by decide +kernel) (by decide +kernel) (by decide +kernel) rfl
-- RootDesk$Big.trim()V
def bp_32 : bP := (fun pc => look (D32.getD (pc / 16) []) pc, fun i => look [(13, 0, 1, .int, true), (9, 0, 0, .array (.int), true), (17, 0, 2, .int, true)] i, fun i => look [] i, fun i => look [] i, 1)
theorem ob_32 : okB xX 32 bp_32 := okB_of rfl (by decide +kernel) (by decide +kernel) (by decide +kernel) rfl
-- RootDesk$Big.smallSize()J
def bp_33 : bP := (fun pc => look (D33.getD (pc / 16) []) pc, fun i => look [(13, 0, 1, .int, true), (9, 0, 0, .array (.int), true)] i, fun i => look [] i, fun i => look [] i, 3)
theorem ob_33 : okB xX 33 bp_33 := okB_of rfl (by decide +kernel) (by decide +kernel) (by decide +kernel) rfl
-- RootDesk$Divider.commonSmall(JJ)J
def bp_34 : bP := (fun pc => look (D34.getD (pc / 16) []) pc, fun i => look [] i, fun i => look [] i, fun i => look [] i, 11)
theorem ob_34 : okB xX 34 bp_34 := okB_of rfl (by decide +kernel) (by decide +kernel) (by decide +kernel) rfl
-- RootDesk$Divider.divideAll(LRootDesk$Poly;LRootDesk$Big;)V
def bp_35 : bP := (fun pc => look (D35.getD (pc / 16) []) pc, fun i => look [(119, 1, 1, .int, true), (126, 1, 0, .array (.object "RootDesk$Big"), false), (10, 3, 0, .object "RootDesk$Big", false), (39, 3, 7, .object "RootDesk$Big", true)] i, fun i => look [] i, fun i => look [] i, 4)
theorem ob_35 : okB xX 35 bp_35 := okB_of rfl (by decide +kernel) (by decide +kernel) (by decide +kernel) rfl
-- RootDesk$Poly.raiseLead()V
def bp_36 : bP := (fun pc => look (D36.getD (pc / 16) []) pc, fun i => look [(26, 0, 2, .int, true), (17, 1, 1, .int, true), (11, 1, 0, .array (.object "RootDesk$Big"), false)] i, fun i => look [] i, fun i => look [] i, 2)
theorem ob_36 : okB xX 36 bp_36 := okB_of rfl (by decide +kernel) (by decide +kernel) (by decide +kernel) rfl
-- RootDesk$Poly.lead()LRootDesk$Big;
def bp_37 : bP := (fun pc => look (D37.getD (pc / 16) []) pc, fun i => look [(11, 1, 0, .array (.object "RootDesk$Big"), false), (17, 1, 1, .int, true)] i, fun i => look [] i, fun i => look [] i, 1)
theorem ob_37 : okB xX 37 bp_37 := okB_of rfl (by decide +kernel) (by decide +kernel) (by decide +kernel) rfl
-- RootDesk$Big.flip()V
def bp_38 : bP := (fun pc => look (D38.getD (pc / 16) []) pc, fun i => look [(17, 0, 2, .int, true)] i, fun i => look [] i, fun i => look [] i, 1)
theorem ob_38 : okB xX 38 bp_38 := okB_of rfl (by decide +kernel) (by decide +kernel) (by decide +kernel) rfl
-- RootDesk$Poly.assignSlope(LRootDesk$Poly;)V
def bp_39 : bP := (fun pc => look (D39.getD (pc / 16) []) pc, fun i => look [(17, 1, 1, .int, true), (11, 1, 0, .array (.object "RootDesk$Big"), false)] i, fun i => look [] i, fun i => look [] i, 3)
theorem ob_39 : okB xX 39 bp_39 := okB_of rfl (by decide +kernel) (by decide +kernel) (by decide +kernel) rfl
-- RootDesk$Big.timesSmall(I)V
def bp_40 : bP := (fun pc => look (D40.getD (pc / 16) []) pc, fun i => look [(9, 0, 0, .array (.int), true), (13, 0, 1, .int, true), (17, 0, 2, .int, true)] i, fun i => look [] i, fun i => look [(20, 1073741823)] i, 8)
theorem ob_40 : okB xX 40 bp_40 := okB_of rfl (by decide +kernel) (by decide +kernel) (by decide +kernel) rfl
-- RootDesk$Big.bits()I
def bp_42 : bP := (fun pc => look (D42.getD (pc / 16) []) pc, fun i => look [(13, 0, 1, .int, true), (9, 0, 0, .array (.int), true)] i, fun i => look [] i, fun i => look [] i, 1)
theorem ob_42 : okB xX 42 bp_42 := okB_of rfl (by decide +kernel) (by decide +kernel) (by decide +kernel) rfl
-- RootDesk$Big.modulo(I)I
def bp_43 : bP := (fun pc => look (D43.getD (pc / 16) []) pc, fun i => look [(13, 0, 1, .int, true), (9, 0, 0, .array (.int), true), (17, 0, 2, .int, true)] i, fun i => look [] i, fun i => look [] i, 5)
theorem ob_43 : okB xX 43 bp_43 := okB_of rfl (by decide +kernel) (by decide +kernel) (by decide +kernel) rfl
-- RootDesk$Big.plus(LRootDesk$Big;LRootDesk$Big;)V
def bp_51 : bP := (fun pc => look (D51.getD (pc / 16) []) pc, fun i => look [(17, 0, 2, .int, true)] i, fun i => look [] i, fun i => look [] i, 4)
theorem ob_51 : okB xX 51 bp_51 := okB_of rfl (by decide +kernel) (by decide +kernel) (by decide +kernel) rfl
-- RootDesk$Big.addSizes(LRootDesk$Big;LRootDesk$Big;I)V
def bp_52 : bP := (fun pc => look (D52.getD (pc / 16) []) pc, fun i => look [(13, 0, 1, .int, true), (9, 0, 0, .array (.int), true), (17, 0, 2, .int, true)] i, fun i => look [(41, 1073741823)] i, fun i => look [] i, 11)
theorem ob_52 : okB xX 52 bp_52 := okB_of rfl (by decide +kernel) (by decide +kernel) (by decide +kernel) rfl
-- RootDesk$Big.takeSizes(LRootDesk$Big;LRootDesk$Big;I)V
def bp_53 : bP := (fun pc => look (D53.getD (pc / 16) []) pc, fun i => look [(9, 0, 0, .array (.int), true), (13, 0, 1, .int, true), (17, 0, 2, .int, true)] i, fun i => look [(41, 1073741823)] i, fun i => look [] i, 13)
theorem ob_53 : okB xX 53 bp_53 := okB_of rfl (by decide +kernel) (by decide +kernel) (by decide +kernel) rfl
-- RootDesk$Divider.divides(LRootDesk$Poly;LRootDesk$Poly;LRootDesk$Poly;)Z
def bp_54 : bP := (fun pc => look (D54.getD (pc / 16) []) pc, fun i => look [(119, 1, 1, .int, true), (25, 3, 3, .object "RootDesk$Poly", false), (126, 1, 0, .array (.object "RootDesk$Big"), false), (39, 3, 7, .object "RootDesk$Big", true), (83, 0, 2, .int, true), (10, 3, 0, .object "RootDesk$Big", false)] i, fun i => look [] i, fun i => look [] i, 6)
theorem ob_54 : okB xX 54 bp_54 := okB_of rfl (by decide +kernel) (by decide +kernel) (by decide +kernel) rfl
-- RootDesk$Big.times(LRootDesk$Big;LRootDesk$Big;)V
def bp_55 : bP := (fun pc => look (D55.getD (pc / 16) []) pc, fun i => look [(13, 0, 1, .int, true), (9, 0, 0, .array (.int), true), (17, 0, 2, .int, true)] i, fun i => look [] i, fun i => look [(20, 1073741823)] i, 14)
theorem ob_55 : okB xX 55 bp_55 := okB_of rfl (by decide +kernel) (by decide +kernel) (by decide +kernel) rfl
-- RootDesk$Big.minus(LRootDesk$Big;LRootDesk$Big;)V
def bp_56 : bP := (fun pc => look (D56.getD (pc / 16) []) pc, fun i => look [(17, 0, 2, .int, true)] i, fun i => look [] i, fun i => look [] i, 4)
theorem ob_56 : okB xX 56 bp_56 := okB_of rfl (by decide +kernel) (by decide +kernel) (by decide +kernel) rfl
-- RootDesk$Poly.assignOne()V
def bp_57 : bP := (fun pc => look (D57.getD (pc / 16) []) pc, fun i => look [(11, 1, 0, .array (.object "RootDesk$Big"), false), (17, 1, 1, .int, true)] i, fun i => look [] i, fun i => look [] i, 1)
theorem ob_57 : okB xX 57 bp_57 := okB_of rfl (by decide +kernel) (by decide +kernel) (by decide +kernel) rfl
-- RootDesk.rootBound()I
def bp_58 : bP := (fun pc => look (D58.getD (pc / 16) []) pc, fun i => look [(9, 11, 0, .array (.int), false), (22, 11, 2, .object "RootDesk$Poly", false), (188, 1, 1, .int, true)] i, fun i => look [] i, fun i => look [] i, 4)
theorem ob_58 : okB xX 58 bp_58 := okB_of rfl (by decide +kernel) (by decide +kernel) (by decide +kernel) rfl
-- RootDesk$Big.shiftUp(I)V
def bp_61 : bP := (fun pc => look (D61.getD (pc / 16) []) pc, fun i => look [(17, 0, 2, .int, true), (13, 0, 1, .int, true), (9, 0, 0, .array (.int), true)] i, fun i => look [(41, 1073741823)] i, fun i => look [] i, 8)
theorem ob_61 : okB xX 61 bp_61 := okB_of rfl (by decide +kernel) (by decide +kernel) (by decide +kernel) rfl
-- RootDesk$Real.becomePoint(LRootDesk$Big;I)V
def bp_69 : bP := (fun pc => look (D69.getD (pc / 16) []) pc, fun i => look [(19, 2, 1, .object "RootDesk$Big", false), (61, 0, 2, .int, true), (26, 2, 3, .int, true), (23, 2, 2, .object "RootDesk$Big", false), (33, 2, 5, .boolean, true), (10, 2, 0, .object "RootDesk$Poly", false), (43, 1, 0, .array (.object "RootDesk$Big"), false), (51, 1, 1, .int, true)] i, fun i => look [] i, fun i => look [] i, 4)
theorem ob_69 : okB xX 69 bp_69 := okB_of rfl (by decide +kernel) (by decide +kernel) (by decide +kernel) rfl
-- RootDesk$Big.lowZeros()I
def bp_70 : bP := (fun pc => look (D70.getD (pc / 16) []) pc, fun i => look [(13, 0, 1, .int, true), (9, 0, 0, .array (.int), true)] i, fun i => look [] i, fun i => look [] i, 3)
theorem ob_70 : okB xX 70 bp_70 := okB_of rfl (by decide +kernel) (by decide +kernel) (by decide +kernel) rfl
-- RootDesk$Big.shiftDown(I)V
def bp_71 : bP := (fun pc => look (D71.getD (pc / 16) []) pc, fun i => look [(17, 0, 2, .int, true), (13, 0, 1, .int, true), (9, 0, 0, .array (.int), true)] i, fun i => look [(41, 1073741823)] i, fun i => look [] i, 8)
theorem ob_71 : okB xX 71 bp_71 := okB_of rfl (by decide +kernel) (by decide +kernel) (by decide +kernel) rfl
-- RootDesk$Big.growByOne()V
def bp_72 : bP := (fun pc => look (D72.getD (pc / 16) []) pc, fun i => look [(13, 0, 1, .int, true), (9, 0, 0, .array (.int), true), (17, 0, 2, .int, true)] i, fun i => look [(41, 1073741823)] i, fun i => look [] i, 2)
theorem ob_72 : okB xX 72 bp_72 := okB_of rfl (by decide +kernel) (by decide +kernel) (by decide +kernel) rfl
-- RootDesk$Big.assignPower(I)V
def bp_73 : bP := (fun pc => look (D73.getD (pc / 16) []) pc, fun i => look [] i, fun i => look [] i, fun i => look [] i, 2)
theorem ob_73 : okB xX 73 bp_73 := okB_of rfl (by decide +kernel) (by decide +kernel) (by decide +kernel) rfl
-- RootDesk$Big.isOdd()Z
def bp_74 : bP := (fun pc => look (D74.getD (pc / 16) []) pc, fun i => look [(13, 0, 1, .int, true), (9, 0, 0, .array (.int), true)] i, fun i => look [] i, fun i => look [] i, 1)
theorem ob_74 : okB xX 74 bp_74 := okB_of rfl (by decide +kernel) (by decide +kernel) (by decide +kernel) rfl
-- RootDesk.character(I)I
def bp_75 : bP := (fun pc => look (D75.getD (pc / 16) []) pc, fun i => look [(78, 11, 8, .object "RootDesk$Printer", false), (165, 10, 1, .int, true), (168, 10, 0, .array (.char), false)] i, fun i => look [] i, fun i => look [] i, 2)
theorem ob_75 : okB xX 75 bp_75 := okB_of rfl (by decide +kernel) (by decide +kernel) (by decide +kernel) rfl
-- RootDesk.coefficient(II)I
def bp_76 : bP := (fun pc => look (D76.getD (pc / 16) []) pc, fun i => look [(9, 11, 0, .array (.int), false), (29, 11, 9, .boolean, true)] i, fun i => look [] i, fun i => look [] i, 4)
theorem ob_76 : okB xX 76 bp_76 := okB_of rfl (by decide +kernel) (by decide +kernel) (by decide +kernel) rfl
-- RootDesk.rootsIn(II)I
def bp_77 : bP := (fun pc => look (D77.getD (pc / 16) []) pc, fun i => look [(51, 11, 5, .object "RootDesk$Isolator", false), (97, 6, 1, .int, true), (105, 6, 0, .array (.object "RootDesk$Real"), false), (69, 11, 7, .object "RootDesk$Order", false)] i, fun i => look [] i, fun i => look [] i, 8)
theorem ob_77 : okB xX 77 bp_77 := okB_of rfl (by decide +kernel) (by decide +kernel) (by decide +kernel) rfl
-- RootDesk.slot(I)LRootDesk$Real;
def bp_78 : bP := (fun pc => look (D78.getD (pc / 16) []) pc, fun i => look [(15, 11, 1, .array (.object "RootDesk$Real"), false)] i, fun i => look [] i, fun i => look [] i, 2)
theorem ob_78 : okB xX 78 bp_78 := okB_of rfl (by decide +kernel) (by decide +kernel) (by decide +kernel) rfl
-- RootDesk$Order.rank(LRootDesk$Real;LRootDesk$Real;)I
def bp_79 : bP := (fun pc => look (D79.getD (pc / 16) []) pc, fun i => look [(30, 2, 5, .boolean, true), (22, 9, 1, .object "RootDesk$Narrower", false), (36, 2, 1, .object "RootDesk$Big", false), (40, 2, 3, .int, true), (50, 2, 0, .object "RootDesk$Poly", false)] i, fun i => look [] i, fun i => look [] i, 6)
theorem ob_79 : okB xX 79 bp_79 := okB_of rfl (by decide +kernel) (by decide +kernel) (by decide +kernel) rfl
-- RootDesk$Order.sideOf(LRootDesk$Real;LRootDesk$Real;)I
def bp_80 : bP := (fun pc => look (D80.getD (pc / 16) []) pc, fun i => look [(22, 9, 1, .object "RootDesk$Narrower", false), (65, 2, 2, .object "RootDesk$Big", false), (40, 2, 3, .int, true), (36, 2, 1, .object "RootDesk$Big", false), (30, 2, 5, .boolean, true)] i, fun i => look [] i, fun i => look [] i, 4)
theorem ob_80 : okB xX 80 bp_80 := okB_of rfl (by decide +kernel) (by decide +kernel) (by decide +kernel) rfl
-- RootDesk$Narrower.rankAt(LRootDesk$Big;ILRootDesk$Big;I)I
def bp_81 : bP := (fun pc => look (D81.getD (pc / 16) []) pc, fun i => look [(40, 5, 10, .object "RootDesk$Big", false)] i, fun i => look [] i, fun i => look [] i, 5)
theorem ob_81 : okB xX 81 bp_81 := okB_of rfl (by decide +kernel) (by decide +kernel) (by decide +kernel) rfl
-- RootDesk$Big.rank(LRootDesk$Big;LRootDesk$Big;)I
def bp_82 : bP := (fun pc => look (D82.getD (pc / 16) []) pc, fun i => look [(17, 0, 2, .int, true)] i, fun i => look [] i, fun i => look [] i, 2)
theorem ob_82 : okB xX 82 bp_82 := okB_of rfl (by decide +kernel) (by decide +kernel) (by decide +kernel) rfl
-- RootDesk$Big.rankSizes(LRootDesk$Big;LRootDesk$Big;)I
def bp_83 : bP := (fun pc => look (D83.getD (pc / 16) []) pc, fun i => look [(13, 0, 1, .int, true), (9, 0, 0, .array (.int), true)] i, fun i => look [] i, fun i => look [] i, 3)
theorem ob_83 : okB xX 83 bp_83 := okB_of rfl (by decide +kernel) (by decide +kernel) (by decide +kernel) rfl
-- RootDesk$Narrower.cutAt(LRootDesk$Real;LRootDesk$Big;I)V
def bp_84 : bP := (fun pc => look (D84.getD (pc / 16) []) pc, fun i => look [(28, 5, 6, .object "RootDesk$Big", false), (98, 2, 0, .object "RootDesk$Poly", false)] i, fun i => look [] i, fun i => look [] i, 4)
theorem ob_84 : okB xX 84 bp_84 := okB_of rfl (by decide +kernel) (by decide +kernel) (by decide +kernel) rfl
-- RootDesk$Narrower.signOf(LRootDesk$Poly;LRootDesk$Big;I)I
def bp_85 : bP := (fun pc => look (D85.getD (pc / 16) []) pc, fun i => look [(10, 5, 1, .object "RootDesk$Big", false), (57, 1, 1, .int, true), (16, 5, 2, .object "RootDesk$Big", false), (19, 5, 3, .object "RootDesk$Big", false), (65, 1, 0, .array (.object "RootDesk$Big"), false), (76, 0, 2, .int, true)] i, fun i => look [] i, fun i => look [] i, 5)
theorem ob_85 : okB xX 85 bp_85 := okB_of rfl (by decide +kernel) (by decide +kernel) (by decide +kernel) rfl
-- RootDesk$Narrower.keepSide(LRootDesk$Real;II)V
def bp_86 : bP := (fun pc => look (D86.getD (pc / 16) []) pc, fun i => look [(28, 5, 6, .object "RootDesk$Big", false), (87, 2, 3, .int, true), (113, 2, 4, .int, true), (79, 2, 1, .object "RootDesk$Big", false), (84, 2, 2, .object "RootDesk$Big", false)] i, fun i => look [] i, fun i => look [] i, 4)
theorem ob_86 : okB xX 86 bp_86 := okB_of rfl (by decide +kernel) (by decide +kernel) (by decide +kernel) rfl
-- RootDesk$Real.alignTo(I)V
def bp_87 : bP := (fun pc => look (D87.getD (pc / 16) []) pc, fun i => look [(26, 2, 3, .int, true), (19, 2, 1, .object "RootDesk$Big", false), (23, 2, 2, .object "RootDesk$Big", false)] i, fun i => look [] i, fun i => look [] i, 2)
theorem ob_87 : okB xX 87 bp_87 := okB_of rfl (by decide +kernel) (by decide +kernel) (by decide +kernel) rfl
-- RootDesk$Poly.sameAs(LRootDesk$Poly;)Z
def bp_88 : bP := (fun pc => look (D88.getD (pc / 16) []) pc, fun i => look [(17, 1, 1, .int, true), (11, 1, 0, .array (.object "RootDesk$Big"), false)] i, fun i => look [] i, fun i => look [] i, 3)
theorem ob_88 : okB xX 88 bp_88 := okB_of rfl (by decide +kernel) (by decide +kernel) (by decide +kernel) rfl
-- RootDesk$Order.isSame(LRootDesk$Real;LRootDesk$Real;)Z
def bp_89 : bP := (fun pc => look (D89.getD (pc / 16) []) pc, fun i => look [(50, 2, 0, .object "RootDesk$Poly", false), (12, 9, 2, .object "RootDesk$Poly", false), (18, 9, 0, .object "RootDesk$Modular", false), (82, 1, 1, .int, true), (22, 9, 1, .object "RootDesk$Narrower", false), (36, 2, 1, .object "RootDesk$Big", false), (40, 2, 3, .int, true), (65, 2, 2, .object "RootDesk$Big", false)] i, fun i => look [] i, fun i => look [] i, 6)
theorem ob_89 : okB xX 89 bp_89 := okB_of rfl (by decide +kernel) (by decide +kernel) (by decide +kernel) rfl
-- RootDesk$Narrower.narrow(LRootDesk$Real;I)V
def bp_90 : bP := (fun pc => look (D90.getD (pc / 16) []) pc, fun i => look [(116, 2, 5, .boolean, true), (22, 5, 4, .object "RootDesk$Big", false), (84, 2, 2, .object "RootDesk$Big", false), (79, 2, 1, .object "RootDesk$Big", false), (87, 2, 3, .int, true)] i, fun i => look [(127, 100000)] i, fun i => look [] i, 7)
theorem ob_90 : okB xX 90 bp_90 := okB_of rfl (by decide +kernel) (by decide +kernel) (by decide +kernel) rfl
-- RootDesk$Narrower.halve(LRootDesk$Real;)V
def bp_91 : bP := (fun pc => look (D91.getD (pc / 16) []) pc, fun i => look [(28, 5, 6, .object "RootDesk$Big", false), (79, 2, 1, .object "RootDesk$Big", false), (84, 2, 2, .object "RootDesk$Big", false), (87, 2, 3, .int, true), (98, 2, 0, .object "RootDesk$Poly", false), (116, 2, 5, .boolean, true)] i, fun i => look [] i, fun i => look [] i, 3)
theorem ob_91 : okB xX 91 bp_91 := okB_of rfl (by decide +kernel) (by decide +kernel) (by decide +kernel) rfl
-- RootDesk$Narrower.guessPart(LRootDesk$Real;I)V
def bp_92 : bP := (fun pc => look (D92.getD (pc / 16) []) pc, fun i => look [(98, 2, 0, .object "RootDesk$Poly", false), (79, 2, 1, .object "RootDesk$Big", false), (87, 2, 3, .int, true), (31, 5, 7, .object "RootDesk$Big", false), (10, 5, 1, .object "RootDesk$Big", false), (76, 0, 2, .int, true), (84, 2, 2, .object "RootDesk$Big", false), (34, 5, 8, .object "RootDesk$Big", false), (43, 5, 0, .object "RootDesk$Divider", false), (37, 5, 9, .object "RootDesk$Big", false), (25, 5, 5, .object "RootDesk$Big", false)] i, fun i => look [] i, fun i => look [] i, 3)
theorem ob_92 : okB xX 92 bp_92 := okB_of rfl (by decide +kernel) (by decide +kernel) (by decide +kernel) rfl
-- RootDesk$Narrower.leap(LRootDesk$Real;I)Z
def bp_93 : bP := (fun pc => look (D93.getD (pc / 16) []) pc, fun i => look [(22, 5, 4, .object "RootDesk$Big", false), (84, 2, 2, .object "RootDesk$Big", false), (79, 2, 1, .object "RootDesk$Big", false), (25, 5, 5, .object "RootDesk$Big", false), (37, 5, 9, .object "RootDesk$Big", false), (28, 5, 6, .object "RootDesk$Big", false), (87, 2, 3, .int, true), (98, 2, 0, .object "RootDesk$Poly", false), (113, 2, 4, .int, true)] i, fun i => look [] i, fun i => look [] i, 6)
theorem ob_93 : okB xX 93 bp_93 := okB_of rfl (by decide +kernel) (by decide +kernel) (by decide +kernel) rfl
-- RootDesk.signAt(I)I
def bp_94 : bP := (fun pc => look (D94.getD (pc / 16) []) pc, fun i => look [(51, 11, 5, .object "RootDesk$Isolator", false), (97, 6, 1, .int, true), (69, 11, 7, .object "RootDesk$Order", false), (105, 6, 0, .array (.object "RootDesk$Real"), false), (44, 11, 4, .object "RootDesk$Narrower", false), (22, 11, 2, .object "RootDesk$Poly", false)] i, fun i => look [] i, fun i => look [] i, 4)
theorem ob_94 : okB xX 94 bp_94 := okB_of rfl (by decide +kernel) (by decide +kernel) (by decide +kernel) rfl
-- RootDesk$Narrower.signInside(LRootDesk$Poly;LRootDesk$Real;)I
def bp_95 : bP := (fun pc => look (D95.getD (pc / 16) []) pc, fun i => look [(25, 5, 5, .object "RootDesk$Big", false), (79, 2, 1, .object "RootDesk$Big", false), (84, 2, 2, .object "RootDesk$Big", false), (87, 2, 3, .int, true)] i, fun i => look [] i, fun i => look [] i, 3)
theorem ob_95 : okB xX 95 bp_95 := okB_of rfl (by decide +kernel) (by decide +kernel) (by decide +kernel) rfl
-- RootDesk.take(II)Z
def bp_96 : bP := (fun pc => look (D96.getD (pc / 16) []) pc, fun i => look [(51, 11, 5, .object "RootDesk$Isolator", false), (97, 6, 1, .int, true), (105, 6, 0, .array (.object "RootDesk$Real"), false)] i, fun i => look [] i, fun i => look [] i, 5)
theorem ob_96 : okB xX 96 bp_96 := okB_of rfl (by decide +kernel) (by decide +kernel) (by decide +kernel) rfl
-- RootDesk$Real.assign(LRootDesk$Real;)V
def bp_97 : bP := (fun pc => look (D97.getD (pc / 16) []) pc, fun i => look [(10, 2, 0, .object "RootDesk$Poly", false), (19, 2, 1, .object "RootDesk$Big", false), (23, 2, 2, .object "RootDesk$Big", false), (26, 2, 3, .int, true), (30, 2, 4, .int, true), (33, 2, 5, .boolean, true)] i, fun i => look [] i, fun i => look [] i, 2)
theorem ob_97 : okB xX 97 bp_97 := okB_of rfl (by decide +kernel) (by decide +kernel) (by decide +kernel) rfl
-- RootDesk.fraction(III)V
def bp_98 : bP := (fun pc => look (D98.getD (pc / 16) []) pc, fun i => look [(60, 11, 6, .object "RootDesk$Maker", false)] i, fun i => look [(120, -1000000), (121, 1000000)] i, fun i => look [] i, 5)
theorem ob_98 : okB xX 98 bp_98 := okB_of rfl (by decide +kernel) (by decide +kernel) (by decide +kernel) rfl
-- RootDesk$Maker.ratio(II)LRootDesk$Real;
def bp_99 : bP := (fun pc => look (D99.getD (pc / 16) []) pc, fun i => look [(12, 8, 5, .object "RootDesk$Real", false), (75, 2, 0, .object "RootDesk$Poly", false), (78, 1, 0, .array (.object "RootDesk$Big"), false), (86, 1, 1, .int, true), (50, 8, 0, .object "RootDesk$Divider", false), (58, 8, 2, .object "RootDesk$Narrower", false)] i, fun i => look [] i, fun i => look [] i, 3)
theorem ob_99 : okB xX 99 bp_99 := okB_of rfl (by decide +kernel) (by decide +kernel) (by decide +kernel) rfl
-- RootDesk$Narrower.placeLinear(LRootDesk$Real;)V
def bp_100 : bP := (fun pc => look (D100.getD (pc / 16) []) pc, fun i => look [(31, 5, 7, .object "RootDesk$Big", false), (98, 2, 0, .object "RootDesk$Poly", false), (65, 1, 0, .array (.object "RootDesk$Big"), false), (43, 5, 0, .object "RootDesk$Divider", false), (37, 5, 9, .object "RootDesk$Big", false), (25, 5, 5, .object "RootDesk$Big", false), (76, 0, 2, .int, true), (79, 2, 1, .object "RootDesk$Big", false), (84, 2, 2, .object "RootDesk$Big", false), (87, 2, 3, .int, true), (113, 2, 4, .int, true), (116, 2, 5, .boolean, true)] i, fun i => look [] i, fun i => look [] i, 2)
theorem ob_100 : okB xX 100 bp_100 := okB_of rfl (by decide +kernel) (by decide +kernel) (by decide +kernel) rfl
-- RootDesk$Divider.quotientDown(LRootDesk$Big;LRootDesk$Big;LRootDesk$Big;LRootDesk$Big;)V
def bp_101 : bP := (fun pc => look (D101.getD (pc / 16) []) pc, fun i => look [(83, 0, 2, .int, true), (16, 3, 1, .object "RootDesk$Big", false)] i, fun i => look [] i, fun i => look [] i, 5)
theorem ob_101 : okB xX 101 bp_101 := okB_of rfl (by decide +kernel) (by decide +kernel) (by decide +kernel) rfl
-- RootDesk.copy(II)V
def bp_102 : bP := (fun pc => look (D102.getD (pc / 16) []) pc, fun i => look [(126, 2, 6, .int, true), (129, 2, 7, .int, true)] i, fun i => look [] i, fun i => look [] i, 5)
theorem ob_102 : okB xX 102 bp_102 := okB_of rfl (by decide +kernel) (by decide +kernel) (by decide +kernel) rfl
-- RootDesk.negate(II)V
def bp_103 : bP := (fun pc => look (D103.getD (pc / 16) []) pc, fun i => look [(60, 11, 6, .object "RootDesk$Maker", false), (126, 2, 6, .int, true), (129, 2, 7, .int, true)] i, fun i => look [] i, fun i => look [] i, 5)
theorem ob_103 : okB xX 103 bp_103 := okB_of rfl (by decide +kernel) (by decide +kernel) (by decide +kernel) rfl
-- RootDesk$Maker.opposite(LRootDesk$Real;)LRootDesk$Real;
def bp_104 : bP := (fun pc => look (D104.getD (pc / 16) []) pc, fun i => look [(18, 8, 6, .object "RootDesk$Real", false)] i, fun i => look [] i, fun i => look [] i, 2)
theorem ob_104 : okB xX 104 bp_104 := okB_of rfl (by decide +kernel) (by decide +kernel) (by decide +kernel) rfl
-- RootDesk$Real.turnOver()V
def bp_105 : bP := (fun pc => look (D105.getD (pc / 16) []) pc, fun i => look [(10, 2, 0, .object "RootDesk$Poly", false), (51, 1, 1, .int, true), (30, 2, 4, .int, true), (19, 2, 1, .object "RootDesk$Big", false), (23, 2, 2, .object "RootDesk$Big", false), (33, 2, 5, .boolean, true)] i, fun i => look [] i, fun i => look [] i, 1)
theorem ob_105 : okB xX 105 bp_105 := okB_of rfl (by decide +kernel) (by decide +kernel) (by decide +kernel) rfl
-- RootDesk$Poly.mirror()V
def bp_106 : bP := (fun pc => look (D106.getD (pc / 16) []) pc, fun i => look [(17, 1, 1, .int, true), (11, 1, 0, .array (.object "RootDesk$Big"), false)] i, fun i => look [] i, fun i => look [] i, 2)
theorem ob_106 : okB xX 106 bp_106 := okB_of rfl (by decide +kernel) (by decide +kernel) (by decide +kernel) rfl
-- RootDesk$Real.swapEnds()V
def bp_107 : bP := (fun pc => look (D107.getD (pc / 16) []) pc, fun i => look [(19, 2, 1, .object "RootDesk$Big", false), (90, 0, 0, .array (.int), true), (94, 0, 1, .int, true), (61, 0, 2, .int, true), (23, 2, 2, .object "RootDesk$Big", false)] i, fun i => look [] i, fun i => look [] i, 4)
theorem ob_107 : okB xX 107 bp_107 := okB_of rfl (by decide +kernel) (by decide +kernel) (by decide +kernel) rfl
-- RootDesk.invert(II)V
def bp_108 : bP := (fun pc => look (D108.getD (pc / 16) []) pc, fun i => look [(60, 11, 6, .object "RootDesk$Maker", false), (126, 2, 6, .int, true), (129, 2, 7, .int, true)] i, fun i => look [] i, fun i => look [] i, 5)
theorem ob_108 : okB xX 108 bp_108 := okB_of rfl (by decide +kernel) (by decide +kernel) (by decide +kernel) rfl
-- RootDesk$Real.side()I
def bp_109 : bP := (fun pc => look (D109.getD (pc / 16) []) pc, fun i => look [(23, 2, 2, .object "RootDesk$Big", false), (61, 0, 2, .int, true), (19, 2, 1, .object "RootDesk$Big", false)] i, fun i => look [] i, fun i => look [] i, 1)
theorem ob_109 : okB xX 109 bp_109 := okB_of rfl (by decide +kernel) (by decide +kernel) (by decide +kernel) rfl
-- RootDesk$Maker.inverse(LRootDesk$Real;)LRootDesk$Real;
def bp_110 : bP := (fun pc => look (D110.getD (pc / 16) []) pc, fun i => look [(18, 8, 6, .object "RootDesk$Real", false), (75, 2, 0, .object "RootDesk$Poly", false), (152, 2, 1, .object "RootDesk$Big", false), (210, 0, 2, .int, true), (58, 8, 2, .object "RootDesk$Narrower", false), (86, 1, 1, .int, true)] i, fun i => look [] i, fun i => look [] i, 4)
theorem ob_110 : okB xX 110 bp_110 := okB_of rfl (by decide +kernel) (by decide +kernel) (by decide +kernel) rfl
-- RootDesk$Poly.dropZeroRoot()V
def bp_111 : bP := (fun pc => look (D111.getD (pc / 16) []) pc, fun i => look [(17, 1, 1, .int, true), (11, 1, 0, .array (.object "RootDesk$Big"), false), (26, 0, 2, .int, true)] i, fun i => look [] i, fun i => look [] i, 3)
theorem ob_111 : okB xX 111 bp_111 := okB_of rfl (by decide +kernel) (by decide +kernel) (by decide +kernel) rfl
-- RootDesk$Poly.turn()V
def bp_112 : bP := (fun pc => look (D112.getD (pc / 16) []) pc, fun i => look [(17, 1, 1, .int, true), (11, 1, 0, .array (.object "RootDesk$Big"), false)] i, fun i => look [] i, fun i => look [] i, 4)
theorem ob_112 : okB xX 112 bp_112 := okB_of rfl (by decide +kernel) (by decide +kernel) (by decide +kernel) rfl
-- RootDesk$Maker.turnSpan()V
def bp_113 : bP := (fun pc => look (D113.getD (pc / 16) []) pc, fun i => look [(44, 8, 12, .object "RootDesk$Big", false), (18, 8, 6, .object "RootDesk$Real", false), (187, 2, 2, .object "RootDesk$Big", false), (152, 2, 1, .object "RootDesk$Big", false), (158, 2, 3, .int, true), (41, 8, 11, .object "RootDesk$Big", false), (50, 8, 0, .object "RootDesk$Divider", false), (38, 8, 10, .object "RootDesk$Big", false), (34, 8, 9, .object "RootDesk$Big", false), (210, 0, 2, .int, true)] i, fun i => look [] i, fun i => look [] i, 3)
theorem ob_113 : okB xX 113 bp_113 := okB_of rfl (by decide +kernel) (by decide +kernel) (by decide +kernel) rfl
-- RootDesk$Maker.keepTurned(I)Z
def bp_114 : bP := (fun pc => look (D114.getD (pc / 16) []) pc, fun i => look [(58, 8, 2, .object "RootDesk$Narrower", false), (18, 8, 6, .object "RootDesk$Real", false), (75, 2, 0, .object "RootDesk$Poly", false), (34, 8, 9, .object "RootDesk$Big", false), (38, 8, 10, .object "RootDesk$Big", false), (152, 2, 1, .object "RootDesk$Big", false), (187, 2, 2, .object "RootDesk$Big", false), (158, 2, 3, .int, true), (179, 2, 4, .int, true)] i, fun i => look [] i, fun i => look [] i, 4)
theorem ob_114 : okB xX 114 bp_114 := okB_of rfl (by decide +kernel) (by decide +kernel) (by decide +kernel) rfl
-- RootDesk.add(III)Z
def bp_115 : bP := (fun pc => look (D115.getD (pc / 16) []) pc, fun i => look [(60, 11, 6, .object "RootDesk$Maker", false)] i, fun i => look [] i, fun i => look [] i, 7)
theorem ob_115 : okB xX 115 bp_115 := okB_of rfl (by decide +kernel) (by decide +kernel) (by decide +kernel) rfl
-- RootDesk.tooGreat(LRootDesk$Real;LRootDesk$Real;)Z
def bp_116 : bP := (fun pc => look (D116.getD (pc / 16) []) pc, fun i => look [(126, 2, 6, .int, true)] i, fun i => look [] i, fun i => look [] i, 2)
theorem ob_116 : okB xX 116 bp_116 := okB_of rfl (by decide +kernel) (by decide +kernel) (by decide +kernel) rfl
-- RootDesk.joinedSize(LRootDesk$Real;LRootDesk$Real;)I
def bp_117 : bP := (fun pc => look (D117.getD (pc / 16) []) pc, fun i => look [(126, 2, 6, .int, true), (129, 2, 7, .int, true)] i, fun i => look [] i, fun i => look [] i, 2)
theorem ob_117 : okB xX 117 bp_117 := okB_of rfl (by decide +kernel) (by decide +kernel) (by decide +kernel) rfl
-- RootDesk$Maker.join(LRootDesk$Real;LRootDesk$Real;Z)LRootDesk$Real;
def bp_118 : bP := (fun pc => look (D118.getD (pc / 16) []) pc, fun i => look [(71, 8, 4, .object "RootDesk$Blender", false), (75, 2, 0, .object "RootDesk$Poly", false), (12, 8, 5, .object "RootDesk$Real", false), (86, 1, 1, .int, true), (58, 8, 2, .object "RootDesk$Narrower", false), (130, 2, 5, .boolean, true)] i, fun i => look [] i, fun i => look [] i, 6)
theorem ob_118 : okB xX 118 bp_118 := okB_of rfl (by decide +kernel) (by decide +kernel) (by decide +kernel) rfl
-- RootDesk$Maker.isPlaced(LRootDesk$Real;LRootDesk$Real;ZI)Z
def bp_125 : bP := (fun pc => look (D125.getD (pc / 16) []) pc, fun i => look [(130, 2, 5, .boolean, true), (34, 8, 9, .object "RootDesk$Big", false), (12, 8, 5, .object "RootDesk$Real", false), (152, 2, 1, .object "RootDesk$Big", false), (158, 2, 3, .int, true), (62, 8, 3, .object "RootDesk$Isolator", false), (58, 8, 2, .object "RootDesk$Narrower", false), (75, 2, 0, .object "RootDesk$Poly", false), (179, 2, 4, .int, true)] i, fun i => look [] i, fun i => look [] i, 5)
theorem ob_125 : okB xX 125 bp_125 := okB_of rfl (by decide +kernel) (by decide +kernel) (by decide +kernel) rfl
-- RootDesk$Maker.spanSum(LRootDesk$Real;LRootDesk$Real;)V
def bp_126 : bP := (fun pc => look (D126.getD (pc / 16) []) pc, fun i => look [(12, 8, 5, .object "RootDesk$Real", false), (158, 2, 3, .int, true), (152, 2, 1, .object "RootDesk$Big", false), (187, 2, 2, .object "RootDesk$Big", false), (34, 8, 9, .object "RootDesk$Big", false), (38, 8, 10, .object "RootDesk$Big", false)] i, fun i => look [] i, fun i => look [] i, 3)
theorem ob_126 : okB xX 126 bp_126 := okB_of rfl (by decide +kernel) (by decide +kernel) (by decide +kernel) rfl
-- RootDesk$Maker.spanProduct(LRootDesk$Real;LRootDesk$Real;)V
def bp_127 : bP := (fun pc => look (D127.getD (pc / 16) []) pc, fun i => look [(12, 8, 5, .object "RootDesk$Real", false), (158, 2, 3, .int, true), (152, 2, 1, .object "RootDesk$Big", false), (187, 2, 2, .object "RootDesk$Big", false)] i, fun i => look [] i, fun i => look [] i, 5)
theorem ob_127 : okB xX 127 bp_127 := okB_of rfl (by decide +kernel) (by decide +kernel) (by decide +kernel) rfl
-- RootDesk$Maker.coarsen(I)V
def bp_128 : bP := (fun pc => look (D128.getD (pc / 16) []) pc, fun i => look [(12, 8, 5, .object "RootDesk$Real", false), (158, 2, 3, .int, true), (152, 2, 1, .object "RootDesk$Big", false), (187, 2, 2, .object "RootDesk$Big", false)] i, fun i => look [] i, fun i => look [] i, 2)
theorem ob_128 : okB xX 128 bp_128 := okB_of rfl (by decide +kernel) (by decide +kernel) (by decide +kernel) rfl
-- RootDesk$Big.shiftDownUp(I)V
def bp_129 : bP := (fun pc => look (D129.getD (pc / 16) []) pc, fun i => look [] i, fun i => look [] i, fun i => look [] i, 2)
theorem ob_129 : okB xX 129 bp_129 := okB_of rfl (by decide +kernel) (by decide +kernel) (by decide +kernel) rfl
-- RootDesk$Maker.leaveZero()V
def bp_131 : bP := (fun pc => look (D131.getD (pc / 16) []) pc, fun i => look [(12, 8, 5, .object "RootDesk$Real", false), (152, 2, 1, .object "RootDesk$Big", false), (210, 0, 2, .int, true), (187, 2, 2, .object "RootDesk$Big", false), (41, 8, 11, .object "RootDesk$Big", false), (58, 8, 2, .object "RootDesk$Narrower", false)] i, fun i => look [] i, fun i => look [] i, 1)
theorem ob_131 : okB xX 131 bp_131 := okB_of rfl (by decide +kernel) (by decide +kernel) (by decide +kernel) rfl
-- RootDesk.settle(LRootDesk$Real;LRootDesk$Real;LRootDesk$Real;LRootDesk$Real;)V
def bp_132 : bP := (fun pc => look (D132.getD (pc / 16) []) pc, fun i => look [(126, 2, 6, .int, true)] i, fun i => look [] i, fun i => look [] i, 6)
theorem ob_132 : okB xX 132 bp_132 := okB_of rfl (by decide +kernel) (by decide +kernel) (by decide +kernel) rfl
-- RootDesk.subtract(III)Z
def bp_133 : bP := (fun pc => look (D133.getD (pc / 16) []) pc, fun i => look [(60, 11, 6, .object "RootDesk$Maker", false)] i, fun i => look [] i, fun i => look [] i, 7)
theorem ob_133 : okB xX 133 bp_133 := okB_of rfl (by decide +kernel) (by decide +kernel) (by decide +kernel) rfl
-- RootDesk.multiply(III)Z
def bp_134 : bP := (fun pc => look (D134.getD (pc / 16) []) pc, fun i => look [(60, 11, 6, .object "RootDesk$Maker", false)] i, fun i => look [] i, fun i => look [] i, 7)
theorem ob_134 : okB xX 134 bp_134 := okB_of rfl (by decide +kernel) (by decide +kernel) (by decide +kernel) rfl
-- RootDesk.divide(III)Z
def bp_135 : bP := (fun pc => look (D135.getD (pc / 16) []) pc, fun i => look [(60, 11, 6, .object "RootDesk$Maker", false)] i, fun i => look [] i, fun i => look [] i, 7)
theorem ob_135 : okB xX 135 bp_135 := okB_of rfl (by decide +kernel) (by decide +kernel) (by decide +kernel) rfl
-- RootDesk.root(III)Z
def bp_136 : bP := (fun pc => look (D136.getD (pc / 16) []) pc, fun i => look [(126, 2, 6, .int, true), (129, 2, 7, .int, true), (60, 11, 6, .object "RootDesk$Maker", false)] i, fun i => look [] i, fun i => look [] i, 8)
theorem ob_136 : okB xX 136 bp_136 := okB_of rfl (by decide +kernel) (by decide +kernel) (by decide +kernel) rfl
-- RootDesk$Maker.radical(LRootDesk$Real;I)LRootDesk$Real;
def bp_137 : bP := (fun pc => look (D137.getD (pc / 16) []) pc, fun i => look [(41, 8, 11, .object "RootDesk$Big", false), (12, 8, 5, .object "RootDesk$Real", false), (18, 8, 6, .object "RootDesk$Real", false), (75, 2, 0, .object "RootDesk$Poly", false), (130, 2, 5, .boolean, true), (158, 2, 3, .int, true), (152, 2, 1, .object "RootDesk$Big", false), (187, 2, 2, .object "RootDesk$Big", false), (86, 1, 1, .int, true), (58, 8, 2, .object "RootDesk$Narrower", false), (179, 2, 4, .int, true)] i, fun i => look [] i, fun i => look [] i, 5)
theorem ob_137 : okB xX 137 bp_137 := okB_of rfl (by decide +kernel) (by decide +kernel) (by decide +kernel) rfl
-- RootDesk$Poly.assignStretched(LRootDesk$Poly;I)V
def bp_138 : bP := (fun pc => look (D138.getD (pc / 16) []) pc, fun i => look [(17, 1, 1, .int, true), (11, 1, 0, .array (.object "RootDesk$Big"), false)] i, fun i => look [] i, fun i => look [] i, 4)
theorem ob_138 : okB xX 138 bp_138 := okB_of rfl (by decide +kernel) (by decide +kernel) (by decide +kernel) rfl
-- RootDesk$Maker.isInside(I)Z
def bp_139 : bP := (fun pc => look (D139.getD (pc / 16) []) pc, fun i => look [(12, 8, 5, .object "RootDesk$Real", false), (152, 2, 1, .object "RootDesk$Big", false), (58, 8, 2, .object "RootDesk$Narrower", false), (47, 8, 13, .object "RootDesk$Big", false), (158, 2, 3, .int, true), (18, 8, 6, .object "RootDesk$Real", false), (187, 2, 2, .object "RootDesk$Big", false)] i, fun i => look [] i, fun i => look [] i, 2)
theorem ob_139 : okB xX 139 bp_139 := okB_of rfl (by decide +kernel) (by decide +kernel) (by decide +kernel) rfl
-- RootDesk$Maker.raise(LRootDesk$Big;I)V
def bp_140 : bP := (fun pc => look (D140.getD (pc / 16) []) pc, fun i => look [(47, 8, 13, .object "RootDesk$Big", false), (44, 8, 12, .object "RootDesk$Big", false)] i, fun i => look [] i, fun i => look [] i, 4)
theorem ob_140 : okB xX 140 bp_140 := okB_of rfl (by decide +kernel) (by decide +kernel) (by decide +kernel) rfl
-- RootDesk$Maker.approach(I)V
def bp_141 : bP := (fun pc => look (D141.getD (pc / 16) []) pc, fun i => look [(34, 8, 9, .object "RootDesk$Big", false), (12, 8, 5, .object "RootDesk$Real", false), (152, 2, 1, .object "RootDesk$Big", false), (187, 2, 2, .object "RootDesk$Big", false), (158, 2, 3, .int, true)] i, fun i => look [] i, fun i => look [] i, 3)
theorem ob_141 : okB xX 141 bp_141 := okB_of rfl (by decide +kernel) (by decide +kernel) (by decide +kernel) rfl
-- RootDesk$Maker.sideOf(I)I
def bp_142 : bP := (fun pc => look (D142.getD (pc / 16) []) pc, fun i => look [(58, 8, 2, .object "RootDesk$Narrower", false), (47, 8, 13, .object "RootDesk$Big", false), (18, 8, 6, .object "RootDesk$Real", false), (152, 2, 1, .object "RootDesk$Big", false), (158, 2, 3, .int, true), (187, 2, 2, .object "RootDesk$Big", false), (75, 2, 0, .object "RootDesk$Poly", false), (179, 2, 4, .int, true)] i, fun i => look [] i, fun i => look [] i, 3)
theorem ob_142 : okB xX 142 bp_142 := okB_of rfl (by decide +kernel) (by decide +kernel) (by decide +kernel) rfl
-- RootDesk.compare(II)I
def bp_143 : bP := (fun pc => look (D143.getD (pc / 16) []) pc, fun i => look [(69, 11, 7, .object "RootDesk$Order", false)] i, fun i => look [] i, fun i => look [] i, 3)
theorem ob_143 : okB xX 143 bp_143 := okB_of rfl (by decide +kernel) (by decide +kernel) (by decide +kernel) rfl
-- RootDesk.sign(I)I
def bp_144 : bP := (fun pc => look (D144.getD (pc / 16) []) pc, fun i => look [] i, fun i => look [] i, fun i => look [] i, 2)
theorem ob_144 : okB xX 144 bp_144 := okB_of rfl (by decide +kernel) (by decide +kernel) (by decide +kernel) rfl
-- RootDesk.print(II)I
def bp_145 : bP := (fun pc => look (D145.getD (pc / 16) []) pc, fun i => look [(78, 11, 8, .object "RootDesk$Printer", false)] i, fun i => look [] i, fun i => look [] i, 4)
theorem ob_145 : okB xX 145 bp_145 := okB_of rfl (by decide +kernel) (by decide +kernel) (by decide +kernel) rfl
-- RootDesk.weight(I)I
def bp_150 : bP := (fun pc => look (D150.getD (pc / 16) []) pc, fun i => look [(126, 2, 6, .int, true)] i, fun i => look [] i, fun i => look [] i, 2)
theorem ob_150 : okB xX 150 bp_150 := okB_of rfl (by decide +kernel) (by decide +kernel) (by decide +kernel) rfl
-- RootDesk.size(I)I
def bp_151 : bP := (fun pc => look (D151.getD (pc / 16) []) pc, fun i => look [(129, 2, 7, .int, true)] i, fun i => look [] i, fun i => look [] i, 2)
theorem ob_151 : okB xX 151 bp_151 := okB_of rfl (by decide +kernel) (by decide +kernel) (by decide +kernel) rfl
-- RootDeskModel.thrown()I
def bp_153 : bP := (fun pc => look (D153.getD (pc / 16) []) pc, fun i => look [(49, 12, 0, .int, true)] i, fun i => look [] i, fun i => look [] i, 1)
theorem ob_153 : okB xX 153 bp_153 := okB_of rfl (by decide +kernel) (by decide +kernel) (by decide +kernel) rfl
-- RootDeskModel.coefficient(II)I
def bp_154 : bP := (fun pc => look (D154.getD (pc / 16) []) pc, fun i => look [(20, 12, 5, .array (.int), false), (162, 12, 9, .boolean, true)] i, fun i => look [] i, fun i => look [] i, 4)
theorem ob_154 : okB xX 154 bp_154 := okB_of rfl (by decide +kernel) (by decide +kernel) (by decide +kernel) rfl
-- RootDeskModel.refused(I)Z
def bp_155 : bP := (fun pc => look (D155.getD (pc / 16) []) pc, fun i => look [(49, 12, 0, .int, true)] i, fun i => look [] i, fun i => look [] i, 2)
theorem ob_155 : okB xX 155 bp_155 := okB_of rfl (by decide +kernel) (by decide +kernel) (by decide +kernel) rfl
-- RootDeskModel.degree()I
def bp_156 : bP := (fun pc => look (D156.getD (pc / 16) []) pc, fun i => look [(49, 12, 0, .int, true), (107, 12, 10, .int, true)] i, fun i => look [] i, fun i => look [] i, 1)
theorem ob_156 : okB xX 156 bp_156 := okB_of rfl (by decide +kernel) (by decide +kernel) (by decide +kernel) rfl
-- RootDeskModel.findRoots()V
def bp_157 : bP := (fun pc => look (D157.getD (pc / 16) []) pc, fun i => look [(162, 12, 9, .boolean, true), (139, 12, 12, .int, true), (59, 12, 4, .int, true), (107, 12, 10, .int, true)] i, fun i => look [] i, fun i => look [] i, 2)
theorem ob_157 : okB xX 157 bp_157 := okB_of rfl (by decide +kernel) (by decide +kernel) (by decide +kernel) rfl
-- RootDeskModel.setUp()V
def bp_158 : bP := (fun pc => look (D158.getD (pc / 16) []) pc, fun i => look [(107, 12, 10, .int, true), (20, 12, 5, .array (.int), false), (32, 12, 11, .array (.long), false)] i, fun i => look [] i, fun i => look [] i, 3)
theorem ob_158 : okB xX 158 bp_158 := okB_of rfl (by decide +kernel) (by decide +kernel) (by decide +kernel) rfl
-- RootDeskModel.solve(I)V
def bp_159 : bP := (fun pc => look (D159.getD (pc / 16) []) pc, fun i => look [(139, 12, 12, .int, true), (148, 12, 15, .int, true), (42, 12, 16, .array (.int), false), (35, 12, 13, .array (.int), false), (88, 12, 18, .int, true)] i, fun i => look [] i, fun i => look [(151, -2000), (156, 2000)] i, 8)
theorem ob_159 : okB xX 159 bp_159 := okB_of rfl (by decide +kernel) (by decide +kernel) (by decide +kernel) rfl
-- RootDeskModel.load(II)V
def bp_160 : bP := (fun pc => look (D160.getD (pc / 16) []) pc, fun i => look [(7, 12, 1, .array (.long), false), (59, 12, 4, .int, true), (13, 12, 2, .array (.int), false)] i, fun i => look [] i, fun i => look [] i, 4)
theorem ob_160 : okB xX 160 bp_160 := okB_of rfl (by decide +kernel) (by decide +kernel) (by decide +kernel) rfl
-- RootDeskModel.trim(I)V
def bp_161 : bP := (fun pc => look (D161.getD (pc / 16) []) pc, fun i => look [(13, 12, 2, .array (.int), false)] i, fun i => look [] i, fun i => look [] i, 2)
theorem ob_161 : okB xX 161 bp_161 := okB_of rfl (by decide +kernel) (by decide +kernel) (by decide +kernel) rfl
-- RootDeskModel.top(I)I
def bp_162 : bP := (fun pc => look (D162.getD (pc / 16) []) pc, fun i => look [(59, 12, 4, .int, true), (7, 12, 1, .array (.long), false)] i, fun i => look [] i, fun i => look [] i, 3)
theorem ob_162 : okB xX 162 bp_162 := okB_of rfl (by decide +kernel) (by decide +kernel) (by decide +kernel) rfl
-- RootDeskModel.whole(IJ)V
def bp_163 : bP := (fun pc => look (D163.getD (pc / 16) []) pc, fun i => look [(13, 12, 2, .array (.int), false), (7, 12, 1, .array (.long), false)] i, fun i => look [] i, fun i => look [(57, 268435456)] i, 7)
theorem ob_163 : okB xX 163 bp_163 := okB_of rfl (by decide +kernel) (by decide +kernel) (by decide +kernel) rfl
-- RootDeskModel.zero(I)V
def bp_164 : bP := (fun pc => look (D164.getD (pc / 16) []) pc, fun i => look [(7, 12, 1, .array (.long), false), (13, 12, 2, .array (.int), false)] i, fun i => look [] i, fun i => look [] i, 3)
theorem ob_164 : okB xX 164 bp_164 := okB_of rfl (by decide +kernel) (by decide +kernel) (by decide +kernel) rfl
-- RootDeskModel.signOf(II)I
def bp_165 : bP := (fun pc => look (D165.getD (pc / 16) []) pc, fun i => look [(13, 12, 2, .array (.int), false)] i, fun i => look [] i, fun i => look [] i, 3)
theorem ob_165 : okB xX 165 bp_165 := okB_of rfl (by decide +kernel) (by decide +kernel) (by decide +kernel) rfl
-- RootDeskModel.valueOf(III)V
def bp_166 : bP := (fun pc => look (D166.getD (pc / 16) []) pc, fun i => look [(107, 12, 10, .int, true), (32, 12, 11, .array (.long), false)] i, fun i => look [] i, fun i => look [] i, 6)
theorem ob_166 : okB xX 166 bp_166 := okB_of rfl (by decide +kernel) (by decide +kernel) (by decide +kernel) rfl
-- RootDeskModel.times(III)V
def bp_167 : bP := (fun pc => look (D167.getD (pc / 16) []) pc, fun i => look [(13, 12, 2, .array (.int), false), (17, 12, 3, .array (.long), false), (59, 12, 4, .int, true), (7, 12, 1, .array (.long), false)] i, fun i => look [] i, fun i => look [(57, 268435456)] i, 11)
theorem ob_167 : okB xX 167 bp_167 := okB_of rfl (by decide +kernel) (by decide +kernel) (by decide +kernel) rfl
-- RootDeskModel.plus(III)V
def bp_168 : bP := (fun pc => look (D168.getD (pc / 16) []) pc, fun i => look [(13, 12, 2, .array (.int), false)] i, fun i => look [] i, fun i => look [] i, 6)
theorem ob_168 : okB xX 168 bp_168 := okB_of rfl (by decide +kernel) (by decide +kernel) (by decide +kernel) rfl
-- RootDeskModel.join(IIII)V
def bp_169 : bP := (fun pc => look (D169.getD (pc / 16) []) pc, fun i => look [(59, 12, 4, .int, true), (7, 12, 1, .array (.long), false)] i, fun i => look [] i, fun i => look [(73, -1), (57, 268435456)] i, 10)
theorem ob_169 : okB xX 169 bp_169 := okB_of rfl (by decide +kernel) (by decide +kernel) (by decide +kernel) rfl
-- RootDeskModel.against(II)I
def bp_170 : bP := (fun pc => look (D170.getD (pc / 16) []) pc, fun i => look [(59, 12, 4, .int, true), (7, 12, 1, .array (.long), false)] i, fun i => look [] i, fun i => look [] i, 6)
theorem ob_170 : okB xX 170 bp_170 := okB_of rfl (by decide +kernel) (by decide +kernel) (by decide +kernel) rfl
-- RootDeskModel.height(I)I
def bp_171 : bP := (fun pc => look (D171.getD (pc / 16) []) pc, fun i => look [(7, 12, 1, .array (.long), false)] i, fun i => look [] i, fun i => look [] i, 4)
theorem ob_171 : okB xX 171 bp_171 := okB_of rfl (by decide +kernel) (by decide +kernel) (by decide +kernel) rfl
-- RootDeskModel.between(IIIII)V
def bp_172 : bP := (fun pc => look (D172.getD (pc / 16) []) pc, fun i => look [(101, 12, 17, .int, true)] i, fun i => look [] i, fun i => look [] i, 6)
theorem ob_172 : okB xX 172 bp_172 := okB_of rfl (by decide +kernel) (by decide +kernel) (by decide +kernel) rfl
-- RootDeskModel.narrow(III)V
def bp_173 : bP := (fun pc => look (D173.getD (pc / 16) []) pc, fun i => look [(13, 12, 2, .array (.int), false)] i, fun i => look [] i, fun i => look [] i, 7)
theorem ob_173 : okB xX 173 bp_173 := okB_of rfl (by decide +kernel) (by decide +kernel) (by decide +kernel) rfl
-- RootDeskModel.value(II)V
def bp_174 : bP := (fun pc => look (D174.getD (pc / 16) []) pc, fun i => look [(88, 12, 18, .int, true), (101, 12, 17, .int, true)] i, fun i => look [] i, fun i => look [] i, 4)
theorem ob_174 : okB xX 174 bp_174 := okB_of rfl (by decide +kernel) (by decide +kernel) (by decide +kernel) rfl
-- RootDeskModel.minus(III)V
def bp_175 : bP := (fun pc => look (D175.getD (pc / 16) []) pc, fun i => look [(13, 12, 2, .array (.int), false)] i, fun i => look [] i, fun i => look [] i, 5)
theorem ob_175 : okB xX 175 bp_175 := okB_of rfl (by decide +kernel) (by decide +kernel) (by decide +kernel) rfl
-- RootDeskModel.shift(III)V
def bp_176 : bP := (fun pc => look (D176.getD (pc / 16) []) pc, fun i => look [(59, 12, 4, .int, true), (7, 12, 1, .array (.long), false), (13, 12, 2, .array (.int), false)] i, fun i => look [] i, fun i => look [(57, 268435456)] i, 12)
theorem ob_176 : okB xX 176 bp_176 := okB_of rfl (by decide +kernel) (by decide +kernel) (by decide +kernel) rfl
-- RootDeskModel.cutAt(IIII)V
def bp_177 : bP := (fun pc => look (D177.getD (pc / 16) []) pc, fun i => look [(13, 12, 2, .array (.int), false)] i, fun i => look [] i, fun i => look [] i, 5)
theorem ob_177 : okB xX 177 bp_177 := okB_of rfl (by decide +kernel) (by decide +kernel) (by decide +kernel) rfl
-- RootDeskModel.slope(II)V
def bp_178 : bP := (fun pc => look (D178.getD (pc / 16) []) pc, fun i => look [(88, 12, 18, .int, true), (101, 12, 17, .int, true)] i, fun i => look [] i, fun i => look [] i, 4)
theorem ob_178 : okB xX 178 bp_178 := okB_of rfl (by decide +kernel) (by decide +kernel) (by decide +kernel) rfl
-- RootDeskModel.over(III)V
def bp_179 : bP := (fun pc => look (D179.getD (pc / 16) []) pc, fun i => look [(13, 12, 2, .array (.int), false), (59, 12, 4, .int, true), (17, 12, 3, .array (.long), false), (7, 12, 1, .array (.long), false)] i, fun i => look [] i, fun i => look [(86, 2), (57, 268435456)] i, 13)
theorem ob_179 : okB xX 179 bp_179 := okB_of rfl (by decide +kernel) (by decide +kernel) (by decide +kernel) rfl
-- RootDeskModel.bitOf(II)I
def bp_180 : bP := (fun pc => look (D180.getD (pc / 16) []) pc, fun i => look [(7, 12, 1, .array (.long), false)] i, fun i => look [] i, fun i => look [] i, 3)
theorem ob_180 : okB xX 180 bp_180 := okB_of rfl (by decide +kernel) (by decide +kernel) (by decide +kernel) rfl
-- RootDeskModel.isBetween(III)Z
def bp_181 : bP := (fun pc => look (D181.getD (pc / 16) []) pc, fun i => look [] i, fun i => look [] i, fun i => look [] i, 4)
theorem ob_181 : okB xX 181 bp_181 := okB_of rfl (by decide +kernel) (by decide +kernel) (by decide +kernel) rfl
-- RootDeskModel.order(II)I
def bp_182 : bP := (fun pc => look (D182.getD (pc / 16) []) pc, fun i => look [(13, 12, 2, .array (.int), false)] i, fun i => look [] i, fun i => look [] i, 3)
theorem ob_182 : okB xX 182 bp_182 := okB_of rfl (by decide +kernel) (by decide +kernel) (by decide +kernel) rfl
-- RootDeskModel.keepRoot(III)V
def bp_183 : bP := (fun pc => look (D183.getD (pc / 16) []) pc, fun i => look [(139, 12, 12, .int, true), (38, 12, 14, .array (.boolean), false), (35, 12, 13, .array (.int), false)] i, fun i => look [] i, fun i => look [] i, 4)
theorem ob_183 : okB xX 183 bp_183 := okB_of rfl (by decide +kernel) (by decide +kernel) (by decide +kernel) rfl
-- RootDeskModel.roots()I
def bp_184 : bP := (fun pc => look (D184.getD (pc / 16) []) pc, fun i => look [(49, 12, 0, .int, true), (107, 12, 10, .int, true), (139, 12, 12, .int, true)] i, fun i => look [] i, fun i => look [] i, 1)
theorem ob_184 : okB xX 184 bp_184 := okB_of rfl (by decide +kernel) (by decide +kernel) (by decide +kernel) rfl
-- RootDeskModel.rootsIn(II)I
def bp_185 : bP := (fun pc => look (D185.getD (pc / 16) []) pc, fun i => look [(107, 12, 10, .int, true), (139, 12, 12, .int, true)] i, fun i => look [] i, fun i => look [] i, 5)
theorem ob_185 : okB xX 185 bp_185 := okB_of rfl (by decide +kernel) (by decide +kernel) (by decide +kernel) rfl
-- RootDeskModel.isSlot(I)Z
def bp_186 : bP := (fun pc => look (D186.getD (pc / 16) []) pc, fun i => look [] i, fun i => look [] i, fun i => look [] i, 1)
theorem ob_186 : okB xX 186 bp_186 := okB_of rfl (by decide +kernel) (by decide +kernel) (by decide +kernel) rfl
-- RootDeskModel.rootAgainst(II)I
def bp_187 : bP := (fun pc => look (D187.getD (pc / 16) []) pc, fun i => look [(13, 12, 2, .array (.int), false)] i, fun i => look [] i, fun i => look [] i, 4)
theorem ob_187 : okB xX 187 bp_187 := okB_of rfl (by decide +kernel) (by decide +kernel) (by decide +kernel) rfl
-- RootDeskModel.finish(I)V
def bp_188 : bP := (fun pc => look (D188.getD (pc / 16) []) pc, fun i => look [(38, 12, 14, .array (.boolean), false), (88, 12, 18, .int, true), (35, 12, 13, .array (.int), false), (101, 12, 17, .int, true)] i, fun i => look [] i, fun i => look [] i, 2)
theorem ob_188 : okB xX 188 bp_188 := okB_of rfl (by decide +kernel) (by decide +kernel) (by decide +kernel) rfl
-- RootDeskModel.sharpen(II)V
def bp_189 : bP := (fun pc => look (D189.getD (pc / 16) []) pc, fun i => look [(59, 12, 4, .int, true)] i, fun i => look [] i, fun i => look [] i, 3)
theorem ob_189 : okB xX 189 bp_189 := okB_of rfl (by decide +kernel) (by decide +kernel) (by decide +kernel) rfl
-- RootDeskModel.widen(III)V
def bp_190 : bP := (fun pc => look (D190.getD (pc / 16) []) pc, fun i => look [] i, fun i => look [] i, fun i => look [] i, 4)
theorem ob_190 : okB xX 190 bp_190 := okB_of rfl (by decide +kernel) (by decide +kernel) (by decide +kernel) rfl
-- RootDeskModel.near(I)I
def bp_191 : bP := (fun pc => look (D191.getD (pc / 16) []) pc, fun i => look [(13, 12, 2, .array (.int), false), (29, 12, 8, .array (.int), false)] i, fun i => look [] i, fun i => look [] i, 2)
theorem ob_191 : okB xX 191 bp_191 := okB_of rfl (by decide +kernel) (by decide +kernel) (by decide +kernel) rfl
-- RootDeskModel.lesser(II)I
def bp_192 : bP := (fun pc => look (D192.getD (pc / 16) []) pc, fun i => look [] i, fun i => look [] i, fun i => look [] i, 3)
theorem ob_192 : okB xX 192 bp_192 := okB_of rfl (by decide +kernel) (by decide +kernel) (by decide +kernel) rfl
-- RootDeskModel.signAt(I)I
def bp_193 : bP := (fun pc => look (D193.getD (pc / 16) []) pc, fun i => look [(107, 12, 10, .int, true), (13, 12, 2, .array (.int), false)] i, fun i => look [] i, fun i => look [] i, 4)
theorem ob_193 : okB xX 193 bp_193 := okB_of rfl (by decide +kernel) (by decide +kernel) (by decide +kernel) rfl
-- RootDeskModel.take(II)Z
def bp_194 : bP := (fun pc => look (D194.getD (pc / 16) []) pc, fun i => look [(107, 12, 10, .int, true), (139, 12, 12, .int, true), (20, 12, 5, .array (.int), false)] i, fun i => look [] i, fun i => look [] i, 3)
theorem ob_194 : okB xX 194 bp_194 := okB_of rfl (by decide +kernel) (by decide +kernel) (by decide +kernel) rfl
-- RootDeskModel.exactOf(II)I
def bp_195 : bP := (fun pc => look (D195.getD (pc / 16) []) pc, fun i => look [] i, fun i => look [] i, fun i => look [] i, 3)
theorem ob_195 : okB xX 195 bp_195 := okB_of rfl (by decide +kernel) (by decide +kernel) (by decide +kernel) rfl
-- RootDeskModel.tell(IIIII)V
def bp_196 : bP := (fun pc => look (D196.getD (pc / 16) []) pc, fun i => look [(23, 12, 6, .array (.int), false), (26, 12, 7, .array (.int), false), (29, 12, 8, .array (.int), false), (13, 12, 2, .array (.int), false)] i, fun i => look [] i, fun i => look [] i, 6)
theorem ob_196 : okB xX 196 bp_196 := okB_of rfl (by decide +kernel) (by decide +kernel) (by decide +kernel) rfl
-- RootDeskModel.fraction(III)V
def bp_197 : bP := (fun pc => look (D197.getD (pc / 16) []) pc, fun i => look [] i, fun i => look [(206, -1000000), (207, 1000000)] i, fun i => look [] i, 5)
theorem ob_197 : okB xX 197 bp_197 := okB_of rfl (by decide +kernel) (by decide +kernel) (by decide +kernel) rfl
-- RootDeskModel.copy(II)V
def bp_198 : bP := (fun pc => look (D198.getD (pc / 16) []) pc, fun i => look [(23, 12, 6, .array (.int), false), (26, 12, 7, .array (.int), false), (29, 12, 8, .array (.int), false)] i, fun i => look [] i, fun i => look [] i, 3)
theorem ob_198 : okB xX 198 bp_198 := okB_of rfl (by decide +kernel) (by decide +kernel) (by decide +kernel) rfl
-- RootDeskModel.negate(II)V
def bp_199 : bP := (fun pc => look (D199.getD (pc / 16) []) pc, fun i => look [(23, 12, 6, .array (.int), false), (26, 12, 7, .array (.int), false), (29, 12, 8, .array (.int), false), (13, 12, 2, .array (.int), false)] i, fun i => look [] i, fun i => look [] i, 3)
theorem ob_199 : okB xX 199 bp_199 := okB_of rfl (by decide +kernel) (by decide +kernel) (by decide +kernel) rfl
-- RootDeskModel.invert(II)V
def bp_200 : bP := (fun pc => look (D200.getD (pc / 16) []) pc, fun i => look [(13, 12, 2, .array (.int), false), (23, 12, 6, .array (.int), false), (26, 12, 7, .array (.int), false)] i, fun i => look [] i, fun i => look [] i, 4)
theorem ob_200 : okB xX 200 bp_200 := okB_of rfl (by decide +kernel) (by decide +kernel) (by decide +kernel) rfl
-- RootDeskModel.inverse(I)I
def bp_201 : bP := (fun pc => look (D201.getD (pc / 16) []) pc, fun i => look [(29, 12, 8, .array (.int), false)] i, fun i => look [] i, fun i => look [] i, 2)
theorem ob_201 : okB xX 201 bp_201 := okB_of rfl (by decide +kernel) (by decide +kernel) (by decide +kernel) rfl
-- RootDeskModel.add(III)Z
def bp_202 : bP := (fun pc => look (D202.getD (pc / 16) []) pc, fun i => look [] i, fun i => look [] i, fun i => look [] i, 4)
theorem ob_202 : okB xX 202 bp_202 := okB_of rfl (by decide +kernel) (by decide +kernel) (by decide +kernel) rfl
-- RootDeskModel.sum(IIIZ)Z
def bp_203 : bP := (fun pc => look (D203.getD (pc / 16) []) pc, fun i => look [] i, fun i => look [] i, fun i => look [] i, 8)
theorem ob_203 : okB xX 203 bp_203 := okB_of rfl (by decide +kernel) (by decide +kernel) (by decide +kernel) rfl
-- RootDeskModel.areSlots(III)Z
def bp_204 : bP := (fun pc => look (D204.getD (pc / 16) []) pc, fun i => look [] i, fun i => look [] i, fun i => look [] i, 4)
theorem ob_204 : okB xX 204 bp_204 := okB_of rfl (by decide +kernel) (by decide +kernel) (by decide +kernel) rfl
-- RootDeskModel.fits(II)Z
def bp_205 : bP := (fun pc => look (D205.getD (pc / 16) []) pc, fun i => look [] i, fun i => look [] i, fun i => look [] i, 3)
theorem ob_205 : okB xX 205 bp_205 := okB_of rfl (by decide +kernel) (by decide +kernel) (by decide +kernel) rfl
-- RootDeskModel.weightOf(II)I
def bp_206 : bP := (fun pc => look (D206.getD (pc / 16) []) pc, fun i => look [(23, 12, 6, .array (.int), false)] i, fun i => look [] i, fun i => look [] i, 3)
theorem ob_206 : okB xX 206 bp_206 := okB_of rfl (by decide +kernel) (by decide +kernel) (by decide +kernel) rfl
-- RootDeskModel.sizeOf(II)I
def bp_207 : bP := (fun pc => look (D207.getD (pc / 16) []) pc, fun i => look [(23, 12, 6, .array (.int), false), (26, 12, 7, .array (.int), false)] i, fun i => look [] i, fun i => look [] i, 3)
theorem ob_207 : okB xX 207 bp_207 := okB_of rfl (by decide +kernel) (by decide +kernel) (by decide +kernel) rfl
-- RootDeskModel.subtract(III)Z
def bp_208 : bP := (fun pc => look (D208.getD (pc / 16) []) pc, fun i => look [] i, fun i => look [] i, fun i => look [] i, 4)
theorem ob_208 : okB xX 208 bp_208 := okB_of rfl (by decide +kernel) (by decide +kernel) (by decide +kernel) rfl
-- RootDeskModel.multiply(III)Z
def bp_209 : bP := (fun pc => look (D209.getD (pc / 16) []) pc, fun i => look [(29, 12, 8, .array (.int), false)] i, fun i => look [] i, fun i => look [] i, 7)
theorem ob_209 : okB xX 209 bp_209 := okB_of rfl (by decide +kernel) (by decide +kernel) (by decide +kernel) rfl
-- RootDeskModel.product(III)I
def bp_210 : bP := (fun pc => look (D210.getD (pc / 16) []) pc, fun i => look [(29, 12, 8, .array (.int), false)] i, fun i => look [] i, fun i => look [] i, 4)
theorem ob_210 : okB xX 210 bp_210 := okB_of rfl (by decide +kernel) (by decide +kernel) (by decide +kernel) rfl
-- RootDeskModel.divide(III)Z
def bp_211 : bP := (fun pc => look (D211.getD (pc / 16) []) pc, fun i => look [(13, 12, 2, .array (.int), false)] i, fun i => look [] i, fun i => look [] i, 8)
theorem ob_211 : okB xX 211 bp_211 := okB_of rfl (by decide +kernel) (by decide +kernel) (by decide +kernel) rfl
-- RootDeskModel.root(III)Z
def bp_212 : bP := (fun pc => look (D212.getD (pc / 16) []) pc, fun i => look [(13, 12, 2, .array (.int), false), (23, 12, 6, .array (.int), false), (29, 12, 8, .array (.int), false), (26, 12, 7, .array (.int), false)] i, fun i => look [] i, fun i => look [] i, 7)
theorem ob_212 : okB xX 212 bp_212 := okB_of rfl (by decide +kernel) (by decide +kernel) (by decide +kernel) rfl
-- RootDeskModel.rootOf(II)V
def bp_213 : bP := (fun pc => look (D213.getD (pc / 16) []) pc, fun i => look [(13, 12, 2, .array (.int), false), (88, 12, 18, .int, true), (59, 12, 4, .int, true)] i, fun i => look [] i, fun i => look [] i, 3)
theorem ob_213 : okB xX 213 bp_213 := okB_of rfl (by decide +kernel) (by decide +kernel) (by decide +kernel) rfl
-- RootDeskModel.compare(II)I
def bp_214 : bP := (fun pc => look (D214.getD (pc / 16) []) pc, fun i => look [(13, 12, 2, .array (.int), false)] i, fun i => look [] i, fun i => look [] i, 4)
theorem ob_214 : okB xX 214 bp_214 := okB_of rfl (by decide +kernel) (by decide +kernel) (by decide +kernel) rfl
-- RootDeskModel.sign(I)I
def bp_215 : bP := (fun pc => look (D215.getD (pc / 16) []) pc, fun i => look [(13, 12, 2, .array (.int), false)] i, fun i => look [] i, fun i => look [] i, 2)
theorem ob_215 : okB xX 215 bp_215 := okB_of rfl (by decide +kernel) (by decide +kernel) (by decide +kernel) rfl
-- RootDeskModel.print(II)I
def bp_216 : bP := (fun pc => look (D216.getD (pc / 16) []) pc, fun i => look [(13, 12, 2, .array (.int), false), (45, 12, 20, .array (.char), false), (249, 12, 19, .int, true)] i, fun i => look [] i, fun i => look [(235, 10)] i, 6)
theorem ob_216 : okB xX 216 bp_216 := okB_of rfl (by decide +kernel) (by decide +kernel) (by decide +kernel) rfl
-- RootDeskModel.floorOf()V
def bp_217 : bP := (fun pc => look (D217.getD (pc / 16) []) pc, fun i => look [] i, fun i => look [] i, fun i => look [] i, 1)
theorem ob_217 : okB xX 217 bp_217 := okB_of rfl (by decide +kernel) (by decide +kernel) (by decide +kernel) rfl
-- RootDeskModel.cutDown(I)V
def bp_218 : bP := (fun pc => look (D218.getD (pc / 16) []) pc, fun i => look [(7, 12, 1, .array (.long), false), (13, 12, 2, .array (.int), false)] i, fun i => look [] i, fun i => look [] i, 4)
theorem ob_218 : okB xX 218 bp_218 := okB_of rfl (by decide +kernel) (by decide +kernel) (by decide +kernel) rfl
-- RootDeskModel.digitsOf()I
def bp_219 : bP := (fun pc => look (D219.getD (pc / 16) []) pc, fun i => look [(7, 12, 1, .array (.long), false), (45, 12, 20, .array (.char), false)] i, fun i => look [] i, fun i => look [(57, 268435456), (235, 10), (237, 48)] i, 8)
theorem ob_219 : okB xX 219 bp_219 := okB_of rfl (by decide +kernel) (by decide +kernel) (by decide +kernel) rfl
-- RootDeskModel.character(I)I
def bp_220 : bP := (fun pc => look (D220.getD (pc / 16) []) pc, fun i => look [(49, 12, 0, .int, true), (249, 12, 19, .int, true), (45, 12, 20, .array (.char), false)] i, fun i => look [] i, fun i => look [] i, 2)
theorem ob_220 : okB xX 220 bp_220 := okB_of rfl (by decide +kernel) (by decide +kernel) (by decide +kernel) rfl
-- RootDeskModel.weight(I)I
def bp_221 : bP := (fun pc => look (D221.getD (pc / 16) []) pc, fun i => look [(23, 12, 6, .array (.int), false)] i, fun i => look [] i, fun i => look [] i, 2)
theorem ob_221 : okB xX 221 bp_221 := okB_of rfl (by decide +kernel) (by decide +kernel) (by decide +kernel) rfl
-- RootDeskModel.size(I)I
def bp_222 : bP := (fun pc => look (D222.getD (pc / 16) []) pc, fun i => look [(26, 12, 7, .array (.int), false)] i, fun i => look [] i, fun i => look [] i, 2)
theorem ob_222 : okB xX 222 bp_222 := okB_of rfl (by decide +kernel) (by decide +kernel) (by decide +kernel) rfl
