/-! the same machine, its choices by the instruction made first: for the kernel's sake -/
def x_op2 (nL : Nat) (i : Instr) (pc : Nat) : xL → List Value → Option xS := match i with
  | .iconst k => fun lv st => some (pc + 1, lv, .int (Int32.ofInt k) :: st)
  | .bipush k => fun lv st => some (pc + 2, lv, .int (Int8.ofInt k).toInt32 :: st)
  | .sipush k => fun lv st => some (pc + 3, lv, .int (Int16.ofInt k).toInt32 :: st)
  | .lconst k => fun lv st => some (pc + 1, lv, .long (Int64.ofNat (k : Nat)) :: st)
  | .iload_n k => fun lv st => match x_g lv k with | some (.int x) => some (pc + 1, lv, .int x :: st) | _ => none
  | .iload k => fun lv st => match x_g lv k with | some (.int x) => some (pc + 2, lv, .int x :: st) | _ => none
  | .lload_n k => fun lv st => match x_g lv k with | some (.long x) => some (pc + 1, lv, .long x :: st) | _ => none
  | .lload k => fun lv st => match x_g lv k with | some (.long x) => some (pc + 2, lv, .long x :: st) | _ => none
  | .aload_n k => fun lv st => match x_g lv k with | some (.ref x) => some (pc + 1, lv, .ref x :: st) | _ => none
  | .aload k => fun lv st => match x_g lv k with | some (.ref x) => some (pc + 2, lv, .ref x :: st) | _ => none
  | .istore_n k => fun lv st => x_1i st (fun x r => x_st nL pc 1 lv k (.int x) r)
  | .istore k => fun lv st => x_1i st (fun x r => x_st nL pc 2 lv k (.int x) r)
  | .astore_n k => fun lv st => x_1r st (fun x r => x_st nL pc 1 lv k (.ref x) r)
  | .astore k => fun lv st => x_1r st (fun x r => x_st nL pc 2 lv k (.ref x) r)
  | .lstore_n k => fun lv st => x_1l st (fun x r => x_st2 nL pc 1 lv k (.long x) r)
  | .lstore k => fun lv st => x_1l st (fun x r => x_st2 nL pc 2 lv k (.long x) r)
  | .iinc k n => fun lv st => match x_g lv k with | some (.int x) => x_st nL pc 3 lv k (.int (x + Int32.ofInt n)) st | _ => none
  | .iadd => fun lv st => x_2i st (fun x y r => some (pc + 1, lv, .int (x + y) :: r))
  | .isub => fun lv st => x_2i st (fun x y r => some (pc + 1, lv, .int (x - y) :: r))
  | .imul => fun lv st => x_2i st (fun x y r => some (pc + 1, lv, .int (x * y) :: r))
  | .iand => fun lv st => x_2i st (fun x y r => some (pc + 1, lv, .int (x &&& y) :: r))
  | .ior => fun lv st => x_2i st (fun x y r => some (pc + 1, lv, .int (x ||| y) :: r))
  | .ishl => fun lv st => x_2i st (fun x y r => some (pc + 1, lv, .int (x <<< (y &&& 31)) :: r))
  | .ishr => fun lv st => x_2i st (fun x y r => some (pc + 1, lv, .int (x >>> (y &&& 31)) :: r))
  | .iushr => fun lv st => x_2i st (fun x y r => some (pc + 1, lv, .int (x.toUInt32 >>> (y.toUInt32 &&& Int32.toUInt32 31)).toInt32 :: r))
  | .idiv => fun lv st => x_2i st (fun x y r => if y = 0 then none else some (pc + 1, lv, .int (x / y) :: r))
  | .irem => fun lv st => x_2i st (fun x y r => if y = 0 then none else some (pc + 1, lv, .int (x - x / y * y) :: r))
  | .ineg => fun lv st => x_1i st (fun x r => some (pc + 1, lv, .int (-x) :: r))
  | .ladd => fun lv st => x_2l st (fun x y r => some (pc + 1, lv, .long (x + y) :: r))
  | .lsub => fun lv st => x_2l st (fun x y r => some (pc + 1, lv, .long (x - y) :: r))
  | .lmul => fun lv st => x_2l st (fun x y r => some (pc + 1, lv, .long (x * y) :: r))
  | .land => fun lv st => x_2l st (fun x y r => some (pc + 1, lv, .long (x &&& y) :: r))
  | .lor => fun lv st => x_2l st (fun x y r => some (pc + 1, lv, .long (x ||| y) :: r))
  | .ldiv => fun lv st => x_2l st (fun x y r => if y = 0 then none else some (pc + 1, lv, .long (x / y) :: r))
  | .lrem => fun lv st => x_2l st (fun x y r => if y = 0 then none else some (pc + 1, lv, .long (x - x / y * y) :: r))
  | .lneg => fun lv st => x_1l st (fun x r => some (pc + 1, lv, .long (-x) :: r))
  | .lshl => fun lv st => x_li st (fun x y r => some (pc + 1, lv, .long (x <<< (y.toInt64 &&& 63)) :: r))
  | .lshr => fun lv st => x_li st (fun x y r => some (pc + 1, lv, .long (x >>> (y.toInt64 &&& 63)) :: r))
  | .lushr => fun lv st => x_li st (fun x y r => some (pc + 1, lv, .long (x.toUInt64 >>> (y.toInt64.toUInt64 &&& Int64.toUInt64 63)).toInt64 :: r))
  | .lcmp => fun lv st => x_2l st (fun x y r => some (pc + 1, lv, .int (lg_cmp x y) :: r))
  | .i2l => fun lv st => x_1i st (fun x r => some (pc + 1, lv, .long x.toInt64 :: r))
  | .l2i => fun lv st => x_1l st (fun x r => some (pc + 1, lv, .int x.toInt32 :: r))
  | .i2c => fun lv st => x_1i st (fun x r => some (pc + 1, lv, .int (x.toUInt32 % 65536).toInt32 :: r))
  | .dup => fun lv st => x_1v st (fun v r => if v.category = 1 then some (pc + 1, lv, v :: v :: r) else none)
  | .pop => fun lv st => x_1v st (fun v r => if v.category = 1 then some (pc + 1, lv, r) else none)
  | .dup_x1 => fun lv st => x_2v st (fun v w r => if v.category = 1 ∧ w.category = 1 then some (pc + 1, lv, v :: w :: v :: r) else none)
  | .dup2 => fun lv st => x_2v st (fun v w r => if v.category = 1 ∧ w.category = 1 then some (pc + 1, lv, v :: w :: v :: w :: r) else none)
  | .ifCond c off => fun lv st => x_1i st (fun x r => x_br pc off lv r (x_c0 c x))
  | .if_icmp c off => fun lv st => x_2i st (fun x y r => x_br pc off lv r (x_c2 c x y))
  | .goto off => fun lv st => (x_tg pc off).map (fun t => (t, lv, st))
  | _ => fun _ _ => none
theorem x_op2_eq (nL : Nat) (i : Instr) (pc : Nat) (lv : xL) (st : List Value) : x_op2 nL i pc lv st = x_op nL i pc lv st := by cases i <;> rfl
noncomputable def x_hs2 (X : xProg) (mi : Nat) (i : Instr) (pc : Nat) : xL → List Value → xH → Option xQ := match i with
  | .getfield idx => fun lv st h => y_r st (fun a r => h_o h a (fun cj vs => (xfld X mi idx).bind (fun q => x_ck (Nat.beq q.1 cj && Nat.blt q.2 (xnf X q.1)) ((vs[q.2]?).map (fun v => ((pc + 3, lv, v :: r), h, 0, 0))))))
  | .putfield idx => fun lv st h => y_v st (fun v st => y_r st (fun a r => h_o h a (fun cj vs => (xfld X mi idx).bind (fun q => x_ck (Nat.beq q.1 cj && (Nat.blt q.2 (xnf X q.1) && (Nat.blt q.2 vs.length && (decide (narrow (xft X q.1 q.2) v = v) && (fits (xft X q.1 q.2) v && xput X mi idx))))) (some ((pc + 3, lv, r), h.set a (.inl (cj, vs.set q.2 v)), 0, 0))))))
  | .iaload => fun lv st h => y_i st (fun j st => y_r st (fun a r => h_i .int h a (fun x => x_ck (x_in j x.length) (some ((pc + 1, lv, .int (x.getD j.toNatClampNeg 0) :: r), h, 0, 0)))))
  | .caload => fun lv st h => y_i st (fun j st => y_r st (fun a r => h_i .char h a (fun x => x_ck (x_in j x.length) (some ((pc + 1, lv, .int (x.getD j.toNatClampNeg 0) :: r), h, 0, 0)))))
  | .baload => fun lv st h => y_i st (fun j st => y_r st (fun a r => h_i .boolean h a (fun x => x_ck (x_in j x.length) (some ((pc + 1, lv, .int (x.getD j.toNatClampNeg 0) :: r), h, 0, 0)))))
  | .laload => fun lv st h => y_i st (fun j st => y_r st (fun a r => h_l h a (fun x => x_ck (x_in j x.length) (some ((pc + 1, lv, .long (x.getD j.toNatClampNeg 0) :: r), h, 0, 0)))))
  | .aaload => fun lv st h => y_i st (fun j st => y_r st (fun a r => h_q h a (fun _ x => x_ck (x_in j x.length) (some ((pc + 1, lv, va_rf (x.getD j.toNatClampNeg none) :: r), h, 0, 0)))))
  | .iastore => fun lv st h => y_i st (fun y st => y_i st (fun j st => y_r st (fun a r => h_i .int h a (fun x => x_ck (x_in j x.length) (some ((pc + 1, lv, r), h.set a (.inr (.int, .inl (x.set j.toNatClampNeg y))), 0, 0))))))
  | .castore => fun lv st h => y_i st (fun y st => y_i st (fun j st => y_r st (fun a r => h_i .char h a (fun x => x_ck (x_in j x.length) (some ((pc + 1, lv, r), h.set a (.inr (.char, .inl (x.set j.toNatClampNeg (vp_nar .char y)))), 0, 0))))))
  | .bastore => fun lv st h => y_i st (fun y st => y_i st (fun j st => y_r st (fun a r => h_i .boolean h a (fun x => x_ck (x_in j x.length) (some ((pc + 1, lv, r), h.set a (.inr (.boolean, .inl (x.set j.toNatClampNeg (vp_nar .boolean y)))), 0, 0))))))
  | .lastore => fun lv st h => y_l st (fun y st => y_i st (fun j st => y_r st (fun a r => h_l h a (fun x => x_ck (x_in j x.length) (some ((pc + 1, lv, r), h.set a (.inr (.long, .inr (.inl (x.set j.toNatClampNeg y)))), 0, 0))))))
  | .aastore => fun lv st h => y_r st (fun k st => y_i st (fun j st => y_r st (fun a r => h_q h a (fun C x => h_o h k (fun ci _ => x_ck (x_in j x.length && decide (xcn X ci = C)) (some ((pc + 1, lv, r), h.set a (.inr (.object C, .inr (.inr (x.set j.toNatClampNeg (some k))))), 0, 0)))))))
  | .if_acmp q off => fun lv st h => y_r st (fun j st => y_r st (fun i r => (x_tg pc off).bind (fun t => some ((bif (match q with | .eq => Nat.beq i j | .ne => !(Nat.beq i j)) then t else pc + 3, lv, r), h, 0, 0))))
  | .arraylength => fun lv st h => y_r st (fun a r => match h[a]? with
    | some (.inr (_, .inl x)) => some ((pc + 1, lv, .int (Int32.ofNat x.length) :: r), h, 0, 0)
    | some (.inr (_, .inr (.inl x))) => some ((pc + 1, lv, .int (Int32.ofNat x.length) :: r), h, 0, 0)
    | some (.inr (_, .inr (.inr x))) => some ((pc + 1, lv, .int (Int32.ofNat x.length) :: r), h, 0, 0)
    | _ => none)
  | .new idx => fun lv st h => (xcls X mi idx).bind (fun ci => fN h.length (fun n => some ((pc + 3, lv, .ref n :: st), h ++ [.inl (ci, xdf X ci)], 1, xnf X ci)))
  | .newarray at_ => fun lv st h => y_i st (fun n r => x_ck (!(decide (n < 0)) && Nat.ble n.toNatClampNeg 67108864) (match at_ with
    | .int => fN h.length (fun q => some ((pc + 2, lv, .ref q :: r), h ++ [.inr (.int, .inl (List.replicate n.toNatClampNeg 0))], 1, n.toNatClampNeg))
    | .char => fN h.length (fun q => some ((pc + 2, lv, .ref q :: r), h ++ [.inr (.char, .inl (List.replicate n.toNatClampNeg 0))], 1, n.toNatClampNeg))
    | .boolean => fN h.length (fun q => some ((pc + 2, lv, .ref q :: r), h ++ [.inr (.boolean, .inl (List.replicate n.toNatClampNeg 0))], 1, n.toNatClampNeg))
    | .long => fN h.length (fun q => some ((pc + 2, lv, .ref q :: r), h ++ [.inr (.long, .inr (.inl (List.replicate n.toNatClampNeg 0)))], 1, n.toNatClampNeg))
    | _ => none))
  | .anewarray idx => fun lv st h => y_i st (fun n r => x_ck (!(decide (n < 0)) && Nat.ble n.toNatClampNeg 67108864) ((xarr X mi idx).bind (fun C => fN h.length (fun q => some ((pc + 3, lv, .ref q :: r), h ++ [.inr (.object C, .inr (.inr (List.replicate n.toNatClampNeg none)))], 1, n.toNatClampNeg)))))
  | .ldc idx => fun lv st h => (xki X mi idx).bind (fun v => some ((pc + 2, lv, .int v :: st), h, 0, 0))
  | .ldc2_w idx => fun lv st h => (xkl X mi idx).bind (fun v => some ((pc + 3, lv, .long v :: st), h, 0, 0))
  | i => fun lv st h => (x_op2 (xml X mi) i pc lv st).map (fun o => (o, h, 0, 0))
theorem x_hs2_eq (X : xProg) (mi : Nat) (i : Instr) (pc : Nat) (lv : xL) (st : List Value) (h : xH) : x_hs2 X mi i pc lv st h = x_hs X mi i pc lv st h := by cases i <;> first | rfl | (show (x_op2 _ _ _ _ _).map _ = _; rw [x_op2_eq]; rfl)
noncomputable def x_run2 (X : xProg) (Y : Nat → MethodName) (kd : Nat → Nat) (mi pc : Nat) (i : Instr) : xK → Nat → Nat → xL → List Value → xH → Nat → Nat → Option xR := match i with
  | .ireturn => fun ih fb lb lv st h c s => y_i st (fun v r => x_ck r.isEmpty ((xrt X mi).bind (fun ty => x_ck (decide (narrow ty (.int v) = .int v)) (some (some (.int v), h, c, s)))))
  | .lreturn => fun ih fb lb lv st h c s => y_l st (fun v r => x_ck (r.isEmpty && decide (xrt X mi = some .long)) (some (some (.long v), h, c, s)))
  | .areturn => fun ih fb lb lv st h c s => y_r st (fun a r => x_ck r.isEmpty (match xrt X mi with
    | some (.object _) => some (some (.ref a), h, c, s)
    | some (.array _) => some (some (.ref a), h, c, s)
    | _ => none))
  | .return_ => fun ih fb lb lv st h c s => x_ck (st.isEmpty && decide (xrt X mi = none)) (some (none, h, c, s))
  | .invokevirtual idx => fun ih fb lb lv st h c s => (xinv X mi idx).bind (fun q => q.1.bind (fun mj => y_r (st.drop q.2) (fun b rest => h_o h b (fun ci _ => x_ck ((kd mj == 0) && (decide (xcn X ci = (Y mj).cls) && Nat.ble q.2 st.length)) (x_go X ih fb lb mi pc lv rest h c s mj (.ref b :: (st.take q.2).reverse))))))
  | .invokestatic idx => fun ih fb lb lv st h c s => (xinv X mi idx).bind (fun q => match q.1 with
    | none => (x_math q.2 st).bind (fun w => x_ck (Nat.blt 0 fb && Nat.ble (x_sum w.2 + 13) lb) (ih fb lb mi (pc + 3) lv (.int w.1 :: w.2) h c s))
    | some mj => x_ck ((kd mj == 1) && Nat.ble q.2 st.length) (x_go X ih fb lb mi pc lv (st.drop q.2) h c s mj (st.take q.2).reverse))
  | .invokespecial idx => fun ih fb lb lv st h c s => (xinv X mi idx).bind (fun q => match q.1 with
    | none => y_r st (fun _ rest => x_ck (Nat.beq q.2 0 && (Nat.blt 0 fb && Nat.ble (x_sum rest + 12) lb)) (ih fb lb mi (pc + 3) lv rest h c s))
    | some mj => y_r (st.drop q.2) (fun b rest => x_ck ((kd mj == 2) && Nat.ble q.2 st.length) (x_go X ih fb lb mi pc lv rest h c s mj (.ref b :: (st.take q.2).reverse))))
  | i => fun ih fb lb lv st h c s => (x_hs2 X mi i pc lv st h).bind (fun o => bif x_wr i then frc o.2.1 (fun h' => ih fb lb mi o.1.1 o.1.2.1 o.1.2.2 h' (c + o.2.2.1) (s + o.2.2.2)) else ih fb lb mi o.1.1 o.1.2.1 o.1.2.2 o.2.1 (c + o.2.2.1) (s + o.2.2.2))
theorem x_run2_eq (X : xProg) (Y : Nat → MethodName) (kd : Nat → Nat) (mi pc : Nat) (i : Instr) (ih : xK) (fb lb : Nat) (lv : xL) (st : List Value) (h : xH) (c s : Nat) : x_run2 X Y kd mi pc i ih fb lb lv st h c s = x_run X Y kd ih fb lb mi pc lv st h c s i := by cases i <;> first | rfl | (show (x_hs2 _ _ _ _ _ _ _).bind _ = _; rw [x_hs2_eq]; rfl)
noncomputable def run2 (X : xProg) (Y : Nat → MethodName) (kd : Nat → Nat) (n : Nat) : xK := Nat.rec (motive := fun _ => xK) (fun _ _ _ _ _ _ _ _ _ => none) (fun _ ih fb lb mi pc lv st h c s => (xdec X mi pc).bind (fun i => x_run2 X Y kd mi pc i ih fb lb lv st h c s)) n
theorem run2_eq (X : xProg) (Y : Nat → MethodName) (kd : Nat → Nat) (n : Nat) : run2 X Y kd n = run X Y kd n := by
  induction n with
  | zero => rfl
  | succ n ih =>
    funext fb lb mi pc lv st h c s
    show (xdec X mi pc).bind (fun i => x_run2 X Y kd mi pc i (run2 X Y kd n) fb lb lv st h c s) = _
    rw [ih, run_s]
    congr 1
    funext i
    rw [x_run2_eq]
