/-! the reference's constructor -/
set_option maxRecDepth 10000000 in
theorem mctor_ev : eqR (run2 xX xB.1 xB.2.1 400 2 40 152 0 (lv_args 0 [.ref 0]) [] [.inl (12, dfT.getD 12 [])] 0 0) (none, mI, 12, 6758) = true := by decide +kernel
theorem mctor_run : run xX xB.1 xB.2.1 400 2 40 152 0 (lv_args 0 [.ref 0]) [] [.inl (12, dfT.getD 12 [])] 0 0 = some (none, mI, 12, 6758) := by
  rw [← run2_eq]; exact eqR_ok mctor_ev
/-- RootDeskModel(): 12 cells of 6,758 slots come; what they hold is mI -/
theorem met_mctor (l : Launch) {D : va_G} {as : List Nat} {tys : List (ClassId × FieldType)} {ws : va_W} {sz : Nat} {cvs : List Value} (hw : wr as tys [.inl (12, dfT.getD 12 [])] ws) (ha : vrs as [.ref 0] cvs) :
    Met l (xB.1 152) (xws xX xB TB 152) { frames := 2, cells := 12, slots := 6758, locals := 40 } (va_Pc cvs (xPre D xcl xNN tys ws sz)) (xPost D xcl (va_A ws sz) as (none, mI, 12, 6758)) 12 6758 (va_A ws sz) :=
  met_of (run_snd okP_all 400) okP_all mctor_run (by decide) (by decide) hw ha
