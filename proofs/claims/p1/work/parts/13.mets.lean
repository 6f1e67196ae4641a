/-- RootDesk(): 648 cells of 3,195 slots come; what they hold is H0 -/
theorem met_ctor (l : Launch) {D : va_G} {as : List Nat} {tys : List (ClassId × FieldType)} {ws : va_W} {sz : Nat} {cvs : List Value} (hw : wr as tys [.inl (11, dfT.getD 11 [])] ws) (ha : vrs as [.ref 0] cvs) :
    Met l (xB.1 0) (xws xX xB TB 0) { frames := 8, cells := cnt0.1, slots := cnt0.2, locals := 300 } (va_Pc cvs (xPre D xcl xNN tys ws sz)) (xPost D xcl (va_A ws sz) as (none, H0, cnt0.1, cnt0.2)) cnt0.1 cnt0.2 (va_A ws sz) :=
  met_of (run_snd okP_all 2000) okP_all ctor_run (by decide) (by decide) hw ha
