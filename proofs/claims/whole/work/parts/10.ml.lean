def am_ckM (e : Nat × Nat × Nat × Nat × Nat × Nat × Nat × Nat × Nat × Nat × Nat) : Bool :=
  let md := am_md e.2.2.2.1
  let y := md.2.1
  (if e.2.2.2.2.2.2.1 = 1 then am_hasN e.2.2.2.2.2.1 (Cond.methodLinkNest (am_onm e.1) e.2.1 y "ProofLine") else am_has e.2.2.2.2.2.1 (Cond.methodLink (am_onm e.1) e.2.1 y)) && am_has e.2.2.2.2.2.2.2.2.1 (Cond.initialized y.cls) && decide (y.cls ≠ "java/lang/invoke/MethodHandle") && decide (y.cls ≠ "java/lang/invoke/VarHandle") && decide (md.2.2.2.1 ≤ 29) &&
  (match e.2.2.1 with
  | 0 => am_has e.2.2.2.2.2.2.2.2.2.1 (Cond.instanceMethod y) && am_has e.2.2.2.2.2.2.2.2.2.2 (Cond.selects y.cls y y) && decide ((parseMethodDescriptor y.desc).map (fun d => d.parameters.length + 1) = some (e.2.2.2.2.1 % 100)) && (match am_cl[e.2.2.2.2.1 / 100]? with | some (C, _, _) => decide (C = y.cls) | none => false)
  | 1 => am_has e.2.2.2.2.2.2.2.2.2.1 (Cond.static y) && decide ((parseMethodDescriptor y.desc).map (fun d => d.parameters.length) = some e.2.2.2.2.1)
  | _ => am_has e.2.2.2.2.2.2.2.2.2.1 (Cond.instanceMethod y) && decide (md.2.2.2.2.1 = none) && decide (y.name = "<init>") && decide ((parseMethodDescriptor y.desc).map (fun d => d.parameters.length + 1) = some e.2.2.2.2.1))
set_option maxRecDepth 100000 in
theorem am_ML_ok0 : ((am_ML.take 50)).all am_ckM = true := by decide +kernel
set_option maxRecDepth 100000 in
theorem am_ML_ok1 : ((am_ML.drop 50).take 50).all am_ckM = true := by decide +kernel
set_option maxRecDepth 100000 in
theorem am_ML_ok2 : ((am_ML.drop 100).take 50).all am_ckM = true := by decide +kernel
set_option maxRecDepth 100000 in
theorem am_ML_ok3 : (am_ML.drop 150).all am_ckM = true := by decide +kernel
