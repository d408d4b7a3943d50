def s0 : AS := [ax_full, ax_full, ax_full, ax_full, ax_full, ax_full, (9223372036854775814, 9223372036854775814)]
noncomputable def ax_cnt (r : RS) : Bool := match r with
  | some l => l.all (fun o => Nat.beq o.2.2.2.2.1 18 && Nat.beq o.2.1.1 185)
  | none => false
set_option maxRecDepth 100000 in
theorem tryA : ax_cnt (ax_run sbs mth 100000 mL_law 18 0 tL_law s0 (0, []) 0 0 [(0, (6, 0))] []) = true := by decide +kernel
