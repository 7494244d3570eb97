/-! the first text -/
def dumC : Mm := (fun r k => if r = (1, 0, 0) then (if k = 1 then slen 0 else 0) else if r = (2, 0, 0) then (sby 0).getD k 0 else 0, fun _ _ => 0)
theorem first_len : (sby 0).length = 123 := by decide +kernel
theorem first_w : (fX6_readSetup dumC).map (fun q => q.1) = some 1 := by decide +kernel

