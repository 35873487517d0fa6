def zIsAc (w : Cond) : Bool := match w with
  | .arrayClass _ => true
  | _ => false
theorem zTb_good : lw_tbl.all (fun w => (w.onTables && w.keeps) || zIsAc w) = true := by decide +kernel
