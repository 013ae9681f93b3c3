theorem tt_1 : (lw_tbl.filter (fun w => !goodWord w)).length = 0 := by decide +kernel
theorem tt_2 : (List.range 1504).filter (fun i => match lw_tbl[i]? with | some w => !goodWord w | none => true) = [] := by decide +kernel
theorem tt_3 : lw_tbl.length = 1504 := by decide +kernel
theorem tt_4 : (vx_atS RX9 350 "java/lang/IndexOutOfBoundsException" ["java/lang/RuntimeException", "java/lang/Exception"]).length = 0 := by decide +kernel
theorem tt_5 : ((vx_atS RX9 350 "java/lang/IndexOutOfBoundsException" ["java/lang/RuntimeException", "java/lang/Exception"]).filter (fun w => !goodWord w)) = [] := by decide +kernel
