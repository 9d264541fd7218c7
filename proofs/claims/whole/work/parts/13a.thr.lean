def mv_nms : List String := ["java/lang/RuntimeException", "java/lang/Exception"]
def mv_ml0 (w : Cond) : Bool := match w with | .methodLink o _ _ => decide (o = "") | _ => false
theorem mv_tA0 : ((vx_atS "" 0 (mv_ec 0) mv_nms).all (fun w => mv_ml0 w || (lw_tbl.elem w))) = true := by decide +kernel
theorem mv_tA1 : ((vx_atS "" 0 (mv_ec 1) mv_nms).all (fun w => mv_ml0 w || (lw_tbl.elem w))) = true := by decide +kernel
theorem mv_tA2 : ((vx_atS "" 0 (mv_ec 2) mv_nms).all (fun w => mv_ml0 w || (lw_tbl.elem w))) = true := by decide +kernel
theorem mv_tA3 : ((vx_atS "" 0 (mv_ec 3) mv_nms).all (fun w => mv_ml0 w || (lw_tbl.elem w))) = true := by decide +kernel
theorem mv_tA4 : ((vx_atS "" 0 (mv_ec 4) mv_nms).all (fun w => mv_ml0 w || (lw_tbl.elem w))) = true := by decide +kernel
theorem mv_tA5 : ((vx_atS "" 0 (mv_ec 5) mv_nms).all (fun w => mv_ml0 w || (lw_tbl.elem w))) = true := by decide +kernel
