set_option maxRecDepth 20000 in
theorem xbad_1_98 : ∀ w ∈ (vx_atS RX5 98 (exN 1) ["java/lang/RuntimeException", "java/lang/Exception"]).filter (fun w => !goodWord w), w ∈ (nwC.map (fun q => Cond.castable q q) ++ nwD.map (fun q => Cond.declares q)) := by decide +kernel
set_option maxRecDepth 20000 in
theorem xgood_1_98_94 : ∀ w ∈ Cond.classLink RX5 94 (exN 1) :: Cond.initialized (exN 1) :: vx_atS RX5 98 (exN 1) ["java/lang/RuntimeException", "java/lang/Exception"], vx_ot w = true := by decide +kernel
set_option maxRecDepth 20000 in
theorem xbad_2_84 : ∀ w ∈ (vx_atS RX5 84 (exN 2) ["java/lang/RuntimeException", "java/lang/Exception"]).filter (fun w => !goodWord w), w ∈ (nwC.map (fun q => Cond.castable q q) ++ nwD.map (fun q => Cond.declares q)) := by decide +kernel
set_option maxRecDepth 20000 in
theorem xgood_2_84_80 : ∀ w ∈ Cond.classLink RX5 80 (exN 2) :: Cond.initialized (exN 2) :: vx_atS RX5 84 (exN 2) ["java/lang/RuntimeException", "java/lang/Exception"], vx_ot w = true := by decide +kernel
set_option maxRecDepth 20000 in
theorem xbad_3_148 : ∀ w ∈ (vx_atS RX5 148 (exN 3) ["java/lang/RuntimeException", "java/lang/Exception"]).filter (fun w => !goodWord w), w ∈ (nwC.map (fun q => Cond.castable q q) ++ nwD.map (fun q => Cond.declares q)) := by decide +kernel
set_option maxRecDepth 20000 in
theorem xgood_3_148_144 : ∀ w ∈ Cond.classLink RX5 144 (exN 3) :: Cond.initialized (exN 3) :: vx_atS RX5 148 (exN 3) ["java/lang/RuntimeException", "java/lang/Exception"], vx_ot w = true := by decide +kernel
