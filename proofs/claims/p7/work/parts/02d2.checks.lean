set_option maxRecDepth 100000 in
theorem rx_jk_25 : (List.range 5).all (fun k => rx_okJ (125 + k)) = true := by decide +kernel
set_option maxRecDepth 100000 in
theorem rx_jk_26 : (List.range 5).all (fun k => rx_okJ (130 + k)) = true := by decide +kernel
set_option maxRecDepth 100000 in
theorem rx_jk_27 : (List.range 5).all (fun k => rx_okJ (135 + k)) = true := by decide +kernel
set_option maxRecDepth 100000 in
theorem rx_jk_28 : (List.range 5).all (fun k => rx_okJ (140 + k)) = true := by decide +kernel
set_option maxRecDepth 100000 in
theorem rx_jk_29 : (List.range 5).all (fun k => rx_okJ (145 + k)) = true := by decide +kernel
set_option maxRecDepth 100000 in
theorem rx_jk_30 : (List.range 5).all (fun k => rx_okJ (150 + k)) = true := by decide +kernel
set_option maxRecDepth 100000 in
theorem rx_jk_31 : (List.range 5).all (fun k => rx_okJ (155 + k)) = true := by decide +kernel
set_option maxRecDepth 100000 in
theorem rx_jk_32 : (List.range 5).all (fun k => rx_okJ (160 + k)) = true := by decide +kernel
set_option maxRecDepth 100000 in
theorem rx_jk_33 : (List.range 5).all (fun k => rx_okJ (165 + k)) = true := by decide +kernel
set_option maxRecDepth 100000 in
theorem rx_jk_34 : (List.range 5).all (fun k => rx_okJ (170 + k)) = true := by decide +kernel
