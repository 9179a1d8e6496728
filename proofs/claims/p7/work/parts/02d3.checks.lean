set_option maxRecDepth 100000 in
theorem rx_jk_35 : (List.range 5).all (fun k => rx_okJ (175 + k)) = true := by decide +kernel
set_option maxRecDepth 100000 in
theorem rx_jk_36 : (List.range 5).all (fun k => rx_okJ (180 + k)) = true := by decide +kernel
set_option maxRecDepth 100000 in
theorem rx_jk_37 : (List.range 5).all (fun k => rx_okJ (185 + k)) = true := by decide +kernel
set_option maxRecDepth 100000 in
theorem rx_jk_38 : (List.range 5).all (fun k => rx_okJ (190 + k)) = true := by decide +kernel
set_option maxRecDepth 100000 in
theorem rx_jk_39 : (List.range 5).all (fun k => rx_okJ (195 + k)) = true := by decide +kernel
