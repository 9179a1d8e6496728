set_option maxRecDepth 100000 in
theorem rx_jk_40 : (List.range 5).all (fun k => rx_okJ (200 + k)) = true := by decide +kernel
set_option maxRecDepth 100000 in
theorem rx_jk_41 : (List.range 5).all (fun k => rx_okJ (205 + k)) = true := by decide +kernel
set_option maxRecDepth 100000 in
theorem rx_jk_42 : (List.range 5).all (fun k => rx_okJ (210 + k)) = true := by decide +kernel
set_option maxRecDepth 100000 in
theorem rx_jk_43 : (List.range 5).all (fun k => rx_okJ (215 + k)) = true := by decide +kernel
set_option maxRecDepth 100000 in
theorem rx_jk_44 : (List.range 5).all (fun k => rx_okJ (220 + k)) = true := by decide +kernel
