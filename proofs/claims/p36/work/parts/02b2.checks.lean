set_option maxRecDepth 100000 in
theorem rx_dk_5 : (List.range 25).all (fun k => rx_okD (125 + k)) = true := by decide +kernel
set_option maxRecDepth 100000 in
theorem rx_dk_6 : (List.range 25).all (fun k => rx_okD (150 + k)) = true := by decide +kernel
set_option maxRecDepth 100000 in
theorem rx_dk_7 : (List.range 25).all (fun k => rx_okD (175 + k)) = true := by decide +kernel
set_option maxRecDepth 100000 in
theorem rx_dk_8 : (List.range 25).all (fun k => rx_okD (200 + k)) = true := by decide +kernel
set_option maxRecDepth 100000 in
theorem rx_dk_9 : (List.range 24).all (fun k => rx_okD (225 + k)) = true := by decide +kernel
