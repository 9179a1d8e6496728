set_option maxRecDepth 100000 in
theorem rx_dl_0 : (List.range 40).all (fun k => rx_okP 249 (0 + k)) = true := by decide +kernel
set_option maxRecDepth 100000 in
theorem rx_dl_1 : (List.range 40).all (fun k => rx_okP 249 (40 + k)) = true := by decide +kernel
set_option maxRecDepth 100000 in
theorem rx_dl_2 : (List.range 40).all (fun k => rx_okP 249 (80 + k)) = true := by decide +kernel
set_option maxRecDepth 100000 in
theorem rx_dl_3 : (List.range 40).all (fun k => rx_okP 249 (120 + k)) = true := by decide +kernel
set_option maxRecDepth 100000 in
theorem rx_dl_4 : (List.range 40).all (fun k => rx_okP 249 (160 + k)) = true := by decide +kernel
set_option maxRecDepth 100000 in
theorem rx_dl_5 : (List.range 40).all (fun k => rx_okP 249 (200 + k)) = true := by decide +kernel
set_option maxRecDepth 100000 in
theorem rx_dl_6 : (List.range 40).all (fun k => rx_okP 249 (240 + k)) = true := by decide +kernel
set_option maxRecDepth 100000 in
theorem rx_dl_7 : (List.range 40).all (fun k => rx_okP 249 (280 + k)) = true := by decide +kernel
set_option maxRecDepth 100000 in
theorem rx_dl_8 : (List.range 40).all (fun k => rx_okP 249 (320 + k)) = true := by decide +kernel
set_option maxRecDepth 100000 in
theorem rx_dl_9 : (List.range 40).all (fun k => rx_okP 249 (360 + k)) = true := by decide +kernel
set_option maxRecDepth 100000 in
theorem rx_dl_10 : (List.range 40).all (fun k => rx_okP 249 (400 + k)) = true := by decide +kernel
set_option maxRecDepth 100000 in
theorem rx_dl_11 : (List.range 40).all (fun k => rx_okP 249 (440 + k)) = true := by decide +kernel
set_option maxRecDepth 100000 in
theorem rx_dl_12 : (List.range 40).all (fun k => rx_okP 249 (480 + k)) = true := by decide +kernel
set_option maxRecDepth 100000 in
theorem rx_dl_13 : (List.range 40).all (fun k => rx_okP 249 (520 + k)) = true := by decide +kernel
set_option maxRecDepth 100000 in
theorem rx_dl_14 : (List.range 40).all (fun k => rx_okP 249 (560 + k)) = true := by decide +kernel
