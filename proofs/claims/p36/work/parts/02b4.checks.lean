set_option maxRecDepth 100000 in
theorem rx_dl_15 : (List.range 40).all (fun k => rx_okP 249 (600 + k)) = true := by decide +kernel
set_option maxRecDepth 100000 in
theorem rx_dl_16 : (List.range 40).all (fun k => rx_okP 249 (640 + k)) = true := by decide +kernel
set_option maxRecDepth 100000 in
theorem rx_dl_17 : (List.range 40).all (fun k => rx_okP 249 (680 + k)) = true := by decide +kernel
set_option maxRecDepth 100000 in
theorem rx_dl_18 : (List.range 40).all (fun k => rx_okP 249 (720 + k)) = true := by decide +kernel
set_option maxRecDepth 100000 in
theorem rx_dl_19 : (List.range 40).all (fun k => rx_okP 249 (760 + k)) = true := by decide +kernel
set_option maxRecDepth 100000 in
theorem rx_dl_20 : (List.range 40).all (fun k => rx_okP 249 (800 + k)) = true := by decide +kernel
set_option maxRecDepth 100000 in
theorem rx_dl_21 : (List.range 40).all (fun k => rx_okP 249 (840 + k)) = true := by decide +kernel
set_option maxRecDepth 100000 in
theorem rx_dl_22 : (List.range 40).all (fun k => rx_okP 249 (880 + k)) = true := by decide +kernel
set_option maxRecDepth 100000 in
theorem rx_dl_23 : (List.range 40).all (fun k => rx_okP 249 (920 + k)) = true := by decide +kernel
set_option maxRecDepth 100000 in
theorem rx_dl_24 : (List.range 40).all (fun k => rx_okP 249 (960 + k)) = true := by decide +kernel
set_option maxRecDepth 100000 in
theorem rx_dl_25 : (List.range 40).all (fun k => rx_okP 249 (1000 + k)) = true := by decide +kernel
set_option maxRecDepth 100000 in
theorem rx_dl_26 : (List.range 40).all (fun k => rx_okP 249 (1040 + k)) = true := by decide +kernel
set_option maxRecDepth 100000 in
theorem rx_dl_27 : (List.range 40).all (fun k => rx_okP 249 (1080 + k)) = true := by decide +kernel
set_option maxRecDepth 100000 in
theorem rx_dl_28 : (List.range 40).all (fun k => rx_okP 249 (1120 + k)) = true := by decide +kernel
set_option maxRecDepth 100000 in
theorem rx_dl_29 : (List.range 40).all (fun k => rx_okP 249 (1160 + k)) = true := by decide +kernel
