set_option maxRecDepth 100000 in
theorem rx_fk : (List.range 14).all (fun c => (List.range rx_mi).all (fun x => rx_okF c x)) = true := by decide +kernel
set_option maxRecDepth 100000 in
theorem rx_mk_0 : (List.range rx_mi).all (fun x => rx_okM 0 x) = true := by decide +kernel
set_option maxRecDepth 100000 in
theorem rx_mk_1 : (List.range rx_mi).all (fun x => rx_okM 1 x) = true := by decide +kernel
set_option maxRecDepth 100000 in
theorem rx_mk_2 : (List.range rx_mi).all (fun x => rx_okM 2 x) = true := by decide +kernel
set_option maxRecDepth 100000 in
theorem rx_mk_3 : (List.range rx_mi).all (fun x => rx_okM 3 x) = true := by decide +kernel
set_option maxRecDepth 100000 in
theorem rx_mk_4 : (List.range rx_mi).all (fun x => rx_okM 4 x) = true := by decide +kernel
set_option maxRecDepth 100000 in
theorem rx_mk_5 : (List.range rx_mi).all (fun x => rx_okM 5 x) = true := by decide +kernel
set_option maxRecDepth 100000 in
theorem rx_mk_6 : (List.range rx_mi).all (fun x => rx_okM 6 x) = true := by decide +kernel
set_option maxRecDepth 100000 in
theorem rx_mk_7 : (List.range rx_mi).all (fun x => rx_okM 7 x) = true := by decide +kernel
set_option maxRecDepth 100000 in
theorem rx_mk_8 : (List.range rx_mi).all (fun x => rx_okM 8 x) = true := by decide +kernel
set_option maxRecDepth 100000 in
theorem rx_mk_9 : (List.range rx_mi).all (fun x => rx_okM 9 x) = true := by decide +kernel
set_option maxRecDepth 100000 in
theorem rx_mk_10 : (List.range rx_mi).all (fun x => rx_okM 10 x) = true := by decide +kernel
set_option maxRecDepth 100000 in
theorem rx_mk_11 : (List.range rx_mi).all (fun x => rx_okM 11 x) = true := by decide +kernel
set_option maxRecDepth 100000 in
theorem rx_mk_12 : (List.range rx_mi).all (fun x => rx_okM 12 x) = true := by decide +kernel
set_option maxRecDepth 100000 in
theorem rx_mk_13 : (List.range rx_mi).all (fun x => rx_okM 13 x) = true := by decide +kernel
set_option maxRecDepth 100000 in
theorem rx_nk : (List.range 14).all (fun c => (List.range rx_mi).all (fun x => rx_okN c x && rx_okW c x)) = true := by decide +kernel
