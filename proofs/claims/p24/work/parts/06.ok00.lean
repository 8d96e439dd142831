set_option maxRecDepth 100000 in
theorem okc_L_law_0 : okMF 0 0 (List.take 40 (List.drop 0 c_L_law)) = true := by decide +kernel
set_option maxRecDepth 100000 in
theorem okc_L_law_1 : okMF 0 40 (List.take 40 (List.drop 40 c_L_law)) = true := by decide +kernel
set_option maxRecDepth 100000 in
theorem okc_L_law_2 : okMF 0 80 (List.take 40 (List.drop 80 c_L_law)) = true := by decide +kernel
set_option maxRecDepth 100000 in
theorem okc_L_law_3 : okMF 0 120 (List.take 40 (List.drop 120 c_L_law)) = true := by decide +kernel
set_option maxRecDepth 100000 in
theorem okc_L_law_4 : okMF 0 160 (List.take 40 (List.drop 160 c_L_law)) = true := by decide +kernel
set_option maxRecDepth 100000 in
theorem okc_L_law_5 : okMF 0 200 (List.take 40 (List.drop 200 c_L_law)) = true := by decide +kernel
set_option maxRecDepth 100000 in
theorem okc_L_law_6 : okMF 0 240 (List.take 40 (List.drop 240 c_L_law)) = true := by decide +kernel
set_option maxRecDepth 100000 in
theorem okc_L_law_7 : okMF 0 280 (List.take 40 (List.drop 280 c_L_law)) = true := by decide +kernel
set_option maxRecDepth 100000 in
theorem okm_L_law : okP 0 c_L_law := okM_of 40 0 c_L_law 8 (by decide +kernel) (fun k hk => match k, hk with
  | 0, _ => okc_L_law_0
  | 1, _ => okc_L_law_1
  | 2, _ => okc_L_law_2
  | 3, _ => okc_L_law_3
  | 4, _ => okc_L_law_4
  | 5, _ => okc_L_law_5
  | 6, _ => okc_L_law_6
  | 7, _ => okc_L_law_7
  | k + 8, h => absurd h (by omega))
set_option maxRecDepth 100000 in
theorem okc_L_cell_0 : okMF 1 0 (List.take 40 (List.drop 0 c_L_cell)) = true := by decide +kernel
set_option maxRecDepth 100000 in
theorem okm_L_cell : okP 1 c_L_cell := okM_of 40 1 c_L_cell 1 (by decide +kernel) (fun k hk => match k, hk with
  | 0, _ => okc_L_cell_0
  | k + 1, h => absurd h (by omega))
set_option maxRecDepth 100000 in
theorem okc_L_sends_0 : okMF 2 0 (List.take 40 (List.drop 0 c_L_sends)) = true := by decide +kernel
set_option maxRecDepth 100000 in
theorem okc_L_sends_1 : okMF 2 40 (List.take 40 (List.drop 40 c_L_sends)) = true := by decide +kernel
set_option maxRecDepth 100000 in
theorem okm_L_sends : okP 2 c_L_sends := okM_of 40 2 c_L_sends 2 (by decide +kernel) (fun k hk => match k, hk with
  | 0, _ => okc_L_sends_0
  | 1, _ => okc_L_sends_1
  | k + 2, h => absurd h (by omega))
set_option maxRecDepth 100000 in
theorem okc_L_hubs_0 : okMF 3 0 (List.take 40 (List.drop 0 c_L_hubs)) = true := by decide +kernel
set_option maxRecDepth 100000 in
theorem okc_L_hubs_1 : okMF 3 40 (List.take 40 (List.drop 40 c_L_hubs)) = true := by decide +kernel
set_option maxRecDepth 100000 in
theorem okc_L_hubs_2 : okMF 3 80 (List.take 40 (List.drop 80 c_L_hubs)) = true := by decide +kernel
set_option maxRecDepth 100000 in
theorem okc_L_hubs_3 : okMF 3 120 (List.take 40 (List.drop 120 c_L_hubs)) = true := by decide +kernel
set_option maxRecDepth 100000 in
theorem okm_L_hubs : okP 3 c_L_hubs := okM_of 40 3 c_L_hubs 4 (by decide +kernel) (fun k hk => match k, hk with
  | 0, _ => okc_L_hubs_0
  | 1, _ => okc_L_hubs_1
  | 2, _ => okc_L_hubs_2
  | 3, _ => okc_L_hubs_3
  | k + 4, h => absurd h (by omega))
set_option maxRecDepth 100000 in
theorem okc_L_outs_0 : okMF 4 0 (List.take 40 (List.drop 0 c_L_outs)) = true := by decide +kernel
set_option maxRecDepth 100000 in
theorem okc_L_outs_1 : okMF 4 40 (List.take 40 (List.drop 40 c_L_outs)) = true := by decide +kernel
set_option maxRecDepth 100000 in
theorem okc_L_outs_2 : okMF 4 80 (List.take 40 (List.drop 80 c_L_outs)) = true := by decide +kernel
set_option maxRecDepth 100000 in
theorem okc_L_outs_3 : okMF 4 120 (List.take 40 (List.drop 120 c_L_outs)) = true := by decide +kernel
set_option maxRecDepth 100000 in
theorem okm_L_outs : okP 4 c_L_outs := okM_of 40 4 c_L_outs 4 (by decide +kernel) (fun k hk => match k, hk with
  | 0, _ => okc_L_outs_0
  | 1, _ => okc_L_outs_1
  | 2, _ => okc_L_outs_2
  | 3, _ => okc_L_outs_3
  | k + 4, h => absurd h (by omega))
set_option maxRecDepth 100000 in
theorem okc_L_holds_0 : okMF 5 0 (List.take 40 (List.drop 0 c_L_holds)) = true := by decide +kernel
set_option maxRecDepth 100000 in
theorem okc_L_holds_1 : okMF 5 40 (List.take 40 (List.drop 40 c_L_holds)) = true := by decide +kernel
set_option maxRecDepth 100000 in
theorem okc_L_holds_2 : okMF 5 80 (List.take 40 (List.drop 80 c_L_holds)) = true := by decide +kernel
set_option maxRecDepth 100000 in
theorem okc_L_holds_3 : okMF 5 120 (List.take 40 (List.drop 120 c_L_holds)) = true := by decide +kernel
set_option maxRecDepth 100000 in
theorem okm_L_holds : okP 5 c_L_holds := okM_of 40 5 c_L_holds 4 (by decide +kernel) (fun k hk => match k, hk with
  | 0, _ => okc_L_holds_0
  | 1, _ => okc_L_holds_1
  | 2, _ => okc_L_holds_2
  | 3, _ => okc_L_holds_3
  | k + 4, h => absurd h (by omega))
set_option maxRecDepth 100000 in
theorem okc_dum6_0 : okMF 6 0 (List.take 40 (List.drop 0 c_F_has)) = true := by decide +kernel
set_option maxRecDepth 100000 in
theorem okm_dum6 : okP 6 c_F_has := okM_of 40 6 c_F_has 1 (by decide +kernel) (fun k hk => match k, hk with
  | 0, _ => okc_dum6_0
  | k + 1, h => absurd h (by omega))
set_option maxRecDepth 100000 in
theorem okc_dum7_0 : okMF 7 0 (List.take 40 (List.drop 0 c_F_has)) = true := by decide +kernel
set_option maxRecDepth 100000 in
theorem okm_dum7 : okP 7 c_F_has := okM_of 40 7 c_F_has 1 (by decide +kernel) (fun k hk => match k, hk with
  | 0, _ => okc_dum7_0
  | k + 1, h => absurd h (by omega))
set_option maxRecDepth 100000 in
theorem okc_dum8_0 : okMF 8 0 (List.take 40 (List.drop 0 c_F_has)) = true := by decide +kernel
set_option maxRecDepth 100000 in
theorem okm_dum8 : okP 8 c_F_has := okM_of 40 8 c_F_has 1 (by decide +kernel) (fun k hk => match k, hk with
  | 0, _ => okc_dum8_0
  | k + 1, h => absurd h (by omega))
set_option maxRecDepth 100000 in
theorem okc_dum9_0 : okMF 9 0 (List.take 40 (List.drop 0 c_F_has)) = true := by decide +kernel
set_option maxRecDepth 100000 in
theorem okm_dum9 : okP 9 c_F_has := okM_of 40 9 c_F_has 1 (by decide +kernel) (fun k hk => match k, hk with
  | 0, _ => okc_dum9_0
  | k + 1, h => absurd h (by omega))
set_option maxRecDepth 100000 in
theorem okc_dum10_0 : okMF 10 0 (List.take 40 (List.drop 0 c_F_has)) = true := by decide +kernel
set_option maxRecDepth 100000 in
theorem okm_dum10 : okP 10 c_F_has := okM_of 40 10 c_F_has 1 (by decide +kernel) (fun k hk => match k, hk with
  | 0, _ => okc_dum10_0
  | k + 1, h => absurd h (by omega))
set_option maxRecDepth 100000 in
theorem okc_dum11_0 : okMF 11 0 (List.take 40 (List.drop 0 c_F_has)) = true := by decide +kernel
set_option maxRecDepth 100000 in
theorem okm_dum11 : okP 11 c_F_has := okM_of 40 11 c_F_has 1 (by decide +kernel) (fun k hk => match k, hk with
  | 0, _ => okc_dum11_0
  | k + 1, h => absurd h (by omega))
set_option maxRecDepth 100000 in
theorem okc_dum12_0 : okMF 12 0 (List.take 40 (List.drop 0 c_F_has)) = true := by decide +kernel
set_option maxRecDepth 100000 in
theorem okm_dum12 : okP 12 c_F_has := okM_of 40 12 c_F_has 1 (by decide +kernel) (fun k hk => match k, hk with
  | 0, _ => okc_dum12_0
  | k + 1, h => absurd h (by omega))
set_option maxRecDepth 100000 in
theorem okc_dum13_0 : okMF 13 0 (List.take 40 (List.drop 0 c_F_has)) = true := by decide +kernel
set_option maxRecDepth 100000 in
theorem okm_dum13 : okP 13 c_F_has := okM_of 40 13 c_F_has 1 (by decide +kernel) (fun k hk => match k, hk with
  | 0, _ => okc_dum13_0
  | k + 1, h => absurd h (by omega))
