set_option maxRecDepth 100000 in
theorem okc_L_law_0 : okMF 0 0 (List.take 40 (List.drop 0 c_L_law)) = true := by decide +kernel
set_option maxRecDepth 100000 in
theorem okc_L_law_1 : okMF 0 40 (List.take 40 (List.drop 40 c_L_law)) = true := by decide +kernel
set_option maxRecDepth 100000 in
theorem okc_L_law_2 : okMF 0 80 (List.take 40 (List.drop 80 c_L_law)) = true := by decide +kernel
set_option maxRecDepth 100000 in
theorem okc_L_law_3 : okMF 0 120 (List.take 40 (List.drop 120 c_L_law)) = true := by decide +kernel
set_option maxRecDepth 100000 in
theorem okc_L_law_4 : okMF 0 160 (List.take 40 (List.drop 160 c_L_law)) = true := by decide +kernel
set_option maxRecDepth 100000 in
theorem okc_L_law_5 : okMF 0 200 (List.take 40 (List.drop 200 c_L_law)) = true := by decide +kernel
set_option maxRecDepth 100000 in
theorem okc_L_law_6 : okMF 0 240 (List.take 40 (List.drop 240 c_L_law)) = true := by decide +kernel
set_option maxRecDepth 100000 in
theorem okc_L_law_7 : okMF 0 280 (List.take 40 (List.drop 280 c_L_law)) = true := by decide +kernel
set_option maxRecDepth 100000 in
theorem okc_L_law_8 : okMF 0 320 (List.take 40 (List.drop 320 c_L_law)) = true := by decide +kernel
set_option maxRecDepth 100000 in
theorem okc_L_law_9 : okMF 0 360 (List.take 40 (List.drop 360 c_L_law)) = true := by decide +kernel
set_option maxRecDepth 100000 in
theorem okc_L_law_10 : okMF 0 400 (List.take 40 (List.drop 400 c_L_law)) = true := by decide +kernel
set_option maxRecDepth 100000 in
theorem okc_L_law_11 : okMF 0 440 (List.take 40 (List.drop 440 c_L_law)) = true := by decide +kernel
set_option maxRecDepth 100000 in
theorem okc_L_law_12 : okMF 0 480 (List.take 40 (List.drop 480 c_L_law)) = true := by decide +kernel
set_option maxRecDepth 100000 in
theorem okc_L_law_13 : okMF 0 520 (List.take 40 (List.drop 520 c_L_law)) = true := by decide +kernel
set_option maxRecDepth 100000 in
theorem okm_L_law : okP 0 c_L_law := okM_of 40 0 c_L_law 14 (by decide +kernel) (fun k hk => match k, hk with
  | 0, _ => okc_L_law_0
  | 1, _ => okc_L_law_1
  | 2, _ => okc_L_law_2
  | 3, _ => okc_L_law_3
  | 4, _ => okc_L_law_4
  | 5, _ => okc_L_law_5
  | 6, _ => okc_L_law_6
  | 7, _ => okc_L_law_7
  | 8, _ => okc_L_law_8
  | 9, _ => okc_L_law_9
  | 10, _ => okc_L_law_10
  | 11, _ => okc_L_law_11
  | 12, _ => okc_L_law_12
  | 13, _ => okc_L_law_13
  | k + 14, h => absurd h (by omega))
