set_option maxRecDepth 100000 in
theorem okc_dum14_0 : okMF 14 0 (List.take 40 (List.drop 0 c_F_has)) = true := by decide +kernel
set_option maxRecDepth 100000 in
theorem okm_dum14 : okP 14 c_F_has := okM_of 40 14 c_F_has 1 (by decide +kernel) (fun k hk => match k, hk with
  | 0, _ => okc_dum14_0
  | k + 1, h => absurd h (by omega))
set_option maxRecDepth 100000 in
theorem okc_dum15_0 : okMF 15 0 (List.take 40 (List.drop 0 c_F_has)) = true := by decide +kernel
set_option maxRecDepth 100000 in
theorem okm_dum15 : okP 15 c_F_has := okM_of 40 15 c_F_has 1 (by decide +kernel) (fun k hk => match k, hk with
  | 0, _ => okc_dum15_0
  | k + 1, h => absurd h (by omega))
set_option maxRecDepth 100000 in
theorem okc_dum16_0 : okMF 16 0 (List.take 40 (List.drop 0 c_F_has)) = true := by decide +kernel
set_option maxRecDepth 100000 in
theorem okm_dum16 : okP 16 c_F_has := okM_of 40 16 c_F_has 1 (by decide +kernel) (fun k hk => match k, hk with
  | 0, _ => okc_dum16_0
  | k + 1, h => absurd h (by omega))
set_option maxRecDepth 100000 in
theorem okc_dum17_0 : okMF 17 0 (List.take 40 (List.drop 0 c_F_has)) = true := by decide +kernel
set_option maxRecDepth 100000 in
theorem okm_dum17 : okP 17 c_F_has := okM_of 40 17 c_F_has 1 (by decide +kernel) (fun k hk => match k, hk with
  | 0, _ => okc_dum17_0
  | k + 1, h => absurd h (by omega))
set_option maxRecDepth 100000 in
theorem okc_dum18_0 : okMF 18 0 (List.take 40 (List.drop 0 c_F_has)) = true := by decide +kernel
set_option maxRecDepth 100000 in
theorem okm_dum18 : okP 18 c_F_has := okM_of 40 18 c_F_has 1 (by decide +kernel) (fun k hk => match k, hk with
  | 0, _ => okc_dum18_0
  | k + 1, h => absurd h (by omega))
set_option maxRecDepth 100000 in
theorem okc_dum19_0 : okMF 19 0 (List.take 40 (List.drop 0 c_F_has)) = true := by decide +kernel
set_option maxRecDepth 100000 in
theorem okm_dum19 : okP 19 c_F_has := okM_of 40 19 c_F_has 1 (by decide +kernel) (fun k hk => match k, hk with
  | 0, _ => okc_dum19_0
  | k + 1, h => absurd h (by omega))
set_option maxRecDepth 100000 in
theorem okc_dum20_0 : okMF 20 0 (List.take 40 (List.drop 0 c_F_has)) = true := by decide +kernel
set_option maxRecDepth 100000 in
theorem okm_dum20 : okP 20 c_F_has := okM_of 40 20 c_F_has 1 (by decide +kernel) (fun k hk => match k, hk with
  | 0, _ => okc_dum20_0
  | k + 1, h => absurd h (by omega))
set_option maxRecDepth 100000 in
theorem okc_dum21_0 : okMF 21 0 (List.take 40 (List.drop 0 c_F_has)) = true := by decide +kernel
set_option maxRecDepth 100000 in
theorem okm_dum21 : okP 21 c_F_has := okM_of 40 21 c_F_has 1 (by decide +kernel) (fun k hk => match k, hk with
  | 0, _ => okc_dum21_0
  | k + 1, h => absurd h (by omega))
set_option maxRecDepth 100000 in
theorem okc_dum22_0 : okMF 22 0 (List.take 40 (List.drop 0 c_F_has)) = true := by decide +kernel
set_option maxRecDepth 100000 in
theorem okm_dum22 : okP 22 c_F_has := okM_of 40 22 c_F_has 1 (by decide +kernel) (fun k hk => match k, hk with
  | 0, _ => okc_dum22_0
  | k + 1, h => absurd h (by omega))
set_option maxRecDepth 100000 in
theorem okc_dum23_0 : okMF 23 0 (List.take 40 (List.drop 0 c_F_has)) = true := by decide +kernel
set_option maxRecDepth 100000 in
theorem okm_dum23 : okP 23 c_F_has := okM_of 40 23 c_F_has 1 (by decide +kernel) (fun k hk => match k, hk with
  | 0, _ => okc_dum23_0
  | k + 1, h => absurd h (by omega))
set_option maxRecDepth 100000 in
theorem okc_dum24_0 : okMF 24 0 (List.take 40 (List.drop 0 c_F_has)) = true := by decide +kernel
set_option maxRecDepth 100000 in
theorem okm_dum24 : okP 24 c_F_has := okM_of 40 24 c_F_has 1 (by decide +kernel) (fun k hk => match k, hk with
  | 0, _ => okc_dum24_0
  | k + 1, h => absurd h (by omega))
set_option maxRecDepth 100000 in
theorem okc_dum25_0 : okMF 25 0 (List.take 40 (List.drop 0 c_F_has)) = true := by decide +kernel
set_option maxRecDepth 100000 in
theorem okm_dum25 : okP 25 c_F_has := okM_of 40 25 c_F_has 1 (by decide +kernel) (fun k hk => match k, hk with
  | 0, _ => okc_dum25_0
  | k + 1, h => absurd h (by omega))
set_option maxRecDepth 100000 in
theorem okc_dum26_0 : okMF 26 0 (List.take 40 (List.drop 0 c_F_has)) = true := by decide +kernel
set_option maxRecDepth 100000 in
theorem okm_dum26 : okP 26 c_F_has := okM_of 40 26 c_F_has 1 (by decide +kernel) (fun k hk => match k, hk with
  | 0, _ => okc_dum26_0
  | k + 1, h => absurd h (by omega))
set_option maxRecDepth 100000 in
theorem okc_dum27_0 : okMF 27 0 (List.take 40 (List.drop 0 c_F_has)) = true := by decide +kernel
set_option maxRecDepth 100000 in
theorem okm_dum27 : okP 27 c_F_has := okM_of 40 27 c_F_has 1 (by decide +kernel) (fun k hk => match k, hk with
  | 0, _ => okc_dum27_0
  | k + 1, h => absurd h (by omega))
set_option maxRecDepth 100000 in
theorem okc_dum28_0 : okMF 28 0 (List.take 40 (List.drop 0 c_F_has)) = true := by decide +kernel
set_option maxRecDepth 100000 in
theorem okm_dum28 : okP 28 c_F_has := okM_of 40 28 c_F_has 1 (by decide +kernel) (fun k hk => match k, hk with
  | 0, _ => okc_dum28_0
  | k + 1, h => absurd h (by omega))
set_option maxRecDepth 100000 in
theorem okc_dum29_0 : okMF 29 0 (List.take 40 (List.drop 0 c_F_has)) = true := by decide +kernel
set_option maxRecDepth 100000 in
theorem okm_dum29 : okP 29 c_F_has := okM_of 40 29 c_F_has 1 (by decide +kernel) (fun k hk => match k, hk with
  | 0, _ => okc_dum29_0
  | k + 1, h => absurd h (by omega))
set_option maxRecDepth 100000 in
theorem okc_dum30_0 : okMF 30 0 (List.take 40 (List.drop 0 c_F_has)) = true := by decide +kernel
set_option maxRecDepth 100000 in
theorem okm_dum30 : okP 30 c_F_has := okM_of 40 30 c_F_has 1 (by decide +kernel) (fun k hk => match k, hk with
  | 0, _ => okc_dum30_0
  | k + 1, h => absurd h (by omega))
set_option maxRecDepth 100000 in
theorem okc_dum31_0 : okMF 31 0 (List.take 40 (List.drop 0 c_F_has)) = true := by decide +kernel
set_option maxRecDepth 100000 in
theorem okm_dum31 : okP 31 c_F_has := okM_of 40 31 c_F_has 1 (by decide +kernel) (fun k hk => match k, hk with
  | 0, _ => okc_dum31_0
  | k + 1, h => absurd h (by omega))
set_option maxRecDepth 100000 in
theorem okc_dum32_0 : okMF 32 0 (List.take 40 (List.drop 0 c_F_has)) = true := by decide +kernel
set_option maxRecDepth 100000 in
theorem okm_dum32 : okP 32 c_F_has := okM_of 40 32 c_F_has 1 (by decide +kernel) (fun k hk => match k, hk with
  | 0, _ => okc_dum32_0
  | k + 1, h => absurd h (by omega))
set_option maxRecDepth 100000 in
theorem okc_dum33_0 : okMF 33 0 (List.take 40 (List.drop 0 c_F_has)) = true := by decide +kernel
set_option maxRecDepth 100000 in
theorem okm_dum33 : okP 33 c_F_has := okM_of 40 33 c_F_has 1 (by decide +kernel) (fun k hk => match k, hk with
  | 0, _ => okc_dum33_0
  | k + 1, h => absurd h (by omega))
set_option maxRecDepth 100000 in
theorem okc_dum34_0 : okMF 34 0 (List.take 40 (List.drop 0 c_F_has)) = true := by decide +kernel
set_option maxRecDepth 100000 in
theorem okm_dum34 : okP 34 c_F_has := okM_of 40 34 c_F_has 1 (by decide +kernel) (fun k hk => match k, hk with
  | 0, _ => okc_dum34_0
  | k + 1, h => absurd h (by omega))
set_option maxRecDepth 100000 in
theorem okc_dum35_0 : okMF 35 0 (List.take 40 (List.drop 0 c_F_has)) = true := by decide +kernel
set_option maxRecDepth 100000 in
theorem okm_dum35 : okP 35 c_F_has := okM_of 40 35 c_F_has 1 (by decide +kernel) (fun k hk => match k, hk with
  | 0, _ => okc_dum35_0
  | k + 1, h => absurd h (by omega))
set_option maxRecDepth 100000 in
theorem okc_dum36_0 : okMF 36 0 (List.take 40 (List.drop 0 c_F_has)) = true := by decide +kernel
set_option maxRecDepth 100000 in
theorem okm_dum36 : okP 36 c_F_has := okM_of 40 36 c_F_has 1 (by decide +kernel) (fun k hk => match k, hk with
  | 0, _ => okc_dum36_0
  | k + 1, h => absurd h (by omega))
set_option maxRecDepth 100000 in
theorem okc_dum37_0 : okMF 37 0 (List.take 40 (List.drop 0 c_F_has)) = true := by decide +kernel
set_option maxRecDepth 100000 in
theorem okm_dum37 : okP 37 c_F_has := okM_of 40 37 c_F_has 1 (by decide +kernel) (fun k hk => match k, hk with
  | 0, _ => okc_dum37_0
  | k + 1, h => absurd h (by omega))
set_option maxRecDepth 100000 in
theorem okc_dum38_0 : okMF 38 0 (List.take 40 (List.drop 0 c_F_has)) = true := by decide +kernel
set_option maxRecDepth 100000 in
theorem okm_dum38 : okP 38 c_F_has := okM_of 40 38 c_F_has 1 (by decide +kernel) (fun k hk => match k, hk with
  | 0, _ => okc_dum38_0
  | k + 1, h => absurd h (by omega))
set_option maxRecDepth 100000 in
theorem okc_dum39_0 : okMF 39 0 (List.take 40 (List.drop 0 c_F_has)) = true := by decide +kernel
set_option maxRecDepth 100000 in
theorem okm_dum39 : okP 39 c_F_has := okM_of 40 39 c_F_has 1 (by decide +kernel) (fun k hk => match k, hk with
  | 0, _ => okc_dum39_0
  | k + 1, h => absurd h (by omega))
set_option maxRecDepth 100000 in
theorem okc_dum40_0 : okMF 40 0 (List.take 40 (List.drop 0 c_F_has)) = true := by decide +kernel
set_option maxRecDepth 100000 in
theorem okm_dum40 : okP 40 c_F_has := okM_of 40 40 c_F_has 1 (by decide +kernel) (fun k hk => match k, hk with
  | 0, _ => okc_dum40_0
  | k + 1, h => absurd h (by omega))
set_option maxRecDepth 100000 in
theorem okc_dum41_0 : okMF 41 0 (List.take 40 (List.drop 0 c_F_has)) = true := by decide +kernel
set_option maxRecDepth 100000 in
theorem okm_dum41 : okP 41 c_F_has := okM_of 40 41 c_F_has 1 (by decide +kernel) (fun k hk => match k, hk with
  | 0, _ => okc_dum41_0
  | k + 1, h => absurd h (by omega))
set_option maxRecDepth 100000 in
theorem okc_dum42_0 : okMF 42 0 (List.take 40 (List.drop 0 c_F_has)) = true := by decide +kernel
set_option maxRecDepth 100000 in
theorem okm_dum42 : okP 42 c_F_has := okM_of 40 42 c_F_has 1 (by decide +kernel) (fun k hk => match k, hk with
  | 0, _ => okc_dum42_0
  | k + 1, h => absurd h (by omega))
set_option maxRecDepth 100000 in
theorem okc_dum43_0 : okMF 43 0 (List.take 40 (List.drop 0 c_F_has)) = true := by decide +kernel
set_option maxRecDepth 100000 in
theorem okm_dum43 : okP 43 c_F_has := okM_of 40 43 c_F_has 1 (by decide +kernel) (fun k hk => match k, hk with
  | 0, _ => okc_dum43_0
  | k + 1, h => absurd h (by omega))
set_option maxRecDepth 100000 in
theorem okc_dum44_0 : okMF 44 0 (List.take 40 (List.drop 0 c_F_has)) = true := by decide +kernel
set_option maxRecDepth 100000 in
theorem okm_dum44 : okP 44 c_F_has := okM_of 40 44 c_F_has 1 (by decide +kernel) (fun k hk => match k, hk with
  | 0, _ => okc_dum44_0
  | k + 1, h => absurd h (by omega))
set_option maxRecDepth 100000 in
theorem okc_dum45_0 : okMF 45 0 (List.take 40 (List.drop 0 c_F_has)) = true := by decide +kernel
set_option maxRecDepth 100000 in
theorem okm_dum45 : okP 45 c_F_has := okM_of 40 45 c_F_has 1 (by decide +kernel) (fun k hk => match k, hk with
  | 0, _ => okc_dum45_0
  | k + 1, h => absurd h (by omega))
set_option maxRecDepth 100000 in
theorem okc_dum46_0 : okMF 46 0 (List.take 40 (List.drop 0 c_F_has)) = true := by decide +kernel
set_option maxRecDepth 100000 in
theorem okm_dum46 : okP 46 c_F_has := okM_of 40 46 c_F_has 1 (by decide +kernel) (fun k hk => match k, hk with
  | 0, _ => okc_dum46_0
  | k + 1, h => absurd h (by omega))
set_option maxRecDepth 100000 in
theorem okc_dum47_0 : okMF 47 0 (List.take 40 (List.drop 0 c_F_has)) = true := by decide +kernel
set_option maxRecDepth 100000 in
theorem okm_dum47 : okP 47 c_F_has := okM_of 40 47 c_F_has 1 (by decide +kernel) (fun k hk => match k, hk with
  | 0, _ => okc_dum47_0
  | k + 1, h => absurd h (by omega))
set_option maxRecDepth 100000 in
theorem okc_dum48_0 : okMF 48 0 (List.take 40 (List.drop 0 c_F_has)) = true := by decide +kernel
set_option maxRecDepth 100000 in
theorem okm_dum48 : okP 48 c_F_has := okM_of 40 48 c_F_has 1 (by decide +kernel) (fun k hk => match k, hk with
  | 0, _ => okc_dum48_0
  | k + 1, h => absurd h (by omega))
set_option maxRecDepth 100000 in
theorem okc_dum49_0 : okMF 49 0 (List.take 40 (List.drop 0 c_F_has)) = true := by decide +kernel
set_option maxRecDepth 100000 in
theorem okm_dum49 : okP 49 c_F_has := okM_of 40 49 c_F_has 1 (by decide +kernel) (fun k hk => match k, hk with
  | 0, _ => okc_dum49_0
  | k + 1, h => absurd h (by omega))
set_option maxRecDepth 100000 in
theorem okc_dum50_0 : okMF 50 0 (List.take 40 (List.drop 0 c_F_has)) = true := by decide +kernel
set_option maxRecDepth 100000 in
theorem okm_dum50 : okP 50 c_F_has := okM_of 40 50 c_F_has 1 (by decide +kernel) (fun k hk => match k, hk with
  | 0, _ => okc_dum50_0
  | k + 1, h => absurd h (by omega))
set_option maxRecDepth 100000 in
theorem okc_dum51_0 : okMF 51 0 (List.take 40 (List.drop 0 c_F_has)) = true := by decide +kernel
set_option maxRecDepth 100000 in
theorem okm_dum51 : okP 51 c_F_has := okM_of 40 51 c_F_has 1 (by decide +kernel) (fun k hk => match k, hk with
  | 0, _ => okc_dum51_0
  | k + 1, h => absurd h (by omega))
set_option maxRecDepth 100000 in
theorem okc_dum52_0 : okMF 52 0 (List.take 40 (List.drop 0 c_F_has)) = true := by decide +kernel
set_option maxRecDepth 100000 in
theorem okm_dum52 : okP 52 c_F_has := okM_of 40 52 c_F_has 1 (by decide +kernel) (fun k hk => match k, hk with
  | 0, _ => okc_dum52_0
  | k + 1, h => absurd h (by omega))
set_option maxRecDepth 100000 in
theorem okc_dum53_0 : okMF 53 0 (List.take 40 (List.drop 0 c_F_has)) = true := by decide +kernel
set_option maxRecDepth 100000 in
theorem okm_dum53 : okP 53 c_F_has := okM_of 40 53 c_F_has 1 (by decide +kernel) (fun k hk => match k, hk with
  | 0, _ => okc_dum53_0
  | k + 1, h => absurd h (by omega))
set_option maxRecDepth 100000 in
theorem okc_dum54_0 : okMF 54 0 (List.take 40 (List.drop 0 c_F_has)) = true := by decide +kernel
set_option maxRecDepth 100000 in
theorem okm_dum54 : okP 54 c_F_has := okM_of 40 54 c_F_has 1 (by decide +kernel) (fun k hk => match k, hk with
  | 0, _ => okc_dum54_0
  | k + 1, h => absurd h (by omega))
set_option maxRecDepth 100000 in
theorem okc_dum55_0 : okMF 55 0 (List.take 40 (List.drop 0 c_F_has)) = true := by decide +kernel
set_option maxRecDepth 100000 in
theorem okm_dum55 : okP 55 c_F_has := okM_of 40 55 c_F_has 1 (by decide +kernel) (fun k hk => match k, hk with
  | 0, _ => okc_dum55_0
  | k + 1, h => absurd h (by omega))
set_option maxRecDepth 100000 in
theorem okc_dum56_0 : okMF 56 0 (List.take 40 (List.drop 0 c_F_has)) = true := by decide +kernel
set_option maxRecDepth 100000 in
theorem okm_dum56 : okP 56 c_F_has := okM_of 40 56 c_F_has 1 (by decide +kernel) (fun k hk => match k, hk with
  | 0, _ => okc_dum56_0
  | k + 1, h => absurd h (by omega))
set_option maxRecDepth 100000 in
theorem okc_dum57_0 : okMF 57 0 (List.take 40 (List.drop 0 c_F_has)) = true := by decide +kernel
set_option maxRecDepth 100000 in
theorem okm_dum57 : okP 57 c_F_has := okM_of 40 57 c_F_has 1 (by decide +kernel) (fun k hk => match k, hk with
  | 0, _ => okc_dum57_0
  | k + 1, h => absurd h (by omega))
set_option maxRecDepth 100000 in
theorem okc_dum58_0 : okMF 58 0 (List.take 40 (List.drop 0 c_F_has)) = true := by decide +kernel
set_option maxRecDepth 100000 in
theorem okm_dum58 : okP 58 c_F_has := okM_of 40 58 c_F_has 1 (by decide +kernel) (fun k hk => match k, hk with
  | 0, _ => okc_dum58_0
  | k + 1, h => absurd h (by omega))
set_option maxRecDepth 100000 in
theorem okc_dum59_0 : okMF 59 0 (List.take 40 (List.drop 0 c_F_has)) = true := by decide +kernel
set_option maxRecDepth 100000 in
theorem okm_dum59 : okP 59 c_F_has := okM_of 40 59 c_F_has 1 (by decide +kernel) (fun k hk => match k, hk with
  | 0, _ => okc_dum59_0
  | k + 1, h => absurd h (by omega))
set_option maxRecDepth 100000 in
theorem okc_dum60_0 : okMF 60 0 (List.take 40 (List.drop 0 c_F_has)) = true := by decide +kernel
set_option maxRecDepth 100000 in
theorem okm_dum60 : okP 60 c_F_has := okM_of 40 60 c_F_has 1 (by decide +kernel) (fun k hk => match k, hk with
  | 0, _ => okc_dum60_0
  | k + 1, h => absurd h (by omega))
set_option maxRecDepth 100000 in
theorem okc_dum61_0 : okMF 61 0 (List.take 40 (List.drop 0 c_F_has)) = true := by decide +kernel
set_option maxRecDepth 100000 in
theorem okm_dum61 : okP 61 c_F_has := okM_of 40 61 c_F_has 1 (by decide +kernel) (fun k hk => match k, hk with
  | 0, _ => okc_dum61_0
  | k + 1, h => absurd h (by omega))
set_option maxRecDepth 100000 in
theorem okc_dum62_0 : okMF 62 0 (List.take 40 (List.drop 0 c_F_has)) = true := by decide +kernel
set_option maxRecDepth 100000 in
theorem okm_dum62 : okP 62 c_F_has := okM_of 40 62 c_F_has 1 (by decide +kernel) (fun k hk => match k, hk with
  | 0, _ => okc_dum62_0
  | k + 1, h => absurd h (by omega))
set_option maxRecDepth 100000 in
theorem okc_dum63_0 : okMF 63 0 (List.take 40 (List.drop 0 c_F_has)) = true := by decide +kernel
set_option maxRecDepth 100000 in
theorem okm_dum63 : okP 63 c_F_has := okM_of 40 63 c_F_has 1 (by decide +kernel) (fun k hk => match k, hk with
  | 0, _ => okc_dum63_0
  | k + 1, h => absurd h (by omega))
set_option maxRecDepth 100000 in
theorem okc_dum64_0 : okMF 64 0 (List.take 40 (List.drop 0 c_F_has)) = true := by decide +kernel
set_option maxRecDepth 100000 in
theorem okm_dum64 : okP 64 c_F_has := okM_of 40 64 c_F_has 1 (by decide +kernel) (fun k hk => match k, hk with
  | 0, _ => okc_dum64_0
  | k + 1, h => absurd h (by omega))
set_option maxRecDepth 100000 in
theorem okc_dum65_0 : okMF 65 0 (List.take 40 (List.drop 0 c_F_has)) = true := by decide +kernel
set_option maxRecDepth 100000 in
theorem okm_dum65 : okP 65 c_F_has := okM_of 40 65 c_F_has 1 (by decide +kernel) (fun k hk => match k, hk with
  | 0, _ => okc_dum65_0
  | k + 1, h => absurd h (by omega))
set_option maxRecDepth 100000 in
theorem okc_dum66_0 : okMF 66 0 (List.take 40 (List.drop 0 c_F_has)) = true := by decide +kernel
set_option maxRecDepth 100000 in
theorem okm_dum66 : okP 66 c_F_has := okM_of 40 66 c_F_has 1 (by decide +kernel) (fun k hk => match k, hk with
  | 0, _ => okc_dum66_0
  | k + 1, h => absurd h (by omega))
set_option maxRecDepth 100000 in
theorem okc_dum67_0 : okMF 67 0 (List.take 40 (List.drop 0 c_F_has)) = true := by decide +kernel
set_option maxRecDepth 100000 in
theorem okm_dum67 : okP 67 c_F_has := okM_of 40 67 c_F_has 1 (by decide +kernel) (fun k hk => match k, hk with
  | 0, _ => okc_dum67_0
  | k + 1, h => absurd h (by omega))
set_option maxRecDepth 100000 in
theorem okc_dum68_0 : okMF 68 0 (List.take 40 (List.drop 0 c_F_has)) = true := by decide +kernel
set_option maxRecDepth 100000 in
theorem okm_dum68 : okP 68 c_F_has := okM_of 40 68 c_F_has 1 (by decide +kernel) (fun k hk => match k, hk with
  | 0, _ => okc_dum68_0
  | k + 1, h => absurd h (by omega))
set_option maxRecDepth 100000 in
theorem okc_dum69_0 : okMF 69 0 (List.take 40 (List.drop 0 c_F_has)) = true := by decide +kernel
set_option maxRecDepth 100000 in
theorem okm_dum69 : okP 69 c_F_has := okM_of 40 69 c_F_has 1 (by decide +kernel) (fun k hk => match k, hk with
  | 0, _ => okc_dum69_0
  | k + 1, h => absurd h (by omega))
set_option maxRecDepth 100000 in
theorem okc_dum70_0 : okMF 70 0 (List.take 40 (List.drop 0 c_F_has)) = true := by decide +kernel
set_option maxRecDepth 100000 in
theorem okm_dum70 : okP 70 c_F_has := okM_of 40 70 c_F_has 1 (by decide +kernel) (fun k hk => match k, hk with
  | 0, _ => okc_dum70_0
  | k + 1, h => absurd h (by omega))
set_option maxRecDepth 100000 in
theorem okc_dum71_0 : okMF 71 0 (List.take 40 (List.drop 0 c_F_has)) = true := by decide +kernel
set_option maxRecDepth 100000 in
theorem okm_dum71 : okP 71 c_F_has := okM_of 40 71 c_F_has 1 (by decide +kernel) (fun k hk => match k, hk with
  | 0, _ => okc_dum71_0
  | k + 1, h => absurd h (by omega))
set_option maxRecDepth 100000 in
theorem okc_dum72_0 : okMF 72 0 (List.take 40 (List.drop 0 c_F_has)) = true := by decide +kernel
set_option maxRecDepth 100000 in
theorem okm_dum72 : okP 72 c_F_has := okM_of 40 72 c_F_has 1 (by decide +kernel) (fun k hk => match k, hk with
  | 0, _ => okc_dum72_0
  | k + 1, h => absurd h (by omega))
set_option maxRecDepth 100000 in
theorem okc_dum73_0 : okMF 73 0 (List.take 40 (List.drop 0 c_F_has)) = true := by decide +kernel
set_option maxRecDepth 100000 in
theorem okm_dum73 : okP 73 c_F_has := okM_of 40 73 c_F_has 1 (by decide +kernel) (fun k hk => match k, hk with
  | 0, _ => okc_dum73_0
  | k + 1, h => absurd h (by omega))
set_option maxRecDepth 100000 in
theorem okc_dum74_0 : okMF 74 0 (List.take 40 (List.drop 0 c_F_has)) = true := by decide +kernel
set_option maxRecDepth 100000 in
theorem okm_dum74 : okP 74 c_F_has := okM_of 40 74 c_F_has 1 (by decide +kernel) (fun k hk => match k, hk with
  | 0, _ => okc_dum74_0
  | k + 1, h => absurd h (by omega))
set_option maxRecDepth 100000 in
theorem okc_dum75_0 : okMF 75 0 (List.take 40 (List.drop 0 c_F_has)) = true := by decide +kernel
set_option maxRecDepth 100000 in
theorem okm_dum75 : okP 75 c_F_has := okM_of 40 75 c_F_has 1 (by decide +kernel) (fun k hk => match k, hk with
  | 0, _ => okc_dum75_0
  | k + 1, h => absurd h (by omega))
set_option maxRecDepth 100000 in
theorem okc_dum76_0 : okMF 76 0 (List.take 40 (List.drop 0 c_F_has)) = true := by decide +kernel
set_option maxRecDepth 100000 in
theorem okm_dum76 : okP 76 c_F_has := okM_of 40 76 c_F_has 1 (by decide +kernel) (fun k hk => match k, hk with
  | 0, _ => okc_dum76_0
  | k + 1, h => absurd h (by omega))
set_option maxRecDepth 100000 in
theorem okc_dum77_0 : okMF 77 0 (List.take 40 (List.drop 0 c_F_has)) = true := by decide +kernel
set_option maxRecDepth 100000 in
theorem okm_dum77 : okP 77 c_F_has := okM_of 40 77 c_F_has 1 (by decide +kernel) (fun k hk => match k, hk with
  | 0, _ => okc_dum77_0
  | k + 1, h => absurd h (by omega))
set_option maxRecDepth 100000 in
theorem okc_dum78_0 : okMF 78 0 (List.take 40 (List.drop 0 c_F_has)) = true := by decide +kernel
set_option maxRecDepth 100000 in
theorem okm_dum78 : okP 78 c_F_has := okM_of 40 78 c_F_has 1 (by decide +kernel) (fun k hk => match k, hk with
  | 0, _ => okc_dum78_0
  | k + 1, h => absurd h (by omega))
set_option maxRecDepth 100000 in
theorem okc_dum79_0 : okMF 79 0 (List.take 40 (List.drop 0 c_F_has)) = true := by decide +kernel
set_option maxRecDepth 100000 in
theorem okm_dum79 : okP 79 c_F_has := okM_of 40 79 c_F_has 1 (by decide +kernel) (fun k hk => match k, hk with
  | 0, _ => okc_dum79_0
  | k + 1, h => absurd h (by omega))
set_option maxRecDepth 100000 in
theorem okc_dum80_0 : okMF 80 0 (List.take 40 (List.drop 0 c_F_has)) = true := by decide +kernel
set_option maxRecDepth 100000 in
theorem okm_dum80 : okP 80 c_F_has := okM_of 40 80 c_F_has 1 (by decide +kernel) (fun k hk => match k, hk with
  | 0, _ => okc_dum80_0
  | k + 1, h => absurd h (by omega))
set_option maxRecDepth 100000 in
theorem okc_F_init_0 : okMF 81 0 (List.take 40 (List.drop 0 c_F_init)) = true := by decide +kernel
set_option maxRecDepth 100000 in
theorem okm_F_init : okP 81 c_F_init := okM_of 40 81 c_F_init 1 (by decide +kernel) (fun k hk => match k, hk with
  | 0, _ => okc_F_init_0
  | k + 1, h => absurd h (by omega))
set_option maxRecDepth 100000 in
theorem okc_F_copyFrom_0 : okMF 82 0 (List.take 40 (List.drop 0 c_F_copyFrom)) = true := by decide +kernel
set_option maxRecDepth 100000 in
theorem okc_F_copyFrom_1 : okMF 82 40 (List.take 40 (List.drop 40 c_F_copyFrom)) = true := by decide +kernel
set_option maxRecDepth 100000 in
theorem okm_F_copyFrom : okP 82 c_F_copyFrom := okM_of 40 82 c_F_copyFrom 2 (by decide +kernel) (fun k hk => match k, hk with
  | 0, _ => okc_F_copyFrom_0
  | 1, _ => okc_F_copyFrom_1
  | k + 2, h => absurd h (by omega))
set_option maxRecDepth 100000 in
theorem okc_F_begin_0 : okMF 83 0 (List.take 40 (List.drop 0 c_F_begin)) = true := by decide +kernel
set_option maxRecDepth 100000 in
theorem okm_F_begin : okP 83 c_F_begin := okM_of 40 83 c_F_begin 1 (by decide +kernel) (fun k hk => match k, hk with
  | 0, _ => okc_F_begin_0
  | k + 1, h => absurd h (by omega))
set_option maxRecDepth 100000 in
theorem okc_F_has_0 : okMF 84 0 (List.take 40 (List.drop 0 c_F_has)) = true := by decide +kernel
set_option maxRecDepth 100000 in
theorem okm_F_has : okP 84 c_F_has := okM_of 40 84 c_F_has 1 (by decide +kernel) (fun k hk => match k, hk with
  | 0, _ => okc_F_has_0
  | k + 1, h => absurd h (by omega))
set_option maxRecDepth 100000 in
theorem okc_F_put_0 : okMF 85 0 (List.take 40 (List.drop 0 c_F_put)) = true := by decide +kernel
set_option maxRecDepth 100000 in
theorem okm_F_put : okP 85 c_F_put := okM_of 40 85 c_F_put 1 (by decide +kernel) (fun k hk => match k, hk with
  | 0, _ => okc_F_put_0
  | k + 1, h => absurd h (by omega))
set_option maxRecDepth 100000 in
theorem okc_F_readingFact_0 : okMF 86 0 (List.take 40 (List.drop 0 c_F_readingFact)) = true := by decide +kernel
set_option maxRecDepth 100000 in
theorem okm_F_readingFact : okP 86 c_F_readingFact := okM_of 40 86 c_F_readingFact 1 (by decide +kernel) (fun k hk => match k, hk with
  | 0, _ => okc_F_readingFact_0
  | k + 1, h => absurd h (by omega))
set_option maxRecDepth 100000 in
theorem okc_F_flagsTogether_0 : okMF 87 0 (List.take 40 (List.drop 0 c_F_flagsTogether)) = true := by decide +kernel
set_option maxRecDepth 100000 in
theorem okm_F_flagsTogether : okP 87 c_F_flagsTogether := okM_of 40 87 c_F_flagsTogether 1 (by decide +kernel) (fun k hk => match k, hk with
  | 0, _ => okc_F_flagsTogether_0
  | k + 1, h => absurd h (by omega))
set_option maxRecDepth 100000 in
theorem okc_R_init_0 : okMF 88 0 (List.take 40 (List.drop 0 c_R_init)) = true := by decide +kernel
set_option maxRecDepth 100000 in
theorem okm_R_init : okP 88 c_R_init := okM_of 40 88 c_R_init 1 (by decide +kernel) (fun k hk => match k, hk with
  | 0, _ => okc_R_init_0
  | k + 1, h => absurd h (by omega))
set_option maxRecDepth 100000 in
theorem okc_R_copyFrom_0 : okMF 89 0 (List.take 40 (List.drop 0 c_R_copyFrom)) = true := by decide +kernel
set_option maxRecDepth 100000 in
theorem okm_R_copyFrom : okP 89 c_R_copyFrom := okM_of 40 89 c_R_copyFrom 1 (by decide +kernel) (fun k hk => match k, hk with
  | 0, _ => okc_R_copyFrom_0
  | k + 1, h => absurd h (by omega))
set_option maxRecDepth 100000 in
theorem okc_R_insert_0 : okMF 90 0 (List.take 40 (List.drop 0 c_R_insert)) = true := by decide +kernel
set_option maxRecDepth 100000 in
theorem okc_R_insert_1 : okMF 90 40 (List.take 40 (List.drop 40 c_R_insert)) = true := by decide +kernel
set_option maxRecDepth 100000 in
theorem okm_R_insert : okP 90 c_R_insert := okM_of 40 90 c_R_insert 2 (by decide +kernel) (fun k hk => match k, hk with
  | 0, _ => okc_R_insert_0
  | 1, _ => okc_R_insert_1
  | k + 2, h => absurd h (by omega))
set_option maxRecDepth 100000 in
theorem okc_R_grow_0 : okMF 91 0 (List.take 40 (List.drop 0 c_R_grow)) = true := by decide +kernel
set_option maxRecDepth 100000 in
theorem okm_R_grow : okP 91 c_R_grow := okM_of 40 91 c_R_grow 1 (by decide +kernel) (fun k hk => match k, hk with
  | 0, _ => okc_R_grow_0
  | k + 1, h => absurd h (by omega))
set_option maxRecDepth 100000 in
theorem okc_R_swap_0 : okMF 92 0 (List.take 40 (List.drop 0 c_R_swap)) = true := by decide +kernel
set_option maxRecDepth 100000 in
theorem okm_R_swap : okP 92 c_R_swap := okM_of 40 92 c_R_swap 1 (by decide +kernel) (fun k hk => match k, hk with
  | 0, _ => okc_R_swap_0
  | k + 1, h => absurd h (by omega))
set_option maxRecDepth 100000 in
theorem okc_R_removeFirst_0 : okMF 93 0 (List.take 40 (List.drop 0 c_R_removeFirst)) = true := by decide +kernel
set_option maxRecDepth 100000 in
theorem okm_R_removeFirst : okP 93 c_R_removeFirst := okM_of 40 93 c_R_removeFirst 1 (by decide +kernel) (fun k hk => match k, hk with
  | 0, _ => okc_R_removeFirst_0
  | k + 1, h => absurd h (by omega))
set_option maxRecDepth 100000 in
theorem okc_R_framesFrom_0 : okMF 94 0 (List.take 40 (List.drop 0 c_R_framesFrom)) = true := by decide +kernel
set_option maxRecDepth 100000 in
theorem okm_R_framesFrom : okP 94 c_R_framesFrom := okM_of 40 94 c_R_framesFrom 1 (by decide +kernel) (fun k hk => match k, hk with
  | 0, _ => okc_R_framesFrom_0
  | k + 1, h => absurd h (by omega))
set_option maxRecDepth 100000 in
theorem okc_R_slotEnd_0 : okMF 95 0 (List.take 40 (List.drop 0 c_R_slotEnd)) = true := by decide +kernel
set_option maxRecDepth 100000 in
theorem okm_R_slotEnd : okP 95 c_R_slotEnd := okM_of 40 95 c_R_slotEnd 1 (by decide +kernel) (fun k hk => match k, hk with
  | 0, _ => okc_R_slotEnd_0
  | k + 1, h => absurd h (by omega))
set_option maxRecDepth 100000 in
theorem okc_R_slotStart_0 : okMF 96 0 (List.take 40 (List.drop 0 c_R_slotStart)) = true := by decide +kernel
set_option maxRecDepth 100000 in
theorem okm_R_slotStart : okP 96 c_R_slotStart := okM_of 40 96 c_R_slotStart 1 (by decide +kernel) (fun k hk => match k, hk with
  | 0, _ => okc_R_slotStart_0
  | k + 1, h => absurd h (by omega))
set_option maxRecDepth 100000 in
theorem okc_R_slots_0 : okMF 97 0 (List.take 40 (List.drop 0 c_R_slots)) = true := by decide +kernel
set_option maxRecDepth 100000 in
theorem okm_R_slots : okP 97 c_R_slots := okM_of 40 97 c_R_slots 1 (by decide +kernel) (fun k hk => match k, hk with
  | 0, _ => okc_R_slots_0
  | k + 1, h => absurd h (by omega))
set_option maxRecDepth 100000 in
theorem okc_R_placeFor_0 : okMF 98 0 (List.take 40 (List.drop 0 c_R_placeFor)) = true := by decide +kernel
set_option maxRecDepth 100000 in
theorem okm_R_placeFor : okP 98 c_R_placeFor := okM_of 40 98 c_R_placeFor 1 (by decide +kernel) (fun k hk => match k, hk with
  | 0, _ => okc_R_placeFor_0
  | k + 1, h => absurd h (by omega))
set_option maxRecDepth 100000 in
theorem okc_R_hasIn_0 : okMF 99 0 (List.take 40 (List.drop 0 c_R_hasIn)) = true := by decide +kernel
set_option maxRecDepth 100000 in
theorem okm_R_hasIn : okP 99 c_R_hasIn := okM_of 40 99 c_R_hasIn 1 (by decide +kernel) (fun k hk => match k, hk with
  | 0, _ => okc_R_hasIn_0
  | k + 1, h => absurd h (by omega))
set_option maxRecDepth 100000 in
theorem okc_U_init_0 : okMF 100 0 (List.take 40 (List.drop 0 c_U_init)) = true := by decide +kernel
set_option maxRecDepth 100000 in
theorem okm_U_init : okP 100 c_U_init := okM_of 40 100 c_U_init 1 (by decide +kernel) (fun k hk => match k, hk with
  | 0, _ => okc_U_init_0
  | k + 1, h => absurd h (by omega))
set_option maxRecDepth 100000 in
theorem okc_U_begin_0 : okMF 101 0 (List.take 40 (List.drop 0 c_U_begin)) = true := by decide +kernel
set_option maxRecDepth 100000 in
theorem okm_U_begin : okP 101 c_U_begin := okM_of 40 101 c_U_begin 1 (by decide +kernel) (fun k hk => match k, hk with
  | 0, _ => okc_U_begin_0
  | k + 1, h => absurd h (by omega))
set_option maxRecDepth 100000 in
theorem okc_U_copyFrom_0 : okMF 102 0 (List.take 40 (List.drop 0 c_U_copyFrom)) = true := by decide +kernel
set_option maxRecDepth 100000 in
theorem okm_U_copyFrom : okP 102 c_U_copyFrom := okM_of 40 102 c_U_copyFrom 1 (by decide +kernel) (fun k hk => match k, hk with
  | 0, _ => okc_U_copyFrom_0
  | k + 1, h => absurd h (by omega))
set_option maxRecDepth 100000 in
theorem okc_H_init_0 : okMF 103 0 (List.take 40 (List.drop 0 c_H_init)) = true := by decide +kernel
set_option maxRecDepth 100000 in
theorem okm_H_init : okP 103 c_H_init := okM_of 40 103 c_H_init 1 (by decide +kernel) (fun k hk => match k, hk with
  | 0, _ => okc_H_init_0
  | k + 1, h => absurd h (by omega))
