set_option maxRecDepth 100000 in
theorem okc_m_plain_0 : okMF 45 0 (List.take 40 (List.drop 0 c_m_plain)) = true := by decide +kernel
set_option maxRecDepth 100000 in
theorem okc_m_plain_1 : okMF 45 40 (List.take 40 (List.drop 40 c_m_plain)) = true := by decide +kernel
set_option maxRecDepth 100000 in
theorem okm_m_plain : okP 45 c_m_plain := okM_of 40 45 c_m_plain 2 (by decide +kernel) (fun k hk => match k, hk with
  | 0, _ => okc_m_plain_0
  | 1, _ => okc_m_plain_1
  | k + 2, h => absurd h (by omega))
set_option maxRecDepth 100000 in
theorem okc_m_gathers_0 : okMF 46 0 (List.take 40 (List.drop 0 c_m_gathers)) = true := by decide +kernel
set_option maxRecDepth 100000 in
theorem okc_m_gathers_1 : okMF 46 40 (List.take 40 (List.drop 40 c_m_gathers)) = true := by decide +kernel
set_option maxRecDepth 100000 in
theorem okc_m_gathers_2 : okMF 46 80 (List.take 40 (List.drop 80 c_m_gathers)) = true := by decide +kernel
set_option maxRecDepth 100000 in
theorem okm_m_gathers : okP 46 c_m_gathers := okM_of 40 46 c_m_gathers 3 (by decide +kernel) (fun k hk => match k, hk with
  | 0, _ => okc_m_gathers_0
  | 1, _ => okc_m_gathers_1
  | 2, _ => okc_m_gathers_2
  | k + 3, h => absurd h (by omega))
set_option maxRecDepth 100000 in
theorem okc_m_filtered_0 : okMF 47 0 (List.take 40 (List.drop 0 c_m_filtered)) = true := by decide +kernel
set_option maxRecDepth 100000 in
theorem okc_m_filtered_1 : okMF 47 40 (List.take 40 (List.drop 40 c_m_filtered)) = true := by decide +kernel
set_option maxRecDepth 100000 in
theorem okc_m_filtered_2 : okMF 47 80 (List.take 40 (List.drop 80 c_m_filtered)) = true := by decide +kernel
set_option maxRecDepth 100000 in
theorem okm_m_filtered : okP 47 c_m_filtered := okM_of 40 47 c_m_filtered 3 (by decide +kernel) (fun k hk => match k, hk with
  | 0, _ => okc_m_filtered_0
  | 1, _ => okc_m_filtered_1
  | 2, _ => okc_m_filtered_2
  | k + 3, h => absurd h (by omega))
set_option maxRecDepth 100000 in
theorem okc_m_held_0 : okMF 48 0 (List.take 40 (List.drop 0 c_m_held)) = true := by decide +kernel
set_option maxRecDepth 100000 in
theorem okc_m_held_1 : okMF 48 40 (List.take 40 (List.drop 40 c_m_held)) = true := by decide +kernel
set_option maxRecDepth 100000 in
theorem okm_m_held : okP 48 c_m_held := okM_of 40 48 c_m_held 2 (by decide +kernel) (fun k hk => match k, hk with
  | 0, _ => okc_m_held_0
  | 1, _ => okc_m_held_1
  | k + 2, h => absurd h (by omega))
set_option maxRecDepth 100000 in
theorem okc_m_reads_0 : okMF 49 0 (List.take 40 (List.drop 0 c_m_reads)) = true := by decide +kernel
set_option maxRecDepth 100000 in
theorem okc_m_reads_1 : okMF 49 40 (List.take 40 (List.drop 40 c_m_reads)) = true := by decide +kernel
set_option maxRecDepth 100000 in
theorem okm_m_reads : okP 49 c_m_reads := okM_of 40 49 c_m_reads 2 (by decide +kernel) (fun k hk => match k, hk with
  | 0, _ => okc_m_reads_0
  | 1, _ => okc_m_reads_1
  | k + 2, h => absurd h (by omega))
set_option maxRecDepth 100000 in
theorem okc_m_outs_0 : okMF 50 0 (List.take 40 (List.drop 0 c_m_outs)) = true := by decide +kernel
set_option maxRecDepth 100000 in
theorem okc_m_outs_1 : okMF 50 40 (List.take 40 (List.drop 40 c_m_outs)) = true := by decide +kernel
set_option maxRecDepth 100000 in
theorem okc_m_outs_2 : okMF 50 80 (List.take 40 (List.drop 80 c_m_outs)) = true := by decide +kernel
set_option maxRecDepth 100000 in
theorem okc_m_outs_3 : okMF 50 120 (List.take 40 (List.drop 120 c_m_outs)) = true := by decide +kernel
set_option maxRecDepth 100000 in
theorem okm_m_outs : okP 50 c_m_outs := okM_of 40 50 c_m_outs 4 (by decide +kernel) (fun k hk => match k, hk with
  | 0, _ => okc_m_outs_0
  | 1, _ => okc_m_outs_1
  | 2, _ => okc_m_outs_2
  | 3, _ => okc_m_outs_3
  | k + 4, h => absurd h (by omega))
set_option maxRecDepth 100000 in
theorem okc_m_sends_0 : okMF 51 0 (List.take 40 (List.drop 0 c_m_sends)) = true := by decide +kernel
set_option maxRecDepth 100000 in
theorem okc_m_sends_1 : okMF 51 40 (List.take 40 (List.drop 40 c_m_sends)) = true := by decide +kernel
set_option maxRecDepth 100000 in
theorem okc_m_sends_2 : okMF 51 80 (List.take 40 (List.drop 80 c_m_sends)) = true := by decide +kernel
set_option maxRecDepth 100000 in
theorem okm_m_sends : okP 51 c_m_sends := okM_of 40 51 c_m_sends 3 (by decide +kernel) (fun k hk => match k, hk with
  | 0, _ => okc_m_sends_0
  | 1, _ => okc_m_sends_1
  | 2, _ => okc_m_sends_2
  | k + 3, h => absurd h (by omega))
set_option maxRecDepth 100000 in
theorem okc_m_releases_0 : okMF 52 0 (List.take 40 (List.drop 0 c_m_releases)) = true := by decide +kernel
set_option maxRecDepth 100000 in
theorem okc_m_releases_1 : okMF 52 40 (List.take 40 (List.drop 40 c_m_releases)) = true := by decide +kernel
set_option maxRecDepth 100000 in
theorem okc_m_releases_2 : okMF 52 80 (List.take 40 (List.drop 80 c_m_releases)) = true := by decide +kernel
set_option maxRecDepth 100000 in
theorem okc_m_releases_3 : okMF 52 120 (List.take 40 (List.drop 120 c_m_releases)) = true := by decide +kernel
set_option maxRecDepth 100000 in
theorem okc_m_releases_4 : okMF 52 160 (List.take 40 (List.drop 160 c_m_releases)) = true := by decide +kernel
set_option maxRecDepth 100000 in
theorem okm_m_releases : okP 52 c_m_releases := okM_of 40 52 c_m_releases 5 (by decide +kernel) (fun k hk => match k, hk with
  | 0, _ => okc_m_releases_0
  | 1, _ => okc_m_releases_1
  | 2, _ => okc_m_releases_2
  | 3, _ => okc_m_releases_3
  | 4, _ => okc_m_releases_4
  | k + 5, h => absurd h (by omega))
set_option maxRecDepth 100000 in
theorem okc_m_asks_0 : okMF 53 0 (List.take 40 (List.drop 0 c_m_asks)) = true := by decide +kernel
set_option maxRecDepth 100000 in
theorem okm_m_asks : okP 53 c_m_asks := okM_of 40 53 c_m_asks 1 (by decide +kernel) (fun k hk => match k, hk with
  | 0, _ => okc_m_asks_0
  | k + 1, h => absurd h (by omega))
set_option maxRecDepth 100000 in
theorem okc_m_nextFrame_0 : okMF 54 0 (List.take 40 (List.drop 0 c_m_nextFrame)) = true := by decide +kernel
set_option maxRecDepth 100000 in
theorem okc_m_nextFrame_1 : okMF 54 40 (List.take 40 (List.drop 40 c_m_nextFrame)) = true := by decide +kernel
set_option maxRecDepth 100000 in
theorem okm_m_nextFrame : okP 54 c_m_nextFrame := okM_of 40 54 c_m_nextFrame 2 (by decide +kernel) (fun k hk => match k, hk with
  | 0, _ => okc_m_nextFrame_0
  | 1, _ => okc_m_nextFrame_1
  | k + 2, h => absurd h (by omega))
set_option maxRecDepth 100000 in
theorem okc_m_tick_0 : okMF 55 0 (List.take 40 (List.drop 0 c_m_tick)) = true := by decide +kernel
set_option maxRecDepth 100000 in
theorem okc_m_tick_1 : okMF 55 40 (List.take 40 (List.drop 40 c_m_tick)) = true := by decide +kernel
set_option maxRecDepth 100000 in
theorem okm_m_tick : okP 55 c_m_tick := okM_of 40 55 c_m_tick 2 (by decide +kernel) (fun k hk => match k, hk with
  | 0, _ => okc_m_tick_0
  | 1, _ => okc_m_tick_1
  | k + 2, h => absurd h (by omega))
set_option maxRecDepth 100000 in
theorem okc_m_allOnWay_0 : okMF 56 0 (List.take 40 (List.drop 0 c_m_allOnWay)) = true := by decide +kernel
set_option maxRecDepth 100000 in
theorem okm_m_allOnWay : okP 56 c_m_allOnWay := okM_of 40 56 c_m_allOnWay 1 (by decide +kernel) (fun k hk => match k, hk with
  | 0, _ => okc_m_allOnWay_0
  | k + 1, h => absurd h (by omega))
set_option maxRecDepth 100000 in
theorem okc_m_sendsOne_0 : okMF 57 0 (List.take 40 (List.drop 0 c_m_sendsOne)) = true := by decide +kernel
set_option maxRecDepth 100000 in
theorem okc_m_sendsOne_1 : okMF 57 40 (List.take 40 (List.drop 40 c_m_sendsOne)) = true := by decide +kernel
set_option maxRecDepth 100000 in
theorem okc_m_sendsOne_2 : okMF 57 80 (List.take 40 (List.drop 80 c_m_sendsOne)) = true := by decide +kernel
set_option maxRecDepth 100000 in
theorem okc_m_sendsOne_3 : okMF 57 120 (List.take 40 (List.drop 120 c_m_sendsOne)) = true := by decide +kernel
set_option maxRecDepth 100000 in
theorem okm_m_sendsOne : okP 57 c_m_sendsOne := okM_of 40 57 c_m_sendsOne 4 (by decide +kernel) (fun k hk => match k, hk with
  | 0, _ => okc_m_sendsOne_0
  | 1, _ => okc_m_sendsOne_1
  | 2, _ => okc_m_sendsOne_2
  | 3, _ => okc_m_sendsOne_3
  | k + 4, h => absurd h (by omega))
set_option maxRecDepth 100000 in
theorem okc_m_send_0 : okMF 58 0 (List.take 40 (List.drop 0 c_m_send)) = true := by decide +kernel
set_option maxRecDepth 100000 in
theorem okm_m_send : okP 58 c_m_send := okM_of 40 58 c_m_send 1 (by decide +kernel) (fun k hk => match k, hk with
  | 0, _ => okc_m_send_0
  | k + 1, h => absurd h (by omega))
set_option maxRecDepth 100000 in
theorem okc_m_passes_0 : okMF 59 0 (List.take 40 (List.drop 0 c_m_passes)) = true := by decide +kernel
set_option maxRecDepth 100000 in
theorem okm_m_passes : okP 59 c_m_passes := okM_of 40 59 c_m_passes 1 (by decide +kernel) (fun k hk => match k, hk with
  | 0, _ => okc_m_passes_0
  | k + 1, h => absurd h (by omega))
set_option maxRecDepth 100000 in
theorem okc_m_pass_0 : okMF 60 0 (List.take 40 (List.drop 0 c_m_pass)) = true := by decide +kernel
set_option maxRecDepth 100000 in
theorem okm_m_pass : okP 60 c_m_pass := okM_of 40 60 c_m_pass 1 (by decide +kernel) (fun k hk => match k, hk with
  | 0, _ => okc_m_pass_0
  | k + 1, h => absurd h (by omega))
set_option maxRecDepth 100000 in
theorem okc_m_slotAt_0 : okMF 61 0 (List.take 40 (List.drop 0 c_m_slotAt)) = true := by decide +kernel
set_option maxRecDepth 100000 in
theorem okc_m_slotAt_1 : okMF 61 40 (List.take 40 (List.drop 40 c_m_slotAt)) = true := by decide +kernel
set_option maxRecDepth 100000 in
theorem okm_m_slotAt : okP 61 c_m_slotAt := okM_of 40 61 c_m_slotAt 2 (by decide +kernel) (fun k hk => match k, hk with
  | 0, _ => okc_m_slotAt_0
  | 1, _ => okc_m_slotAt_1
  | k + 2, h => absurd h (by omega))
