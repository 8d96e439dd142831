set_option maxRecDepth 100000 in
theorem okc_m_init_0 : okMF 1 0 (List.take 40 (List.drop 0 c_m_init)) = true := by decide +kernel
set_option maxRecDepth 100000 in
theorem okc_m_init_1 : okMF 1 40 (List.take 40 (List.drop 40 c_m_init)) = true := by decide +kernel
set_option maxRecDepth 100000 in
theorem okm_m_init : okP 1 c_m_init := okM_of 40 1 c_m_init 2 (by decide +kernel) (fun k hk => match k, hk with
  | 0, _ => okc_m_init_0
  | 1, _ => okc_m_init_1
  | k + 2, h => absurd h (by omega))
set_option maxRecDepth 100000 in
theorem okc_m_in_0 : okMF 2 0 (List.take 40 (List.drop 0 c_m_in)) = true := by decide +kernel
set_option maxRecDepth 100000 in
theorem okm_m_in : okP 2 c_m_in := okM_of 40 2 c_m_in 1 (by decide +kernel) (fun k hk => match k, hk with
  | 0, _ => okc_m_in_0
  | k + 1, h => absurd h (by omega))
set_option maxRecDepth 100000 in
theorem okc_m_of_0 : okMF 3 0 (List.take 40 (List.drop 0 c_m_of)) = true := by decide +kernel
set_option maxRecDepth 100000 in
theorem okm_m_of : okP 3 c_m_of := okM_of 40 3 c_m_of 1 (by decide +kernel) (fun k hk => match k, hk with
  | 0, _ => okc_m_of_0
  | k + 1, h => absurd h (by omega))
set_option maxRecDepth 100000 in
theorem okc_m_its_0 : okMF 4 0 (List.take 40 (List.drop 0 c_m_its)) = true := by decide +kernel
set_option maxRecDepth 100000 in
theorem okm_m_its : okP 4 c_m_its := okM_of 40 4 c_m_its 1 (by decide +kernel) (fun k hk => match k, hk with
  | 0, _ => okc_m_its_0
  | k + 1, h => absurd h (by omega))
set_option maxRecDepth 100000 in
theorem okc_m_fr_0 : okMF 5 0 (List.take 40 (List.drop 0 c_m_fr)) = true := by decide +kernel
set_option maxRecDepth 100000 in
theorem okm_m_fr : okP 5 c_m_fr := okM_of 40 5 c_m_fr 1 (by decide +kernel) (fun k hk => match k, hk with
  | 0, _ => okc_m_fr_0
  | k + 1, h => absurd h (by omega))
set_option maxRecDepth 100000 in
theorem okc_m_lays_0 : okMF 6 0 (List.take 40 (List.drop 0 c_m_lays)) = true := by decide +kernel
set_option maxRecDepth 100000 in
theorem okm_m_lays : okP 6 c_m_lays := okM_of 40 6 c_m_lays 1 (by decide +kernel) (fun k hk => match k, hk with
  | 0, _ => okc_m_lays_0
  | k + 1, h => absurd h (by omega))
set_option maxRecDepth 100000 in
theorem okc_m_isHub_0 : okMF 7 0 (List.take 40 (List.drop 0 c_m_isHub)) = true := by decide +kernel
set_option maxRecDepth 100000 in
theorem okm_m_isHub : okP 7 c_m_isHub := okM_of 40 7 c_m_isHub 1 (by decide +kernel) (fun k hk => match k, hk with
  | 0, _ => okc_m_isHub_0
  | k + 1, h => absurd h (by omega))
set_option maxRecDepth 100000 in
theorem okc_m_isUnit_0 : okMF 8 0 (List.take 40 (List.drop 0 c_m_isUnit)) = true := by decide +kernel
set_option maxRecDepth 100000 in
theorem okm_m_isUnit : okP 8 c_m_isUnit := okM_of 40 8 c_m_isUnit 1 (by decide +kernel) (fun k hk => match k, hk with
  | 0, _ => okc_m_isUnit_0
  | k + 1, h => absurd h (by omega))
set_option maxRecDepth 100000 in
theorem okc_m_isOn_0 : okMF 9 0 (List.take 40 (List.drop 0 c_m_isOn)) = true := by decide +kernel
set_option maxRecDepth 100000 in
theorem okm_m_isOn : okP 9 c_m_isOn := okM_of 40 9 c_m_isOn 1 (by decide +kernel) (fun k hk => match k, hk with
  | 0, _ => okc_m_isOn_0
  | k + 1, h => absurd h (by omega))
set_option maxRecDepth 100000 in
theorem okc_m_keeps_0 : okMF 10 0 (List.take 40 (List.drop 0 c_m_keeps)) = true := by decide +kernel
set_option maxRecDepth 100000 in
theorem okm_m_keeps : okP 10 c_m_keeps := okM_of 40 10 c_m_keeps 1 (by decide +kernel) (fun k hk => match k, hk with
  | 0, _ => okc_m_keeps_0
  | k + 1, h => absurd h (by omega))
set_option maxRecDepth 100000 in
theorem okc_m_acted_0 : okMF 11 0 (List.take 40 (List.drop 0 c_m_acted)) = true := by decide +kernel
set_option maxRecDepth 100000 in
theorem okc_m_acted_1 : okMF 11 40 (List.take 40 (List.drop 40 c_m_acted)) = true := by decide +kernel
set_option maxRecDepth 100000 in
theorem okm_m_acted : okP 11 c_m_acted := okM_of 40 11 c_m_acted 2 (by decide +kernel) (fun k hk => match k, hk with
  | 0, _ => okc_m_acted_0
  | 1, _ => okc_m_acted_1
  | k + 2, h => absurd h (by omega))
set_option maxRecDepth 100000 in
theorem okc_m_puts_0 : okMF 12 0 (List.take 40 (List.drop 0 c_m_puts)) = true := by decide +kernel
set_option maxRecDepth 100000 in
theorem okm_m_puts : okP 12 c_m_puts := okM_of 40 12 c_m_puts 1 (by decide +kernel) (fun k hk => match k, hk with
  | 0, _ => okc_m_puts_0
  | k + 1, h => absurd h (by omega))
set_option maxRecDepth 100000 in
theorem okc_m_restores_0 : okMF 13 0 (List.take 40 (List.drop 0 c_m_restores)) = true := by decide +kernel
set_option maxRecDepth 100000 in
theorem okm_m_restores : okP 13 c_m_restores := okM_of 40 13 c_m_restores 1 (by decide +kernel) (fun k hk => match k, hk with
  | 0, _ => okc_m_restores_0
  | k + 1, h => absurd h (by omega))
set_option maxRecDepth 100000 in
theorem okc_m_goWith_0 : okMF 14 0 (List.take 40 (List.drop 0 c_m_goWith)) = true := by decide +kernel
set_option maxRecDepth 100000 in
theorem okm_m_goWith : okP 14 c_m_goWith := okM_of 40 14 c_m_goWith 1 (by decide +kernel) (fun k hk => match k, hk with
  | 0, _ => okc_m_goWith_0
  | k + 1, h => absurd h (by omega))
set_option maxRecDepth 100000 in
theorem okc_m_isChild_0 : okMF 15 0 (List.take 40 (List.drop 0 c_m_isChild)) = true := by decide +kernel
set_option maxRecDepth 100000 in
theorem okm_m_isChild : okP 15 c_m_isChild := okM_of 40 15 c_m_isChild 1 (by decide +kernel) (fun k hk => match k, hk with
  | 0, _ => okc_m_isChild_0
  | k + 1, h => absurd h (by omega))
set_option maxRecDepth 100000 in
theorem okc_m_periodOf_0 : okMF 16 0 (List.take 40 (List.drop 0 c_m_periodOf)) = true := by decide +kernel
set_option maxRecDepth 100000 in
theorem okm_m_periodOf : okP 16 c_m_periodOf := okM_of 40 16 c_m_periodOf 1 (by decide +kernel) (fun k hk => match k, hk with
  | 0, _ => okc_m_periodOf_0
  | k + 1, h => absurd h (by omega))
set_option maxRecDepth 100000 in
theorem okc_m_through_0 : okMF 17 0 (List.take 40 (List.drop 0 c_m_through)) = true := by decide +kernel
set_option maxRecDepth 100000 in
theorem okm_m_through : okP 17 c_m_through := okM_of 40 17 c_m_through 1 (by decide +kernel) (fun k hk => match k, hk with
  | 0, _ => okc_m_through_0
  | k + 1, h => absurd h (by omega))
set_option maxRecDepth 100000 in
theorem okc_m_isOf_0 : okMF 18 0 (List.take 40 (List.drop 0 c_m_isOf)) = true := by decide +kernel
set_option maxRecDepth 100000 in
theorem okm_m_isOf : okP 18 c_m_isOf := okM_of 40 18 c_m_isOf 1 (by decide +kernel) (fun k hk => match k, hk with
  | 0, _ => okc_m_isOf_0
  | k + 1, h => absurd h (by omega))
set_option maxRecDepth 100000 in
theorem okc_m_depth_0 : okMF 19 0 (List.take 40 (List.drop 0 c_m_depth)) = true := by decide +kernel
set_option maxRecDepth 100000 in
theorem okm_m_depth : okP 19 c_m_depth := okM_of 40 19 c_m_depth 1 (by decide +kernel) (fun k hk => match k, hk with
  | 0, _ => okc_m_depth_0
  | k + 1, h => absurd h (by omega))
set_option maxRecDepth 100000 in
theorem okc_m_on_0 : okMF 20 0 (List.take 40 (List.drop 0 c_m_on)) = true := by decide +kernel
set_option maxRecDepth 100000 in
theorem okm_m_on : okP 20 c_m_on := okM_of 40 20 c_m_on 1 (by decide +kernel) (fun k hk => match k, hk with
  | 0, _ => okc_m_on_0
  | k + 1, h => absurd h (by omega))
set_option maxRecDepth 100000 in
theorem okc_m_hub_0 : okMF 21 0 (List.take 40 (List.drop 0 c_m_hub)) = true := by decide +kernel
set_option maxRecDepth 100000 in
theorem okc_m_hub_1 : okMF 21 40 (List.take 40 (List.drop 40 c_m_hub)) = true := by decide +kernel
set_option maxRecDepth 100000 in
theorem okc_m_hub_2 : okMF 21 80 (List.take 40 (List.drop 80 c_m_hub)) = true := by decide +kernel
set_option maxRecDepth 100000 in
theorem okm_m_hub : okP 21 c_m_hub := okM_of 40 21 c_m_hub 3 (by decide +kernel) (fun k hk => match k, hk with
  | 0, _ => okc_m_hub_0
  | 1, _ => okc_m_hub_1
  | 2, _ => okc_m_hub_2
  | k + 3, h => absurd h (by omega))
set_option maxRecDepth 100000 in
theorem okc_m_unit_0 : okMF 22 0 (List.take 40 (List.drop 0 c_m_unit)) = true := by decide +kernel
set_option maxRecDepth 100000 in
theorem okc_m_unit_1 : okMF 22 40 (List.take 40 (List.drop 40 c_m_unit)) = true := by decide +kernel
set_option maxRecDepth 100000 in
theorem okc_m_unit_2 : okMF 22 80 (List.take 40 (List.drop 80 c_m_unit)) = true := by decide +kernel
set_option maxRecDepth 100000 in
theorem okm_m_unit : okP 22 c_m_unit := okM_of 40 22 c_m_unit 3 (by decide +kernel) (fun k hk => match k, hk with
  | 0, _ => okc_m_unit_0
  | 1, _ => okc_m_unit_1
  | 2, _ => okc_m_unit_2
  | k + 3, h => absurd h (by omega))
set_option maxRecDepth 100000 in
theorem okc_m_takesOff_0 : okMF 23 0 (List.take 40 (List.drop 0 c_m_takesOff)) = true := by decide +kernel
set_option maxRecDepth 100000 in
theorem okm_m_takesOff : okP 23 c_m_takesOff := okM_of 40 23 c_m_takesOff 1 (by decide +kernel) (fun k hk => match k, hk with
  | 0, _ => okc_m_takesOff_0
  | k + 1, h => absurd h (by omega))
set_option maxRecDepth 100000 in
theorem okc_m_takeOff_0 : okMF 24 0 (List.take 40 (List.drop 0 c_m_takeOff)) = true := by decide +kernel
set_option maxRecDepth 100000 in
theorem okm_m_takeOff : okP 24 c_m_takeOff := okM_of 40 24 c_m_takeOff 1 (by decide +kernel) (fun k hk => match k, hk with
  | 0, _ => okc_m_takeOff_0
  | k + 1, h => absurd h (by omega))
set_option maxRecDepth 100000 in
theorem okc_m_canHave_0 : okMF 25 0 (List.take 40 (List.drop 0 c_m_canHave)) = true := by decide +kernel
set_option maxRecDepth 100000 in
theorem okc_m_canHave_1 : okMF 25 40 (List.take 40 (List.drop 40 c_m_canHave)) = true := by decide +kernel
set_option maxRecDepth 100000 in
theorem okm_m_canHave : okP 25 c_m_canHave := okM_of 40 25 c_m_canHave 2 (by decide +kernel) (fun k hk => match k, hk with
  | 0, _ => okc_m_canHave_0
  | 1, _ => okc_m_canHave_1
  | k + 2, h => absurd h (by omega))
set_option maxRecDepth 100000 in
theorem okc_m_set_0 : okMF 26 0 (List.take 40 (List.drop 0 c_m_set)) = true := by decide +kernel
set_option maxRecDepth 100000 in
theorem okc_m_set_1 : okMF 26 40 (List.take 40 (List.drop 40 c_m_set)) = true := by decide +kernel
set_option maxRecDepth 100000 in
theorem okm_m_set : okP 26 c_m_set := okM_of 40 26 c_m_set 2 (by decide +kernel) (fun k hk => match k, hk with
  | 0, _ => okc_m_set_0
  | 1, _ => okc_m_set_1
  | k + 2, h => absurd h (by omega))
set_option maxRecDepth 100000 in
theorem okc_m_children_0 : okMF 27 0 (List.take 40 (List.drop 0 c_m_children)) = true := by decide +kernel
set_option maxRecDepth 100000 in
theorem okm_m_children : okP 27 c_m_children := okM_of 40 27 c_m_children 1 (by decide +kernel) (fun k hk => match k, hk with
  | 0, _ => okc_m_children_0
  | k + 1, h => absurd h (by omega))
set_option maxRecDepth 100000 in
theorem okc_m_unitsOf_0 : okMF 28 0 (List.take 40 (List.drop 0 c_m_unitsOf)) = true := by decide +kernel
set_option maxRecDepth 100000 in
theorem okm_m_unitsOf : okP 28 c_m_unitsOf := okM_of 40 28 c_m_unitsOf 1 (by decide +kernel) (fun k hk => match k, hk with
  | 0, _ => okc_m_unitsOf_0
  | k + 1, h => absurd h (by omega))
set_option maxRecDepth 100000 in
theorem okc_m_onWay_0 : okMF 29 0 (List.take 40 (List.drop 0 c_m_onWay)) = true := by decide +kernel
set_option maxRecDepth 100000 in
theorem okm_m_onWay : okP 29 c_m_onWay := okM_of 40 29 c_m_onWay 1 (by decide +kernel) (fun k hk => match k, hk with
  | 0, _ => okc_m_onWay_0
  | k + 1, h => absurd h (by omega))
set_option maxRecDepth 100000 in
theorem okc_m_hubOf_0 : okMF 30 0 (List.take 40 (List.drop 0 c_m_hubOf)) = true := by decide +kernel
set_option maxRecDepth 100000 in
theorem okc_m_hubOf_1 : okMF 30 40 (List.take 40 (List.drop 40 c_m_hubOf)) = true := by decide +kernel
set_option maxRecDepth 100000 in
theorem okm_m_hubOf : okP 30 c_m_hubOf := okM_of 40 30 c_m_hubOf 2 (by decide +kernel) (fun k hk => match k, hk with
  | 0, _ => okc_m_hubOf_0
  | 1, _ => okc_m_hubOf_1
  | k + 2, h => absurd h (by omega))
set_option maxRecDepth 100000 in
theorem okc_m_unitOf_0 : okMF 31 0 (List.take 40 (List.drop 0 c_m_unitOf)) = true := by decide +kernel
set_option maxRecDepth 100000 in
theorem okc_m_unitOf_1 : okMF 31 40 (List.take 40 (List.drop 40 c_m_unitOf)) = true := by decide +kernel
set_option maxRecDepth 100000 in
theorem okm_m_unitOf : okP 31 c_m_unitOf := okM_of 40 31 c_m_unitOf 2 (by decide +kernel) (fun k hk => match k, hk with
  | 0, _ => okc_m_unitOf_0
  | 1, _ => okc_m_unitOf_1
  | k + 2, h => absurd h (by omega))
set_option maxRecDepth 100000 in
theorem okc_m_unitAt_0 : okMF 32 0 (List.take 40 (List.drop 0 c_m_unitAt)) = true := by decide +kernel
set_option maxRecDepth 100000 in
theorem okc_m_unitAt_1 : okMF 32 40 (List.take 40 (List.drop 40 c_m_unitAt)) = true := by decide +kernel
set_option maxRecDepth 100000 in
theorem okm_m_unitAt : okP 32 c_m_unitAt := okM_of 40 32 c_m_unitAt 2 (by decide +kernel) (fun k hk => match k, hk with
  | 0, _ => okc_m_unitAt_0
  | 1, _ => okc_m_unitAt_1
  | k + 2, h => absurd h (by omega))
set_option maxRecDepth 100000 in
theorem okc_m_isIn_0 : okMF 33 0 (List.take 40 (List.drop 0 c_m_isIn)) = true := by decide +kernel
set_option maxRecDepth 100000 in
theorem okm_m_isIn : okP 33 c_m_isIn := okM_of 40 33 c_m_isIn 1 (by decide +kernel) (fun k hk => match k, hk with
  | 0, _ => okc_m_isIn_0
  | k + 1, h => absurd h (by omega))
set_option maxRecDepth 100000 in
theorem okc_m_behind_0 : okMF 34 0 (List.take 40 (List.drop 0 c_m_behind)) = true := by decide +kernel
set_option maxRecDepth 100000 in
theorem okc_m_behind_1 : okMF 34 40 (List.take 40 (List.drop 40 c_m_behind)) = true := by decide +kernel
set_option maxRecDepth 100000 in
theorem okm_m_behind : okP 34 c_m_behind := okM_of 40 34 c_m_behind 2 (by decide +kernel) (fun k hk => match k, hk with
  | 0, _ => okc_m_behind_0
  | 1, _ => okc_m_behind_1
  | k + 2, h => absurd h (by omega))
set_option maxRecDepth 100000 in
theorem okc_m_slots_0 : okMF 35 0 (List.take 40 (List.drop 0 c_m_slots)) = true := by decide +kernel
set_option maxRecDepth 100000 in
theorem okm_m_slots : okP 35 c_m_slots := okM_of 40 35 c_m_slots 1 (by decide +kernel) (fun k hk => match k, hk with
  | 0, _ => okc_m_slots_0
  | k + 1, h => absurd h (by omega))
set_option maxRecDepth 100000 in
theorem okc_m_isQuick_0 : okMF 36 0 (List.take 40 (List.drop 0 c_m_isQuick)) = true := by decide +kernel
set_option maxRecDepth 100000 in
theorem okm_m_isQuick : okP 36 c_m_isQuick := okM_of 40 36 c_m_isQuick 1 (by decide +kernel) (fun k hk => match k, hk with
  | 0, _ => okc_m_isQuick_0
  | k + 1, h => absurd h (by omega))
set_option maxRecDepth 100000 in
theorem okc_m_expects_0 : okMF 37 0 (List.take 40 (List.drop 0 c_m_expects)) = true := by decide +kernel
set_option maxRecDepth 100000 in
theorem okm_m_expects : okP 37 c_m_expects := okM_of 40 37 c_m_expects 1 (by decide +kernel) (fun k hk => match k, hk with
  | 0, _ => okc_m_expects_0
  | k + 1, h => absurd h (by omega))
set_option maxRecDepth 100000 in
theorem okc_m_frames_0 : okMF 38 0 (List.take 40 (List.drop 0 c_m_frames)) = true := by decide +kernel
set_option maxRecDepth 100000 in
theorem okm_m_frames : okP 38 c_m_frames := okM_of 40 38 c_m_frames 1 (by decide +kernel) (fun k hk => match k, hk with
  | 0, _ => okc_m_frames_0
  | k + 1, h => absurd h (by omega))
set_option maxRecDepth 100000 in
theorem okc_m_expected_0 : okMF 39 0 (List.take 40 (List.drop 0 c_m_expected)) = true := by decide +kernel
set_option maxRecDepth 100000 in
theorem okm_m_expected : okP 39 c_m_expected := okM_of 40 39 c_m_expected 1 (by decide +kernel) (fun k hk => match k, hk with
  | 0, _ => okc_m_expected_0
  | k + 1, h => absurd h (by omega))
set_option maxRecDepth 100000 in
theorem okc_m_isComplete_0 : okMF 40 0 (List.take 40 (List.drop 0 c_m_isComplete)) = true := by decide +kernel
set_option maxRecDepth 100000 in
theorem okm_m_isComplete : okP 40 c_m_isComplete := okM_of 40 40 c_m_isComplete 1 (by decide +kernel) (fun k hk => match k, hk with
  | 0, _ => okc_m_isComplete_0
  | k + 1, h => absurd h (by omega))
set_option maxRecDepth 100000 in
theorem okc_m_firstCame_0 : okMF 41 0 (List.take 40 (List.drop 0 c_m_firstCame)) = true := by decide +kernel
set_option maxRecDepth 100000 in
theorem okm_m_firstCame : okP 41 c_m_firstCame := okM_of 40 41 c_m_firstCame 1 (by decide +kernel) (fun k hk => match k, hk with
  | 0, _ => okc_m_firstCame_0
  | k + 1, h => absurd h (by omega))
set_option maxRecDepth 100000 in
theorem okc_m_lasts_0 : okMF 42 0 (List.take 40 (List.drop 0 c_m_lasts)) = true := by decide +kernel
set_option maxRecDepth 100000 in
theorem okm_m_lasts : okP 42 c_m_lasts := okM_of 40 42 c_m_lasts 1 (by decide +kernel) (fun k hk => match k, hk with
  | 0, _ => okc_m_lasts_0
  | k + 1, h => absurd h (by omega))
set_option maxRecDepth 100000 in
theorem okc_m_free_0 : okMF 43 0 (List.take 40 (List.drop 0 c_m_free)) = true := by decide +kernel
set_option maxRecDepth 100000 in
theorem okm_m_free : okP 43 c_m_free := okM_of 40 43 c_m_free 1 (by decide +kernel) (fun k hk => match k, hk with
  | 0, _ => okc_m_free_0
  | k + 1, h => absurd h (by omega))
set_option maxRecDepth 100000 in
theorem okc_m_comes_0 : okMF 44 0 (List.take 40 (List.drop 0 c_m_comes)) = true := by decide +kernel
set_option maxRecDepth 100000 in
theorem okc_m_comes_1 : okMF 44 40 (List.take 40 (List.drop 40 c_m_comes)) = true := by decide +kernel
set_option maxRecDepth 100000 in
theorem okc_m_comes_2 : okMF 44 80 (List.take 40 (List.drop 80 c_m_comes)) = true := by decide +kernel
set_option maxRecDepth 100000 in
theorem okc_m_comes_3 : okMF 44 120 (List.take 40 (List.drop 120 c_m_comes)) = true := by decide +kernel
set_option maxRecDepth 100000 in
theorem okm_m_comes : okP 44 c_m_comes := okM_of 40 44 c_m_comes 4 (by decide +kernel) (fun k hk => match k, hk with
  | 0, _ => okc_m_comes_0
  | 1, _ => okc_m_comes_1
  | 2, _ => okc_m_comes_2
  | 3, _ => okc_m_comes_3
  | k + 4, h => absurd h (by omega))
