set_option maxRecDepth 100000 in
theorem okc_H_begin_0 : okMF 104 0 (List.take 40 (List.drop 0 c_H_begin)) = true := by decide +kernel
set_option maxRecDepth 100000 in
theorem okm_H_begin : okP 104 c_H_begin := okM_of 40 104 c_H_begin 1 (by decide +kernel) (fun k hk => match k, hk with
  | 0, _ => okc_H_begin_0
  | k + 1, h => absurd h (by omega))
set_option maxRecDepth 100000 in
theorem okc_H_copyFrom_0 : okMF 105 0 (List.take 40 (List.drop 0 c_H_copyFrom)) = true := by decide +kernel
set_option maxRecDepth 100000 in
theorem okc_H_copyFrom_1 : okMF 105 40 (List.take 40 (List.drop 40 c_H_copyFrom)) = true := by decide +kernel
set_option maxRecDepth 100000 in
theorem okm_H_copyFrom : okP 105 c_H_copyFrom := okM_of 40 105 c_H_copyFrom 2 (by decide +kernel) (fun k hk => match k, hk with
  | 0, _ => okc_H_copyFrom_0
  | 1, _ => okc_H_copyFrom_1
  | k + 2, h => absurd h (by omega))
set_option maxRecDepth 100000 in
theorem okc_H_isUntouched_0 : okMF 106 0 (List.take 40 (List.drop 0 c_H_isUntouched)) = true := by decide +kernel
set_option maxRecDepth 100000 in
theorem okm_H_isUntouched : okP 106 c_H_isUntouched := okM_of 40 106 c_H_isUntouched 1 (by decide +kernel) (fun k hk => match k, hk with
  | 0, _ => okc_H_isUntouched_0
  | k + 1, h => absurd h (by omega))
set_option maxRecDepth 100000 in
theorem okc_H_slotFor_0 : okMF 107 0 (List.take 40 (List.drop 0 c_H_slotFor)) = true := by decide +kernel
set_option maxRecDepth 100000 in
theorem okm_H_slotFor : okP 107 c_H_slotFor := okM_of 40 107 c_H_slotFor 1 (by decide +kernel) (fun k hk => match k, hk with
  | 0, _ => okc_H_slotFor_0
  | k + 1, h => absurd h (by omega))
set_option maxRecDepth 100000 in
theorem okc_H_waitLeft_0 : okMF 108 0 (List.take 40 (List.drop 0 c_H_waitLeft)) = true := by decide +kernel
set_option maxRecDepth 100000 in
theorem okm_H_waitLeft : okP 108 c_H_waitLeft := okM_of 40 108 c_H_waitLeft 1 (by decide +kernel) (fun k hk => match k, hk with
  | 0, _ => okc_H_waitLeft_0
  | k + 1, h => absurd h (by omega))
set_option maxRecDepth 100000 in
theorem okc_T_init_0 : okMF 109 0 (List.take 40 (List.drop 0 c_T_init)) = true := by decide +kernel
set_option maxRecDepth 100000 in
theorem okc_T_init_1 : okMF 109 40 (List.take 40 (List.drop 40 c_T_init)) = true := by decide +kernel
set_option maxRecDepth 100000 in
theorem okc_T_init_2 : okMF 109 80 (List.take 40 (List.drop 80 c_T_init)) = true := by decide +kernel
set_option maxRecDepth 100000 in
theorem okm_T_init : okP 109 c_T_init := okM_of 40 109 c_T_init 3 (by decide +kernel) (fun k hk => match k, hk with
  | 0, _ => okc_T_init_0
  | 1, _ => okc_T_init_1
  | 2, _ => okc_T_init_2
  | k + 3, h => absurd h (by omega))
set_option maxRecDepth 100000 in
theorem okc_T_copyFrom_0 : okMF 110 0 (List.take 40 (List.drop 0 c_T_copyFrom)) = true := by decide +kernel
set_option maxRecDepth 100000 in
theorem okc_T_copyFrom_1 : okMF 110 40 (List.take 40 (List.drop 40 c_T_copyFrom)) = true := by decide +kernel
set_option maxRecDepth 100000 in
theorem okm_T_copyFrom : okP 110 c_T_copyFrom := okM_of 40 110 c_T_copyFrom 2 (by decide +kernel) (fun k hk => match k, hk with
  | 0, _ => okc_T_copyFrom_0
  | 1, _ => okc_T_copyFrom_1
  | k + 2, h => absurd h (by omega))
set_option maxRecDepth 100000 in
theorem okc_T_hasHub_0 : okMF 111 0 (List.take 40 (List.drop 0 c_T_hasHub)) = true := by decide +kernel
set_option maxRecDepth 100000 in
theorem okm_T_hasHub : okP 111 c_T_hasHub := okM_of 40 111 c_T_hasHub 1 (by decide +kernel) (fun k hk => match k, hk with
  | 0, _ => okc_T_hasHub_0
  | k + 1, h => absurd h (by omega))
set_option maxRecDepth 100000 in
theorem okc_T_hasUnit_0 : okMF 112 0 (List.take 40 (List.drop 0 c_T_hasUnit)) = true := by decide +kernel
set_option maxRecDepth 100000 in
theorem okm_T_hasUnit : okP 112 c_T_hasUnit := okM_of 40 112 c_T_hasUnit 1 (by decide +kernel) (fun k hk => match k, hk with
  | 0, _ => okc_T_hasUnit_0
  | k + 1, h => absurd h (by omega))
set_option maxRecDepth 100000 in
theorem okc_T_joinError_0 : okMF 113 0 (List.take 40 (List.drop 0 c_T_joinError)) = true := by decide +kernel
set_option maxRecDepth 100000 in
theorem okm_T_joinError : okP 113 c_T_joinError := okM_of 40 113 c_T_joinError 1 (by decide +kernel) (fun k hk => match k, hk with
  | 0, _ => okc_T_joinError_0
  | k + 1, h => absurd h (by omega))
set_option maxRecDepth 100000 in
theorem okc_T_addHub_0 : okMF 114 0 (List.take 40 (List.drop 0 c_T_addHub)) = true := by decide +kernel
set_option maxRecDepth 100000 in
theorem okm_T_addHub : okP 114 c_T_addHub := okM_of 40 114 c_T_addHub 1 (by decide +kernel) (fun k hk => match k, hk with
  | 0, _ => okc_T_addHub_0
  | k + 1, h => absurd h (by omega))
set_option maxRecDepth 100000 in
theorem okc_T_addUnit_0 : okMF 115 0 (List.take 40 (List.drop 0 c_T_addUnit)) = true := by decide +kernel
set_option maxRecDepth 100000 in
theorem okm_T_addUnit : okP 115 c_T_addUnit := okM_of 40 115 c_T_addUnit 1 (by decide +kernel) (fun k hk => match k, hk with
  | 0, _ => okc_T_addUnit_0
  | k + 1, h => absurd h (by omega))
set_option maxRecDepth 100000 in
theorem okc_T_retireError_0 : okMF 116 0 (List.take 40 (List.drop 0 c_T_retireError)) = true := by decide +kernel
set_option maxRecDepth 100000 in
theorem okm_T_retireError : okP 116 c_T_retireError := okM_of 40 116 c_T_retireError 1 (by decide +kernel) (fun k hk => match k, hk with
  | 0, _ => okc_T_retireError_0
  | k + 1, h => absurd h (by omega))
set_option maxRecDepth 100000 in
theorem okc_T_retire_0 : okMF 117 0 (List.take 40 (List.drop 0 c_T_retire)) = true := by decide +kernel
set_option maxRecDepth 100000 in
theorem okm_T_retire : okP 117 c_T_retire := okM_of 40 117 c_T_retire 1 (by decide +kernel) (fun k hk => match k, hk with
  | 0, _ => okc_T_retire_0
  | k + 1, h => absurd h (by omega))
set_option maxRecDepth 100000 in
theorem okc_T_settingError_0 : okMF 118 0 (List.take 40 (List.drop 0 c_T_settingError)) = true := by decide +kernel
set_option maxRecDepth 100000 in
theorem okm_T_settingError : okP 118 c_T_settingError := okM_of 40 118 c_T_settingError 1 (by decide +kernel) (fun k hk => match k, hk with
  | 0, _ => okc_T_settingError_0
  | k + 1, h => absurd h (by omega))
set_option maxRecDepth 100000 in
theorem okc_T_canHavePeriod_0 : okMF 119 0 (List.take 40 (List.drop 0 c_T_canHavePeriod)) = true := by decide +kernel
set_option maxRecDepth 100000 in
theorem okc_T_canHavePeriod_1 : okMF 119 40 (List.take 40 (List.drop 40 c_T_canHavePeriod)) = true := by decide +kernel
set_option maxRecDepth 100000 in
theorem okm_T_canHavePeriod : okP 119 c_T_canHavePeriod := okM_of 40 119 c_T_canHavePeriod 2 (by decide +kernel) (fun k hk => match k, hk with
  | 0, _ => okc_T_canHavePeriod_0
  | 1, _ => okc_T_canHavePeriod_1
  | k + 2, h => absurd h (by omega))
set_option maxRecDepth 100000 in
theorem okc_T_changeSetting_0 : okMF 120 0 (List.take 40 (List.drop 0 c_T_changeSetting)) = true := by decide +kernel
set_option maxRecDepth 100000 in
theorem okm_T_changeSetting : okP 120 c_T_changeSetting := okM_of 40 120 c_T_changeSetting 1 (by decide +kernel) (fun k hk => match k, hk with
  | 0, _ => okc_T_changeSetting_0
  | k + 1, h => absurd h (by omega))
set_option maxRecDepth 100000 in
theorem okc_T_isChild_0 : okMF 121 0 (List.take 40 (List.drop 0 c_T_isChild)) = true := by decide +kernel
set_option maxRecDepth 100000 in
theorem okc_T_isChild_1 : okMF 121 40 (List.take 40 (List.drop 40 c_T_isChild)) = true := by decide +kernel
set_option maxRecDepth 100000 in
theorem okm_T_isChild : okP 121 c_T_isChild := okM_of 40 121 c_T_isChild 2 (by decide +kernel) (fun k hk => match k, hk with
  | 0, _ => okc_T_isChild_0
  | 1, _ => okc_T_isChild_1
  | k + 2, h => absurd h (by omega))
set_option maxRecDepth 100000 in
theorem okc_T_periodOf_0 : okMF 122 0 (List.take 40 (List.drop 0 c_T_periodOf)) = true := by decide +kernel
set_option maxRecDepth 100000 in
theorem okm_T_periodOf : okP 122 c_T_periodOf := okM_of 40 122 c_T_periodOf 1 (by decide +kernel) (fun k hk => match k, hk with
  | 0, _ => okc_T_periodOf_0
  | k + 1, h => absurd h (by omega))
set_option maxRecDepth 100000 in
theorem okc_T_childToward_0 : okMF 123 0 (List.take 40 (List.drop 0 c_T_childToward)) = true := by decide +kernel
set_option maxRecDepth 100000 in
theorem okc_T_childToward_1 : okMF 123 40 (List.take 40 (List.drop 40 c_T_childToward)) = true := by decide +kernel
set_option maxRecDepth 100000 in
theorem okm_T_childToward : okP 123 c_T_childToward := okM_of 40 123 c_T_childToward 2 (by decide +kernel) (fun k hk => match k, hk with
  | 0, _ => okc_T_childToward_0
  | 1, _ => okc_T_childToward_1
  | k + 2, h => absurd h (by omega))
set_option maxRecDepth 100000 in
theorem okc_T_childrenOf_0 : okMF 124 0 (List.take 40 (List.drop 0 c_T_childrenOf)) = true := by decide +kernel
set_option maxRecDepth 100000 in
theorem okm_T_childrenOf : okP 124 c_T_childrenOf := okM_of 40 124 c_T_childrenOf 1 (by decide +kernel) (fun k hk => match k, hk with
  | 0, _ => okc_T_childrenOf_0
  | k + 1, h => absurd h (by omega))
set_option maxRecDepth 100000 in
theorem okc_T_unitsUnder_0 : okMF 125 0 (List.take 40 (List.drop 0 c_T_unitsUnder)) = true := by decide +kernel
set_option maxRecDepth 100000 in
theorem okm_T_unitsUnder : okP 125 c_T_unitsUnder := okM_of 40 125 c_T_unitsUnder 1 (by decide +kernel) (fun k hk => match k, hk with
  | 0, _ => okc_T_unitsUnder_0
  | k + 1, h => absurd h (by omega))
set_option maxRecDepth 100000 in
theorem okc_T_unitsLeft_0 : okMF 126 0 (List.take 40 (List.drop 0 c_T_unitsLeft)) = true := by decide +kernel
set_option maxRecDepth 100000 in
theorem okm_T_unitsLeft : okP 126 c_T_unitsLeft := okM_of 40 126 c_T_unitsLeft 1 (by decide +kernel) (fun k hk => match k, hk with
  | 0, _ => okc_T_unitsLeft_0
  | k + 1, h => absurd h (by omega))
set_option maxRecDepth 100000 in
theorem okc_T_unitOfHub_0 : okMF 127 0 (List.take 40 (List.drop 0 c_T_unitOfHub)) = true := by decide +kernel
set_option maxRecDepth 100000 in
theorem okm_T_unitOfHub : okP 127 c_T_unitOfHub := okM_of 40 127 c_T_unitOfHub 1 (by decide +kernel) (fun k hk => match k, hk with
  | 0, _ => okc_T_unitOfHub_0
  | k + 1, h => absurd h (by omega))
set_option maxRecDepth 100000 in
theorem okc_T_delayToRoot_0 : okMF 128 0 (List.take 40 (List.drop 0 c_T_delayToRoot)) = true := by decide +kernel
set_option maxRecDepth 100000 in
theorem okm_T_delayToRoot : okP 128 c_T_delayToRoot := okM_of 40 128 c_T_delayToRoot 1 (by decide +kernel) (fun k hk => match k, hk with
  | 0, _ => okc_T_delayToRoot_0
  | k + 1, h => absurd h (by omega))
set_option maxRecDepth 100000 in
theorem okc_T_hubFact_0 : okMF 129 0 (List.take 40 (List.drop 0 c_T_hubFact)) = true := by decide +kernel
set_option maxRecDepth 100000 in
theorem okc_T_hubFact_1 : okMF 129 40 (List.take 40 (List.drop 40 c_T_hubFact)) = true := by decide +kernel
set_option maxRecDepth 100000 in
theorem okm_T_hubFact : okP 129 c_T_hubFact := okM_of 40 129 c_T_hubFact 2 (by decide +kernel) (fun k hk => match k, hk with
  | 0, _ => okc_T_hubFact_0
  | 1, _ => okc_T_hubFact_1
  | k + 2, h => absurd h (by omega))
set_option maxRecDepth 100000 in
theorem okc_T_unitFact_0 : okMF 130 0 (List.take 40 (List.drop 0 c_T_unitFact)) = true := by decide +kernel
set_option maxRecDepth 100000 in
theorem okc_T_unitFact_1 : okMF 130 40 (List.take 40 (List.drop 40 c_T_unitFact)) = true := by decide +kernel
set_option maxRecDepth 100000 in
theorem okm_T_unitFact : okP 130 c_T_unitFact := okM_of 40 130 c_T_unitFact 2 (by decide +kernel) (fun k hk => match k, hk with
  | 0, _ => okc_T_unitFact_0
  | 1, _ => okc_T_unitFact_1
  | k + 2, h => absurd h (by omega))
set_option maxRecDepth 100000 in
theorem okc_T_departError_0 : okMF 131 0 (List.take 40 (List.drop 0 c_T_departError)) = true := by decide +kernel
set_option maxRecDepth 100000 in
theorem okc_T_departError_1 : okMF 131 40 (List.take 40 (List.drop 40 c_T_departError)) = true := by decide +kernel
set_option maxRecDepth 100000 in
theorem okm_T_departError : okP 131 c_T_departError := okM_of 40 131 c_T_departError 2 (by decide +kernel) (fun k hk => match k, hk with
  | 0, _ => okc_T_departError_0
  | 1, _ => okc_T_departError_1
  | k + 2, h => absurd h (by omega))
set_option maxRecDepth 100000 in
theorem okc_T_depart_0 : okMF 132 0 (List.take 40 (List.drop 0 c_T_depart)) = true := by decide +kernel
set_option maxRecDepth 100000 in
theorem okm_T_depart : okP 132 c_T_depart := okM_of 40 132 c_T_depart 1 (by decide +kernel) (fun k hk => match k, hk with
  | 0, _ => okc_T_depart_0
  | k + 1, h => absurd h (by omega))
set_option maxRecDepth 100000 in
theorem okc_T_elapseError_0 : okMF 133 0 (List.take 40 (List.drop 0 c_T_elapseError)) = true := by decide +kernel
set_option maxRecDepth 100000 in
theorem okm_T_elapseError : okP 133 c_T_elapseError := okM_of 40 133 c_T_elapseError 1 (by decide +kernel) (fun k hk => match k, hk with
  | 0, _ => okc_T_elapseError_0
  | k + 1, h => absurd h (by omega))
set_option maxRecDepth 100000 in
theorem okc_T_elapse_0 : okMF 134 0 (List.take 40 (List.drop 0 c_T_elapse)) = true := by decide +kernel
set_option maxRecDepth 100000 in
theorem okm_T_elapse : okP 134 c_T_elapse := okM_of 40 134 c_T_elapse 1 (by decide +kernel) (fun k hk => match k, hk with
  | 0, _ => okc_T_elapse_0
  | k + 1, h => absurd h (by omega))
set_option maxRecDepth 100000 in
theorem okc_T_bringDueFrames_0 : okMF 135 0 (List.take 40 (List.drop 0 c_T_bringDueFrames)) = true := by decide +kernel
set_option maxRecDepth 100000 in
theorem okm_T_bringDueFrames : okP 135 c_T_bringDueFrames := okM_of 40 135 c_T_bringDueFrames 1 (by decide +kernel) (fun k hk => match k, hk with
  | 0, _ => okc_T_bringDueFrames_0
  | k + 1, h => absurd h (by omega))
set_option maxRecDepth 100000 in
theorem okc_T_arrive_0 : okMF 136 0 (List.take 40 (List.drop 0 c_T_arrive)) = true := by decide +kernel
set_option maxRecDepth 100000 in
theorem okc_T_arrive_1 : okMF 136 40 (List.take 40 (List.drop 40 c_T_arrive)) = true := by decide +kernel
set_option maxRecDepth 100000 in
theorem okc_T_arrive_2 : okMF 136 80 (List.take 40 (List.drop 80 c_T_arrive)) = true := by decide +kernel
set_option maxRecDepth 100000 in
theorem okm_T_arrive : okP 136 c_T_arrive := okM_of 40 136 c_T_arrive 3 (by decide +kernel) (fun k hk => match k, hk with
  | 0, _ => okc_T_arrive_0
  | 1, _ => okc_T_arrive_1
  | 2, _ => okc_T_arrive_2
  | k + 3, h => absurd h (by omega))
set_option maxRecDepth 100000 in
theorem okc_T_expectedOf_0 : okMF 137 0 (List.take 40 (List.drop 0 c_T_expectedOf)) = true := by decide +kernel
set_option maxRecDepth 100000 in
theorem okm_T_expectedOf : okP 137 c_T_expectedOf := okM_of 40 137 c_T_expectedOf 1 (by decide +kernel) (fun k hk => match k, hk with
  | 0, _ => okc_T_expectedOf_0
  | k + 1, h => absurd h (by omega))
set_option maxRecDepth 100000 in
theorem okc_T_expectedOfAll_0 : okMF 138 0 (List.take 40 (List.drop 0 c_T_expectedOfAll)) = true := by decide +kernel
set_option maxRecDepth 100000 in
theorem okm_T_expectedOfAll : okP 138 c_T_expectedOfAll := okM_of 40 138 c_T_expectedOfAll 1 (by decide +kernel) (fun k hk => match k, hk with
  | 0, _ => okc_T_expectedOfAll_0
  | k + 1, h => absurd h (by omega))
set_option maxRecDepth 100000 in
theorem okc_T_isComplete_0 : okMF 139 0 (List.take 40 (List.drop 0 c_T_isComplete)) = true := by decide +kernel
set_option maxRecDepth 100000 in
theorem okc_T_isComplete_1 : okMF 139 40 (List.take 40 (List.drop 40 c_T_isComplete)) = true := by decide +kernel
set_option maxRecDepth 100000 in
theorem okm_T_isComplete : okP 139 c_T_isComplete := okM_of 40 139 c_T_isComplete 2 (by decide +kernel) (fun k hk => match k, hk with
  | 0, _ => okc_T_isComplete_0
  | 1, _ => okc_T_isComplete_1
  | k + 2, h => absurd h (by omega))
set_option maxRecDepth 100000 in
theorem okc_T_isFirstSlotReady_0 : okMF 140 0 (List.take 40 (List.drop 0 c_T_isFirstSlotReady)) = true := by decide +kernel
set_option maxRecDepth 100000 in
theorem okm_T_isFirstSlotReady : okP 140 c_T_isFirstSlotReady := okM_of 40 140 c_T_isFirstSlotReady 1 (by decide +kernel) (fun k hk => match k, hk with
  | 0, _ => okc_T_isFirstSlotReady_0
  | k + 1, h => absurd h (by omega))
set_option maxRecDepth 100000 in
theorem okc_T_releaseReadySlots_0 : okMF 141 0 (List.take 40 (List.drop 0 c_T_releaseReadySlots)) = true := by decide +kernel
set_option maxRecDepth 100000 in
theorem okc_T_releaseReadySlots_1 : okMF 141 40 (List.take 40 (List.drop 40 c_T_releaseReadySlots)) = true := by decide +kernel
set_option maxRecDepth 100000 in
theorem okm_T_releaseReadySlots : okP 141 c_T_releaseReadySlots := okM_of 40 141 c_T_releaseReadySlots 2 (by decide +kernel) (fun k hk => match k, hk with
  | 0, _ => okc_T_releaseReadySlots_0
  | 1, _ => okc_T_releaseReadySlots_1
  | k + 2, h => absurd h (by omega))
set_option maxRecDepth 100000 in
theorem okc_T_putOut_0 : okMF 142 0 (List.take 40 (List.drop 0 c_T_putOut)) = true := by decide +kernel
set_option maxRecDepth 100000 in
theorem okm_T_putOut : okP 142 c_T_putOut := okM_of 40 142 c_T_putOut 1 (by decide +kernel) (fun k hk => match k, hk with
  | 0, _ => okc_T_putOut_0
  | k + 1, h => absurd h (by omega))
set_option maxRecDepth 100000 in
theorem okc_T_build_0 : okMF 143 0 (List.take 40 (List.drop 0 c_T_build)) = true := by decide +kernel
set_option maxRecDepth 100000 in
theorem okc_T_build_1 : okMF 143 40 (List.take 40 (List.drop 40 c_T_build)) = true := by decide +kernel
set_option maxRecDepth 100000 in
theorem okc_T_build_2 : okMF 143 80 (List.take 40 (List.drop 80 c_T_build)) = true := by decide +kernel
set_option maxRecDepth 100000 in
theorem okm_T_build : okP 143 c_T_build := okM_of 40 143 c_T_build 3 (by decide +kernel) (fun k hk => match k, hk with
  | 0, _ => okc_T_build_0
  | 1, _ => okc_T_build_1
  | 2, _ => okc_T_build_2
  | k + 3, h => absurd h (by omega))
