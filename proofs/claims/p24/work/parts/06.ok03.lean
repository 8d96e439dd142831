set_option maxRecDepth 100000 in
theorem okc_T_takeHeld_0 : okMF 144 0 (List.take 40 (List.drop 0 c_T_takeHeld)) = true := by decide +kernel
set_option maxRecDepth 100000 in
theorem okm_T_takeHeld : okP 144 c_T_takeHeld := okM_of 40 144 c_T_takeHeld 1 (by decide +kernel) (fun k hk => match k, hk with
  | 0, _ => okc_T_takeHeld_0
  | k + 1, h => absurd h (by omega))
set_option maxRecDepth 100000 in
theorem okc_T_takeStamped_0 : okMF 145 0 (List.take 40 (List.drop 0 c_T_takeStamped)) = true := by decide +kernel
set_option maxRecDepth 100000 in
theorem okc_T_takeStamped_1 : okMF 145 40 (List.take 40 (List.drop 40 c_T_takeStamped)) = true := by decide +kernel
set_option maxRecDepth 100000 in
theorem okm_T_takeStamped : okP 145 c_T_takeStamped := okM_of 40 145 c_T_takeStamped 2 (by decide +kernel) (fun k hk => match k, hk with
  | 0, _ => okc_T_takeStamped_0
  | 1, _ => okc_T_takeStamped_1
  | k + 2, h => absurd h (by omega))
set_option maxRecDepth 100000 in
theorem okc_T_takeFiltered_0 : okMF 146 0 (List.take 40 (List.drop 0 c_T_takeFiltered)) = true := by decide +kernel
set_option maxRecDepth 100000 in
theorem okc_T_takeFiltered_1 : okMF 146 40 (List.take 40 (List.drop 40 c_T_takeFiltered)) = true := by decide +kernel
set_option maxRecDepth 100000 in
theorem okc_T_takeFiltered_2 : okMF 146 80 (List.take 40 (List.drop 80 c_T_takeFiltered)) = true := by decide +kernel
set_option maxRecDepth 100000 in
theorem okc_T_takeFiltered_3 : okMF 146 120 (List.take 40 (List.drop 120 c_T_takeFiltered)) = true := by decide +kernel
set_option maxRecDepth 100000 in
theorem okm_T_takeFiltered : okP 146 c_T_takeFiltered := okM_of 40 146 c_T_takeFiltered 4 (by decide +kernel) (fun k hk => match k, hk with
  | 0, _ => okc_T_takeFiltered_0
  | 1, _ => okc_T_takeFiltered_1
  | 2, _ => okc_T_takeFiltered_2
  | 3, _ => okc_T_takeFiltered_3
  | k + 4, h => absurd h (by omega))
set_option maxRecDepth 100000 in
theorem okc_T_hasValidReading_0 : okMF 147 0 (List.take 40 (List.drop 0 c_T_hasValidReading)) = true := by decide +kernel
set_option maxRecDepth 100000 in
theorem okm_T_hasValidReading : okP 147 c_T_hasValidReading := okM_of 40 147 c_T_hasValidReading 1 (by decide +kernel) (fun k hk => match k, hk with
  | 0, _ => okc_T_hasValidReading_0
  | k + 1, h => absurd h (by omega))
set_option maxRecDepth 100000 in
theorem okc_T_insertSorted_0 : okMF 148 0 (List.take 40 (List.drop 0 c_T_insertSorted)) = true := by decide +kernel
set_option maxRecDepth 100000 in
theorem okm_T_insertSorted : okP 148 c_T_insertSorted := okM_of 40 148 c_T_insertSorted 1 (by decide +kernel) (fun k hk => match k, hk with
  | 0, _ => okc_T_insertSorted_0
  | k + 1, h => absurd h (by omega))
set_option maxRecDepth 100000 in
theorem okc_T_slotFact_0 : okMF 149 0 (List.take 40 (List.drop 0 c_T_slotFact)) = true := by decide +kernel
set_option maxRecDepth 100000 in
theorem okc_T_slotFact_1 : okMF 149 40 (List.take 40 (List.drop 40 c_T_slotFact)) = true := by decide +kernel
set_option maxRecDepth 100000 in
theorem okm_T_slotFact : okP 149 c_T_slotFact := okM_of 40 149 c_T_slotFact 2 (by decide +kernel) (fun k hk => match k, hk with
  | 0, _ => okc_T_slotFact_0
  | 1, _ => okc_T_slotFact_1
  | k + 2, h => absurd h (by omega))
set_option maxRecDepth 100000 in
theorem okc_T_outputsKept_0 : okMF 150 0 (List.take 40 (List.drop 0 c_T_outputsKept)) = true := by decide +kernel
set_option maxRecDepth 100000 in
theorem okm_T_outputsKept : okP 150 c_T_outputsKept := okM_of 40 150 c_T_outputsKept 1 (by decide +kernel) (fun k hk => match k, hk with
  | 0, _ => okc_T_outputsKept_0
  | k + 1, h => absurd h (by omega))
set_option maxRecDepth 100000 in
theorem okc_T_output_0 : okMF 151 0 (List.take 40 (List.drop 0 c_T_output)) = true := by decide +kernel
set_option maxRecDepth 100000 in
theorem okm_T_output : okP 151 c_T_output := okM_of 40 151 c_T_output 1 (by decide +kernel) (fun k hk => match k, hk with
  | 0, _ => okc_T_output_0
  | k + 1, h => absurd h (by omega))
set_option maxRecDepth 100000 in
theorem okc_T_outputFact_0 : okMF 152 0 (List.take 40 (List.drop 0 c_T_outputFact)) = true := by decide +kernel
set_option maxRecDepth 100000 in
theorem okm_T_outputFact : okP 152 c_T_outputFact := okM_of 40 152 c_T_outputFact 1 (by decide +kernel) (fun k hk => match k, hk with
  | 0, _ => okc_T_outputFact_0
  | k + 1, h => absurd h (by omega))
set_option maxRecDepth 100000 in
theorem okc_T_total_0 : okMF 153 0 (List.take 40 (List.drop 0 c_T_total)) = true := by decide +kernel
set_option maxRecDepth 100000 in
theorem okm_T_total : okP 153 c_T_total := okM_of 40 153 c_T_total 1 (by decide +kernel) (fun k hk => match k, hk with
  | 0, _ => okc_T_total_0
  | k + 1, h => absurd h (by omega))
set_option maxRecDepth 100000 in
theorem okc_T_lateOfAll_0 : okMF 154 0 (List.take 40 (List.drop 0 c_T_lateOfAll)) = true := by decide +kernel
set_option maxRecDepth 100000 in
theorem okm_T_lateOfAll : okP 154 c_T_lateOfAll := okM_of 40 154 c_T_lateOfAll 1 (by decide +kernel) (fun k hk => match k, hk with
  | 0, _ => okc_T_lateOfAll_0
  | k + 1, h => absurd h (by omega))
set_option maxRecDepth 100000 in
theorem okc_T_doublesOfAll_0 : okMF 155 0 (List.take 40 (List.drop 0 c_T_doublesOfAll)) = true := by decide +kernel
set_option maxRecDepth 100000 in
theorem okm_T_doublesOfAll : okP 155 c_T_doublesOfAll := okM_of 40 155 c_T_doublesOfAll 1 (by decide +kernel) (fun k hk => match k, hk with
  | 0, _ => okc_T_doublesOfAll_0
  | k + 1, h => absurd h (by omega))
set_option maxRecDepth 100000 in
theorem okc_O_init_0 : okMF 156 0 (List.take 40 (List.drop 0 c_O_init)) = true := by decide +kernel
set_option maxRecDepth 100000 in
theorem okm_O_init : okP 156 c_O_init := okM_of 40 156 c_O_init 1 (by decide +kernel) (fun k hk => match k, hk with
  | 0, _ => okc_O_init_0
  | k + 1, h => absurd h (by omega))
set_option maxRecDepth 100000 in
theorem okc_dum157_0 : okMF 157 0 (List.take 40 (List.drop 0 c_F_has)) = true := by decide +kernel
set_option maxRecDepth 100000 in
theorem okm_dum157 : okP 157 c_F_has := okM_of 40 157 c_F_has 1 (by decide +kernel) (fun k hk => match k, hk with
  | 0, _ => okc_dum157_0
  | k + 1, h => absurd h (by omega))
set_option maxRecDepth 100000 in
theorem okc_dum158_0 : okMF 158 0 (List.take 40 (List.drop 0 c_F_has)) = true := by decide +kernel
set_option maxRecDepth 100000 in
theorem okm_dum158 : okP 158 c_F_has := okM_of 40 158 c_F_has 1 (by decide +kernel) (fun k hk => match k, hk with
  | 0, _ => okc_dum158_0
  | k + 1, h => absurd h (by omega))
set_option maxRecDepth 100000 in
theorem okc_dum159_0 : okMF 159 0 (List.take 40 (List.drop 0 c_F_has)) = true := by decide +kernel
set_option maxRecDepth 100000 in
theorem okm_dum159 : okP 159 c_F_has := okM_of 40 159 c_F_has 1 (by decide +kernel) (fun k hk => match k, hk with
  | 0, _ => okc_dum159_0
  | k + 1, h => absurd h (by omega))
set_option maxRecDepth 100000 in
theorem okc_dum160_0 : okMF 160 0 (List.take 40 (List.drop 0 c_F_has)) = true := by decide +kernel
set_option maxRecDepth 100000 in
theorem okm_dum160 : okP 160 c_F_has := okM_of 40 160 c_F_has 1 (by decide +kernel) (fun k hk => match k, hk with
  | 0, _ => okc_dum160_0
  | k + 1, h => absurd h (by omega))
set_option maxRecDepth 100000 in
theorem okc_dum161_0 : okMF 161 0 (List.take 40 (List.drop 0 c_F_has)) = true := by decide +kernel
set_option maxRecDepth 100000 in
theorem okm_dum161 : okP 161 c_F_has := okM_of 40 161 c_F_has 1 (by decide +kernel) (fun k hk => match k, hk with
  | 0, _ => okc_dum161_0
  | k + 1, h => absurd h (by omega))
set_option maxRecDepth 100000 in
theorem okc_dum162_0 : okMF 162 0 (List.take 40 (List.drop 0 c_F_has)) = true := by decide +kernel
set_option maxRecDepth 100000 in
theorem okm_dum162 : okP 162 c_F_has := okM_of 40 162 c_F_has 1 (by decide +kernel) (fun k hk => match k, hk with
  | 0, _ => okc_dum162_0
  | k + 1, h => absurd h (by omega))
set_option maxRecDepth 100000 in
theorem okc_dum163_0 : okMF 163 0 (List.take 40 (List.drop 0 c_F_has)) = true := by decide +kernel
set_option maxRecDepth 100000 in
theorem okm_dum163 : okP 163 c_F_has := okM_of 40 163 c_F_has 1 (by decide +kernel) (fun k hk => match k, hk with
  | 0, _ => okc_dum163_0
  | k + 1, h => absurd h (by omega))
set_option maxRecDepth 100000 in
theorem okc_P_init_0 : okMF 164 0 (List.take 40 (List.drop 0 c_P_init)) = true := by decide +kernel
set_option maxRecDepth 100000 in
theorem okm_P_init : okP 164 c_P_init := okM_of 40 164 c_P_init 1 (by decide +kernel) (fun k hk => match k, hk with
  | 0, _ => okc_P_init_0
  | k + 1, h => absurd h (by omega))
set_option maxRecDepth 100000 in
theorem okc_P_hub_0 : okMF 165 0 (List.take 40 (List.drop 0 c_P_hub)) = true := by decide +kernel
set_option maxRecDepth 100000 in
theorem okm_P_hub : okP 165 c_P_hub := okM_of 40 165 c_P_hub 1 (by decide +kernel) (fun k hk => match k, hk with
  | 0, _ => okc_P_hub_0
  | k + 1, h => absurd h (by omega))
set_option maxRecDepth 100000 in
theorem okc_P_unit_0 : okMF 166 0 (List.take 40 (List.drop 0 c_P_unit)) = true := by decide +kernel
set_option maxRecDepth 100000 in
theorem okm_P_unit : okP 166 c_P_unit := okM_of 40 166 c_P_unit 1 (by decide +kernel) (fun k hk => match k, hk with
  | 0, _ => okc_P_unit_0
  | k + 1, h => absurd h (by omega))
set_option maxRecDepth 100000 in
theorem okc_P_takeOff_0 : okMF 167 0 (List.take 40 (List.drop 0 c_P_takeOff)) = true := by decide +kernel
set_option maxRecDepth 100000 in
theorem okm_P_takeOff : okP 167 c_P_takeOff := okM_of 40 167 c_P_takeOff 1 (by decide +kernel) (fun k hk => match k, hk with
  | 0, _ => okc_P_takeOff_0
  | k + 1, h => absurd h (by omega))
set_option maxRecDepth 100000 in
theorem okc_P_set_0 : okMF 168 0 (List.take 40 (List.drop 0 c_P_set)) = true := by decide +kernel
set_option maxRecDepth 100000 in
theorem okm_P_set : okP 168 c_P_set := okM_of 40 168 c_P_set 1 (by decide +kernel) (fun k hk => match k, hk with
  | 0, _ => okc_P_set_0
  | k + 1, h => absurd h (by omega))
set_option maxRecDepth 100000 in
theorem okc_P_hubOf_0 : okMF 169 0 (List.take 40 (List.drop 0 c_P_hubOf)) = true := by decide +kernel
set_option maxRecDepth 100000 in
theorem okm_P_hubOf : okP 169 c_P_hubOf := okM_of 40 169 c_P_hubOf 1 (by decide +kernel) (fun k hk => match k, hk with
  | 0, _ => okc_P_hubOf_0
  | k + 1, h => absurd h (by omega))
set_option maxRecDepth 100000 in
theorem okc_P_unitOf_0 : okMF 170 0 (List.take 40 (List.drop 0 c_P_unitOf)) = true := by decide +kernel
set_option maxRecDepth 100000 in
theorem okm_P_unitOf : okP 170 c_P_unitOf := okM_of 40 170 c_P_unitOf 1 (by decide +kernel) (fun k hk => match k, hk with
  | 0, _ => okc_P_unitOf_0
  | k + 1, h => absurd h (by omega))
set_option maxRecDepth 100000 in
theorem okc_P_unitAt_0 : okMF 171 0 (List.take 40 (List.drop 0 c_P_unitAt)) = true := by decide +kernel
set_option maxRecDepth 100000 in
theorem okm_P_unitAt : okP 171 c_P_unitAt := okM_of 40 171 c_P_unitAt 1 (by decide +kernel) (fun k hk => match k, hk with
  | 0, _ => okc_P_unitAt_0
  | k + 1, h => absurd h (by omega))
set_option maxRecDepth 100000 in
theorem okc_P_send_0 : okMF 172 0 (List.take 40 (List.drop 0 c_P_send)) = true := by decide +kernel
set_option maxRecDepth 100000 in
theorem okm_P_send : okP 172 c_P_send := okM_of 40 172 c_P_send 1 (by decide +kernel) (fun k hk => match k, hk with
  | 0, _ => okc_P_send_0
  | k + 1, h => absurd h (by omega))
set_option maxRecDepth 100000 in
theorem okc_P_pass_0 : okMF 173 0 (List.take 40 (List.drop 0 c_P_pass)) = true := by decide +kernel
set_option maxRecDepth 100000 in
theorem okm_P_pass : okP 173 c_P_pass := okM_of 40 173 c_P_pass 1 (by decide +kernel) (fun k hk => match k, hk with
  | 0, _ => okc_P_pass_0
  | k + 1, h => absurd h (by omega))
set_option maxRecDepth 100000 in
theorem okc_P_slotAt_0 : okMF 174 0 (List.take 40 (List.drop 0 c_P_slotAt)) = true := by decide +kernel
set_option maxRecDepth 100000 in
theorem okm_P_slotAt : okP 174 c_P_slotAt := okM_of 40 174 c_P_slotAt 1 (by decide +kernel) (fun k hk => match k, hk with
  | 0, _ => okc_P_slotAt_0
  | k + 1, h => absurd h (by omega))
set_option maxRecDepth 100000 in
theorem okc_P_outAt_0 : okMF 175 0 (List.take 40 (List.drop 0 c_P_outAt)) = true := by decide +kernel
set_option maxRecDepth 100000 in
theorem okm_P_outAt : okP 175 c_P_outAt := okM_of 40 175 c_P_outAt 1 (by decide +kernel) (fun k hk => match k, hk with
  | 0, _ => okc_P_outAt_0
  | k + 1, h => absurd h (by omega))
set_option maxRecDepth 100000 in
theorem okc_P_readingAt_0 : okMF 176 0 (List.take 40 (List.drop 0 c_P_readingAt)) = true := by decide +kernel
set_option maxRecDepth 100000 in
theorem okm_P_readingAt : okP 176 c_P_readingAt := okM_of 40 176 c_P_readingAt 1 (by decide +kernel) (fun k hk => match k, hk with
  | 0, _ => okc_P_readingAt_0
  | k + 1, h => absurd h (by omega))
set_option maxRecDepth 100000 in
theorem okc_dum177_0 : okMF 177 0 (List.take 40 (List.drop 0 c_F_has)) = true := by decide +kernel
set_option maxRecDepth 100000 in
theorem okm_dum177 : okP 177 c_F_has := okM_of 40 177 c_F_has 1 (by decide +kernel) (fun k hk => match k, hk with
  | 0, _ => okc_dum177_0
  | k + 1, h => absurd h (by omega))
set_option maxRecDepth 100000 in
theorem okc_dum178_0 : okMF 178 0 (List.take 40 (List.drop 0 c_F_has)) = true := by decide +kernel
set_option maxRecDepth 100000 in
theorem okm_dum178 : okP 178 c_F_has := okM_of 40 178 c_F_has 1 (by decide +kernel) (fun k hk => match k, hk with
  | 0, _ => okc_dum178_0
  | k + 1, h => absurd h (by omega))
set_option maxRecDepth 100000 in
theorem okc_dum179_0 : okMF 179 0 (List.take 40 (List.drop 0 c_F_has)) = true := by decide +kernel
set_option maxRecDepth 100000 in
theorem okm_dum179 : okP 179 c_F_has := okM_of 40 179 c_F_has 1 (by decide +kernel) (fun k hk => match k, hk with
  | 0, _ => okc_dum179_0
  | k + 1, h => absurd h (by omega))
set_option maxRecDepth 100000 in
theorem okc_P_count_0 : okMF 180 0 (List.take 40 (List.drop 0 c_P_count)) = true := by decide +kernel
set_option maxRecDepth 100000 in
theorem okm_P_count : okP 180 c_P_count := okM_of 40 180 c_P_count 1 (by decide +kernel) (fun k hk => match k, hk with
  | 0, _ => okc_P_count_0
  | k + 1, h => absurd h (by omega))
set_option maxRecDepth 100000 in
theorem okc_P_undo_0 : okMF 181 0 (List.take 40 (List.drop 0 c_P_undo)) = true := by decide +kernel
set_option maxRecDepth 100000 in
theorem okm_P_undo : okP 181 c_P_undo := okM_of 40 181 c_P_undo 1 (by decide +kernel) (fun k hk => match k, hk with
  | 0, _ => okc_P_undo_0
  | k + 1, h => absurd h (by omega))
set_option maxRecDepth 100000 in
theorem okc_dum182_0 : okMF 182 0 (List.take 40 (List.drop 0 c_F_has)) = true := by decide +kernel
set_option maxRecDepth 100000 in
theorem okm_dum182 : okP 182 c_F_has := okM_of 40 182 c_F_has 1 (by decide +kernel) (fun k hk => match k, hk with
  | 0, _ => okc_dum182_0
  | k + 1, h => absurd h (by omega))
set_option maxRecDepth 100000 in
theorem okc_dum183_0 : okMF 183 0 (List.take 40 (List.drop 0 c_F_has)) = true := by decide +kernel
set_option maxRecDepth 100000 in
theorem okm_dum183 : okP 183 c_F_has := okM_of 40 183 c_F_has 1 (by decide +kernel) (fun k hk => match k, hk with
  | 0, _ => okc_dum183_0
  | k + 1, h => absurd h (by omega))
set_option maxRecDepth 100000 in
theorem okc_dum184_0 : okMF 184 0 (List.take 40 (List.drop 0 c_F_has)) = true := by decide +kernel
set_option maxRecDepth 100000 in
theorem okm_dum184 : okP 184 c_F_has := okM_of 40 184 c_F_has 1 (by decide +kernel) (fun k hk => match k, hk with
  | 0, _ => okc_dum184_0
  | k + 1, h => absurd h (by omega))
set_option maxRecDepth 100000 in
theorem okc_dum185_0 : okMF 185 0 (List.take 40 (List.drop 0 c_F_has)) = true := by decide +kernel
set_option maxRecDepth 100000 in
theorem okm_dum185 : okP 185 c_F_has := okM_of 40 185 c_F_has 1 (by decide +kernel) (fun k hk => match k, hk with
  | 0, _ => okc_dum185_0
  | k + 1, h => absurd h (by omega))
set_option maxRecDepth 100000 in
theorem okc_P_remember_0 : okMF 186 0 (List.take 40 (List.drop 0 c_P_remember)) = true := by decide +kernel
set_option maxRecDepth 100000 in
theorem okc_P_remember_1 : okMF 186 40 (List.take 40 (List.drop 40 c_P_remember)) = true := by decide +kernel
set_option maxRecDepth 100000 in
theorem okm_P_remember : okP 186 c_P_remember := okM_of 40 186 c_P_remember 2 (by decide +kernel) (fun k hk => match k, hk with
  | 0, _ => okc_P_remember_0
  | 1, _ => okc_P_remember_1
  | k + 2, h => absurd h (by omega))
set_option maxRecDepth 100000 in
theorem okc_P_isWithin_0 : okMF 187 0 (List.take 40 (List.drop 0 c_P_isWithin)) = true := by decide +kernel
set_option maxRecDepth 100000 in
theorem okm_P_isWithin : okP 187 c_P_isWithin := okM_of 40 187 c_P_isWithin 1 (by decide +kernel) (fun k hk => match k, hk with
  | 0, _ => okc_P_isWithin_0
  | k + 1, h => absurd h (by omega))
set_option maxRecDepth 100000 in
theorem okc_P_isMultiple_0 : okMF 188 0 (List.take 40 (List.drop 0 c_P_isMultiple)) = true := by decide +kernel
set_option maxRecDepth 100000 in
theorem okm_P_isMultiple : okP 188 c_P_isMultiple := okM_of 40 188 c_P_isMultiple 1 (by decide +kernel) (fun k hk => match k, hk with
  | 0, _ => okc_P_isMultiple_0
  | k + 1, h => absurd h (by omega))
set_option maxRecDepth 100000 in
theorem okc_P_quotient_0 : okMF 189 0 (List.take 40 (List.drop 0 c_P_quotient)) = true := by decide +kernel
set_option maxRecDepth 100000 in
theorem okm_P_quotient : okP 189 c_P_quotient := okM_of 40 189 c_P_quotient 1 (by decide +kernel) (fun k hk => match k, hk with
  | 0, _ => okc_P_quotient_0
  | k + 1, h => absurd h (by omega))
set_option maxRecDepth 100000 in
theorem okc_P_goTogether_0 : okMF 190 0 (List.take 40 (List.drop 0 c_P_goTogether)) = true := by decide +kernel
set_option maxRecDepth 100000 in
theorem okm_P_goTogether : okP 190 c_P_goTogether := okM_of 40 190 c_P_goTogether 1 (by decide +kernel) (fun k hk => match k, hk with
  | 0, _ => okc_P_goTogether_0
  | k + 1, h => absurd h (by omega))
set_option maxRecDepth 100000 in
theorem okc_JA_fill_0 : okMF 191 0 (List.take 40 (List.drop 0 c_JA_fill)) = true := by decide +kernel
set_option maxRecDepth 100000 in
theorem okm_JA_fill : okP 191 c_JA_fill := okM_of 40 191 c_JA_fill 1 (by decide +kernel) (fun k hk => match k, hk with
  | 0, _ => okc_JA_fill_0
  | k + 1, h => absurd h (by omega))
set_option maxRecDepth 100000 in
theorem okc_JI_bitCount_0 : okMF 192 0 (List.take 40 (List.drop 0 c_JI_bitCount)) = true := by decide +kernel
set_option maxRecDepth 100000 in
theorem okc_JI_bitCount_1 : okMF 192 40 (List.take 40 (List.drop 40 c_JI_bitCount)) = true := by decide +kernel
set_option maxRecDepth 100000 in
theorem okm_JI_bitCount : okP 192 c_JI_bitCount := okM_of 40 192 c_JI_bitCount 2 (by decide +kernel) (fun k hk => match k, hk with
  | 0, _ => okc_JI_bitCount_0
  | 1, _ => okc_JI_bitCount_1
  | k + 2, h => absurd h (by omega))
