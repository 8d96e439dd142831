set_option maxRecDepth 100000 in
theorem okc_m_ones_0 : okMF 62 0 (List.take 40 (List.drop 0 c_m_ones)) = true := by decide +kernel
set_option maxRecDepth 100000 in
theorem okm_m_ones : okP 62 c_m_ones := okM_of 40 62 c_m_ones 1 (by decide +kernel) (fun k hk => match k, hk with
  | 0, _ => okc_m_ones_0
  | k + 1, h => absurd h (by omega))
set_option maxRecDepth 100000 in
theorem okc_m_outAt_0 : okMF 63 0 (List.take 40 (List.drop 0 c_m_outAt)) = true := by decide +kernel
set_option maxRecDepth 100000 in
theorem okc_m_outAt_1 : okMF 63 40 (List.take 40 (List.drop 40 c_m_outAt)) = true := by decide +kernel
set_option maxRecDepth 100000 in
theorem okm_m_outAt : okP 63 c_m_outAt := okM_of 40 63 c_m_outAt 2 (by decide +kernel) (fun k hk => match k, hk with
  | 0, _ => okc_m_outAt_0
  | 1, _ => okc_m_outAt_1
  | k + 2, h => absurd h (by omega))
set_option maxRecDepth 100000 in
theorem okc_m_readingAt_0 : okMF 64 0 (List.take 40 (List.drop 0 c_m_readingAt)) = true := by decide +kernel
set_option maxRecDepth 100000 in
theorem okc_m_readingAt_1 : okMF 64 40 (List.take 40 (List.drop 40 c_m_readingAt)) = true := by decide +kernel
set_option maxRecDepth 100000 in
theorem okm_m_readingAt : okP 64 c_m_readingAt := okM_of 40 64 c_m_readingAt 2 (by decide +kernel) (fun k hk => match k, hk with
  | 0, _ => okc_m_readingAt_0
  | 1, _ => okc_m_readingAt_1
  | k + 2, h => absurd h (by omega))
set_option maxRecDepth 100000 in
theorem okc_m_heldBy_0 : okMF 65 0 (List.take 40 (List.drop 0 c_m_heldBy)) = true := by decide +kernel
set_option maxRecDepth 100000 in
theorem okc_m_heldBy_1 : okMF 65 40 (List.take 40 (List.drop 40 c_m_heldBy)) = true := by decide +kernel
set_option maxRecDepth 100000 in
theorem okm_m_heldBy : okP 65 c_m_heldBy := okM_of 40 65 c_m_heldBy 2 (by decide +kernel) (fun k hk => match k, hk with
  | 0, _ => okc_m_heldBy_0
  | 1, _ => okc_m_heldBy_1
  | k + 2, h => absurd h (by omega))
set_option maxRecDepth 100000 in
theorem okc_m_nextOut_0 : okMF 66 0 (List.take 40 (List.drop 0 c_m_nextOut)) = true := by decide +kernel
set_option maxRecDepth 100000 in
theorem okm_m_nextOut : okP 66 c_m_nextOut := okM_of 40 66 c_m_nextOut 1 (by decide +kernel) (fun k hk => match k, hk with
  | 0, _ => okc_m_nextOut_0
  | k + 1, h => absurd h (by omega))
set_option maxRecDepth 100000 in
theorem okc_m_foresee_0 : okMF 67 0 (List.take 40 (List.drop 0 c_m_foresee)) = true := by decide +kernel
set_option maxRecDepth 100000 in
theorem okc_m_foresee_1 : okMF 67 40 (List.take 40 (List.drop 40 c_m_foresee)) = true := by decide +kernel
set_option maxRecDepth 100000 in
theorem okm_m_foresee : okP 67 c_m_foresee := okM_of 40 67 c_m_foresee 2 (by decide +kernel) (fun k hk => match k, hk with
  | 0, _ => okc_m_foresee_0
  | 1, _ => okc_m_foresee_1
  | k + 2, h => absurd h (by omega))
set_option maxRecDepth 100000 in
theorem okc_m_sumOf_0 : okMF 68 0 (List.take 40 (List.drop 0 c_m_sumOf)) = true := by decide +kernel
set_option maxRecDepth 100000 in
theorem okm_m_sumOf : okP 68 c_m_sumOf := okM_of 40 68 c_m_sumOf 1 (by decide +kernel) (fun k hk => match k, hk with
  | 0, _ => okc_m_sumOf_0
  | k + 1, h => absurd h (by omega))
set_option maxRecDepth 100000 in
theorem okc_m_count_0 : okMF 69 0 (List.take 40 (List.drop 0 c_m_count)) = true := by decide +kernel
set_option maxRecDepth 100000 in
theorem okc_m_count_1 : okMF 69 40 (List.take 40 (List.drop 40 c_m_count)) = true := by decide +kernel
set_option maxRecDepth 100000 in
theorem okm_m_count : okP 69 c_m_count := okM_of 40 69 c_m_count 2 (by decide +kernel) (fun k hk => match k, hk with
  | 0, _ => okc_m_count_0
  | 1, _ => okc_m_count_1
  | k + 2, h => absurd h (by omega))
set_option maxRecDepth 100000 in
theorem okc_m_undo_0 : okMF 70 0 (List.take 40 (List.drop 0 c_m_undo)) = true := by decide +kernel
set_option maxRecDepth 100000 in
theorem okm_m_undo : okP 70 c_m_undo := okM_of 40 70 c_m_undo 1 (by decide +kernel) (fun k hk => match k, hk with
  | 0, _ => okc_m_undo_0
  | k + 1, h => absurd h (by omega))
set_option maxRecDepth 100000 in
theorem okc_m_type_0 : okMF 71 0 (List.take 40 (List.drop 0 c_m_type)) = true := by decide +kernel
set_option maxRecDepth 100000 in
theorem okm_m_type : okP 71 c_m_type := okM_of 40 71 c_m_type 1 (by decide +kernel) (fun k hk => match k, hk with
  | 0, _ => okc_m_type_0
  | k + 1, h => absurd h (by omega))
set_option maxRecDepth 100000 in
theorem okc_m_clearText_0 : okMF 72 0 (List.take 40 (List.drop 0 c_m_clearText)) = true := by decide +kernel
set_option maxRecDepth 100000 in
theorem okm_m_clearText : okP 72 c_m_clearText := okM_of 40 72 c_m_clearText 1 (by decide +kernel) (fun k hk => match k, hk with
  | 0, _ => okc_m_clearText_0
  | k + 1, h => absurd h (by omega))
set_option maxRecDepth 100000 in
theorem okc_m_has_0 : okMF 73 0 (List.take 40 (List.drop 0 c_m_has)) = true := by decide +kernel
set_option maxRecDepth 100000 in
theorem okm_m_has : okP 73 c_m_has := okM_of 40 73 c_m_has 1 (by decide +kernel) (fun k hk => match k, hk with
  | 0, _ => okc_m_has_0
  | k + 1, h => absurd h (by omega))
set_option maxRecDepth 100000 in
theorem okc_m_takes_0 : okMF 74 0 (List.take 40 (List.drop 0 c_m_takes)) = true := by decide +kernel
set_option maxRecDepth 100000 in
theorem okc_m_takes_1 : okMF 74 40 (List.take 40 (List.drop 40 c_m_takes)) = true := by decide +kernel
set_option maxRecDepth 100000 in
theorem okm_m_takes : okP 74 c_m_takes := okM_of 40 74 c_m_takes 2 (by decide +kernel) (fun k hk => match k, hk with
  | 0, _ => okc_m_takes_0
  | 1, _ => okc_m_takes_1
  | k + 2, h => absurd h (by omega))
set_option maxRecDepth 100000 in
theorem okc_m_readsForm_0 : okMF 75 0 (List.take 40 (List.drop 0 c_m_readsForm)) = true := by decide +kernel
set_option maxRecDepth 100000 in
theorem okc_m_readsForm_1 : okMF 75 40 (List.take 40 (List.drop 40 c_m_readsForm)) = true := by decide +kernel
set_option maxRecDepth 100000 in
theorem okc_m_readsForm_2 : okMF 75 80 (List.take 40 (List.drop 80 c_m_readsForm)) = true := by decide +kernel
set_option maxRecDepth 100000 in
theorem okm_m_readsForm : okP 75 c_m_readsForm := okM_of 40 75 c_m_readsForm 3 (by decide +kernel) (fun k hk => match k, hk with
  | 0, _ => okc_m_readsForm_0
  | 1, _ => okc_m_readsForm_1
  | 2, _ => okc_m_readsForm_2
  | k + 3, h => absurd h (by omega))
set_option maxRecDepth 100000 in
theorem okc_m_does_0 : okMF 76 0 (List.take 40 (List.drop 0 c_m_does)) = true := by decide +kernel
set_option maxRecDepth 100000 in
theorem okm_m_does : okP 76 c_m_does := okM_of 40 76 c_m_does 1 (by decide +kernel) (fun k hk => match k, hk with
  | 0, _ => okc_m_does_0
  | k + 1, h => absurd h (by omega))
set_option maxRecDepth 100000 in
theorem okc_m_doesNext_0 : okMF 77 0 (List.take 40 (List.drop 0 c_m_doesNext)) = true := by decide +kernel
set_option maxRecDepth 100000 in
theorem okm_m_doesNext : okP 77 c_m_doesNext := okM_of 40 77 c_m_doesNext 1 (by decide +kernel) (fun k hk => match k, hk with
  | 0, _ => okc_m_doesNext_0
  | k + 1, h => absurd h (by omega))
set_option maxRecDepth 100000 in
theorem okc_m_faulty_0 : okMF 78 0 (List.take 40 (List.drop 0 c_m_faulty)) = true := by decide +kernel
set_option maxRecDepth 100000 in
theorem okm_m_faulty : okP 78 c_m_faulty := okM_of 40 78 c_m_faulty 1 (by decide +kernel) (fun k hk => match k, hk with
  | 0, _ => okc_m_faulty_0
  | k + 1, h => absurd h (by omega))
set_option maxRecDepth 100000 in
theorem okc_m_fault_0 : okMF 79 0 (List.take 40 (List.drop 0 c_m_fault)) = true := by decide +kernel
set_option maxRecDepth 100000 in
theorem okm_m_fault : okP 79 c_m_fault := okM_of 40 79 c_m_fault 1 (by decide +kernel) (fun k hk => match k, hk with
  | 0, _ => okc_m_fault_0
  | k + 1, h => absurd h (by omega))
set_option maxRecDepth 100000 in
theorem okc_m_play_0 : okMF 80 0 (List.take 40 (List.drop 0 c_m_play)) = true := by decide +kernel
set_option maxRecDepth 100000 in
theorem okm_m_play : okP 80 c_m_play := okM_of 40 80 c_m_play 1 (by decide +kernel) (fun k hk => match k, hk with
  | 0, _ => okc_m_play_0
  | k + 1, h => absurd h (by omega))
set_option maxRecDepth 100000 in
theorem okc_F_init_0 : okMF 81 0 (List.take 40 (List.drop 0 c_F_init)) = true := by decide +kernel
set_option maxRecDepth 100000 in
theorem okm_F_init : okP 81 c_F_init := okM_of 40 81 c_F_init 1 (by decide +kernel) (fun k hk => match k, hk with
  | 0, _ => okc_F_init_0
  | k + 1, h => absurd h (by omega))
set_option maxRecDepth 100000 in
theorem okc_F_copyFrom_0 : okMF 82 0 (List.take 40 (List.drop 0 c_F_copyFrom)) = true := by decide +kernel
set_option maxRecDepth 100000 in
theorem okc_F_copyFrom_1 : okMF 82 40 (List.take 40 (List.drop 40 c_F_copyFrom)) = true := by decide +kernel
set_option maxRecDepth 100000 in
theorem okm_F_copyFrom : okP 82 c_F_copyFrom := okM_of 40 82 c_F_copyFrom 2 (by decide +kernel) (fun k hk => match k, hk with
  | 0, _ => okc_F_copyFrom_0
  | 1, _ => okc_F_copyFrom_1
  | k + 2, h => absurd h (by omega))
set_option maxRecDepth 100000 in
theorem okc_F_begin_0 : okMF 83 0 (List.take 40 (List.drop 0 c_F_begin)) = true := by decide +kernel
set_option maxRecDepth 100000 in
theorem okm_F_begin : okP 83 c_F_begin := okM_of 40 83 c_F_begin 1 (by decide +kernel) (fun k hk => match k, hk with
  | 0, _ => okc_F_begin_0
  | k + 1, h => absurd h (by omega))
set_option maxRecDepth 100000 in
theorem okc_F_has_0 : okMF 84 0 (List.take 40 (List.drop 0 c_F_has)) = true := by decide +kernel
set_option maxRecDepth 100000 in
theorem okm_F_has : okP 84 c_F_has := okM_of 40 84 c_F_has 1 (by decide +kernel) (fun k hk => match k, hk with
  | 0, _ => okc_F_has_0
  | k + 1, h => absurd h (by omega))
set_option maxRecDepth 100000 in
theorem okc_F_put_0 : okMF 85 0 (List.take 40 (List.drop 0 c_F_put)) = true := by decide +kernel
set_option maxRecDepth 100000 in
theorem okm_F_put : okP 85 c_F_put := okM_of 40 85 c_F_put 1 (by decide +kernel) (fun k hk => match k, hk with
  | 0, _ => okc_F_put_0
  | k + 1, h => absurd h (by omega))
set_option maxRecDepth 100000 in
theorem okc_F_readingFact_0 : okMF 86 0 (List.take 40 (List.drop 0 c_F_readingFact)) = true := by decide +kernel
set_option maxRecDepth 100000 in
theorem okm_F_readingFact : okP 86 c_F_readingFact := okM_of 40 86 c_F_readingFact 1 (by decide +kernel) (fun k hk => match k, hk with
  | 0, _ => okc_F_readingFact_0
  | k + 1, h => absurd h (by omega))
set_option maxRecDepth 100000 in
theorem okc_F_flagsTogether_0 : okMF 87 0 (List.take 40 (List.drop 0 c_F_flagsTogether)) = true := by decide +kernel
set_option maxRecDepth 100000 in
theorem okm_F_flagsTogether : okP 87 c_F_flagsTogether := okM_of 40 87 c_F_flagsTogether 1 (by decide +kernel) (fun k hk => match k, hk with
  | 0, _ => okc_F_flagsTogether_0
  | k + 1, h => absurd h (by omega))
set_option maxRecDepth 100000 in
theorem okc_R_init_0 : okMF 88 0 (List.take 40 (List.drop 0 c_R_init)) = true := by decide +kernel
set_option maxRecDepth 100000 in
theorem okm_R_init : okP 88 c_R_init := okM_of 40 88 c_R_init 1 (by decide +kernel) (fun k hk => match k, hk with
  | 0, _ => okc_R_init_0
  | k + 1, h => absurd h (by omega))
set_option maxRecDepth 100000 in
theorem okc_R_copyFrom_0 : okMF 89 0 (List.take 40 (List.drop 0 c_R_copyFrom)) = true := by decide +kernel
set_option maxRecDepth 100000 in
theorem okm_R_copyFrom : okP 89 c_R_copyFrom := okM_of 40 89 c_R_copyFrom 1 (by decide +kernel) (fun k hk => match k, hk with
  | 0, _ => okc_R_copyFrom_0
  | k + 1, h => absurd h (by omega))
set_option maxRecDepth 100000 in
theorem okc_R_insert_0 : okMF 90 0 (List.take 40 (List.drop 0 c_R_insert)) = true := by decide +kernel
set_option maxRecDepth 100000 in
theorem okc_R_insert_1 : okMF 90 40 (List.take 40 (List.drop 40 c_R_insert)) = true := by decide +kernel
set_option maxRecDepth 100000 in
theorem okm_R_insert : okP 90 c_R_insert := okM_of 40 90 c_R_insert 2 (by decide +kernel) (fun k hk => match k, hk with
  | 0, _ => okc_R_insert_0
  | 1, _ => okc_R_insert_1
  | k + 2, h => absurd h (by omega))
set_option maxRecDepth 100000 in
theorem okc_R_grow_0 : okMF 91 0 (List.take 40 (List.drop 0 c_R_grow)) = true := by decide +kernel
set_option maxRecDepth 100000 in
theorem okm_R_grow : okP 91 c_R_grow := okM_of 40 91 c_R_grow 1 (by decide +kernel) (fun k hk => match k, hk with
  | 0, _ => okc_R_grow_0
  | k + 1, h => absurd h (by omega))
set_option maxRecDepth 100000 in
theorem okc_R_swap_0 : okMF 92 0 (List.take 40 (List.drop 0 c_R_swap)) = true := by decide +kernel
set_option maxRecDepth 100000 in
theorem okm_R_swap : okP 92 c_R_swap := okM_of 40 92 c_R_swap 1 (by decide +kernel) (fun k hk => match k, hk with
  | 0, _ => okc_R_swap_0
  | k + 1, h => absurd h (by omega))
set_option maxRecDepth 100000 in
theorem okc_R_removeFirst_0 : okMF 93 0 (List.take 40 (List.drop 0 c_R_removeFirst)) = true := by decide +kernel
set_option maxRecDepth 100000 in
theorem okm_R_removeFirst : okP 93 c_R_removeFirst := okM_of 40 93 c_R_removeFirst 1 (by decide +kernel) (fun k hk => match k, hk with
  | 0, _ => okc_R_removeFirst_0
  | k + 1, h => absurd h (by omega))
set_option maxRecDepth 100000 in
theorem okc_R_framesFrom_0 : okMF 94 0 (List.take 40 (List.drop 0 c_R_framesFrom)) = true := by decide +kernel
set_option maxRecDepth 100000 in
theorem okm_R_framesFrom : okP 94 c_R_framesFrom := okM_of 40 94 c_R_framesFrom 1 (by decide +kernel) (fun k hk => match k, hk with
  | 0, _ => okc_R_framesFrom_0
  | k + 1, h => absurd h (by omega))
set_option maxRecDepth 100000 in
theorem okc_R_slotEnd_0 : okMF 95 0 (List.take 40 (List.drop 0 c_R_slotEnd)) = true := by decide +kernel
set_option maxRecDepth 100000 in
theorem okm_R_slotEnd : okP 95 c_R_slotEnd := okM_of 40 95 c_R_slotEnd 1 (by decide +kernel) (fun k hk => match k, hk with
  | 0, _ => okc_R_slotEnd_0
  | k + 1, h => absurd h (by omega))
set_option maxRecDepth 100000 in
theorem okc_R_slotStart_0 : okMF 96 0 (List.take 40 (List.drop 0 c_R_slotStart)) = true := by decide +kernel
set_option maxRecDepth 100000 in
theorem okm_R_slotStart : okP 96 c_R_slotStart := okM_of 40 96 c_R_slotStart 1 (by decide +kernel) (fun k hk => match k, hk with
  | 0, _ => okc_R_slotStart_0
  | k + 1, h => absurd h (by omega))
set_option maxRecDepth 100000 in
theorem okc_R_slots_0 : okMF 97 0 (List.take 40 (List.drop 0 c_R_slots)) = true := by decide +kernel
set_option maxRecDepth 100000 in
theorem okm_R_slots : okP 97 c_R_slots := okM_of 40 97 c_R_slots 1 (by decide +kernel) (fun k hk => match k, hk with
  | 0, _ => okc_R_slots_0
  | k + 1, h => absurd h (by omega))
set_option maxRecDepth 100000 in
theorem okc_R_placeFor_0 : okMF 98 0 (List.take 40 (List.drop 0 c_R_placeFor)) = true := by decide +kernel
set_option maxRecDepth 100000 in
theorem okm_R_placeFor : okP 98 c_R_placeFor := okM_of 40 98 c_R_placeFor 1 (by decide +kernel) (fun k hk => match k, hk with
  | 0, _ => okc_R_placeFor_0
  | k + 1, h => absurd h (by omega))
set_option maxRecDepth 100000 in
theorem okc_R_hasIn_0 : okMF 99 0 (List.take 40 (List.drop 0 c_R_hasIn)) = true := by decide +kernel
set_option maxRecDepth 100000 in
theorem okm_R_hasIn : okP 99 c_R_hasIn := okM_of 40 99 c_R_hasIn 1 (by decide +kernel) (fun k hk => match k, hk with
  | 0, _ => okc_R_hasIn_0
  | k + 1, h => absurd h (by omega))
set_option maxRecDepth 100000 in
theorem okc_U_init_0 : okMF 100 0 (List.take 40 (List.drop 0 c_U_init)) = true := by decide +kernel
set_option maxRecDepth 100000 in
theorem okm_U_init : okP 100 c_U_init := okM_of 40 100 c_U_init 1 (by decide +kernel) (fun k hk => match k, hk with
  | 0, _ => okc_U_init_0
  | k + 1, h => absurd h (by omega))
set_option maxRecDepth 100000 in
theorem okc_U_begin_0 : okMF 101 0 (List.take 40 (List.drop 0 c_U_begin)) = true := by decide +kernel
set_option maxRecDepth 100000 in
theorem okm_U_begin : okP 101 c_U_begin := okM_of 40 101 c_U_begin 1 (by decide +kernel) (fun k hk => match k, hk with
  | 0, _ => okc_U_begin_0
  | k + 1, h => absurd h (by omega))
set_option maxRecDepth 100000 in
theorem okc_U_copyFrom_0 : okMF 102 0 (List.take 40 (List.drop 0 c_U_copyFrom)) = true := by decide +kernel
set_option maxRecDepth 100000 in
theorem okm_U_copyFrom : okP 102 c_U_copyFrom := okM_of 40 102 c_U_copyFrom 1 (by decide +kernel) (fun k hk => match k, hk with
  | 0, _ => okc_U_copyFrom_0
  | k + 1, h => absurd h (by omega))
set_option maxRecDepth 100000 in
theorem okc_H_init_0 : okMF 103 0 (List.take 40 (List.drop 0 c_H_init)) = true := by decide +kernel
set_option maxRecDepth 100000 in
theorem okm_H_init : okP 103 c_H_init := okM_of 40 103 c_H_init 1 (by decide +kernel) (fun k hk => match k, hk with
  | 0, _ => okc_H_init_0
  | k + 1, h => absurd h (by omega))
set_option maxRecDepth 100000 in
theorem okc_H_begin_0 : okMF 104 0 (List.take 40 (List.drop 0 c_H_begin)) = true := by decide +kernel
set_option maxRecDepth 100000 in
theorem okm_H_begin : okP 104 c_H_begin := okM_of 40 104 c_H_begin 1 (by decide +kernel) (fun k hk => match k, hk with
  | 0, _ => okc_H_begin_0
  | k + 1, h => absurd h (by omega))
set_option maxRecDepth 100000 in
theorem okc_H_copyFrom_0 : okMF 105 0 (List.take 40 (List.drop 0 c_H_copyFrom)) = true := by decide +kernel
set_option maxRecDepth 100000 in
theorem okc_H_copyFrom_1 : okMF 105 40 (List.take 40 (List.drop 40 c_H_copyFrom)) = true := by decide +kernel
set_option maxRecDepth 100000 in
theorem okm_H_copyFrom : okP 105 c_H_copyFrom := okM_of 40 105 c_H_copyFrom 2 (by decide +kernel) (fun k hk => match k, hk with
  | 0, _ => okc_H_copyFrom_0
  | 1, _ => okc_H_copyFrom_1
  | k + 2, h => absurd h (by omega))
set_option maxRecDepth 100000 in
theorem okc_H_isUntouched_0 : okMF 106 0 (List.take 40 (List.drop 0 c_H_isUntouched)) = true := by decide +kernel
set_option maxRecDepth 100000 in
theorem okm_H_isUntouched : okP 106 c_H_isUntouched := okM_of 40 106 c_H_isUntouched 1 (by decide +kernel) (fun k hk => match k, hk with
  | 0, _ => okc_H_isUntouched_0
  | k + 1, h => absurd h (by omega))
set_option maxRecDepth 100000 in
theorem okc_H_slotFor_0 : okMF 107 0 (List.take 40 (List.drop 0 c_H_slotFor)) = true := by decide +kernel
set_option maxRecDepth 100000 in
theorem okm_H_slotFor : okP 107 c_H_slotFor := okM_of 40 107 c_H_slotFor 1 (by decide +kernel) (fun k hk => match k, hk with
  | 0, _ => okc_H_slotFor_0
  | k + 1, h => absurd h (by omega))
set_option maxRecDepth 100000 in
theorem okc_H_waitLeft_0 : okMF 108 0 (List.take 40 (List.drop 0 c_H_waitLeft)) = true := by decide +kernel
set_option maxRecDepth 100000 in
theorem okm_H_waitLeft : okP 108 c_H_waitLeft := okM_of 40 108 c_H_waitLeft 1 (by decide +kernel) (fun k hk => match k, hk with
  | 0, _ => okc_H_waitLeft_0
  | k + 1, h => absurd h (by omega))
set_option maxRecDepth 100000 in
theorem okc_T_init_0 : okMF 109 0 (List.take 40 (List.drop 0 c_T_init)) = true := by decide +kernel
set_option maxRecDepth 100000 in
theorem okc_T_init_1 : okMF 109 40 (List.take 40 (List.drop 40 c_T_init)) = true := by decide +kernel
set_option maxRecDepth 100000 in
theorem okc_T_init_2 : okMF 109 80 (List.take 40 (List.drop 80 c_T_init)) = true := by decide +kernel
set_option maxRecDepth 100000 in
theorem okm_T_init : okP 109 c_T_init := okM_of 40 109 c_T_init 3 (by decide +kernel) (fun k hk => match k, hk with
  | 0, _ => okc_T_init_0
  | 1, _ => okc_T_init_1
  | 2, _ => okc_T_init_2
  | k + 3, h => absurd h (by omega))
