theorem okb_0 : ∀ r, r < 16 → okP (0 + r) (cod (0 + r)) := fun r hr => match r, hr with
  | 0, _ => okm_L_law
  | 1, _ => okm_L_cell
  | 2, _ => okm_L_sends
  | 3, _ => okm_L_hubs
  | 4, _ => okm_L_outs
  | 5, _ => okm_L_holds
  | 6, _ => okm_dum6
  | 7, _ => okm_dum7
  | 8, _ => okm_dum8
  | 9, _ => okm_dum9
  | 10, _ => okm_dum10
  | 11, _ => okm_dum11
  | 12, _ => okm_dum12
  | 13, _ => okm_dum13
  | 14, _ => okm_dum14
  | 15, _ => okm_dum15
  | r + 16, h => absurd h (by omega)
set_option maxRecDepth 100000 in
theorem okh_0 : ∀ r, r < 16 → 0 + r ≠ 0 → okHd (0 + r) = true := by decide +kernel
theorem okb_1 : ∀ r, r < 16 → okP (16 + r) (cod (16 + r)) := fun r hr => match r, hr with
  | 0, _ => okm_dum16
  | 1, _ => okm_dum17
  | 2, _ => okm_dum18
  | 3, _ => okm_dum19
  | 4, _ => okm_dum20
  | 5, _ => okm_dum21
  | 6, _ => okm_dum22
  | 7, _ => okm_dum23
  | 8, _ => okm_dum24
  | 9, _ => okm_dum25
  | 10, _ => okm_dum26
  | 11, _ => okm_dum27
  | 12, _ => okm_dum28
  | 13, _ => okm_dum29
  | 14, _ => okm_dum30
  | 15, _ => okm_dum31
  | r + 16, h => absurd h (by omega)
set_option maxRecDepth 100000 in
theorem okh_1 : ∀ r, r < 16 → 16 + r ≠ 0 → okHd (16 + r) = true := by decide +kernel
theorem okb_2 : ∀ r, r < 16 → okP (32 + r) (cod (32 + r)) := fun r hr => match r, hr with
  | 0, _ => okm_dum32
  | 1, _ => okm_dum33
  | 2, _ => okm_dum34
  | 3, _ => okm_dum35
  | 4, _ => okm_dum36
  | 5, _ => okm_dum37
  | 6, _ => okm_dum38
  | 7, _ => okm_dum39
  | 8, _ => okm_dum40
  | 9, _ => okm_dum41
  | 10, _ => okm_dum42
  | 11, _ => okm_dum43
  | 12, _ => okm_dum44
  | 13, _ => okm_dum45
  | 14, _ => okm_dum46
  | 15, _ => okm_dum47
  | r + 16, h => absurd h (by omega)
set_option maxRecDepth 100000 in
theorem okh_2 : ∀ r, r < 16 → 32 + r ≠ 0 → okHd (32 + r) = true := by decide +kernel
theorem okb_3 : ∀ r, r < 16 → okP (48 + r) (cod (48 + r)) := fun r hr => match r, hr with
  | 0, _ => okm_dum48
  | 1, _ => okm_dum49
  | 2, _ => okm_dum50
  | 3, _ => okm_dum51
  | 4, _ => okm_dum52
  | 5, _ => okm_dum53
  | 6, _ => okm_dum54
  | 7, _ => okm_dum55
  | 8, _ => okm_dum56
  | 9, _ => okm_dum57
  | 10, _ => okm_dum58
  | 11, _ => okm_dum59
  | 12, _ => okm_dum60
  | 13, _ => okm_dum61
  | 14, _ => okm_dum62
  | 15, _ => okm_dum63
  | r + 16, h => absurd h (by omega)
set_option maxRecDepth 100000 in
theorem okh_3 : ∀ r, r < 16 → 48 + r ≠ 0 → okHd (48 + r) = true := by decide +kernel
theorem okb_4 : ∀ r, r < 16 → okP (64 + r) (cod (64 + r)) := fun r hr => match r, hr with
  | 0, _ => okm_dum64
  | 1, _ => okm_dum65
  | 2, _ => okm_dum66
  | 3, _ => okm_dum67
  | 4, _ => okm_dum68
  | 5, _ => okm_dum69
  | 6, _ => okm_dum70
  | 7, _ => okm_dum71
  | 8, _ => okm_dum72
  | 9, _ => okm_dum73
  | 10, _ => okm_dum74
  | 11, _ => okm_dum75
  | 12, _ => okm_dum76
  | 13, _ => okm_dum77
  | 14, _ => okm_dum78
  | 15, _ => okm_dum79
  | r + 16, h => absurd h (by omega)
set_option maxRecDepth 100000 in
theorem okh_4 : ∀ r, r < 16 → 64 + r ≠ 0 → okHd (64 + r) = true := by decide +kernel
theorem okb_5 : ∀ r, r < 16 → okP (80 + r) (cod (80 + r)) := fun r hr => match r, hr with
  | 0, _ => okm_dum80
  | 1, _ => okm_F_init
  | 2, _ => okm_F_copyFrom
  | 3, _ => okm_F_begin
  | 4, _ => okm_F_has
  | 5, _ => okm_F_put
  | 6, _ => okm_F_readingFact
  | 7, _ => okm_F_flagsTogether
  | 8, _ => okm_R_init
  | 9, _ => okm_R_copyFrom
  | 10, _ => okm_R_insert
  | 11, _ => okm_R_grow
  | 12, _ => okm_R_swap
  | 13, _ => okm_R_removeFirst
  | 14, _ => okm_R_framesFrom
  | 15, _ => okm_R_slotEnd
  | r + 16, h => absurd h (by omega)
set_option maxRecDepth 100000 in
theorem okh_5 : ∀ r, r < 16 → 80 + r ≠ 0 → okHd (80 + r) = true := by decide +kernel
theorem okb_6 : ∀ r, r < 16 → okP (96 + r) (cod (96 + r)) := fun r hr => match r, hr with
  | 0, _ => okm_R_slotStart
  | 1, _ => okm_R_slots
  | 2, _ => okm_R_placeFor
  | 3, _ => okm_R_hasIn
  | 4, _ => okm_U_init
  | 5, _ => okm_U_begin
  | 6, _ => okm_U_copyFrom
  | 7, _ => okm_H_init
  | 8, _ => okm_H_begin
  | 9, _ => okm_H_copyFrom
  | 10, _ => okm_H_isUntouched
  | 11, _ => okm_H_slotFor
  | 12, _ => okm_H_waitLeft
  | 13, _ => okm_T_init
  | 14, _ => okm_T_copyFrom
  | 15, _ => okm_T_hasHub
  | r + 16, h => absurd h (by omega)
set_option maxRecDepth 100000 in
theorem okh_6 : ∀ r, r < 16 → 96 + r ≠ 0 → okHd (96 + r) = true := by decide +kernel
theorem okb_7 : ∀ r, r < 16 → okP (112 + r) (cod (112 + r)) := fun r hr => match r, hr with
  | 0, _ => okm_T_hasUnit
  | 1, _ => okm_T_joinError
  | 2, _ => okm_T_addHub
  | 3, _ => okm_T_addUnit
  | 4, _ => okm_T_retireError
  | 5, _ => okm_T_retire
  | 6, _ => okm_T_settingError
  | 7, _ => okm_T_canHavePeriod
  | 8, _ => okm_T_changeSetting
  | 9, _ => okm_T_isChild
  | 10, _ => okm_T_periodOf
  | 11, _ => okm_T_childToward
  | 12, _ => okm_T_childrenOf
  | 13, _ => okm_T_unitsUnder
  | 14, _ => okm_T_unitsLeft
  | 15, _ => okm_T_unitOfHub
  | r + 16, h => absurd h (by omega)
set_option maxRecDepth 100000 in
theorem okh_7 : ∀ r, r < 16 → 112 + r ≠ 0 → okHd (112 + r) = true := by decide +kernel
theorem okb_8 : ∀ r, r < 16 → okP (128 + r) (cod (128 + r)) := fun r hr => match r, hr with
  | 0, _ => okm_T_delayToRoot
  | 1, _ => okm_T_hubFact
  | 2, _ => okm_T_unitFact
  | 3, _ => okm_T_departError
  | 4, _ => okm_T_depart
  | 5, _ => okm_T_elapseError
  | 6, _ => okm_T_elapse
  | 7, _ => okm_T_bringDueFrames
  | 8, _ => okm_T_arrive
  | 9, _ => okm_T_expectedOf
  | 10, _ => okm_T_expectedOfAll
  | 11, _ => okm_T_isComplete
  | 12, _ => okm_T_isFirstSlotReady
  | 13, _ => okm_T_releaseReadySlots
  | 14, _ => okm_T_putOut
  | 15, _ => okm_T_build
  | r + 16, h => absurd h (by omega)
set_option maxRecDepth 100000 in
theorem okh_8 : ∀ r, r < 16 → 128 + r ≠ 0 → okHd (128 + r) = true := by decide +kernel
theorem okb_9 : ∀ r, r < 16 → okP (144 + r) (cod (144 + r)) := fun r hr => match r, hr with
  | 0, _ => okm_T_takeHeld
  | 1, _ => okm_T_takeStamped
  | 2, _ => okm_T_takeFiltered
  | 3, _ => okm_T_hasValidReading
  | 4, _ => okm_T_insertSorted
  | 5, _ => okm_T_slotFact
  | 6, _ => okm_T_outputsKept
  | 7, _ => okm_T_output
  | 8, _ => okm_T_outputFact
  | 9, _ => okm_T_total
  | 10, _ => okm_T_lateOfAll
  | 11, _ => okm_T_doublesOfAll
  | 12, _ => okm_O_init
  | 13, _ => okm_dum157
  | 14, _ => okm_dum158
  | 15, _ => okm_dum159
  | r + 16, h => absurd h (by omega)
set_option maxRecDepth 100000 in
theorem okh_9 : ∀ r, r < 16 → 144 + r ≠ 0 → okHd (144 + r) = true := by decide +kernel
theorem okb_10 : ∀ r, r < 16 → okP (160 + r) (cod (160 + r)) := fun r hr => match r, hr with
  | 0, _ => okm_dum160
  | 1, _ => okm_dum161
  | 2, _ => okm_dum162
  | 3, _ => okm_dum163
  | 4, _ => okm_P_init
  | 5, _ => okm_P_hub
  | 6, _ => okm_P_unit
  | 7, _ => okm_P_takeOff
  | 8, _ => okm_P_set
  | 9, _ => okm_P_hubOf
  | 10, _ => okm_P_unitOf
  | 11, _ => okm_P_unitAt
  | 12, _ => okm_P_send
  | 13, _ => okm_P_pass
  | 14, _ => okm_P_slotAt
  | 15, _ => okm_P_outAt
  | r + 16, h => absurd h (by omega)
set_option maxRecDepth 100000 in
theorem okh_10 : ∀ r, r < 16 → 160 + r ≠ 0 → okHd (160 + r) = true := by decide +kernel
theorem okb_11 : ∀ r, r < 16 → okP (176 + r) (cod (176 + r)) := fun r hr => match r, hr with
  | 0, _ => okm_P_readingAt
  | 1, _ => okm_dum177
  | 2, _ => okm_dum178
  | 3, _ => okm_dum179
  | 4, _ => okm_P_count
  | 5, _ => okm_P_undo
  | 6, _ => okm_dum182
  | 7, _ => okm_dum183
  | 8, _ => okm_dum184
  | 9, _ => okm_dum185
  | 10, _ => okm_P_remember
  | 11, _ => okm_P_isWithin
  | 12, _ => okm_P_isMultiple
  | 13, _ => okm_P_quotient
  | 14, _ => okm_P_goTogether
  | 15, _ => okm_JA_fill
  | r + 16, h => absurd h (by omega)
set_option maxRecDepth 100000 in
theorem okh_11 : ∀ r, r < 16 → 176 + r ≠ 0 → okHd (176 + r) = true := by decide +kernel
theorem okb_12 : ∀ r, r < 1 → okP (192 + r) (cod (192 + r)) := fun r hr => match r, hr with
  | 0, _ => okm_JI_bitCount
  | r + 1, h => absurd h (by omega)
set_option maxRecDepth 100000 in
theorem okh_12 : ∀ r, r < 1 → 192 + r ≠ 0 → okHd (192 + r) = true := by decide +kernel
theorem ev_ok (y : Nat) (hy : y < 193) : okP y (cod y) := by
  by_cases h0 : y < 16
  · rw [show y = 0 + (y - 0) by omega]; exact okb_0 _ (by omega)
  by_cases h1 : y < 32
  · rw [show y = 16 + (y - 16) by omega]; exact okb_1 _ (by omega)
  by_cases h2 : y < 48
  · rw [show y = 32 + (y - 32) by omega]; exact okb_2 _ (by omega)
  by_cases h3 : y < 64
  · rw [show y = 48 + (y - 48) by omega]; exact okb_3 _ (by omega)
  by_cases h4 : y < 80
  · rw [show y = 64 + (y - 64) by omega]; exact okb_4 _ (by omega)
  by_cases h5 : y < 96
  · rw [show y = 80 + (y - 80) by omega]; exact okb_5 _ (by omega)
  by_cases h6 : y < 112
  · rw [show y = 96 + (y - 96) by omega]; exact okb_6 _ (by omega)
  by_cases h7 : y < 128
  · rw [show y = 112 + (y - 112) by omega]; exact okb_7 _ (by omega)
  by_cases h8 : y < 144
  · rw [show y = 128 + (y - 128) by omega]; exact okb_8 _ (by omega)
  by_cases h9 : y < 160
  · rw [show y = 144 + (y - 144) by omega]; exact okb_9 _ (by omega)
  by_cases h10 : y < 176
  · rw [show y = 160 + (y - 160) by omega]; exact okb_10 _ (by omega)
  by_cases h11 : y < 192
  · rw [show y = 176 + (y - 176) by omega]; exact okb_11 _ (by omega)
  by_cases h12 : y < 193
  · rw [show y = 192 + (y - 192) by omega]; exact okb_12 _ (by omega)
  exact absurd hy (by omega)
theorem ev_hd (y : Nat) (h0 : y ≠ 0) (hy : y < 193) : okHd y = true := by
  by_cases h0 : y < 16
  · rw [show y = 0 + (y - 0) by omega]; exact okh_0 _ (by omega) (by omega)
  by_cases h1 : y < 32
  · rw [show y = 16 + (y - 16) by omega]; exact okh_1 _ (by omega) (by omega)
  by_cases h2 : y < 48
  · rw [show y = 32 + (y - 32) by omega]; exact okh_2 _ (by omega) (by omega)
  by_cases h3 : y < 64
  · rw [show y = 48 + (y - 48) by omega]; exact okh_3 _ (by omega) (by omega)
  by_cases h4 : y < 80
  · rw [show y = 64 + (y - 64) by omega]; exact okh_4 _ (by omega) (by omega)
  by_cases h5 : y < 96
  · rw [show y = 80 + (y - 80) by omega]; exact okh_5 _ (by omega) (by omega)
  by_cases h6 : y < 112
  · rw [show y = 96 + (y - 96) by omega]; exact okh_6 _ (by omega) (by omega)
  by_cases h7 : y < 128
  · rw [show y = 112 + (y - 112) by omega]; exact okh_7 _ (by omega) (by omega)
  by_cases h8 : y < 144
  · rw [show y = 128 + (y - 128) by omega]; exact okh_8 _ (by omega) (by omega)
  by_cases h9 : y < 160
  · rw [show y = 144 + (y - 144) by omega]; exact okh_9 _ (by omega) (by omega)
  by_cases h10 : y < 176
  · rw [show y = 160 + (y - 160) by omega]; exact okh_10 _ (by omega) (by omega)
  by_cases h11 : y < 192
  · rw [show y = 176 + (y - 176) by omega]; exact okh_11 _ (by omega) (by omega)
  by_cases h12 : y < 193
  · rw [show y = 192 + (y - 192) by omega]; exact okh_12 _ (by omega) (by omega)
  exact absurd hy (by omega)
