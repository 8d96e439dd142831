/-! THE LAW: its loop -/
set_option maxRecDepth 20000 in
set_option maxHeartbeats 2000000 in
theorem lw_hub {n L0 : Nat} {xs : Nat → Int32} {h : HP} {i : Int} {Q : Option AV → HP → Prop} (G : Glob n L0 xs h) (hn : n + 1 ≤ 512) (hi : 0 ≤ i ∧ i + 6 ≤ L0) (hL : L0 ≤ 3072) (K : ∀ H, Glob (n + 1) L0 xs H → At 16 0 519 [some (.inr (some 2)), some (.inr (some 3)), some (.inr (some 488)), some (.inl i)] [] H Q) : At 16 0 22 [some (.inr (some 2)), some (.inr (some 3)), some (.inr (some 488)), some (.inl i)] [] h Q := by
  have hC : cod 0 = c_L_law := rfl
  obtain ⟨sc, t3⟩ := G.scr
  refine x_1 (p' := 23) hC rfl rfl rfl rfl ?_
  refine x_1 (p' := 24) hC rfl rfl rfl rfl ?_
  refine x_1 (p' := 25) hC rfl rfl rfl rfl ?_
  refine x_1 (p' := 26) hC rfl rfl rfl rfl ?_
  refine x_add (p' := 27) hC rfl rfl rfl ⟨by omega, by omega⟩ ?_
  refine x_iald (p' := 28) hC rfl rfl rfl sc.1 (by omega) (by omega) ?_
  rw [sc.2]
  refine x_1 (p' := 29) hC rfl rfl rfl rfl ?_
  refine x_1 (p' := 30) hC rfl rfl rfl rfl ?_
  refine x_1 (p' := 31) hC rfl rfl rfl rfl ?_
  refine x_add (p' := 32) hC rfl rfl rfl ⟨by omega, by omega⟩ ?_
  refine x_iald (p' := 33) hC rfl rfl rfl sc.1 (by omega) (by omega) ?_
  rw [sc.2]
  refine x_cIV2 (p' := 34) (n := 165) hC rfl rfl rfl rfl rfl t3 ((st_hub G hn _ _).imp (fun v1 h1 q1 => ?_))
  obtain ⟨sc1, ty8, k2⟩ := q1
  refine x_1 (p' := 35) hC rfl rfl rfl rfl ?_
  refine x_1 (p' := 36) hC rfl rfl rfl rfl ?_
  refine x_1 (p' := 37) hC rfl rfl rfl rfl ?_
  refine x_1 (p' := 38) hC rfl rfl rfl rfl ?_
  refine x_add (p' := 39) hC rfl rfl rfl ⟨by omega, by omega⟩ ?_
  refine x_iald (p' := 40) hC rfl rfl rfl sc1.1 (by omega) (by omega) ?_
  rw [sc1.2]
  refine x_1 (p' := 41) hC rfl rfl rfl rfl ?_
  refine x_1 (p' := 42) hC rfl rfl rfl rfl ?_
  refine x_1 (p' := 43) hC rfl rfl rfl rfl ?_
  refine x_add (p' := 44) hC rfl rfl rfl ⟨by omega, by omega⟩ ?_
  refine x_iald (p' := 45) hC rfl rfl rfl sc1.1 (by omega) (by omega) ?_
  rw [sc1.2]
  refine x_cIV2 (p' := 46) (n := 21) hC rfl rfl rfl rfl rfl ty8 (k2.imp (fun v2 h2 q2 => ?_))
  exact x_iceq (p' := 47) hC rfl rfl (fun _ => K h2 q2.2) (fun z => absurd q2.1.symm z)
set_option maxRecDepth 20000 in
set_option maxHeartbeats 2000000 in
theorem lw_unit {n L0 : Nat} {xs : Nat → Int32} {h : HP} {i : Int} {Q : Option AV → HP → Prop} (G : Glob n L0 xs h) (hn : n + 1 ≤ 512) (hi : 0 ≤ i ∧ i + 6 ≤ L0) (hL : L0 ≤ 3072) (K : ∀ H, Glob (n + 1) L0 xs H → At 16 0 519 [some (.inr (some 2)), some (.inr (some 3)), some (.inr (some 488)), some (.inl i)] [] H Q) : At 16 0 49 [some (.inr (some 2)), some (.inr (some 3)), some (.inr (some 488)), some (.inl i)] [] h Q := by
  have hC : cod 0 = c_L_law := rfl
  obtain ⟨sc, t3⟩ := G.scr
  refine x_1 (p' := 50) hC rfl rfl rfl rfl ?_
  refine x_1 (p' := 51) hC rfl rfl rfl rfl ?_
  refine x_1 (p' := 52) hC rfl rfl rfl rfl ?_
  refine x_1 (p' := 53) hC rfl rfl rfl rfl ?_
  refine x_add (p' := 54) hC rfl rfl rfl ⟨by omega, by omega⟩ ?_
  refine x_iald (p' := 55) hC rfl rfl rfl sc.1 (by omega) (by omega) ?_
  rw [sc.2]
  refine x_1 (p' := 56) hC rfl rfl rfl rfl ?_
  refine x_1 (p' := 57) hC rfl rfl rfl rfl ?_
  refine x_1 (p' := 58) hC rfl rfl rfl rfl ?_
  refine x_add (p' := 59) hC rfl rfl rfl ⟨by omega, by omega⟩ ?_
  refine x_iald (p' := 60) hC rfl rfl rfl sc.1 (by omega) (by omega) ?_
  rw [sc.2]
  refine x_cIV2 (p' := 61) (n := 166) hC rfl rfl rfl rfl rfl t3 ((st_unit G hn _ _).imp (fun v1 h1 q1 => ?_))
  obtain ⟨sc1, ty8, k2⟩ := q1
  refine x_1 (p' := 62) hC rfl rfl rfl rfl ?_
  refine x_1 (p' := 63) hC rfl rfl rfl rfl ?_
  refine x_1 (p' := 64) hC rfl rfl rfl rfl ?_
  refine x_1 (p' := 65) hC rfl rfl rfl rfl ?_
  refine x_add (p' := 66) hC rfl rfl rfl ⟨by omega, by omega⟩ ?_
  refine x_iald (p' := 67) hC rfl rfl rfl sc1.1 (by omega) (by omega) ?_
  rw [sc1.2]
  refine x_1 (p' := 68) hC rfl rfl rfl rfl ?_
  refine x_1 (p' := 69) hC rfl rfl rfl rfl ?_
  refine x_1 (p' := 70) hC rfl rfl rfl rfl ?_
  refine x_add (p' := 71) hC rfl rfl rfl ⟨by omega, by omega⟩ ?_
  refine x_iald (p' := 72) hC rfl rfl rfl sc1.1 (by omega) (by omega) ?_
  rw [sc1.2]
  refine x_cIV2 (p' := 73) (n := 22) hC rfl rfl rfl rfl rfl ty8 (k2.imp (fun v2 h2 q2 => ?_))
  exact x_iceq (p' := 74) hC rfl rfl (fun _ => K h2 q2.2) (fun z => absurd q2.1.symm z)
set_option maxRecDepth 20000 in
set_option maxHeartbeats 2000000 in
theorem lw_takeOff {n L0 : Nat} {xs : Nat → Int32} {h : HP} {i : Int} {Q : Option AV → HP → Prop} (G : Glob n L0 xs h) (hn : n + 1 ≤ 512) (hi : 0 ≤ i ∧ i + 6 ≤ L0) (hL : L0 ≤ 3072) (K : ∀ H, Glob (n + 1) L0 xs H → At 16 0 519 [some (.inr (some 2)), some (.inr (some 3)), some (.inr (some 488)), some (.inl i)] [] H Q) : At 16 0 76 [some (.inr (some 2)), some (.inr (some 3)), some (.inr (some 488)), some (.inl i)] [] h Q := by
  have hC : cod 0 = c_L_law := rfl
  obtain ⟨sc, t3⟩ := G.scr
  refine x_1 (p' := 77) hC rfl rfl rfl rfl ?_
  refine x_1 (p' := 78) hC rfl rfl rfl rfl ?_
  refine x_1 (p' := 79) hC rfl rfl rfl rfl ?_
  refine x_1 (p' := 80) hC rfl rfl rfl rfl ?_
  refine x_add (p' := 81) hC rfl rfl rfl ⟨by omega, by omega⟩ ?_
  refine x_iald (p' := 82) hC rfl rfl rfl sc.1 (by omega) (by omega) ?_
  rw [sc.2]
  refine x_cIV1 (p' := 83) (n := 167) hC rfl rfl rfl rfl rfl t3 ((st_takeOff G hn _).imp (fun v1 h1 q1 => ?_))
  obtain ⟨sc1, ty8, k2⟩ := q1
  refine x_1 (p' := 84) hC rfl rfl rfl rfl ?_
  refine x_1 (p' := 85) hC rfl rfl rfl rfl ?_
  refine x_1 (p' := 86) hC rfl rfl rfl rfl ?_
  refine x_1 (p' := 87) hC rfl rfl rfl rfl ?_
  refine x_add (p' := 88) hC rfl rfl rfl ⟨by omega, by omega⟩ ?_
  refine x_iald (p' := 89) hC rfl rfl rfl sc1.1 (by omega) (by omega) ?_
  rw [sc1.2]
  refine x_cIV1 (p' := 90) (n := 24) hC rfl rfl rfl rfl rfl ty8 (k2.imp (fun v2 h2 q2 => ?_))
  exact x_iceq (p' := 91) hC rfl rfl (fun _ => K h2 q2.2) (fun z => absurd q2.1.symm z)
set_option maxRecDepth 20000 in
set_option maxHeartbeats 2000000 in
theorem lw_set {n L0 : Nat} {xs : Nat → Int32} {h : HP} {i : Int} {Q : Option AV → HP → Prop} (G : Glob n L0 xs h) (hn : n + 1 ≤ 512) (hi : 0 ≤ i ∧ i + 6 ≤ L0) (hL : L0 ≤ 3072) (K : ∀ H, Glob (n + 1) L0 xs H → At 16 0 519 [some (.inr (some 2)), some (.inr (some 3)), some (.inr (some 488)), some (.inl i)] [] H Q) : At 16 0 93 [some (.inr (some 2)), some (.inr (some 3)), some (.inr (some 488)), some (.inl i)] [] h Q := by
  have hC : cod 0 = c_L_law := rfl
  obtain ⟨sc, t3⟩ := G.scr
  refine x_1 (p' := 94) hC rfl rfl rfl rfl ?_
  refine x_1 (p' := 95) hC rfl rfl rfl rfl ?_
  refine x_1 (p' := 96) hC rfl rfl rfl rfl ?_
  refine x_1 (p' := 97) hC rfl rfl rfl rfl ?_
  refine x_add (p' := 98) hC rfl rfl rfl ⟨by omega, by omega⟩ ?_
  refine x_iald (p' := 99) hC rfl rfl rfl sc.1 (by omega) (by omega) ?_
  rw [sc.2]
  refine x_1 (p' := 100) hC rfl rfl rfl rfl ?_
  refine x_1 (p' := 101) hC rfl rfl rfl rfl ?_
  refine x_1 (p' := 102) hC rfl rfl rfl rfl ?_
  refine x_add (p' := 103) hC rfl rfl rfl ⟨by omega, by omega⟩ ?_
  refine x_iald (p' := 104) hC rfl rfl rfl sc.1 (by omega) (by omega) ?_
  rw [sc.2]
  refine x_1 (p' := 105) hC rfl rfl rfl rfl ?_
  refine x_1 (p' := 106) hC rfl rfl rfl rfl ?_
  refine x_1 (p' := 107) hC rfl rfl rfl rfl ?_
  refine x_add (p' := 108) hC rfl rfl rfl ⟨by omega, by omega⟩ ?_
  refine x_iald (p' := 109) hC rfl rfl rfl sc.1 (by omega) (by omega) ?_
  rw [sc.2]
  refine x_cIV3 (p' := 110) (n := 168) hC rfl rfl rfl rfl rfl t3 ((st_set G hn _ _ _).imp (fun v1 h1 q1 => ?_))
  obtain ⟨sc1, ty8, k2⟩ := q1
  refine x_1 (p' := 111) hC rfl rfl rfl rfl ?_
  refine x_1 (p' := 112) hC rfl rfl rfl rfl ?_
  refine x_1 (p' := 113) hC rfl rfl rfl rfl ?_
  refine x_1 (p' := 114) hC rfl rfl rfl rfl ?_
  refine x_add (p' := 115) hC rfl rfl rfl ⟨by omega, by omega⟩ ?_
  refine x_iald (p' := 116) hC rfl rfl rfl sc1.1 (by omega) (by omega) ?_
  rw [sc1.2]
  refine x_1 (p' := 117) hC rfl rfl rfl rfl ?_
  refine x_1 (p' := 118) hC rfl rfl rfl rfl ?_
  refine x_1 (p' := 119) hC rfl rfl rfl rfl ?_
  refine x_add (p' := 120) hC rfl rfl rfl ⟨by omega, by omega⟩ ?_
  refine x_iald (p' := 121) hC rfl rfl rfl sc1.1 (by omega) (by omega) ?_
  rw [sc1.2]
  refine x_1 (p' := 122) hC rfl rfl rfl rfl ?_
  refine x_1 (p' := 123) hC rfl rfl rfl rfl ?_
  refine x_1 (p' := 124) hC rfl rfl rfl rfl ?_
  refine x_add (p' := 125) hC rfl rfl rfl ⟨by omega, by omega⟩ ?_
  refine x_iald (p' := 126) hC rfl rfl rfl sc1.1 (by omega) (by omega) ?_
  rw [sc1.2]
  refine x_cIV3 (p' := 127) (n := 26) hC rfl rfl rfl rfl rfl ty8 (k2.imp (fun v2 h2 q2 => ?_))
  exact x_iceq (p' := 128) hC rfl rfl (fun _ => K h2 q2.2) (fun z => absurd q2.1.symm z)
set_option maxRecDepth 20000 in
set_option maxHeartbeats 2000000 in
theorem lw_hubOf {n L0 : Nat} {xs : Nat → Int32} {h : HP} {i : Int} {Q : Option AV → HP → Prop} (G : Glob n L0 xs h) (hn : n + 1 ≤ 512) (hi : 0 ≤ i ∧ i + 6 ≤ L0) (hL : L0 ≤ 3072) (K : ∀ H, Glob (n + 1) L0 xs H → At 16 0 519 [some (.inr (some 2)), some (.inr (some 3)), some (.inr (some 488)), some (.inl i)] [] H Q) : At 16 0 130 [some (.inr (some 2)), some (.inr (some 3)), some (.inr (some 488)), some (.inl i)] [] h Q := by
  have hC : cod 0 = c_L_law := rfl
  obtain ⟨sc, t3⟩ := G.scr
  refine x_1 (p' := 131) hC rfl rfl rfl rfl ?_
  refine x_1 (p' := 132) hC rfl rfl rfl rfl ?_
  refine x_1 (p' := 133) hC rfl rfl rfl rfl ?_
  refine x_1 (p' := 134) hC rfl rfl rfl rfl ?_
  refine x_add (p' := 135) hC rfl rfl rfl ⟨by omega, by omega⟩ ?_
  refine x_iald (p' := 136) hC rfl rfl rfl sc.1 (by omega) (by omega) ?_
  rw [sc.2]
  refine x_1 (p' := 137) hC rfl rfl rfl rfl ?_
  refine x_1 (p' := 138) hC rfl rfl rfl rfl ?_
  refine x_1 (p' := 139) hC rfl rfl rfl rfl ?_
  refine x_add (p' := 140) hC rfl rfl rfl ⟨by omega, by omega⟩ ?_
  refine x_iald (p' := 141) hC rfl rfl rfl sc.1 (by omega) (by omega) ?_
  rw [sc.2]
  refine x_cIV2 (p' := 142) (n := 169) hC rfl rfl rfl rfl rfl t3 ((st_hubOf G hn _ _).imp (fun v1 h1 q1 => ?_))
  obtain ⟨sc1, ty8, k2⟩ := q1
  refine x_1 (p' := 143) hC rfl rfl rfl rfl ?_
  refine x_1 (p' := 144) hC rfl rfl rfl rfl ?_
  refine x_1 (p' := 145) hC rfl rfl rfl rfl ?_
  refine x_1 (p' := 146) hC rfl rfl rfl rfl ?_
  refine x_add (p' := 147) hC rfl rfl rfl ⟨by omega, by omega⟩ ?_
  refine x_iald (p' := 148) hC rfl rfl rfl sc1.1 (by omega) (by omega) ?_
  rw [sc1.2]
  refine x_1 (p' := 149) hC rfl rfl rfl rfl ?_
  refine x_1 (p' := 150) hC rfl rfl rfl rfl ?_
  refine x_1 (p' := 151) hC rfl rfl rfl rfl ?_
  refine x_add (p' := 152) hC rfl rfl rfl ⟨by omega, by omega⟩ ?_
  refine x_iald (p' := 153) hC rfl rfl rfl sc1.1 (by omega) (by omega) ?_
  rw [sc1.2]
  refine x_cIV2 (p' := 154) (n := 30) hC rfl rfl rfl rfl rfl ty8 (k2.imp (fun v2 h2 q2 => ?_))
  exact x_iceq (p' := 155) hC rfl rfl (fun _ => K h2 q2.2) (fun z => absurd q2.1.symm z)
set_option maxRecDepth 20000 in
set_option maxHeartbeats 2000000 in
theorem lw_unitOf {n L0 : Nat} {xs : Nat → Int32} {h : HP} {i : Int} {Q : Option AV → HP → Prop} (G : Glob n L0 xs h) (hn : n + 1 ≤ 512) (hi : 0 ≤ i ∧ i + 6 ≤ L0) (hL : L0 ≤ 3072) (K : ∀ H, Glob (n + 1) L0 xs H → At 16 0 519 [some (.inr (some 2)), some (.inr (some 3)), some (.inr (some 488)), some (.inl i)] [] H Q) : At 16 0 157 [some (.inr (some 2)), some (.inr (some 3)), some (.inr (some 488)), some (.inl i)] [] h Q := by
  have hC : cod 0 = c_L_law := rfl
  obtain ⟨sc, t3⟩ := G.scr
  refine x_1 (p' := 158) hC rfl rfl rfl rfl ?_
  refine x_1 (p' := 159) hC rfl rfl rfl rfl ?_
  refine x_1 (p' := 160) hC rfl rfl rfl rfl ?_
  refine x_1 (p' := 161) hC rfl rfl rfl rfl ?_
  refine x_add (p' := 162) hC rfl rfl rfl ⟨by omega, by omega⟩ ?_
  refine x_iald (p' := 163) hC rfl rfl rfl sc.1 (by omega) (by omega) ?_
  rw [sc.2]
  refine x_1 (p' := 164) hC rfl rfl rfl rfl ?_
  refine x_1 (p' := 165) hC rfl rfl rfl rfl ?_
  refine x_1 (p' := 166) hC rfl rfl rfl rfl ?_
  refine x_add (p' := 167) hC rfl rfl rfl ⟨by omega, by omega⟩ ?_
  refine x_iald (p' := 168) hC rfl rfl rfl sc.1 (by omega) (by omega) ?_
  rw [sc.2]
  refine x_cIV2 (p' := 169) (n := 170) hC rfl rfl rfl rfl rfl t3 ((st_unitOf G hn _ _).imp (fun v1 h1 q1 => ?_))
  obtain ⟨sc1, ty8, k2⟩ := q1
  refine x_1 (p' := 170) hC rfl rfl rfl rfl ?_
  refine x_1 (p' := 171) hC rfl rfl rfl rfl ?_
  refine x_1 (p' := 172) hC rfl rfl rfl rfl ?_
  refine x_1 (p' := 173) hC rfl rfl rfl rfl ?_
  refine x_add (p' := 174) hC rfl rfl rfl ⟨by omega, by omega⟩ ?_
  refine x_iald (p' := 175) hC rfl rfl rfl sc1.1 (by omega) (by omega) ?_
  rw [sc1.2]
  refine x_1 (p' := 176) hC rfl rfl rfl rfl ?_
  refine x_1 (p' := 177) hC rfl rfl rfl rfl ?_
  refine x_1 (p' := 178) hC rfl rfl rfl rfl ?_
  refine x_add (p' := 179) hC rfl rfl rfl ⟨by omega, by omega⟩ ?_
  refine x_iald (p' := 180) hC rfl rfl rfl sc1.1 (by omega) (by omega) ?_
  rw [sc1.2]
  refine x_cIV2 (p' := 181) (n := 31) hC rfl rfl rfl rfl rfl ty8 (k2.imp (fun v2 h2 q2 => ?_))
  exact x_iceq (p' := 182) hC rfl rfl (fun _ => K h2 q2.2) (fun z => absurd q2.1.symm z)
set_option maxRecDepth 20000 in
set_option maxHeartbeats 2000000 in
theorem lw_unitAt {n L0 : Nat} {xs : Nat → Int32} {h : HP} {i : Int} {Q : Option AV → HP → Prop} (G : Glob n L0 xs h) (hn : n + 1 ≤ 512) (hi : 0 ≤ i ∧ i + 6 ≤ L0) (hL : L0 ≤ 3072) (K : ∀ H, Glob (n + 1) L0 xs H → At 16 0 519 [some (.inr (some 2)), some (.inr (some 3)), some (.inr (some 488)), some (.inl i)] [] H Q) : At 16 0 184 [some (.inr (some 2)), some (.inr (some 3)), some (.inr (some 488)), some (.inl i)] [] h Q := by
  have hC : cod 0 = c_L_law := rfl
  obtain ⟨sc, t3⟩ := G.scr
  refine x_1 (p' := 185) hC rfl rfl rfl rfl ?_
  refine x_1 (p' := 186) hC rfl rfl rfl rfl ?_
  refine x_1 (p' := 187) hC rfl rfl rfl rfl ?_
  refine x_1 (p' := 188) hC rfl rfl rfl rfl ?_
  refine x_add (p' := 189) hC rfl rfl rfl ⟨by omega, by omega⟩ ?_
  refine x_iald (p' := 190) hC rfl rfl rfl sc.1 (by omega) (by omega) ?_
  rw [sc.2]
  refine x_1 (p' := 191) hC rfl rfl rfl rfl ?_
  refine x_1 (p' := 192) hC rfl rfl rfl rfl ?_
  refine x_1 (p' := 193) hC rfl rfl rfl rfl ?_
  refine x_add (p' := 194) hC rfl rfl rfl ⟨by omega, by omega⟩ ?_
  refine x_iald (p' := 195) hC rfl rfl rfl sc.1 (by omega) (by omega) ?_
  rw [sc.2]
  refine x_cIV2 (p' := 196) (n := 171) hC rfl rfl rfl rfl rfl t3 ((st_unitAt G hn _ _ (inR_toInt _).2).imp (fun v1 h1 q1 => ?_))
  obtain ⟨sc1, ty8, k2⟩ := q1
  refine x_1 (p' := 197) hC rfl rfl rfl rfl ?_
  refine x_1 (p' := 198) hC rfl rfl rfl rfl ?_
  refine x_1 (p' := 199) hC rfl rfl rfl rfl ?_
  refine x_1 (p' := 200) hC rfl rfl rfl rfl ?_
  refine x_add (p' := 201) hC rfl rfl rfl ⟨by omega, by omega⟩ ?_
  refine x_iald (p' := 202) hC rfl rfl rfl sc1.1 (by omega) (by omega) ?_
  rw [sc1.2]
  refine x_1 (p' := 203) hC rfl rfl rfl rfl ?_
  refine x_1 (p' := 204) hC rfl rfl rfl rfl ?_
  refine x_1 (p' := 205) hC rfl rfl rfl rfl ?_
  refine x_add (p' := 206) hC rfl rfl rfl ⟨by omega, by omega⟩ ?_
  refine x_iald (p' := 207) hC rfl rfl rfl sc1.1 (by omega) (by omega) ?_
  rw [sc1.2]
  refine x_cIV2 (p' := 208) (n := 32) hC rfl rfl rfl rfl rfl ty8 (k2.imp (fun v2 h2 q2 => ?_))
  exact x_iceq (p' := 209) hC rfl rfl (fun _ => K h2 q2.2) (fun z => absurd q2.1.symm z)
set_option maxRecDepth 20000 in
set_option maxHeartbeats 2000000 in
theorem lw_send {n L0 : Nat} {xs : Nat → Int32} {h : HP} {i : Int} {Q : Option AV → HP → Prop} (G : Glob n L0 xs h) (hn : n + 1 ≤ 512) (hi : 0 ≤ i ∧ i + 6 ≤ L0) (hL : L0 ≤ 3072) (K : ∀ H, Glob (n + 1) L0 xs H → At 16 0 519 [some (.inr (some 2)), some (.inr (some 3)), some (.inr (some 488)), some (.inl i)] [] H Q) : At 16 0 211 [some (.inr (some 2)), some (.inr (some 3)), some (.inr (some 488)), some (.inl i)] [] h Q := by
  have hC : cod 0 = c_L_law := rfl
  obtain ⟨sc, t3⟩ := G.scr
  refine x_1 (p' := 212) hC rfl rfl rfl rfl ?_
  refine x_1 (p' := 213) hC rfl rfl rfl rfl ?_
  refine x_1 (p' := 214) hC rfl rfl rfl rfl ?_
  refine x_1 (p' := 215) hC rfl rfl rfl rfl ?_
  refine x_add (p' := 216) hC rfl rfl rfl ⟨by omega, by omega⟩ ?_
  refine x_iald (p' := 217) hC rfl rfl rfl sc.1 (by omega) (by omega) ?_
  rw [sc.2]
  refine x_1 (p' := 218) hC rfl rfl rfl rfl ?_
  refine x_1 (p' := 219) hC rfl rfl rfl rfl ?_
  refine x_1 (p' := 220) hC rfl rfl rfl rfl ?_
  refine x_add (p' := 221) hC rfl rfl rfl ⟨by omega, by omega⟩ ?_
  refine x_iald (p' := 222) hC rfl rfl rfl sc.1 (by omega) (by omega) ?_
  rw [sc.2]
  refine x_1 (p' := 223) hC rfl rfl rfl rfl ?_
  refine x_1 (p' := 224) hC rfl rfl rfl rfl ?_
  refine x_1 (p' := 225) hC rfl rfl rfl rfl ?_
  refine x_add (p' := 226) hC rfl rfl rfl ⟨by omega, by omega⟩ ?_
  refine x_iald (p' := 227) hC rfl rfl rfl sc.1 (by omega) (by omega) ?_
  rw [sc.2]
  refine x_1 (p' := 228) hC rfl rfl rfl rfl ?_
  refine x_1 (p' := 229) hC rfl rfl rfl rfl ?_
  refine x_1 (p' := 230) hC rfl rfl rfl rfl ?_
  refine x_add (p' := 231) hC rfl rfl rfl ⟨by omega, by omega⟩ ?_
  refine x_iald (p' := 232) hC rfl rfl rfl sc.1 (by omega) (by omega) ?_
  rw [sc.2]
  refine x_1 (p' := 233) hC rfl rfl rfl rfl ?_
  refine x_1 (p' := 234) hC rfl rfl rfl rfl ?_
  refine x_1 (p' := 235) hC rfl rfl rfl rfl ?_
  refine x_add (p' := 236) hC rfl rfl rfl ⟨by omega, by omega⟩ ?_
  refine x_iald (p' := 237) hC rfl rfl rfl sc.1 (by omega) (by omega) ?_
  rw [sc.2]
  refine x_cIV5 (p' := 238) (n := 172) hC rfl rfl rfl rfl rfl t3 ((st_send G hn _ _ _ _ _).imp (fun v1 h1 q1 => ?_))
  obtain ⟨sc1, ty8, k2⟩ := q1
  refine x_1 (p' := 239) hC rfl rfl rfl rfl ?_
  refine x_1 (p' := 240) hC rfl rfl rfl rfl ?_
  refine x_1 (p' := 241) hC rfl rfl rfl rfl ?_
  refine x_1 (p' := 242) hC rfl rfl rfl rfl ?_
  refine x_add (p' := 243) hC rfl rfl rfl ⟨by omega, by omega⟩ ?_
  refine x_iald (p' := 244) hC rfl rfl rfl sc1.1 (by omega) (by omega) ?_
  rw [sc1.2]
  refine x_1 (p' := 245) hC rfl rfl rfl rfl ?_
  refine x_1 (p' := 246) hC rfl rfl rfl rfl ?_
  refine x_1 (p' := 247) hC rfl rfl rfl rfl ?_
  refine x_add (p' := 248) hC rfl rfl rfl ⟨by omega, by omega⟩ ?_
  refine x_iald (p' := 249) hC rfl rfl rfl sc1.1 (by omega) (by omega) ?_
  rw [sc1.2]
  refine x_1 (p' := 250) hC rfl rfl rfl rfl ?_
  refine x_1 (p' := 251) hC rfl rfl rfl rfl ?_
  refine x_1 (p' := 252) hC rfl rfl rfl rfl ?_
  refine x_add (p' := 253) hC rfl rfl rfl ⟨by omega, by omega⟩ ?_
  refine x_iald (p' := 254) hC rfl rfl rfl sc1.1 (by omega) (by omega) ?_
  rw [sc1.2]
  refine x_1 (p' := 255) hC rfl rfl rfl rfl ?_
  refine x_1 (p' := 256) hC rfl rfl rfl rfl ?_
  refine x_1 (p' := 257) hC rfl rfl rfl rfl ?_
  refine x_add (p' := 258) hC rfl rfl rfl ⟨by omega, by omega⟩ ?_
  refine x_iald (p' := 259) hC rfl rfl rfl sc1.1 (by omega) (by omega) ?_
  rw [sc1.2]
  refine x_1 (p' := 260) hC rfl rfl rfl rfl ?_
  refine x_1 (p' := 261) hC rfl rfl rfl rfl ?_
  refine x_1 (p' := 262) hC rfl rfl rfl rfl ?_
  refine x_add (p' := 263) hC rfl rfl rfl ⟨by omega, by omega⟩ ?_
  refine x_iald (p' := 264) hC rfl rfl rfl sc1.1 (by omega) (by omega) ?_
  rw [sc1.2]
  refine x_cIV5 (p' := 265) (n := 58) hC rfl rfl rfl rfl rfl ty8 (k2.imp (fun v2 h2 q2 => ?_))
  exact x_iceq (p' := 266) hC rfl rfl (fun _ => K h2 q2.2) (fun z => absurd q2.1.symm z)
set_option maxRecDepth 20000 in
set_option maxHeartbeats 2000000 in
theorem lw_pass {n L0 : Nat} {xs : Nat → Int32} {h : HP} {i : Int} {Q : Option AV → HP → Prop} (G : Glob n L0 xs h) (hn : n + 1 ≤ 512) (hi : 0 ≤ i ∧ i + 6 ≤ L0) (hL : L0 ≤ 3072) (K : ∀ H, Glob (n + 1) L0 xs H → At 16 0 519 [some (.inr (some 2)), some (.inr (some 3)), some (.inr (some 488)), some (.inl i)] [] H Q) : At 16 0 268 [some (.inr (some 2)), some (.inr (some 3)), some (.inr (some 488)), some (.inl i)] [] h Q := by
  have hC : cod 0 = c_L_law := rfl
  obtain ⟨sc, t3⟩ := G.scr
  refine x_1 (p' := 269) hC rfl rfl rfl rfl ?_
  refine x_1 (p' := 270) hC rfl rfl rfl rfl ?_
  refine x_1 (p' := 271) hC rfl rfl rfl rfl ?_
  refine x_1 (p' := 272) hC rfl rfl rfl rfl ?_
  refine x_add (p' := 273) hC rfl rfl rfl ⟨by omega, by omega⟩ ?_
  refine x_iald (p' := 274) hC rfl rfl rfl sc.1 (by omega) (by omega) ?_
  rw [sc.2]
  refine x_cIV1 (p' := 275) (n := 173) hC rfl rfl rfl rfl rfl t3 ((st_pass G hn _).imp (fun v1 h1 q1 => ?_))
  obtain ⟨sc1, ty8, k2⟩ := q1
  refine x_1 (p' := 276) hC rfl rfl rfl rfl ?_
  refine x_1 (p' := 277) hC rfl rfl rfl rfl ?_
  refine x_1 (p' := 278) hC rfl rfl rfl rfl ?_
  refine x_1 (p' := 279) hC rfl rfl rfl rfl ?_
  refine x_add (p' := 280) hC rfl rfl rfl ⟨by omega, by omega⟩ ?_
  refine x_iald (p' := 281) hC rfl rfl rfl sc1.1 (by omega) (by omega) ?_
  rw [sc1.2]
  refine x_cIV1 (p' := 282) (n := 60) hC rfl rfl rfl rfl rfl ty8 (k2.imp (fun v2 h2 q2 => ?_))
  exact x_iceq (p' := 283) hC rfl rfl (fun _ => K h2 q2.2) (fun z => absurd q2.1.symm z)
set_option maxRecDepth 20000 in
set_option maxHeartbeats 2000000 in
theorem lw_slotAt {n L0 : Nat} {xs : Nat → Int32} {h : HP} {i : Int} {Q : Option AV → HP → Prop} (G : Glob n L0 xs h) (hn : n + 1 ≤ 512) (hi : 0 ≤ i ∧ i + 6 ≤ L0) (hL : L0 ≤ 3072) (K : ∀ H, Glob (n + 1) L0 xs H → At 16 0 519 [some (.inr (some 2)), some (.inr (some 3)), some (.inr (some 488)), some (.inl i)] [] H Q) : At 16 0 285 [some (.inr (some 2)), some (.inr (some 3)), some (.inr (some 488)), some (.inl i)] [] h Q := by
  have hC : cod 0 = c_L_law := rfl
  obtain ⟨sc, t3⟩ := G.scr
  refine x_1 (p' := 286) hC rfl rfl rfl rfl ?_
  refine x_1 (p' := 287) hC rfl rfl rfl rfl ?_
  refine x_1 (p' := 288) hC rfl rfl rfl rfl ?_
  refine x_1 (p' := 289) hC rfl rfl rfl rfl ?_
  refine x_add (p' := 290) hC rfl rfl rfl ⟨by omega, by omega⟩ ?_
  refine x_iald (p' := 291) hC rfl rfl rfl sc.1 (by omega) (by omega) ?_
  rw [sc.2]
  refine x_1 (p' := 292) hC rfl rfl rfl rfl ?_
  refine x_1 (p' := 293) hC rfl rfl rfl rfl ?_
  refine x_1 (p' := 294) hC rfl rfl rfl rfl ?_
  refine x_add (p' := 295) hC rfl rfl rfl ⟨by omega, by omega⟩ ?_
  refine x_iald (p' := 296) hC rfl rfl rfl sc.1 (by omega) (by omega) ?_
  rw [sc.2]
  refine x_1 (p' := 297) hC rfl rfl rfl rfl ?_
  refine x_1 (p' := 298) hC rfl rfl rfl rfl ?_
  refine x_1 (p' := 299) hC rfl rfl rfl rfl ?_
  refine x_add (p' := 300) hC rfl rfl rfl ⟨by omega, by omega⟩ ?_
  refine x_iald (p' := 301) hC rfl rfl rfl sc.1 (by omega) (by omega) ?_
  rw [sc.2]
  refine x_cIV3 (p' := 302) (n := 174) hC rfl rfl rfl rfl rfl t3 ((st_slotAt G hn _ _ _ (inR_toInt _).2).imp (fun v1 h1 q1 => ?_))
  obtain ⟨sc1, ty8, k2⟩ := q1
  refine x_1 (p' := 303) hC rfl rfl rfl rfl ?_
  refine x_1 (p' := 304) hC rfl rfl rfl rfl ?_
  refine x_1 (p' := 305) hC rfl rfl rfl rfl ?_
  refine x_1 (p' := 306) hC rfl rfl rfl rfl ?_
  refine x_add (p' := 307) hC rfl rfl rfl ⟨by omega, by omega⟩ ?_
  refine x_iald (p' := 308) hC rfl rfl rfl sc1.1 (by omega) (by omega) ?_
  rw [sc1.2]
  refine x_1 (p' := 309) hC rfl rfl rfl rfl ?_
  refine x_1 (p' := 310) hC rfl rfl rfl rfl ?_
  refine x_1 (p' := 311) hC rfl rfl rfl rfl ?_
  refine x_add (p' := 312) hC rfl rfl rfl ⟨by omega, by omega⟩ ?_
  refine x_iald (p' := 313) hC rfl rfl rfl sc1.1 (by omega) (by omega) ?_
  rw [sc1.2]
  refine x_1 (p' := 314) hC rfl rfl rfl rfl ?_
  refine x_1 (p' := 315) hC rfl rfl rfl rfl ?_
  refine x_1 (p' := 316) hC rfl rfl rfl rfl ?_
  refine x_add (p' := 317) hC rfl rfl rfl ⟨by omega, by omega⟩ ?_
  refine x_iald (p' := 318) hC rfl rfl rfl sc1.1 (by omega) (by omega) ?_
  rw [sc1.2]
  refine x_cIV3 (p' := 319) (n := 61) hC rfl rfl rfl rfl rfl ty8 (k2.imp (fun v2 h2 q2 => ?_))
  exact x_iceq (p' := 320) hC rfl rfl (fun _ => K h2 q2.2) (fun z => absurd q2.1.symm z)
set_option maxRecDepth 20000 in
set_option maxHeartbeats 2000000 in
theorem lw_outAt {n L0 : Nat} {xs : Nat → Int32} {h : HP} {i : Int} {Q : Option AV → HP → Prop} (G : Glob n L0 xs h) (hn : n + 1 ≤ 512) (hi : 0 ≤ i ∧ i + 6 ≤ L0) (hL : L0 ≤ 3072) (K : ∀ H, Glob (n + 1) L0 xs H → At 16 0 519 [some (.inr (some 2)), some (.inr (some 3)), some (.inr (some 488)), some (.inl i)] [] H Q) : At 16 0 322 [some (.inr (some 2)), some (.inr (some 3)), some (.inr (some 488)), some (.inl i)] [] h Q := by
  have hC : cod 0 = c_L_law := rfl
  obtain ⟨sc, t3⟩ := G.scr
  refine x_1 (p' := 323) hC rfl rfl rfl rfl ?_
  refine x_1 (p' := 324) hC rfl rfl rfl rfl ?_
  refine x_1 (p' := 325) hC rfl rfl rfl rfl ?_
  refine x_1 (p' := 326) hC rfl rfl rfl rfl ?_
  refine x_add (p' := 327) hC rfl rfl rfl ⟨by omega, by omega⟩ ?_
  refine x_iald (p' := 328) hC rfl rfl rfl sc.1 (by omega) (by omega) ?_
  rw [sc.2]
  refine x_1 (p' := 329) hC rfl rfl rfl rfl ?_
  refine x_1 (p' := 330) hC rfl rfl rfl rfl ?_
  refine x_1 (p' := 331) hC rfl rfl rfl rfl ?_
  refine x_add (p' := 332) hC rfl rfl rfl ⟨by omega, by omega⟩ ?_
  refine x_iald (p' := 333) hC rfl rfl rfl sc.1 (by omega) (by omega) ?_
  rw [sc.2]
  refine x_cIV2 (p' := 334) (n := 175) hC rfl rfl rfl rfl rfl t3 ((st_outAt G hn _ _).imp (fun v1 h1 q1 => ?_))
  obtain ⟨sc1, ty8, k2⟩ := q1
  refine x_1 (p' := 335) hC rfl rfl rfl rfl ?_
  refine x_1 (p' := 336) hC rfl rfl rfl rfl ?_
  refine x_1 (p' := 337) hC rfl rfl rfl rfl ?_
  refine x_1 (p' := 338) hC rfl rfl rfl rfl ?_
  refine x_add (p' := 339) hC rfl rfl rfl ⟨by omega, by omega⟩ ?_
  refine x_iald (p' := 340) hC rfl rfl rfl sc1.1 (by omega) (by omega) ?_
  rw [sc1.2]
  refine x_1 (p' := 341) hC rfl rfl rfl rfl ?_
  refine x_1 (p' := 342) hC rfl rfl rfl rfl ?_
  refine x_1 (p' := 343) hC rfl rfl rfl rfl ?_
  refine x_add (p' := 344) hC rfl rfl rfl ⟨by omega, by omega⟩ ?_
  refine x_iald (p' := 345) hC rfl rfl rfl sc1.1 (by omega) (by omega) ?_
  rw [sc1.2]
  refine x_cIV2 (p' := 346) (n := 63) hC rfl rfl rfl rfl rfl ty8 (k2.imp (fun v2 h2 q2 => ?_))
  exact x_iceq (p' := 347) hC rfl rfl (fun _ => K h2 q2.2) (fun z => absurd q2.1.symm z)
set_option maxRecDepth 20000 in
set_option maxHeartbeats 2000000 in
theorem lw_readingAt {n L0 : Nat} {xs : Nat → Int32} {h : HP} {i : Int} {Q : Option AV → HP → Prop} (G : Glob n L0 xs h) (hn : n + 1 ≤ 512) (hi : 0 ≤ i ∧ i + 6 ≤ L0) (hL : L0 ≤ 3072) (K : ∀ H, Glob (n + 1) L0 xs H → At 16 0 519 [some (.inr (some 2)), some (.inr (some 3)), some (.inr (some 488)), some (.inl i)] [] H Q) : At 16 0 349 [some (.inr (some 2)), some (.inr (some 3)), some (.inr (some 488)), some (.inl i)] [] h Q := by
  have hC : cod 0 = c_L_law := rfl
  obtain ⟨sc, t3⟩ := G.scr
  refine x_1 (p' := 350) hC rfl rfl rfl rfl ?_
  refine x_1 (p' := 351) hC rfl rfl rfl rfl ?_
  refine x_1 (p' := 352) hC rfl rfl rfl rfl ?_
  refine x_1 (p' := 353) hC rfl rfl rfl rfl ?_
  refine x_add (p' := 354) hC rfl rfl rfl ⟨by omega, by omega⟩ ?_
  refine x_iald (p' := 355) hC rfl rfl rfl sc.1 (by omega) (by omega) ?_
  rw [sc.2]
  refine x_1 (p' := 356) hC rfl rfl rfl rfl ?_
  refine x_1 (p' := 357) hC rfl rfl rfl rfl ?_
  refine x_1 (p' := 358) hC rfl rfl rfl rfl ?_
  refine x_add (p' := 359) hC rfl rfl rfl ⟨by omega, by omega⟩ ?_
  refine x_iald (p' := 360) hC rfl rfl rfl sc.1 (by omega) (by omega) ?_
  rw [sc.2]
  refine x_1 (p' := 361) hC rfl rfl rfl rfl ?_
  refine x_1 (p' := 362) hC rfl rfl rfl rfl ?_
  refine x_1 (p' := 363) hC rfl rfl rfl rfl ?_
  refine x_add (p' := 364) hC rfl rfl rfl ⟨by omega, by omega⟩ ?_
  refine x_iald (p' := 365) hC rfl rfl rfl sc.1 (by omega) (by omega) ?_
  rw [sc.2]
  refine x_cIV3 (p' := 366) (n := 176) hC rfl rfl rfl rfl rfl t3 ((st_readingAt G hn _ _ _).imp (fun v1 h1 q1 => ?_))
  obtain ⟨sc1, ty8, k2⟩ := q1
  refine x_1 (p' := 367) hC rfl rfl rfl rfl ?_
  refine x_1 (p' := 368) hC rfl rfl rfl rfl ?_
  refine x_1 (p' := 369) hC rfl rfl rfl rfl ?_
  refine x_1 (p' := 370) hC rfl rfl rfl rfl ?_
  refine x_add (p' := 371) hC rfl rfl rfl ⟨by omega, by omega⟩ ?_
  refine x_iald (p' := 372) hC rfl rfl rfl sc1.1 (by omega) (by omega) ?_
  rw [sc1.2]
  refine x_1 (p' := 373) hC rfl rfl rfl rfl ?_
  refine x_1 (p' := 374) hC rfl rfl rfl rfl ?_
  refine x_1 (p' := 375) hC rfl rfl rfl rfl ?_
  refine x_add (p' := 376) hC rfl rfl rfl ⟨by omega, by omega⟩ ?_
  refine x_iald (p' := 377) hC rfl rfl rfl sc1.1 (by omega) (by omega) ?_
  rw [sc1.2]
  refine x_1 (p' := 378) hC rfl rfl rfl rfl ?_
  refine x_1 (p' := 379) hC rfl rfl rfl rfl ?_
  refine x_1 (p' := 380) hC rfl rfl rfl rfl ?_
  refine x_add (p' := 381) hC rfl rfl rfl ⟨by omega, by omega⟩ ?_
  refine x_iald (p' := 382) hC rfl rfl rfl sc1.1 (by omega) (by omega) ?_
  rw [sc1.2]
  refine x_cIV3 (p' := 383) (n := 64) hC rfl rfl rfl rfl rfl ty8 (k2.imp (fun v2 h2 q2 => ?_))
  exact x_iceq (p' := 384) hC rfl rfl (fun _ => K h2 q2.2) (fun z => absurd q2.1.symm z)
set_option maxRecDepth 20000 in
set_option maxHeartbeats 2000000 in
theorem lw_heldBy {n L0 : Nat} {xs : Nat → Int32} {h : HP} {i : Int} {Q : Option AV → HP → Prop} (G : Glob n L0 xs h) (hn : n + 1 ≤ 512) (hi : 0 ≤ i ∧ i + 6 ≤ L0) (hL : L0 ≤ 3072) (K : ∀ H, Glob (n + 1) L0 xs H → At 16 0 519 [some (.inr (some 2)), some (.inr (some 3)), some (.inr (some 488)), some (.inl i)] [] H Q) : At 16 0 386 [some (.inr (some 2)), some (.inr (some 3)), some (.inr (some 488)), some (.inl i)] [] h Q := by
  have hC : cod 0 = c_L_law := rfl
  obtain ⟨sc, t3⟩ := G.scr
  refine x_1 (p' := 387) hC rfl rfl rfl rfl ?_
  refine x_1 (p' := 388) hC rfl rfl rfl rfl ?_
  refine x_1 (p' := 389) hC rfl rfl rfl rfl ?_
  refine x_1 (p' := 390) hC rfl rfl rfl rfl ?_
  refine x_add (p' := 391) hC rfl rfl rfl ⟨by omega, by omega⟩ ?_
  refine x_iald (p' := 392) hC rfl rfl rfl sc.1 (by omega) (by omega) ?_
  rw [sc.2]
  refine x_1 (p' := 393) hC rfl rfl rfl rfl ?_
  refine x_1 (p' := 394) hC rfl rfl rfl rfl ?_
  refine x_1 (p' := 395) hC rfl rfl rfl rfl ?_
  refine x_add (p' := 396) hC rfl rfl rfl ⟨by omega, by omega⟩ ?_
  refine x_iald (p' := 397) hC rfl rfl rfl sc.1 (by omega) (by omega) ?_
  rw [sc.2]
  refine x_1 (p' := 398) hC rfl rfl rfl rfl ?_
  refine x_1 (p' := 399) hC rfl rfl rfl rfl ?_
  refine x_1 (p' := 400) hC rfl rfl rfl rfl ?_
  refine x_add (p' := 401) hC rfl rfl rfl ⟨by omega, by omega⟩ ?_
  refine x_iald (p' := 402) hC rfl rfl rfl sc.1 (by omega) (by omega) ?_
  rw [sc.2]
  refine x_cIV3 (p' := 403) (n := 177) hC rfl rfl rfl rfl rfl t3 ((st_heldBy G hn _ _ _).imp (fun v1 h1 q1 => ?_))
  obtain ⟨sc1, ty8, k2⟩ := q1
  refine x_1 (p' := 404) hC rfl rfl rfl rfl ?_
  refine x_1 (p' := 405) hC rfl rfl rfl rfl ?_
  refine x_1 (p' := 406) hC rfl rfl rfl rfl ?_
  refine x_1 (p' := 407) hC rfl rfl rfl rfl ?_
  refine x_add (p' := 408) hC rfl rfl rfl ⟨by omega, by omega⟩ ?_
  refine x_iald (p' := 409) hC rfl rfl rfl sc1.1 (by omega) (by omega) ?_
  rw [sc1.2]
  refine x_1 (p' := 410) hC rfl rfl rfl rfl ?_
  refine x_1 (p' := 411) hC rfl rfl rfl rfl ?_
  refine x_1 (p' := 412) hC rfl rfl rfl rfl ?_
  refine x_add (p' := 413) hC rfl rfl rfl ⟨by omega, by omega⟩ ?_
  refine x_iald (p' := 414) hC rfl rfl rfl sc1.1 (by omega) (by omega) ?_
  rw [sc1.2]
  refine x_1 (p' := 415) hC rfl rfl rfl rfl ?_
  refine x_1 (p' := 416) hC rfl rfl rfl rfl ?_
  refine x_1 (p' := 417) hC rfl rfl rfl rfl ?_
  refine x_add (p' := 418) hC rfl rfl rfl ⟨by omega, by omega⟩ ?_
  refine x_iald (p' := 419) hC rfl rfl rfl sc1.1 (by omega) (by omega) ?_
  rw [sc1.2]
  refine x_cIV3 (p' := 420) (n := 65) hC rfl rfl rfl rfl rfl ty8 (k2.imp (fun v2 h2 q2 => ?_))
  exact x_iceq (p' := 421) hC rfl rfl (fun _ => K h2 q2.2) (fun z => absurd q2.1.symm z)
set_option maxRecDepth 20000 in
set_option maxHeartbeats 2000000 in
theorem lw_nextOut {n L0 : Nat} {xs : Nat → Int32} {h : HP} {i : Int} {Q : Option AV → HP → Prop} (G : Glob n L0 xs h) (hn : n + 1 ≤ 512) (hi : 0 ≤ i ∧ i + 6 ≤ L0) (hL : L0 ≤ 3072) (K : ∀ H, Glob (n + 1) L0 xs H → At 16 0 519 [some (.inr (some 2)), some (.inr (some 3)), some (.inr (some 488)), some (.inl i)] [] H Q) : At 16 0 423 [some (.inr (some 2)), some (.inr (some 3)), some (.inr (some 488)), some (.inl i)] [] h Q := by
  have hC : cod 0 = c_L_law := rfl
  obtain ⟨sc, t3⟩ := G.scr
  refine x_1 (p' := 424) hC rfl rfl rfl rfl ?_
  refine x_cIV0 (p' := 425) (n := 178) hC rfl rfl rfl rfl rfl t3 ((st_nextOut G hn).imp (fun v1 h1 q1 => ?_))
  obtain ⟨sc1, ty8, k2⟩ := q1
  refine x_1 (p' := 426) hC rfl rfl rfl rfl ?_
  refine x_cIV0 (p' := 427) (n := 66) hC rfl rfl rfl rfl rfl ty8 (k2.imp (fun v2 h2 q2 => ?_))
  exact x_iceq (p' := 428) hC rfl rfl (fun _ => K h2 q2.2) (fun z => absurd q2.1.symm z)
set_option maxRecDepth 20000 in
set_option maxHeartbeats 2000000 in
theorem lw_foresee {n L0 : Nat} {xs : Nat → Int32} {h : HP} {i : Int} {Q : Option AV → HP → Prop} (G : Glob n L0 xs h) (hn : n + 1 ≤ 512) (hi : 0 ≤ i ∧ i + 6 ≤ L0) (hL : L0 ≤ 3072) (K : ∀ H, Glob (n + 1) L0 xs H → At 16 0 519 [some (.inr (some 2)), some (.inr (some 3)), some (.inr (some 488)), some (.inl i)] [] H Q) : At 16 0 430 [some (.inr (some 2)), some (.inr (some 3)), some (.inr (some 488)), some (.inl i)] [] h Q := by
  have hC : cod 0 = c_L_law := rfl
  obtain ⟨sc, t3⟩ := G.scr
  refine x_1 (p' := 431) hC rfl rfl rfl rfl ?_
  refine x_1 (p' := 432) hC rfl rfl rfl rfl ?_
  refine x_1 (p' := 433) hC rfl rfl rfl rfl ?_
  refine x_1 (p' := 434) hC rfl rfl rfl rfl ?_
  refine x_add (p' := 435) hC rfl rfl rfl ⟨by omega, by omega⟩ ?_
  refine x_iald (p' := 436) hC rfl rfl rfl sc.1 (by omega) (by omega) ?_
  rw [sc.2]
  refine x_cIV1 (p' := 437) (n := 179) hC rfl rfl rfl rfl rfl t3 ((st_foresee G hn _).imp (fun v1 h1 q1 => ?_))
  obtain ⟨sc1, ty8, k2⟩ := q1
  refine x_1 (p' := 438) hC rfl rfl rfl rfl ?_
  refine x_1 (p' := 439) hC rfl rfl rfl rfl ?_
  refine x_1 (p' := 440) hC rfl rfl rfl rfl ?_
  refine x_1 (p' := 441) hC rfl rfl rfl rfl ?_
  refine x_add (p' := 442) hC rfl rfl rfl ⟨by omega, by omega⟩ ?_
  refine x_iald (p' := 443) hC rfl rfl rfl sc1.1 (by omega) (by omega) ?_
  rw [sc1.2]
  refine x_cIV1 (p' := 444) (n := 67) hC rfl rfl rfl rfl rfl ty8 (k2.imp (fun v2 h2 q2 => ?_))
  exact x_iceq (p' := 445) hC rfl rfl (fun _ => K h2 q2.2) (fun z => absurd q2.1.symm z)
set_option maxRecDepth 20000 in
set_option maxHeartbeats 2000000 in
theorem lw_count {n L0 : Nat} {xs : Nat → Int32} {h : HP} {i : Int} {Q : Option AV → HP → Prop} (G : Glob n L0 xs h) (hn : n + 1 ≤ 512) (hi : 0 ≤ i ∧ i + 6 ≤ L0) (hL : L0 ≤ 3072) (K : ∀ H, Glob (n + 1) L0 xs H → At 16 0 519 [some (.inr (some 2)), some (.inr (some 3)), some (.inr (some 488)), some (.inl i)] [] H Q) : At 16 0 447 [some (.inr (some 2)), some (.inr (some 3)), some (.inr (some 488)), some (.inl i)] [] h Q := by
  have hC : cod 0 = c_L_law := rfl
  obtain ⟨sc, t3⟩ := G.scr
  refine x_1 (p' := 448) hC rfl rfl rfl rfl ?_
  refine x_1 (p' := 449) hC rfl rfl rfl rfl ?_
  refine x_1 (p' := 450) hC rfl rfl rfl rfl ?_
  refine x_1 (p' := 451) hC rfl rfl rfl rfl ?_
  refine x_add (p' := 452) hC rfl rfl rfl ⟨by omega, by omega⟩ ?_
  refine x_iald (p' := 453) hC rfl rfl rfl sc.1 (by omega) (by omega) ?_
  rw [sc.2]
  refine x_cIV1 (p' := 454) (n := 180) hC rfl rfl rfl rfl rfl t3 ((st_count G hn _).imp (fun v1 h1 q1 => ?_))
  obtain ⟨sc1, ty8, k2⟩ := q1
  refine x_1 (p' := 455) hC rfl rfl rfl rfl ?_
  refine x_1 (p' := 456) hC rfl rfl rfl rfl ?_
  refine x_1 (p' := 457) hC rfl rfl rfl rfl ?_
  refine x_1 (p' := 458) hC rfl rfl rfl rfl ?_
  refine x_add (p' := 459) hC rfl rfl rfl ⟨by omega, by omega⟩ ?_
  refine x_iald (p' := 460) hC rfl rfl rfl sc1.1 (by omega) (by omega) ?_
  rw [sc1.2]
  refine x_cIV1 (p' := 461) (n := 69) hC rfl rfl rfl rfl rfl ty8 (k2.imp (fun v2 h2 q2 => ?_))
  exact x_iceq (p' := 462) hC rfl rfl (fun _ => K h2 q2.2) (fun z => absurd q2.1.symm z)
set_option maxRecDepth 20000 in
set_option maxHeartbeats 2000000 in
theorem lw_undo {n L0 : Nat} {xs : Nat → Int32} {h : HP} {i : Int} {Q : Option AV → HP → Prop} (G : Glob n L0 xs h) (hn : n + 1 ≤ 512) (hi : 0 ≤ i ∧ i + 6 ≤ L0) (hL : L0 ≤ 3072) (K : ∀ H, Glob (n + 1) L0 xs H → At 16 0 519 [some (.inr (some 2)), some (.inr (some 3)), some (.inr (some 488)), some (.inl i)] [] H Q) : At 16 0 464 [some (.inr (some 2)), some (.inr (some 3)), some (.inr (some 488)), some (.inl i)] [] h Q := by
  have hC : cod 0 = c_L_law := rfl
  obtain ⟨sc, t3⟩ := G.scr
  refine x_1 (p' := 465) hC rfl rfl rfl rfl ?_
  refine x_cIV0 (p' := 466) (n := 181) hC rfl rfl rfl rfl rfl t3 ((st_undo G hn).imp (fun v1 h1 q1 => ?_))
  obtain ⟨sc1, ty8, k2⟩ := q1
  refine x_1 (p' := 467) hC rfl rfl rfl rfl ?_
  refine x_cIV0 (p' := 468) (n := 70) hC rfl rfl rfl rfl rfl ty8 (k2.imp (fun v2 h2 q2 => ?_))
  exact x_iceq (p' := 469) hC rfl rfl (fun _ => K h2 q2.2) (fun z => absurd q2.1.symm z)
set_option maxRecDepth 20000 in
set_option maxHeartbeats 2000000 in
theorem lw_type {n L0 : Nat} {xs : Nat → Int32} {h : HP} {i : Int} {Q : Option AV → HP → Prop} (G : Glob n L0 xs h) (hn : n + 1 ≤ 512) (hi : 0 ≤ i ∧ i + 6 ≤ L0) (hL : L0 ≤ 3072) (K : ∀ H, Glob (n + 1) L0 xs H → At 16 0 519 [some (.inr (some 2)), some (.inr (some 3)), some (.inr (some 488)), some (.inl i)] [] H Q) : At 16 0 471 [some (.inr (some 2)), some (.inr (some 3)), some (.inr (some 488)), some (.inl i)] [] h Q := by
  have hC : cod 0 = c_L_law := rfl
  obtain ⟨sc, t3⟩ := G.scr
  refine x_1 (p' := 472) hC rfl rfl rfl rfl ?_
  refine x_1 (p' := 473) hC rfl rfl rfl rfl ?_
  refine x_1 (p' := 474) hC rfl rfl rfl rfl ?_
  refine x_1 (p' := 475) hC rfl rfl rfl rfl ?_
  refine x_add (p' := 476) hC rfl rfl rfl ⟨by omega, by omega⟩ ?_
  refine x_iald (p' := 477) hC rfl rfl rfl sc.1 (by omega) (by omega) ?_
  rw [sc.2]
  refine x_cIV1 (p' := 478) (n := 182) hC rfl rfl rfl rfl rfl t3 ((st_type G hn _).imp (fun v1 h1 q1 => ?_))
  obtain ⟨sc1, ty8, k2⟩ := q1
  refine x_1 (p' := 479) hC rfl rfl rfl rfl ?_
  refine x_1 (p' := 480) hC rfl rfl rfl rfl ?_
  refine x_1 (p' := 481) hC rfl rfl rfl rfl ?_
  refine x_1 (p' := 482) hC rfl rfl rfl rfl ?_
  refine x_add (p' := 483) hC rfl rfl rfl ⟨by omega, by omega⟩ ?_
  refine x_iald (p' := 484) hC rfl rfl rfl sc1.1 (by omega) (by omega) ?_
  rw [sc1.2]
  refine x_cIV1 (p' := 485) (n := 71) hC rfl rfl rfl rfl rfl ty8 (k2.imp (fun v2 h2 q2 => ?_))
  exact x_iceq (p' := 486) hC rfl rfl (fun _ => K h2 q2.2) (fun z => absurd q2.1.symm z)
set_option maxRecDepth 20000 in
set_option maxHeartbeats 2000000 in
theorem lw_clearText {n L0 : Nat} {xs : Nat → Int32} {h : HP} {i : Int} {Q : Option AV → HP → Prop} (G : Glob n L0 xs h) (hn : n + 1 ≤ 512) (hi : 0 ≤ i ∧ i + 6 ≤ L0) (hL : L0 ≤ 3072) (K : ∀ H, Glob (n + 1) L0 xs H → At 16 0 519 [some (.inr (some 2)), some (.inr (some 3)), some (.inr (some 488)), some (.inl i)] [] H Q) : At 16 0 488 [some (.inr (some 2)), some (.inr (some 3)), some (.inr (some 488)), some (.inl i)] [] h Q := by
  have hC : cod 0 = c_L_law := rfl
  obtain ⟨sc, t3⟩ := G.scr
  refine x_1 (p' := 489) hC rfl rfl rfl rfl ?_
  refine x_cIV0 (p' := 490) (n := 183) hC rfl rfl rfl rfl rfl t3 ((st_clearText G hn).imp (fun v1 h1 q1 => ?_))
  obtain ⟨sc1, ty8, k2⟩ := q1
  refine x_1 (p' := 491) hC rfl rfl rfl rfl ?_
  refine x_cIV0 (p' := 492) (n := 72) hC rfl rfl rfl rfl rfl ty8 (k2.imp (fun v2 h2 q2 => ?_))
  exact x_iceq (p' := 493) hC rfl rfl (fun _ => K h2 q2.2) (fun z => absurd q2.1.symm z)
set_option maxRecDepth 20000 in
set_option maxHeartbeats 2000000 in
theorem lw_fault {n L0 : Nat} {xs : Nat → Int32} {h : HP} {i : Int} {Q : Option AV → HP → Prop} (G : Glob n L0 xs h) (hn : n + 1 ≤ 512) (hi : 0 ≤ i ∧ i + 6 ≤ L0) (hL : L0 ≤ 3072) (K : ∀ H, Glob (n + 1) L0 xs H → At 16 0 519 [some (.inr (some 2)), some (.inr (some 3)), some (.inr (some 488)), some (.inl i)] [] H Q) : At 16 0 495 [some (.inr (some 2)), some (.inr (some 3)), some (.inr (some 488)), some (.inl i)] [] h Q := by
  have hC : cod 0 = c_L_law := rfl
  obtain ⟨sc, t3⟩ := G.scr
  refine x_1 (p' := 496) hC rfl rfl rfl rfl ?_
  refine x_1 (p' := 497) hC rfl rfl rfl rfl ?_
  refine x_1 (p' := 498) hC rfl rfl rfl rfl ?_
  refine x_1 (p' := 499) hC rfl rfl rfl rfl ?_
  refine x_add (p' := 500) hC rfl rfl rfl ⟨by omega, by omega⟩ ?_
  refine x_iald (p' := 501) hC rfl rfl rfl sc.1 (by omega) (by omega) ?_
  rw [sc.2]
  refine x_cIV1 (p' := 502) (n := 184) hC rfl rfl rfl rfl rfl t3 ((st_fault G hn _).imp (fun v1 h1 q1 => ?_))
  obtain ⟨sc1, ty8, k2⟩ := q1
  refine x_1 (p' := 503) hC rfl rfl rfl rfl ?_
  refine x_1 (p' := 504) hC rfl rfl rfl rfl ?_
  refine x_1 (p' := 505) hC rfl rfl rfl rfl ?_
  refine x_1 (p' := 506) hC rfl rfl rfl rfl ?_
  refine x_add (p' := 507) hC rfl rfl rfl ⟨by omega, by omega⟩ ?_
  refine x_iald (p' := 508) hC rfl rfl rfl sc1.1 (by omega) (by omega) ?_
  rw [sc1.2]
  refine x_cIV1 (p' := 509) (n := 79) hC rfl rfl rfl rfl rfl ty8 (k2.imp (fun v2 h2 q2 => ?_))
  exact x_iceq (p' := 510) hC rfl rfl (fun _ => K h2 q2.2) (fun z => absurd q2.1.symm z)
set_option maxRecDepth 20000 in
set_option maxHeartbeats 2000000 in
theorem lw_play {n L0 : Nat} {xs : Nat → Int32} {h : HP} {i : Int} {Q : Option AV → HP → Prop} (G : Glob n L0 xs h) (hn : n + 1 ≤ 512) (hi : 0 ≤ i ∧ i + 6 ≤ L0) (hL : L0 ≤ 3072) (K : ∀ H, Glob (n + 1) L0 xs H → At 16 0 519 [some (.inr (some 2)), some (.inr (some 3)), some (.inr (some 488)), some (.inl i)] [] H Q) : At 16 0 512 [some (.inr (some 2)), some (.inr (some 3)), some (.inr (some 488)), some (.inl i)] [] h Q := by
  have hC : cod 0 = c_L_law := rfl
  obtain ⟨sc, t3⟩ := G.scr
  refine x_1 (p' := 513) hC rfl rfl rfl rfl ?_
  refine x_cIV0 (p' := 514) (n := 185) hC rfl rfl rfl rfl rfl t3 ((st_play G hn).imp (fun v1 h1 q1 => ?_))
  obtain ⟨sc1, ty8, k2⟩ := q1
  refine x_1 (p' := 515) hC rfl rfl rfl rfl ?_
  refine x_cIV0 (p' := 516) (n := 80) hC rfl rfl rfl rfl rfl ty8 (k2.imp (fun v2 h2 q2 => ?_))
  exact x_iceq (p' := 517) hC rfl rfl (fun _ => K h2 q2.2) (fun z => absurd q2.1.symm z)
set_option maxRecDepth 20000 in
set_option maxHeartbeats 4000000 in
theorem lw_loop {L0 : Nat} {xs : Nat → Int32} (hL : L0 ≤ 3072) : ∀ (k n : Nat) (h : HP) (i : Int), L0 < 6 * n + 6 * k → 6 * n ≤ L0 + 6 → i = 6 * (n : Int) → Glob n L0 xs h → At 16 0 10 [some (.inr (some 2)), some (.inr (some 3)), some (.inr (some 488)), some (.inl i)] [] h (fun v h' => v = some (.inl 1) ∧ hZ h' ≤ 600003 ∧ hU h' ≤ 7302250)
  | k, n, h, i, hk, hm, hin, G => by
    have hC : cod 0 = c_L_law := rfl
    obtain ⟨sc, t3⟩ := G.scr
    refine x_1 (p' := 11) hC rfl rfl rfl rfl ?_
    refine x_1 (p' := 12) hC rfl rfl rfl rfl ?_
    refine x_len (p' := 13) hC rfl rfl rfl sc.1 rfl (by omega) ?_
    refine x_1 (p' := 14) hC rfl rfl rfl rfl ?_
    refine x_sub (p' := 15) hC rfl rfl rfl ⟨by omega, by omega⟩ ?_
    refine x_icgt (p' := 16) hC rfl rfl (fun hgt => ?_) (fun hle => ?_)
    · refine x_1 (p' := 522) hC rfl rfl rfl rfl ?_
      exact x_zret hC rfl rfl rfl (by decide) ⟨rfl, G.room⟩
    · have hn : n + 1 ≤ 512 := by omega
      have hi : 0 ≤ i ∧ i + 6 ≤ L0 := ⟨by omega, by omega⟩
      have KK : ∀ H, Glob (n + 1) L0 xs H → At 16 0 519 [some (.inr (some 2)), some (.inr (some 3)), some (.inr (some 488)), some (.inl i)] [] H (fun v h' => v = some (.inl 1) ∧ hZ h' ≤ 600003 ∧ hU h' ≤ 7302250) := fun H GH => by
        refine x_inc3 (p' := 520) hC rfl rfl ⟨by omega, by omega⟩ ?_
        refine x_1 (p' := 10) hC rfl rfl rfl rfl ?_
        match k, hk with
        | 0, hk => exact absurd hk (by omega)
        | k + 1, hk => exact lw_loop hL k (n + 1) H (i + 6) (by omega) (by omega) (by omega) GH
      refine x_1 (p' := 17) hC rfl rfl rfl rfl ?_
      refine x_1 (p' := 18) hC rfl rfl rfl rfl ?_
      refine x_iald (p' := 19) hC rfl rfl rfl sc.1 (by omega) (by omega) ?_
      rw [sc.2]
      refine x_1 (p' := 20) hC rfl rfl rfl rfl ?_
      refine x_1 (p' := 21) hC rfl rfl rfl rfl ?_
      generalize oAnd ((xs i.toNat).toInt) 31 = o
      rcases (show (o < 0 ∨ 20 < o) ∨ o = 0 ∨ o = 1 ∨ o = 2 ∨ o = 3 ∨ o = 4 ∨ o = 5 ∨ o = 6 ∨ o = 7 ∨ o = 8 ∨ o = 9 ∨ o = 10 ∨ o = 11 ∨ o = 12 ∨ o = 13 ∨ o = 14 ∨ o = 15 ∨ o = 16 ∨ o = 17 ∨ o = 18 ∨ o = 19 ∨ o = 20 by omega) with htw | htw | htw | htw | htw | htw | htw | htw | htw | htw | htw | htw | htw | htw | htw | htw | htw | htw | htw | htw | htw | htw
      · exact x_tswt (t := 519) rfl 0 (if_pos htw) rfl (KK h (G.skip hn))
      · exact x_tswt (t := 22) rfl 1 ((if_neg (by omega)).trans (by omega)) rfl (lw_hub G hn hi hL KK)
      · exact x_tswt (t := 49) rfl 2 ((if_neg (by omega)).trans (by omega)) rfl (lw_unit G hn hi hL KK)
      · exact x_tswt (t := 76) rfl 3 ((if_neg (by omega)).trans (by omega)) rfl (lw_takeOff G hn hi hL KK)
      · exact x_tswt (t := 93) rfl 4 ((if_neg (by omega)).trans (by omega)) rfl (lw_set G hn hi hL KK)
      · exact x_tswt (t := 130) rfl 5 ((if_neg (by omega)).trans (by omega)) rfl (lw_hubOf G hn hi hL KK)
      · exact x_tswt (t := 157) rfl 6 ((if_neg (by omega)).trans (by omega)) rfl (lw_unitOf G hn hi hL KK)
      · exact x_tswt (t := 184) rfl 7 ((if_neg (by omega)).trans (by omega)) rfl (lw_unitAt G hn hi hL KK)
      · exact x_tswt (t := 211) rfl 8 ((if_neg (by omega)).trans (by omega)) rfl (lw_send G hn hi hL KK)
      · exact x_tswt (t := 268) rfl 9 ((if_neg (by omega)).trans (by omega)) rfl (lw_pass G hn hi hL KK)
      · exact x_tswt (t := 285) rfl 10 ((if_neg (by omega)).trans (by omega)) rfl (lw_slotAt G hn hi hL KK)
      · exact x_tswt (t := 322) rfl 11 ((if_neg (by omega)).trans (by omega)) rfl (lw_outAt G hn hi hL KK)
      · exact x_tswt (t := 349) rfl 12 ((if_neg (by omega)).trans (by omega)) rfl (lw_readingAt G hn hi hL KK)
      · exact x_tswt (t := 386) rfl 13 ((if_neg (by omega)).trans (by omega)) rfl (lw_heldBy G hn hi hL KK)
      · exact x_tswt (t := 423) rfl 14 ((if_neg (by omega)).trans (by omega)) rfl (lw_nextOut G hn hi hL KK)
      · exact x_tswt (t := 430) rfl 15 ((if_neg (by omega)).trans (by omega)) rfl (lw_foresee G hn hi hL KK)
      · exact x_tswt (t := 447) rfl 16 ((if_neg (by omega)).trans (by omega)) rfl (lw_count G hn hi hL KK)
      · exact x_tswt (t := 464) rfl 17 ((if_neg (by omega)).trans (by omega)) rfl (lw_undo G hn hi hL KK)
      · exact x_tswt (t := 471) rfl 18 ((if_neg (by omega)).trans (by omega)) rfl (lw_type G hn hi hL KK)
      · exact x_tswt (t := 488) rfl 19 ((if_neg (by omega)).trans (by omega)) rfl (lw_clearText G hn hi hL KK)
      · exact x_tswt (t := 495) rfl 20 ((if_neg (by omega)).trans (by omega)) rfl (lw_fault G hn hi hL KK)
      · exact x_tswt (t := 512) rfl 21 ((if_neg (by omega)).trans (by omega)) rfl (lw_play G hn hi hL KK)
/-- every run of the law ends with 1, in its room -/
theorem pure_claim : PureClaim := fun L0 xs hL => law_init (fun H G => by
  have hC : cod 0 = c_L_law := rfl
  refine x_1 (p' := 9) hC rfl rfl rfl rfl ?_
  refine x_stI3 (p' := 10) hC rfl rfl rfl ?_
  exact lw_loop hL (L0 + 1) 0 H 0 (by omega) (by omega) (by omega) G)
