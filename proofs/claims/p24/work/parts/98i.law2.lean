/-! THE LAW: its walk, the end -/
set_option maxRecDepth 20000 in
set_option maxHeartbeats 2000000 in
theorem law_end {L : Nat} {xs : Nat → Int32} {n P : Int} (hn : n ≤ 50) {h : HP} {S : Nat → Int → Int} {R : Nat → List FV} (W : RW L xs False 0 0 h S R) (hI : IvvN n S R) (ht : cT S 6 ≤ 300) {z4 z5 z6 z7 z8 : Option AV} : At 10 0 265 [some (.inr (some 2)), some (.inr (some 3)), some (.inl P), some (.inl 1), z4, z5, z6, z7, z8] [] h (fun v h' => v = some (.inl 1) ∧ hZ h' ≤ 600003 ∧ hU h' ≤ 7302250) := by
  have hC : cod 0 = c_L_law := rfl
  have t6 := hI.1.2.1
  refine x_1 (p' := 266) hC rfl rfl rfl rfl ?_
  refine x_1 (p' := 267) hC rfl rfl rfl rfl ?_
  refine x_cIV1 (p' := 268) (n := 180) hC rfl rfl rfl rfl rfl (W.ty) ?_
  refine rw_count W hI.1.1.ci (by decide) ?_
  rw [show cTot S 4 = cT S 7 from rfl]
  refine x_stI4 (p' := 269) hC rfl rfl rfl ?_
  refine x_1 (p' := 270) hC rfl rfl rfl rfl ?_
  refine x_1 (p' := 271) hC rfl rfl rfl rfl ?_
  refine x_cIV1 (p' := 272) (n := 180) hC rfl rfl rfl rfl rfl (W.ty) ?_
  refine rw_count W hI.1.1.ci (by decide) ?_
  rw [show cTot S 2 = cT S 6 from rfl]
  refine x_stI5 (p' := 273) hC rfl rfl rfl ?_
  refine x_1 (p' := 274) hC rfl rfl rfl rfl ?_
  refine x_ifeq (p' := 275) hC rfl rfl (fun c274 => ?_) (fun c274 => ?_)
  · exact absurd c274 (by decide)
  · refine x_1 (p' := 276) hC rfl rfl rfl rfl ?_
    refine x_1 (p' := 277) hC rfl rfl rfl rfl ?_
    refine x_cIV1 (p' := 278) (n := 173) hC rfl rfl rfl rfl rfl (W.ty) ?_
    refine rw_pass W hI (by omega) (m := 60) (by decide) (by omega) (fun h S2 R2 W pt => ?_)
    obtain ⟨hI2, p6, p7, pr⟩ := pt
    have pr := pr (by decide)
    refine x_1 (p' := 279) hC rfl rfl rfl rfl ?_
    refine x_1 (p' := 280) hC rfl rfl rfl rfl ?_
    refine x_add (p' := 281) hC rfl rfl rfl (⟨by omega, by omega⟩) ?_
    refine x_icne (p' := 282) hC rfl rfl (fun c281 => ?_) (fun c281 => ?_)
    · exact absurd rfl c281
    · refine x_1 (p' := 283) hC rfl rfl rfl rfl ?_
      refine x_cIS1 (p' := 284) (n := 5) hC rfl rfl rfl rfl rfl ?_
      refine sp_L_holds W hI2 (by omega) (fun _ => pr) (fun h S3 W x => ?_)
      have hI := hI2.sqq x.q
      have q7 : cT S3 7 = cT S2 7 := by rw [x.cT]
      refine x_ifeq (p' := 285) hC rfl rfl (fun c284 => ?_) (fun c284 => ?_)
      · exact absurd c284 (by decide)
      · refine x_1 (p' := 286) hC rfl rfl rfl rfl ?_
        refine x_1 (p' := 287) hC rfl rfl rfl rfl ?_
        refine x_cIV1 (p' := 288) (n := 180) hC rfl rfl rfl rfl rfl (W.ty) ?_
        refine rw_count W hI.1.1.ci (by decide) ?_
        rw [show cTot S3 4 = cT S3 7 from rfl]
        refine x_1 (p' := 289) hC rfl rfl rfl rfl ?_
        refine x_iclt (p' := 290) hC rfl rfl (fun c289 => ?_) (fun c289 => ?_)
        · exact absurd c289 (by omega)
        · refine x_1 (p' := 291) hC rfl rfl rfl rfl ?_
          refine x_1 (p' := 293) hC rfl rfl rfl rfl ?_
          refine x_stI3 (p' := 294) hC rfl rfl rfl ?_
          refine x_1 (p' := 295) hC rfl rfl rfl rfl ?_
          refine x_ifeq (p' := 296) hC rfl rfl (fun c => absurd c (by decide)) (fun _ => ?_)
          refine x_1 (p' := 297) hC rfl rfl rfl rfl ?_
          refine x_cIV0 (p' := 298) (n := 181) hC rfl rfl rfl rfl rfl (W.ty) ?_
          refine rw_undo W (fun x h S4 R4 x0 W u6 u7 hc => ?_)
          refine x_iflt (p' := 299) hC rfl rfl (fun c298 => ?_) (fun c298 => ?_)
          · exact absurd c298 (by omega)
          · refine x_1 (p' := 300) hC rfl rfl rfl rfl ?_
            refine x_1 (p' := 301) hC rfl rfl rfl rfl ?_
            refine x_cIV1 (p' := 302) (n := 180) hC rfl rfl rfl rfl rfl (W.ty) ?_
            refine rw_count W hc (by decide) ?_
            rw [show cTot S4 2 = cT S4 6 from rfl, u6]
            refine x_1 (p' := 303) hC rfl rfl rfl rfl ?_
            refine x_icne (p' := 304) hC rfl rfl (fun c303 => ?_) (fun c303 => ?_)
            · exact absurd rfl c303
            · refine x_1 (p' := 305) hC rfl rfl rfl rfl ?_
              refine x_1 (p' := 306) hC rfl rfl rfl rfl ?_
              refine x_cIV1 (p' := 307) (n := 180) hC rfl rfl rfl rfl rfl (W.ty) ?_
              refine rw_count W hc (by decide) ?_
              rw [show cTot S4 4 = cT S4 7 from rfl, u7]
              refine x_1 (p' := 308) hC rfl rfl rfl rfl ?_
              refine x_icne (p' := 309) hC rfl rfl (fun c308 => ?_) (fun c308 => ?_)
              · exact absurd rfl c308
              · refine x_1 (p' := 310) hC rfl rfl rfl rfl ?_
                refine x_1 (p' := 312) hC rfl rfl rfl rfl ?_
                refine x_zret hC rfl rfl rfl (by decide) ⟨rfl, W.room⟩
set_option maxRecDepth 20000 in
theorem lp_law {L : Nat} {xs : Nat → Int32} (hL : L ≤ 260) {P : Int} (k : Nat) : ∀ (i : Int) (h : HP) (S : Nat → Int → Int) (R : Nat → List FV) (z5 : Option AV) (z6 : Option AV) (z7 : Option AV) (z8 : Option AV), (36 - i).toNat < k → (RW L xs False 0 0 h S R) → (IvvN i S R) → (0 ≤ i ∧ i ≤ 36) → (cT S 6 ≤ 6 * i) → At (10) 0 178 [some (.inr (some 2)), some (.inr (some 3)), some (.inl P), some (.inl 1), some (.inl i), z5, z6, z7, z8] [] h (fun v h' => v = some (.inl 1) ∧ hZ h' ≤ 600003 ∧ hU h' ≤ 7302250) := by
  have hC : cod 0 = c_L_law := rfl
  induction k with
  | zero =>
    intro i h S R z5 z6 z7 z8 hk
    exact absurd hk (Nat.not_lt_zero _)
  | succ k ih =>
    intro i h S R z5 z6 z7 z8 hk hI0 hI1 hI2 hI3
    have W := hI0
    have hI := hI1
    have t6 := hI.1.2.1
    have c5 := hI.1.1.1.2
    refine x_1 (p' := 179) hC rfl rfl rfl rfl ?_
    refine x_1 (p' := 180) hC rfl rfl rfl rfl ?_
    refine x_icge (p' := 181) hC rfl rfl (fun c180 => ?_) (fun c180 => ?_)
    · exact law_end (by omega) W hI (by omega)
    · refine x_1 (p' := 182) hC rfl rfl rfl rfl ?_
      refine x_ifeq (p' := 183) hC rfl rfl (fun c182 => ?_) (fun c182 => ?_)
      · exact absurd c182 (by decide)
      · refine x_1 (p' := 184) hC rfl rfl rfl rfl ?_
        refine x_1 (p' := 185) hC rfl rfl rfl rfl ?_
        refine x_1 (p' := 186) hC rfl rfl rfl rfl ?_
        refine x_add (p' := 187) hC rfl rfl rfl (⟨by omega, by omega⟩) ?_
        refine x_cIS2 (p' := 188) (n := 1) hC rfl rfl rfl rfl rfl ?_
        refine sp_L_cell W.scr hL (by omega) (fun y y0 y1 => ?_)
        refine x_stI5 (p' := 189) hC rfl rfl rfl ?_
        refine x_1 (p' := 190) hC rfl rfl rfl rfl ?_
        refine x_1 (p' := 191) hC rfl rfl rfl rfl ?_
        refine x_div (p' := 192) hC rfl rfl rfl (by decide) ?_
        rw [wr_tdiv (by omega) (by omega) (by omega)]
        refine x_stI6 (p' := 193) hC rfl rfl rfl ?_
        refine x_1 (p' := 194) hC rfl rfl rfl rfl ?_
        refine x_1 (p' := 195) hC rfl rfl rfl rfl ?_
        refine x_rem (p' := 196) hC rfl rfl rfl (by decide) ?_
        rw [wr_tmod (by omega) (by omega) (by omega)]
        have r := Int.emod_nonneg y (show (8 : Int) ≠ 0 by decide)
        have r8 := Int.emod_lt_of_pos y (show (0 : Int) < 8 by decide)
        generalize y % 8 = rr at *
        rcases (show rr = 0 ∨ rr = 1 ∨ rr = 2 ∨ rr = 3 ∨ (4 ≤ rr) by omega) with q | q | q | q | q
        · subst q
          refine x_tswt (t := 197) rfl 1 (by decide) rfl ?_
          refine x_1 (p' := 198) hC rfl rfl rfl rfl ?_
          refine x_1 (p' := 199) hC rfl rfl rfl rfl ?_
          refine x_cIV1 (p' := 200) (n := 180) hC rfl rfl rfl rfl rfl (W.ty) ?_
          refine rw_count W hI.1.1.ci (by decide) ?_
          rw [show cTot S 2 = cT S 6 from rfl]
          refine x_stI7 (p' := 201) hC rfl rfl rfl ?_
          refine x_1 (p' := 202) hC rfl rfl rfl rfl ?_
          refine x_1 (p' := 203) hC rfl rfl rfl rfl ?_
          refine x_1 (p' := 204) hC rfl rfl rfl rfl ?_
          refine x_1 (p' := 205) hC rfl rfl rfl rfl ?_
          refine x_rem (p' := 206) hC rfl rfl rfl (by decide) ?_
          rw [wr_tmod (by omega) (by omega) (by omega)]
          refine x_add (p' := 207) hC rfl rfl rfl (⟨by omega, by omega⟩) ?_
          refine x_cIV1 (p' := 208) (n := 173) hC rfl rfl rfl rfl rfl (W.ty) ?_
          refine rw_pass W hI (by omega) (m := 1 + y / 8 % 6) (by omega) (by omega) (fun h S2 R2 W pt => ?_)
          obtain ⟨hI2, p6, p7, pr⟩ := pt
          have pr := pr (by omega)
          have W := W.weak (tm' := 0) (ou' := 0)
          refine x_1 (p' := 209) hC rfl rfl rfl rfl ?_
          refine x_1 (p' := 210) hC rfl rfl rfl rfl ?_
          refine x_add (p' := 211) hC rfl rfl rfl (⟨by omega, by omega⟩) ?_
          refine x_1 (p' := 212) hC rfl rfl rfl rfl ?_
          refine x_1 (p' := 213) hC rfl rfl rfl rfl ?_
          refine x_rem (p' := 214) hC rfl rfl rfl (by decide) ?_
          rw [wr_tmod (by omega) (by omega) (by omega)]
          refine x_add (p' := 215) hC rfl rfl rfl (⟨by omega, by omega⟩) ?_
          refine x_icne (p' := 216) hC rfl rfl (fun c215 => ?_) (fun c215 => ?_)
          · exact absurd (by omega) c215
          · refine x_1 (p' := 217) hC rfl rfl rfl rfl ?_
            refine x_cIS1 (p' := 218) (n := 5) hC rfl rfl rfl rfl rfl ?_
            refine sp_L_holds W hI2 (by omega) (fun _ => pr) (fun h S3 W x => ?_)
            have hI := hI2.sqq x.q
            have q6 : cT S3 6 = cT S2 6 := by rw [x.cT]
            refine x_ifeq (p' := 219) hC rfl rfl (fun c218 => ?_) (fun c218 => ?_)
            · exact absurd c218 (by decide)
            · refine x_1 (p' := 220) hC rfl rfl rfl rfl ?_
              refine x_1 (p' := 222) hC rfl rfl rfl rfl ?_
              refine x_stI3 (p' := 223) hC rfl rfl rfl ?_
              refine x_1 (p' := 263) hC rfl rfl rfl rfl ?_
              refine x_inc4 (p' := 264) hC rfl rfl (⟨by omega, by omega⟩) ?_
              refine x_1 (p' := 178) hC rfl rfl rfl rfl ?_
              first
                | exact ih (i + 1) h _ _ _ _ _ _ (by omega) W (hI.more (by omega)) (by omega) (by omega)
                | exact ih (i + 1) h _ _ _ _ _ _ (by omega) W hI2 (by omega) (by omega)
        · subst q
          refine x_tswt (t := 197) rfl 2 (by decide) rfl ?_
          refine x_1 (p' := 198) hC rfl rfl rfl rfl ?_
          refine x_1 (p' := 199) hC rfl rfl rfl rfl ?_
          refine x_cIV1 (p' := 200) (n := 180) hC rfl rfl rfl rfl rfl (W.ty) ?_
          refine rw_count W hI.1.1.ci (by decide) ?_
          rw [show cTot S 2 = cT S 6 from rfl]
          refine x_stI7 (p' := 201) hC rfl rfl rfl ?_
          refine x_1 (p' := 202) hC rfl rfl rfl rfl ?_
          refine x_1 (p' := 203) hC rfl rfl rfl rfl ?_
          refine x_1 (p' := 204) hC rfl rfl rfl rfl ?_
          refine x_1 (p' := 205) hC rfl rfl rfl rfl ?_
          refine x_rem (p' := 206) hC rfl rfl rfl (by decide) ?_
          rw [wr_tmod (by omega) (by omega) (by omega)]
          refine x_add (p' := 207) hC rfl rfl rfl (⟨by omega, by omega⟩) ?_
          refine x_cIV1 (p' := 208) (n := 173) hC rfl rfl rfl rfl rfl (W.ty) ?_
          refine rw_pass W hI (by omega) (m := 1 + y / 8 % 6) (by omega) (by omega) (fun h S2 R2 W pt => ?_)
          obtain ⟨hI2, p6, p7, pr⟩ := pt
          have pr := pr (by omega)
          have W := W.weak (tm' := 0) (ou' := 0)
          refine x_1 (p' := 209) hC rfl rfl rfl rfl ?_
          refine x_1 (p' := 210) hC rfl rfl rfl rfl ?_
          refine x_add (p' := 211) hC rfl rfl rfl (⟨by omega, by omega⟩) ?_
          refine x_1 (p' := 212) hC rfl rfl rfl rfl ?_
          refine x_1 (p' := 213) hC rfl rfl rfl rfl ?_
          refine x_rem (p' := 214) hC rfl rfl rfl (by decide) ?_
          rw [wr_tmod (by omega) (by omega) (by omega)]
          refine x_add (p' := 215) hC rfl rfl rfl (⟨by omega, by omega⟩) ?_
          refine x_icne (p' := 216) hC rfl rfl (fun c215 => ?_) (fun c215 => ?_)
          · exact absurd (by omega) c215
          · refine x_1 (p' := 217) hC rfl rfl rfl rfl ?_
            refine x_cIS1 (p' := 218) (n := 5) hC rfl rfl rfl rfl rfl ?_
            refine sp_L_holds W hI2 (by omega) (fun _ => pr) (fun h S3 W x => ?_)
            have hI := hI2.sqq x.q
            have q6 : cT S3 6 = cT S2 6 := by rw [x.cT]
            refine x_ifeq (p' := 219) hC rfl rfl (fun c218 => ?_) (fun c218 => ?_)
            · exact absurd c218 (by decide)
            · refine x_1 (p' := 220) hC rfl rfl rfl rfl ?_
              refine x_1 (p' := 222) hC rfl rfl rfl rfl ?_
              refine x_stI3 (p' := 223) hC rfl rfl rfl ?_
              refine x_1 (p' := 263) hC rfl rfl rfl rfl ?_
              refine x_inc4 (p' := 264) hC rfl rfl (⟨by omega, by omega⟩) ?_
              refine x_1 (p' := 178) hC rfl rfl rfl rfl ?_
              first
                | exact ih (i + 1) h _ _ _ _ _ _ (by omega) W (hI.more (by omega)) (by omega) (by omega)
                | exact ih (i + 1) h _ _ _ _ _ _ (by omega) W hI2 (by omega) (by omega)
        · subst q
          refine x_tswt (t := 197) rfl 3 (by decide) rfl ?_
          refine x_1 (p' := 198) hC rfl rfl rfl rfl ?_
          refine x_1 (p' := 199) hC rfl rfl rfl rfl ?_
          refine x_cIV1 (p' := 200) (n := 180) hC rfl rfl rfl rfl rfl (W.ty) ?_
          refine rw_count W hI.1.1.ci (by decide) ?_
          rw [show cTot S 2 = cT S 6 from rfl]
          refine x_stI7 (p' := 201) hC rfl rfl rfl ?_
          refine x_1 (p' := 202) hC rfl rfl rfl rfl ?_
          refine x_1 (p' := 203) hC rfl rfl rfl rfl ?_
          refine x_1 (p' := 204) hC rfl rfl rfl rfl ?_
          refine x_1 (p' := 205) hC rfl rfl rfl rfl ?_
          refine x_rem (p' := 206) hC rfl rfl rfl (by decide) ?_
          rw [wr_tmod (by omega) (by omega) (by omega)]
          refine x_add (p' := 207) hC rfl rfl rfl (⟨by omega, by omega⟩) ?_
          refine x_cIV1 (p' := 208) (n := 173) hC rfl rfl rfl rfl rfl (W.ty) ?_
          refine rw_pass W hI (by omega) (m := 1 + y / 8 % 6) (by omega) (by omega) (fun h S2 R2 W pt => ?_)
          obtain ⟨hI2, p6, p7, pr⟩ := pt
          have pr := pr (by omega)
          have W := W.weak (tm' := 0) (ou' := 0)
          refine x_1 (p' := 209) hC rfl rfl rfl rfl ?_
          refine x_1 (p' := 210) hC rfl rfl rfl rfl ?_
          refine x_add (p' := 211) hC rfl rfl rfl (⟨by omega, by omega⟩) ?_
          refine x_1 (p' := 212) hC rfl rfl rfl rfl ?_
          refine x_1 (p' := 213) hC rfl rfl rfl rfl ?_
          refine x_rem (p' := 214) hC rfl rfl rfl (by decide) ?_
          rw [wr_tmod (by omega) (by omega) (by omega)]
          refine x_add (p' := 215) hC rfl rfl rfl (⟨by omega, by omega⟩) ?_
          refine x_icne (p' := 216) hC rfl rfl (fun c215 => ?_) (fun c215 => ?_)
          · exact absurd (by omega) c215
          · refine x_1 (p' := 217) hC rfl rfl rfl rfl ?_
            refine x_cIS1 (p' := 218) (n := 5) hC rfl rfl rfl rfl rfl ?_
            refine sp_L_holds W hI2 (by omega) (fun _ => pr) (fun h S3 W x => ?_)
            have hI := hI2.sqq x.q
            have q6 : cT S3 6 = cT S2 6 := by rw [x.cT]
            refine x_ifeq (p' := 219) hC rfl rfl (fun c218 => ?_) (fun c218 => ?_)
            · exact absurd c218 (by decide)
            · refine x_1 (p' := 220) hC rfl rfl rfl rfl ?_
              refine x_1 (p' := 222) hC rfl rfl rfl rfl ?_
              refine x_stI3 (p' := 223) hC rfl rfl rfl ?_
              refine x_1 (p' := 263) hC rfl rfl rfl rfl ?_
              refine x_inc4 (p' := 264) hC rfl rfl (⟨by omega, by omega⟩) ?_
              refine x_1 (p' := 178) hC rfl rfl rfl rfl ?_
              first
                | exact ih (i + 1) h _ _ _ _ _ _ (by omega) W (hI.more (by omega)) (by omega) (by omega)
                | exact ih (i + 1) h _ _ _ _ _ _ (by omega) W hI2 (by omega) (by omega)
        · subst q
          refine x_tswt (t := 224) rfl 4 (by decide) rfl ?_
          refine x_1 (p' := 225) hC rfl rfl rfl rfl ?_
          refine x_1 (p' := 226) hC rfl rfl rfl rfl ?_
          refine x_cIV1 (p' := 227) (n := 180) hC rfl rfl rfl rfl rfl (W.ty) ?_
          refine rw_count W hI.1.1.ci (by decide) ?_
          rw [show cTot S 1 = cUnder S 0 from rfl]
          refine x_stI8 (p' := 228) hC rfl rfl rfl ?_
          refine x_1 (p' := 229) hC rfl rfl rfl rfl ?_
          refine x_1 (p' := 230) hC rfl rfl rfl rfl ?_
          refine x_rem (p' := 231) hC rfl rfl rfl (by decide) ?_
          rw [wr_tmod (by omega) (by omega) (by omega)]
          refine x_ifgt (p' := 232) hC rfl rfl (fun c231 => ?_) (fun c231 => ?_)
          · refine x_1 (p' := 250) hC rfl rfl rfl rfl ?_
            refine x_1 (p' := 252) hC rfl rfl rfl rfl ?_
            refine x_stI3 (p' := 253) hC rfl rfl rfl ?_
            refine x_1 (p' := 263) hC rfl rfl rfl rfl ?_
            refine x_inc4 (p' := 264) hC rfl rfl (⟨by omega, by omega⟩) ?_
            refine x_1 (p' := 178) hC rfl rfl rfl rfl ?_
            first
              | exact ih (i + 1) h _ _ _ _ _ _ (by omega) W (hI.more (by omega)) (by omega) (by omega)
              | exact ih (i + 1) h _ _ _ _ _ _ (by omega) W hI2 (by omega) (by omega)
          · refine x_1 (p' := 233) hC rfl rfl rfl rfl ?_
            refine x_1 (p' := 234) hC rfl rfl rfl rfl ?_
            refine x_iclt (p' := 235) hC rfl rfl (fun c234 => ?_) (fun c234 => ?_)
            · refine x_1 (p' := 250) hC rfl rfl rfl rfl ?_
              refine x_1 (p' := 252) hC rfl rfl rfl rfl ?_
              refine x_stI3 (p' := 253) hC rfl rfl rfl ?_
              refine x_1 (p' := 263) hC rfl rfl rfl rfl ?_
              refine x_inc4 (p' := 264) hC rfl rfl (⟨by omega, by omega⟩) ?_
              refine x_1 (p' := 178) hC rfl rfl rfl rfl ?_
              first
                | exact ih (i + 1) h _ _ _ _ _ _ (by omega) W (hI.more (by omega)) (by omega) (by omega)
                | exact ih (i + 1) h _ _ _ _ _ _ (by omega) W hI2 (by omega) (by omega)
            · refine x_1 (p' := 236) hC rfl rfl rfl rfl ?_
              refine x_1 (p' := 237) hC rfl rfl rfl rfl ?_
              refine x_1 (p' := 238) hC rfl rfl rfl rfl ?_
              refine x_div (p' := 239) hC rfl rfl rfl (by decide) ?_
              rw [wr_tdiv (by omega) (by omega) (by omega)]
              refine x_1 (p' := 240) hC rfl rfl rfl rfl ?_
              refine x_rem (p' := 241) hC rfl rfl rfl (by decide) ?_
              rw [wr_tmod (by omega) (by omega) (by omega)]
              refine x_cIV1 (p' := 242) (n := 167) hC rfl rfl rfl rfl rfl (W.ty) ?_
              have J : ∀ (x : Int) (h : HP) (S2 : Nat → Int → Int), ¬ x = -1000001 → RW L xs False 0 0 h S2 R → IvvN i S2 R → cT S2 6 = cT S 6 → cUnder S2 0 ≤ cUnder S 0 → At 10 0 242 [some (.inr (some 2)), some (.inr (some 3)), some (.inl P), some (.inl 1), some (.inl i), some (.inl y), some (.inl (y / 8)), z7, some (.inl (cUnder S 0))] [.inl x] h (fun v h' => v = some (.inl 1) ∧ hZ h' ≤ 600003 ∧ hU h' ≤ 7302250) := by
                intro x h S2 hx W hI e6 eu
                refine x_ldc (p' := 243) (v := (-1000001)) hC rfl rfl (by decide) ?_
                refine x_iceq (p' := 244) hC rfl rfl (fun c243 => ?_) (fun c243 => ?_)
                · exact absurd c243 hx
                · refine x_1 (p' := 245) hC rfl rfl rfl rfl ?_
                  refine x_1 (p' := 246) hC rfl rfl rfl rfl ?_
                  refine x_cIV1 (p' := 247) (n := 180) hC rfl rfl rfl rfl rfl (W.ty) ?_
                  refine rw_count W hI.1.1.ci (by decide) ?_
                  rw [show cTot S2 1 = cUnder S2 0 from rfl]
                  refine x_1 (p' := 248) hC rfl rfl rfl rfl ?_
                  refine x_icgt (p' := 249) hC rfl rfl (fun c248 => ?_) (fun c248 => ?_)
                  · exact absurd c248 (by omega)
                  · refine x_1 (p' := 250) hC rfl rfl rfl rfl ?_
                    refine x_1 (p' := 252) hC rfl rfl rfl rfl ?_
                    refine x_stI3 (p' := 253) hC rfl rfl rfl ?_
                    refine x_1 (p' := 263) hC rfl rfl rfl rfl ?_
                    refine x_inc4 (p' := 264) hC rfl rfl (⟨by omega, by omega⟩) ?_
                    refine x_1 (p' := 178) hC rfl rfl rfl rfl ?_
                    exact ih (i + 1) h _ _ _ _ _ _ (by omega) W (hI.more (by omega)) (by omega) (by omega)
              refine rw_takeOff W hI.1.1.ci (kept_is hI).1.1 (fun x a q => (hI.1.1.2.2.2.2.1 x a (by omega)).2.2) (fun q => ?_) (fun q h W => ?_)
              · refine J _ h S ?_ W hI rfl (Int.le_refl _)
                unfold cRet
                rw [if_neg (fun z => z ⟨by omega, by omega⟩)]
                split <;> decide
              have hu : 0 ≤ y / 8 / 8 % 5 ∧ y / 8 / 8 % 5 < 5 := by omega
              have ho := hI.off hu
              refine J _ h _ ?_ W ho ?_ (under_off hI.1 hu)
              · have := (cUnder_rng ho.1.1 (g := 0)).1
                omega
              show upX _ _ _ _ 0 6 = _
              rw [upX_ne (by omega)]
              rfl
              
        · refine x_tswt (t := 254) rfl 0 (if_pos (by omega)) rfl ?_
          refine x_1 (p' := 255) hC rfl rfl rfl rfl ?_
          refine x_1 (p' := 256) hC rfl rfl rfl rfl ?_
          refine x_1 (p' := 257) hC rfl rfl rfl rfl ?_
          refine x_rem (p' := 258) hC rfl rfl rfl (by decide) ?_
          rw [wr_tmod (by omega) (by omega) (by omega)]
          refine x_1 (p' := 259) hC rfl rfl rfl rfl ?_
          refine x_1 (p' := 260) hC rfl rfl rfl rfl ?_
          refine x_div (p' := 261) hC rfl rfl rfl (by decide) ?_
          rw [wr_tdiv (by omega) (by omega) (by omega)]
          refine x_cIS3 (p' := 262) (n := 2) hC rfl rfl rfl rfl rfl ?_
          refine sp_L_sends W hI (by omega) (u := y / 8 % 5) (z := y / 8 / 8) (by omega) (by omega) (fun h S2 R2 W hI2 e6 => ?_)
          refine x_stI3 (p' := 263) hC rfl rfl rfl ?_
          refine x_inc4 (p' := 264) hC rfl rfl (⟨by omega, by omega⟩) ?_
          refine x_1 (p' := 178) hC rfl rfl rfl rfl ?_
          first
            | exact ih (i + 1) h _ _ _ _ _ _ (by omega) W (hI.more (by omega)) (by omega) (by omega)
            | exact ih (i + 1) h _ _ _ _ _ _ (by omega) W hI2 (by omega) (by omega)
set_option maxRecDepth 20000 in
theorem law167 {L : Nat} {xs : Nat → Int32} (hL : L ≤ 260) {P : Int} {h : HP} {S : Nat → Int → Int} {R : Nat → List FV} (W : RW L xs False 0 0 h S R) (hP : PreT 4 5 S R) {z4 z5 z6 z7 z8 : Option AV} : At 10 0 167 [some (.inr (some 2)), some (.inr (some 3)), some (.inl P), some (.inl 1), z4, z5, z6, z7, z8] [] h (fun v h' => v = some (.inl 1) ∧ hZ h' ≤ 600003 ∧ hU h' ≤ 7302250) := by
  have hC : cod 0 = c_L_law := rfl
  have hI := hP.inv
  refine x_1 (p' := 168) hC rfl rfl rfl rfl ?_
  refine x_ifeq (p' := 169) hC rfl rfl (fun c168 => ?_) (fun c168 => ?_)
  · exact absurd c168 (by decide)
  · refine x_1 (p' := 170) hC rfl rfl rfl rfl ?_
    refine x_cIS1 (p' := 171) (n := 5) hC rfl rfl rfl rfl rfl ?_
    refine sp_L_holds W hI (by decide) (fun q => absurd hP.1.2.2.1 q) (fun h S2 W x => ?_)
    have e6 : cT S2 6 = cT S 6 := by rw [x.cT]
    have e0 := hP.1.2.2.1
    have hI := hI.sqq x.q
    refine x_ifeq (p' := 172) hC rfl rfl (fun c171 => ?_) (fun c171 => ?_)
    · exact absurd c171 (by decide)
    · refine x_1 (p' := 173) hC rfl rfl rfl rfl ?_
      refine x_1 (p' := 175) hC rfl rfl rfl rfl ?_
      refine x_stI3 (p' := 176) hC rfl rfl rfl ?_
      refine x_1 (p' := 177) hC rfl rfl rfl rfl ?_
      refine x_stI4 (p' := 178) hC rfl rfl rfl ?_
      exact lp_law hL _ 0 h S2 R _ _ _ _ (Nat.lt_succ_self _) W hI (by decide) (by omega)
set_option maxRecDepth 20000 in
theorem law110 {L : Nat} {xs : Nat → Int32} (hL : L ≤ 260) {P : Int} {h : HP} {S : Nat → Int → Int} {R : Nat → List FV} (W : RW L xs False 0 0 h S R) (hP : PreT 4 5 S R) (hze : ∀ g : Int, 0 ≤ g → g < 4 → ZeS S g) {z4 z5 z6 z7 z8 : Option AV} : At 10 0 110 [some (.inr (some 2)), some (.inr (some 3)), some (.inl P), some (.inl 1), z4, z5, z6, z7, z8] [] h (fun v h' => v = some (.inl 1) ∧ hZ h' ≤ 600003 ∧ hU h' ≤ 7302250) := by
  have hC : cod 0 = c_L_law := rfl
  refine x_1 (p' := 111) hC rfl rfl rfl rfl ?_
  refine x_stI4 (p' := 112) hC rfl rfl rfl ?_
  exact lp_law_set hL (fun h S R z5 z6 W hP => law167 hL W hP) _ 0 h S R _ _ (Nat.lt_succ_self _) W hP (by decide) hze
theorem pure_claim : PureClaim := fun L xs hL => law_init (fun h S W I => law_tree hL W I (fun P h S R W hP hZ => lp_law_unit hL (fun h S R z5 z6 W hP hZ => law110 hL W hP hZ) _ 0 h S R _ _ (Nat.lt_succ_self _) W hP (by decide) hZ))
