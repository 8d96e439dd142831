/-! the reference's face: an order's form -/
theorem n44 : ¬ isDig 44 := by decide
theorem n59 : ¬ isDig 59 := by decide
set_option maxRecDepth 20000 in
set_option maxHeartbeats 2000000 in
theorem sp_m_readsForm {d : Nat} {m : Nat} {h : HP} (hO : RO m h)  {B : Nat → Int → Int} {A c : Int} (hc : B 5 A = c) (hA : 0 ≤ A ∧ A < B 0 6) (hB7 : B 0 7 = A + 1) (hLL : 0 ≤ B 0 6 ∧ B 0 6 ≤ 60) (hcr : -2147483648 ≤ c ∧ c ≤ 2147483647) {Q : Int → HP → Prop} (K1 : ∀ n0 n1 n2 nx, OrdIs (B 5) (B 0 6) A c n0 n1 n2 nx → ∀ Y, YK B Y → Y 0 7 = nx → Y 6 0 = n0 → (c = 109 → Y 6 1 = n1 ∧ Y 6 2 = n2) → Q 1 (wX m h Y)) (K0 : (∀ n0 n1 n2 nx, ¬ OrdIs (B 5) (B 0 6) A c n0 n1 n2 nx) → ∀ Y, YK B Y → (0 ≤ Y 0 7 ∧ Y 0 7 ≤ B 0 6) → Q 0 (wX m h Y)) : CaI (d + 2) 75 [.inr (some m), .inl c] (wX m h B) Q := by
  have hC : cod 75 = c_m_readsForm := rfl
  refine CaI.start rfl ?_
  have hB : TS B (A + 1) (B 6) B := ⟨fun _ _ _ _ => rfl, hB7, rfl⟩
  refine x_1 (p' := 1) hC rfl rfl rfl rfl ?_
  refine x_1 (p' := 2) hC rfl rfl rfl rfl ?_
  refine x_iceq (p' := 3) hC rfl rfl (fun c2 => ?_) (fun c2 => ?_)
  · refine x_1 (p' := 10) hC rfl rfl rfl rfl ?_
    refine x_1 (p' := 11) hC rfl rfl rfl rfl ?_
    refine x_cIV1 (p' := 12) (n := 74) hC rfl rfl rfl rfl rfl (hO.ty) ?_
    refine sp_m_takes hO hB (by omega) hLL (by omega) (by decide) (fun D11 X h611 hd11 hl11 hs11 hB => ?_)
    refine x_ifeq (p' := 13) hC rfl rfl (fun c12 => ?_) (fun c12 => ?_)
    · have c12 := b2i_0.mp c12
      refine x_1 (p' := 16) hC rfl rfl rfl rfl ?_
      refine x_stI2 (p' := 17) hC rfl rfl rfl ?_
      refine x_1 (p' := 18) hC rfl rfl rfl rfl ?_
      refine x_ifeq (p' := 19) hC rfl rfl (fun _ => ?_) (fun c => absurd c (by decide))
      refine x_1 (p' := 75) hC rfl rfl rfl rfl ?_
      refine x_ifeq (p' := 76) hC rfl rfl (fun _ => ?_) (fun c => absurd c (by decide))
      refine x_1 (p' := 83) hC rfl rfl rfl rfl ?_
      refine x_zret hC rfl rfl rfl (by first | omega | exact b2i_01 _) ⟨_, rfl, ?_⟩
      first
      | (exfalso; omega)
      | (refine K1 _ 0 0 _ ⟨hA.2, hc, Or.inr ⟨by omega, ⟨D11, ⟨by omega, h611⟩, hd11, by omega, c79.2, rfl, rfl⟩, rfl, rfl⟩⟩ X hB.1 (by have := hB.2.1; omega) (by rw [hB.2.2]; simp [ups]) (fun q => absurd q (by omega)))
      | (refine K1 _ _ _ _ ⟨hA.2, hc, Or.inl ⟨by omega, _, _, ⟨D11, ⟨by omega, h611⟩, hd11, by omega, c25.2, rfl, rfl⟩, ⟨D28, ⟨by omega, h628⟩, hd28, by omega, c33.2, rfl, rfl⟩, Or.inl ⟨c43.1, c43.2, _, ⟨D52, ⟨by omega, h652⟩, hd52, by omega, c79.2, rfl, rfl⟩, rfl⟩⟩⟩ X hB.1 (by have := hB.2.1; omega) (by rw [hB.2.2]; simp [ups]) (fun _ => ⟨by rw [hB.2.2]; simp [ups], ?_⟩)
         have hdv := dVal_rng (tx := B 5) D52 hd52
         have hpb := pB_le ⟨D52, by omega⟩
         dsimp only at hpb
         rw [hB.2.2]
         simp only [ups, if_true]
         exact wr_id ⟨by omega, by omega⟩)
      | (refine K1 _ _ _ _ ⟨hA.2, hc, Or.inl ⟨by omega, _, _, ⟨D11, ⟨by omega, h611⟩, hd11, by omega, c25.2, rfl, rfl⟩, ⟨D28, ⟨by omega, h628⟩, hd28, by omega, c33.2, rfl, rfl⟩, Or.inr ⟨c43, ⟨D52, ⟨by omega, h652⟩, hd52, by omega, c79.2, rfl, rfl⟩⟩⟩⟩ X hB.1 (by have := hB.2.1; omega) (by rw [hB.2.2]; simp [ups]) (fun _ => ⟨by rw [hB.2.2]; simp [ups], ?_⟩)
         rw [hB.2.2]
         simp [ups])
      | (refine K0 (fun n0 n1 n2 nx O => ?_) _ (by first | exact hB.1 | exact (hB _).1) (by first | (rw [hB.2.1]; omega) | (rw [(hB _).2.1]; omega))
         obtain ⟨o1, o2, ⟨o3, a1, a2, N1, N2, o4⟩ | ⟨o3, N1, o5, o6⟩⟩ := O
         · first
           | (exfalso; omega)
           | (have q1 := num_of n44 h611 hd11 hs11 N1
              obtain ⟨q11, q12, q13, q14, q15⟩ := q1
              first
              | (exfalso; omega)
              | exact absurd ⟨q12, q13⟩ c25
              | (subst q15
                 have q2 := num_of n44 h628 hd28 hs28 N2
                 obtain ⟨q21, q22, q23, q24, q25⟩ := q2
                 first
                 | (exfalso; omega)
                 | exact absurd ⟨q22, q23⟩ c33
                 | (subst q25
                    obtain ⟨s1, s2, x, N3, s3⟩ | ⟨s1, N3⟩ := o4
                    · first
                      | exact absurd ⟨s1, s2⟩ c43
                      | (have q3 := num_of n59 h652 hd52 hs52 N3
                         obtain ⟨q31, q32, q33, q34, q35⟩ := q3
                         first
                         | (exfalso; omega)
                         | exact absurd ⟨q32, q33⟩ c79
                         | exact absurd ⟨q12, q13⟩ c79)
                    · first
                      | exact absurd c43 s1
                      | (have q3 := num_of n59 h652 hd52 hs52 N3
                         obtain ⟨q31, q32, q33, q34, q35⟩ := q3
                         first
                         | (exfalso; omega)
                         | exact absurd ⟨q32, q33⟩ c79
                         | exact absurd ⟨q12, q13⟩ c79))))
         · first
           | (exfalso; omega)
           | (have q1 := num_of n59 h611 hd11 hs11 N1
              obtain ⟨q11, q12, q13, q14, q15⟩ := q1
              first
              | (exfalso; omega)
              | exact absurd ⟨q32, q33⟩ c79
              | exact absurd ⟨q12, q13⟩ c79))
    · have c12 := b2i_n0.mp c12
      refine x_1 (p' := 14) hC rfl rfl rfl rfl ?_
      refine x_1 (p' := 16) hC rfl rfl rfl rfl ?_
      refine x_stI2 (p' := 17) hC rfl rfl rfl ?_
      refine x_1 (p' := 18) hC rfl rfl rfl rfl ?_
      refine x_ifeq (p' := 19) hC rfl rfl (fun c => absurd c (by decide)) (fun _ => ?_)
      refine x_1 (p' := 20) hC rfl rfl rfl rfl ?_
      refine x_1 (p' := 21) hC rfl rfl rfl rfl ?_
      refine x_icne (p' := 22) hC rfl rfl (fun c21 => ?_) (fun c21 => ?_)
      · refine x_1 (p' := 75) hC rfl rfl rfl rfl ?_
        refine x_ifeq (p' := 76) hC rfl rfl (fun c => absurd c (by decide)) (fun _ => ?_)
        refine x_1 (p' := 77) hC rfl rfl rfl rfl ?_
        refine x_1 (p' := 78) hC rfl rfl rfl rfl ?_
        refine x_cIV1 (p' := 79) (n := 73) hC rfl rfl rfl rfl rfl (hO.ty) ?_
        refine sp_m_has hO (by first | exact hB | exact hB _) (by omega) hLL (by omega) (fun X a78 e78 hB => ?_)
        refine x_ifeq (p' := 80) hC rfl rfl (fun c79 => ?_) (fun c79 => ?_)
        · have c79 := b2i_0.mp c79
          refine x_1 (p' := 83) hC rfl rfl rfl rfl ?_
          refine x_zret hC rfl rfl rfl (by first | omega | exact b2i_01 _) ⟨_, rfl, ?_⟩
          first
          | (exfalso; omega)
          | (refine K1 _ 0 0 _ ⟨hA.2, hc, Or.inr ⟨by omega, ⟨D11, ⟨by omega, h611⟩, hd11, by omega, c79.2, rfl, rfl⟩, rfl, rfl⟩⟩ X hB.1 (by have := hB.2.1; omega) (by rw [hB.2.2]; simp [ups]) (fun q => absurd q (by omega)))
          | (refine K1 _ _ _ _ ⟨hA.2, hc, Or.inl ⟨by omega, _, _, ⟨D11, ⟨by omega, h611⟩, hd11, by omega, c25.2, rfl, rfl⟩, ⟨D28, ⟨by omega, h628⟩, hd28, by omega, c33.2, rfl, rfl⟩, Or.inl ⟨c43.1, c43.2, _, ⟨D52, ⟨by omega, h652⟩, hd52, by omega, c79.2, rfl, rfl⟩, rfl⟩⟩⟩ X hB.1 (by have := hB.2.1; omega) (by rw [hB.2.2]; simp [ups]) (fun _ => ⟨by rw [hB.2.2]; simp [ups], ?_⟩)
             have hdv := dVal_rng (tx := B 5) D52 hd52
             have hpb := pB_le ⟨D52, by omega⟩
             dsimp only at hpb
             rw [hB.2.2]
             simp only [ups, if_true]
             exact wr_id ⟨by omega, by omega⟩)
          | (refine K1 _ _ _ _ ⟨hA.2, hc, Or.inl ⟨by omega, _, _, ⟨D11, ⟨by omega, h611⟩, hd11, by omega, c25.2, rfl, rfl⟩, ⟨D28, ⟨by omega, h628⟩, hd28, by omega, c33.2, rfl, rfl⟩, Or.inr ⟨c43, ⟨D52, ⟨by omega, h652⟩, hd52, by omega, c79.2, rfl, rfl⟩⟩⟩⟩ X hB.1 (by have := hB.2.1; omega) (by rw [hB.2.2]; simp [ups]) (fun _ => ⟨by rw [hB.2.2]; simp [ups], ?_⟩)
             rw [hB.2.2]
             simp [ups])
          | (refine K0 (fun n0 n1 n2 nx O => ?_) _ (by first | exact hB.1 | exact (hB _).1) (by first | (rw [hB.2.1]; omega) | (rw [(hB _).2.1]; omega))
             obtain ⟨o1, o2, ⟨o3, a1, a2, N1, N2, o4⟩ | ⟨o3, N1, o5, o6⟩⟩ := O
             · first
               | (exfalso; omega)
               | (have q1 := num_of n44 h611 hd11 hs11 N1
                  obtain ⟨q11, q12, q13, q14, q15⟩ := q1
                  first
                  | (exfalso; omega)
                  | exact absurd ⟨q12, q13⟩ c25
                  | (subst q15
                     have q2 := num_of n44 h628 hd28 hs28 N2
                     obtain ⟨q21, q22, q23, q24, q25⟩ := q2
                     first
                     | (exfalso; omega)
                     | exact absurd ⟨q22, q23⟩ c33
                     | (subst q25
                        obtain ⟨s1, s2, x, N3, s3⟩ | ⟨s1, N3⟩ := o4
                        · first
                          | exact absurd ⟨s1, s2⟩ c43
                          | (have q3 := num_of n59 h652 hd52 hs52 N3
                             obtain ⟨q31, q32, q33, q34, q35⟩ := q3
                             first
                             | (exfalso; omega)
                             | exact absurd ⟨q32, q33⟩ c79
                             | exact absurd ⟨q12, q13⟩ c79)
                        · first
                          | exact absurd c43 s1
                          | (have q3 := num_of n59 h652 hd52 hs52 N3
                             obtain ⟨q31, q32, q33, q34, q35⟩ := q3
                             first
                             | (exfalso; omega)
                             | exact absurd ⟨q32, q33⟩ c79
                             | exact absurd ⟨q12, q13⟩ c79))))
             · first
               | (exfalso; omega)
               | (have q1 := num_of n59 h611 hd11 hs11 N1
                  obtain ⟨q11, q12, q13, q14, q15⟩ := q1
                  first
                  | (exfalso; omega)
                  | exact absurd ⟨q32, q33⟩ c79
                  | exact absurd ⟨q12, q13⟩ c79))
        · have c79 := b2i_n0.mp c79
          refine x_1 (p' := 81) hC rfl rfl rfl rfl ?_
          refine x_1 (p' := 83) hC rfl rfl rfl rfl ?_
          refine x_zret hC rfl rfl rfl (by first | omega | exact b2i_01 _) ⟨_, rfl, ?_⟩
          first
          | (exfalso; omega)
          | (refine K1 _ 0 0 _ ⟨hA.2, hc, Or.inr ⟨by omega, ⟨D11, ⟨by omega, h611⟩, hd11, by omega, c79.2, rfl, rfl⟩, rfl, rfl⟩⟩ X hB.1 (by have := hB.2.1; omega) (by rw [hB.2.2]; simp [ups]) (fun q => absurd q (by omega)))
          | (refine K1 _ _ _ _ ⟨hA.2, hc, Or.inl ⟨by omega, _, _, ⟨D11, ⟨by omega, h611⟩, hd11, by omega, c25.2, rfl, rfl⟩, ⟨D28, ⟨by omega, h628⟩, hd28, by omega, c33.2, rfl, rfl⟩, Or.inl ⟨c43.1, c43.2, _, ⟨D52, ⟨by omega, h652⟩, hd52, by omega, c79.2, rfl, rfl⟩, rfl⟩⟩⟩ X hB.1 (by have := hB.2.1; omega) (by rw [hB.2.2]; simp [ups]) (fun _ => ⟨by rw [hB.2.2]; simp [ups], ?_⟩)
             have hdv := dVal_rng (tx := B 5) D52 hd52
             have hpb := pB_le ⟨D52, by omega⟩
             dsimp only at hpb
             rw [hB.2.2]
             simp only [ups, if_true]
             exact wr_id ⟨by omega, by omega⟩)
          | (refine K1 _ _ _ _ ⟨hA.2, hc, Or.inl ⟨by omega, _, _, ⟨D11, ⟨by omega, h611⟩, hd11, by omega, c25.2, rfl, rfl⟩, ⟨D28, ⟨by omega, h628⟩, hd28, by omega, c33.2, rfl, rfl⟩, Or.inr ⟨c43, ⟨D52, ⟨by omega, h652⟩, hd52, by omega, c79.2, rfl, rfl⟩⟩⟩⟩ X hB.1 (by have := hB.2.1; omega) (by rw [hB.2.2]; simp [ups]) (fun _ => ⟨by rw [hB.2.2]; simp [ups], ?_⟩)
             rw [hB.2.2]
             simp [ups])
          | (refine K0 (fun n0 n1 n2 nx O => ?_) _ (by first | exact hB.1 | exact (hB _).1) (by first | (rw [hB.2.1]; omega) | (rw [(hB _).2.1]; omega))
             obtain ⟨o1, o2, ⟨o3, a1, a2, N1, N2, o4⟩ | ⟨o3, N1, o5, o6⟩⟩ := O
             · first
               | (exfalso; omega)
               | (have q1 := num_of n44 h611 hd11 hs11 N1
                  obtain ⟨q11, q12, q13, q14, q15⟩ := q1
                  first
                  | (exfalso; omega)
                  | exact absurd ⟨q12, q13⟩ c25
                  | (subst q15
                     have q2 := num_of n44 h628 hd28 hs28 N2
                     obtain ⟨q21, q22, q23, q24, q25⟩ := q2
                     first
                     | (exfalso; omega)
                     | exact absurd ⟨q22, q23⟩ c33
                     | (subst q25
                        obtain ⟨s1, s2, x, N3, s3⟩ | ⟨s1, N3⟩ := o4
                        · first
                          | exact absurd ⟨s1, s2⟩ c43
                          | (have q3 := num_of n59 h652 hd52 hs52 N3
                             obtain ⟨q31, q32, q33, q34, q35⟩ := q3
                             first
                             | (exfalso; omega)
                             | exact absurd ⟨q32, q33⟩ c79
                             | exact absurd ⟨q12, q13⟩ c79)
                        · first
                          | exact absurd c43 s1
                          | (have q3 := num_of n59 h652 hd52 hs52 N3
                             obtain ⟨q31, q32, q33, q34, q35⟩ := q3
                             first
                             | (exfalso; omega)
                             | exact absurd ⟨q32, q33⟩ c79
                             | exact absurd ⟨q12, q13⟩ c79))))
             · first
               | (exfalso; omega)
               | (have q1 := num_of n59 h611 hd11 hs11 N1
                  obtain ⟨q11, q12, q13, q14, q15⟩ := q1
                  first
                  | (exfalso; omega)
                  | exact absurd ⟨q32, q33⟩ c79
                  | exact absurd ⟨q12, q13⟩ c79))
      · refine x_1 (p' := 23) hC rfl rfl rfl rfl ?_
        refine x_1 (p' := 24) hC rfl rfl rfl rfl ?_
        refine x_cIV1 (p' := 25) (n := 73) hC rfl rfl rfl rfl rfl (hO.ty) ?_
        refine sp_m_has hO (by first | exact hB | exact hB _) (by omega) hLL (by omega) (fun X a24 e24 hB => ?_)
        refine x_ifeq (p' := 26) hC rfl rfl (fun c25 => ?_) (fun c25 => ?_)
        · have c25 := b2i_0.mp c25
          refine x_1 (p' := 37) hC rfl rfl rfl rfl ?_
          refine x_stI2 (p' := 38) hC rfl rfl rfl ?_
          refine x_1 (p' := 39) hC rfl rfl rfl rfl ?_
          refine x_ifeq (p' := 40) hC rfl rfl (fun _ => ?_) (fun c => absurd c (by decide))
          refine x_1 (p' := 47) hC rfl rfl rfl rfl ?_
          refine x_stI3 (p' := 48) hC rfl rfl rfl ?_
          refine x_1 (p' := 49) hC rfl rfl rfl rfl ?_
          refine x_ifeq (p' := 50) hC rfl rfl (fun _ => ?_) (fun c => absurd c (by decide))
          refine x_1 (p' := 57) hC rfl rfl rfl rfl ?_
          refine x_stI2 (p' := 58) hC rfl rfl rfl ?_
          refine x_1 (p' := 59) hC rfl rfl rfl rfl ?_
          refine y_gR (p' := 60) (n := 6) hO hC rfl rfl rfl rfl ?_
          refine x_1 (p' := 61) hC rfl rfl rfl rfl ?_
          refine x_1 (p' := 62) hC rfl rfl rfl rfl ?_
          refine x_ifeq (p' := 63) hC rfl rfl (fun _ => ?_) (fun c => absurd c (by decide))
          refine x_1 (p' := 70) hC rfl rfl rfl rfl ?_
          refine y_gR (p' := 71) (n := 6) hO hC rfl rfl rfl rfl ?_
          refine x_1 (p' := 72) hC rfl rfl rfl rfl ?_
          refine y_ld (p' := 73) (L := 3) hO hC rfl rfl rfl rfl (by omega) (by omega) ?_
          rw [hB.2.2]
          refine y_st (p' := 74) (L := 3) hO hC rfl rfl rfl rfl (by omega) (by omega) ?_
          have hB := fun v => hB.st 2 v
          refine x_1 (p' := 75) hC rfl rfl rfl rfl ?_
          refine x_ifeq (p' := 76) hC rfl rfl (fun _ => ?_) (fun c => absurd c (by decide))
          refine x_1 (p' := 83) hC rfl rfl rfl rfl ?_
          refine x_zret hC rfl rfl rfl (by first | omega | exact b2i_01 _) ⟨_, rfl, ?_⟩
          first
          | (exfalso; omega)
          | (refine K1 _ 0 0 _ ⟨hA.2, hc, Or.inr ⟨by omega, ⟨D11, ⟨by omega, h611⟩, hd11, by omega, c79.2, rfl, rfl⟩, rfl, rfl⟩⟩ X hB.1 (by have := hB.2.1; omega) (by rw [hB.2.2]; simp [ups]) (fun q => absurd q (by omega)))
          | (refine K1 _ _ _ _ ⟨hA.2, hc, Or.inl ⟨by omega, _, _, ⟨D11, ⟨by omega, h611⟩, hd11, by omega, c25.2, rfl, rfl⟩, ⟨D28, ⟨by omega, h628⟩, hd28, by omega, c33.2, rfl, rfl⟩, Or.inl ⟨c43.1, c43.2, _, ⟨D52, ⟨by omega, h652⟩, hd52, by omega, c79.2, rfl, rfl⟩, rfl⟩⟩⟩ X hB.1 (by have := hB.2.1; omega) (by rw [hB.2.2]; simp [ups]) (fun _ => ⟨by rw [hB.2.2]; simp [ups], ?_⟩)
             have hdv := dVal_rng (tx := B 5) D52 hd52
             have hpb := pB_le ⟨D52, by omega⟩
             dsimp only at hpb
             rw [hB.2.2]
             simp only [ups, if_true]
             exact wr_id ⟨by omega, by omega⟩)
          | (refine K1 _ _ _ _ ⟨hA.2, hc, Or.inl ⟨by omega, _, _, ⟨D11, ⟨by omega, h611⟩, hd11, by omega, c25.2, rfl, rfl⟩, ⟨D28, ⟨by omega, h628⟩, hd28, by omega, c33.2, rfl, rfl⟩, Or.inr ⟨c43, ⟨D52, ⟨by omega, h652⟩, hd52, by omega, c79.2, rfl, rfl⟩⟩⟩⟩ X hB.1 (by have := hB.2.1; omega) (by rw [hB.2.2]; simp [ups]) (fun _ => ⟨by rw [hB.2.2]; simp [ups], ?_⟩)
             rw [hB.2.2]
             simp [ups])
          | (refine K0 (fun n0 n1 n2 nx O => ?_) _ (by first | exact hB.1 | exact (hB _).1) (by first | (rw [hB.2.1]; omega) | (rw [(hB _).2.1]; omega))
             obtain ⟨o1, o2, ⟨o3, a1, a2, N1, N2, o4⟩ | ⟨o3, N1, o5, o6⟩⟩ := O
             · first
               | (exfalso; omega)
               | (have q1 := num_of n44 h611 hd11 hs11 N1
                  obtain ⟨q11, q12, q13, q14, q15⟩ := q1
                  first
                  | (exfalso; omega)
                  | exact absurd ⟨q12, q13⟩ c25
                  | (subst q15
                     have q2 := num_of n44 h628 hd28 hs28 N2
                     obtain ⟨q21, q22, q23, q24, q25⟩ := q2
                     first
                     | (exfalso; omega)
                     | exact absurd ⟨q22, q23⟩ c33
                     | (subst q25
                        obtain ⟨s1, s2, x, N3, s3⟩ | ⟨s1, N3⟩ := o4
                        · first
                          | exact absurd ⟨s1, s2⟩ c43
                          | (have q3 := num_of n59 h652 hd52 hs52 N3
                             obtain ⟨q31, q32, q33, q34, q35⟩ := q3
                             first
                             | (exfalso; omega)
                             | exact absurd ⟨q32, q33⟩ c79
                             | exact absurd ⟨q12, q13⟩ c79)
                        · first
                          | exact absurd c43 s1
                          | (have q3 := num_of n59 h652 hd52 hs52 N3
                             obtain ⟨q31, q32, q33, q34, q35⟩ := q3
                             first
                             | (exfalso; omega)
                             | exact absurd ⟨q32, q33⟩ c79
                             | exact absurd ⟨q12, q13⟩ c79))))
             · first
               | (exfalso; omega)
               | (have q1 := num_of n59 h611 hd11 hs11 N1
                  obtain ⟨q11, q12, q13, q14, q15⟩ := q1
                  first
                  | (exfalso; omega)
                  | exact absurd ⟨q32, q33⟩ c79
                  | exact absurd ⟨q12, q13⟩ c79))
        · have c25 := b2i_n0.mp c25
          have ea : a24 = A + 1 + (D11 : Int) + 1 := by omega
          subst ea
          refine x_1 (p' := 27) hC rfl rfl rfl rfl ?_
          refine x_1 (p' := 28) hC rfl rfl rfl rfl ?_
          refine x_cIV1 (p' := 29) (n := 74) hC rfl rfl rfl rfl rfl (hO.ty) ?_
          refine sp_m_takes hO hB (by omega) hLL (by omega) (by decide) (fun D28 X h628 hd28 hl28 hs28 hB => ?_)
          refine x_ifeq (p' := 30) hC rfl rfl (fun c29 => ?_) (fun c29 => ?_)
          · have c29 := b2i_0.mp c29
            refine x_1 (p' := 37) hC rfl rfl rfl rfl ?_
            refine x_stI2 (p' := 38) hC rfl rfl rfl ?_
            refine x_1 (p' := 39) hC rfl rfl rfl rfl ?_
            refine x_ifeq (p' := 40) hC rfl rfl (fun _ => ?_) (fun c => absurd c (by decide))
            refine x_1 (p' := 47) hC rfl rfl rfl rfl ?_
            refine x_stI3 (p' := 48) hC rfl rfl rfl ?_
            refine x_1 (p' := 49) hC rfl rfl rfl rfl ?_
            refine x_ifeq (p' := 50) hC rfl rfl (fun _ => ?_) (fun c => absurd c (by decide))
            refine x_1 (p' := 57) hC rfl rfl rfl rfl ?_
            refine x_stI2 (p' := 58) hC rfl rfl rfl ?_
            refine x_1 (p' := 59) hC rfl rfl rfl rfl ?_
            refine y_gR (p' := 60) (n := 6) hO hC rfl rfl rfl rfl ?_
            refine x_1 (p' := 61) hC rfl rfl rfl rfl ?_
            refine x_1 (p' := 62) hC rfl rfl rfl rfl ?_
            refine x_ifeq (p' := 63) hC rfl rfl (fun _ => ?_) (fun c => absurd c (by decide))
            refine x_1 (p' := 70) hC rfl rfl rfl rfl ?_
            refine y_gR (p' := 71) (n := 6) hO hC rfl rfl rfl rfl ?_
            refine x_1 (p' := 72) hC rfl rfl rfl rfl ?_
            refine y_ld (p' := 73) (L := 3) hO hC rfl rfl rfl rfl (by omega) (by omega) ?_
            rw [hB.2.2]
            refine y_st (p' := 74) (L := 3) hO hC rfl rfl rfl rfl (by omega) (by omega) ?_
            have hB := fun v => hB.st 2 v
            refine x_1 (p' := 75) hC rfl rfl rfl rfl ?_
            refine x_ifeq (p' := 76) hC rfl rfl (fun _ => ?_) (fun c => absurd c (by decide))
            refine x_1 (p' := 83) hC rfl rfl rfl rfl ?_
            refine x_zret hC rfl rfl rfl (by first | omega | exact b2i_01 _) ⟨_, rfl, ?_⟩
            first
            | (exfalso; omega)
            | (refine K1 _ 0 0 _ ⟨hA.2, hc, Or.inr ⟨by omega, ⟨D11, ⟨by omega, h611⟩, hd11, by omega, c79.2, rfl, rfl⟩, rfl, rfl⟩⟩ X hB.1 (by have := hB.2.1; omega) (by rw [hB.2.2]; simp [ups]) (fun q => absurd q (by omega)))
            | (refine K1 _ _ _ _ ⟨hA.2, hc, Or.inl ⟨by omega, _, _, ⟨D11, ⟨by omega, h611⟩, hd11, by omega, c25.2, rfl, rfl⟩, ⟨D28, ⟨by omega, h628⟩, hd28, by omega, c33.2, rfl, rfl⟩, Or.inl ⟨c43.1, c43.2, _, ⟨D52, ⟨by omega, h652⟩, hd52, by omega, c79.2, rfl, rfl⟩, rfl⟩⟩⟩ X hB.1 (by have := hB.2.1; omega) (by rw [hB.2.2]; simp [ups]) (fun _ => ⟨by rw [hB.2.2]; simp [ups], ?_⟩)
               have hdv := dVal_rng (tx := B 5) D52 hd52
               have hpb := pB_le ⟨D52, by omega⟩
               dsimp only at hpb
               rw [hB.2.2]
               simp only [ups, if_true]
               exact wr_id ⟨by omega, by omega⟩)
            | (refine K1 _ _ _ _ ⟨hA.2, hc, Or.inl ⟨by omega, _, _, ⟨D11, ⟨by omega, h611⟩, hd11, by omega, c25.2, rfl, rfl⟩, ⟨D28, ⟨by omega, h628⟩, hd28, by omega, c33.2, rfl, rfl⟩, Or.inr ⟨c43, ⟨D52, ⟨by omega, h652⟩, hd52, by omega, c79.2, rfl, rfl⟩⟩⟩⟩ X hB.1 (by have := hB.2.1; omega) (by rw [hB.2.2]; simp [ups]) (fun _ => ⟨by rw [hB.2.2]; simp [ups], ?_⟩)
               rw [hB.2.2]
               simp [ups])
            | (refine K0 (fun n0 n1 n2 nx O => ?_) _ (by first | exact hB.1 | exact (hB _).1) (by first | (rw [hB.2.1]; omega) | (rw [(hB _).2.1]; omega))
               obtain ⟨o1, o2, ⟨o3, a1, a2, N1, N2, o4⟩ | ⟨o3, N1, o5, o6⟩⟩ := O
               · first
                 | (exfalso; omega)
                 | (have q1 := num_of n44 h611 hd11 hs11 N1
                    obtain ⟨q11, q12, q13, q14, q15⟩ := q1
                    first
                    | (exfalso; omega)
                    | exact absurd ⟨q12, q13⟩ c25
                    | (subst q15
                       have q2 := num_of n44 h628 hd28 hs28 N2
                       obtain ⟨q21, q22, q23, q24, q25⟩ := q2
                       first
                       | (exfalso; omega)
                       | exact absurd ⟨q22, q23⟩ c33
                       | (subst q25
                          obtain ⟨s1, s2, x, N3, s3⟩ | ⟨s1, N3⟩ := o4
                          · first
                            | exact absurd ⟨s1, s2⟩ c43
                            | (have q3 := num_of n59 h652 hd52 hs52 N3
                               obtain ⟨q31, q32, q33, q34, q35⟩ := q3
                               first
                               | (exfalso; omega)
                               | exact absurd ⟨q32, q33⟩ c79
                               | exact absurd ⟨q12, q13⟩ c79)
                          · first
                            | exact absurd c43 s1
                            | (have q3 := num_of n59 h652 hd52 hs52 N3
                               obtain ⟨q31, q32, q33, q34, q35⟩ := q3
                               first
                               | (exfalso; omega)
                               | exact absurd ⟨q32, q33⟩ c79
                               | exact absurd ⟨q12, q13⟩ c79))))
               · first
                 | (exfalso; omega)
                 | (have q1 := num_of n59 h611 hd11 hs11 N1
                    obtain ⟨q11, q12, q13, q14, q15⟩ := q1
                    first
                    | (exfalso; omega)
                    | exact absurd ⟨q32, q33⟩ c79
                    | exact absurd ⟨q12, q13⟩ c79))
          · have c29 := b2i_n0.mp c29
            refine x_1 (p' := 31) hC rfl rfl rfl rfl ?_
            refine x_1 (p' := 32) hC rfl rfl rfl rfl ?_
            refine x_cIV1 (p' := 33) (n := 73) hC rfl rfl rfl rfl rfl (hO.ty) ?_
            refine sp_m_has hO (by first | exact hB | exact hB _) (by omega) hLL (by omega) (fun X a32 e32 hB => ?_)
            refine x_ifeq (p' := 34) hC rfl rfl (fun c33 => ?_) (fun c33 => ?_)
            · have c33 := b2i_0.mp c33
              refine x_1 (p' := 37) hC rfl rfl rfl rfl ?_
              refine x_stI2 (p' := 38) hC rfl rfl rfl ?_
              refine x_1 (p' := 39) hC rfl rfl rfl rfl ?_
              refine x_ifeq (p' := 40) hC rfl rfl (fun _ => ?_) (fun c => absurd c (by decide))
              refine x_1 (p' := 47) hC rfl rfl rfl rfl ?_
              refine x_stI3 (p' := 48) hC rfl rfl rfl ?_
              refine x_1 (p' := 49) hC rfl rfl rfl rfl ?_
              refine x_ifeq (p' := 50) hC rfl rfl (fun _ => ?_) (fun c => absurd c (by decide))
              refine x_1 (p' := 57) hC rfl rfl rfl rfl ?_
              refine x_stI2 (p' := 58) hC rfl rfl rfl ?_
              refine x_1 (p' := 59) hC rfl rfl rfl rfl ?_
              refine y_gR (p' := 60) (n := 6) hO hC rfl rfl rfl rfl ?_
              refine x_1 (p' := 61) hC rfl rfl rfl rfl ?_
              refine x_1 (p' := 62) hC rfl rfl rfl rfl ?_
              refine x_ifeq (p' := 63) hC rfl rfl (fun _ => ?_) (fun c => absurd c (by decide))
              refine x_1 (p' := 70) hC rfl rfl rfl rfl ?_
              refine y_gR (p' := 71) (n := 6) hO hC rfl rfl rfl rfl ?_
              refine x_1 (p' := 72) hC rfl rfl rfl rfl ?_
              refine y_ld (p' := 73) (L := 3) hO hC rfl rfl rfl rfl (by omega) (by omega) ?_
              rw [hB.2.2]
              refine y_st (p' := 74) (L := 3) hO hC rfl rfl rfl rfl (by omega) (by omega) ?_
              have hB := fun v => hB.st 2 v
              refine x_1 (p' := 75) hC rfl rfl rfl rfl ?_
              refine x_ifeq (p' := 76) hC rfl rfl (fun _ => ?_) (fun c => absurd c (by decide))
              refine x_1 (p' := 83) hC rfl rfl rfl rfl ?_
              refine x_zret hC rfl rfl rfl (by first | omega | exact b2i_01 _) ⟨_, rfl, ?_⟩
              first
              | (exfalso; omega)
              | (refine K1 _ 0 0 _ ⟨hA.2, hc, Or.inr ⟨by omega, ⟨D11, ⟨by omega, h611⟩, hd11, by omega, c79.2, rfl, rfl⟩, rfl, rfl⟩⟩ X hB.1 (by have := hB.2.1; omega) (by rw [hB.2.2]; simp [ups]) (fun q => absurd q (by omega)))
              | (refine K1 _ _ _ _ ⟨hA.2, hc, Or.inl ⟨by omega, _, _, ⟨D11, ⟨by omega, h611⟩, hd11, by omega, c25.2, rfl, rfl⟩, ⟨D28, ⟨by omega, h628⟩, hd28, by omega, c33.2, rfl, rfl⟩, Or.inl ⟨c43.1, c43.2, _, ⟨D52, ⟨by omega, h652⟩, hd52, by omega, c79.2, rfl, rfl⟩, rfl⟩⟩⟩ X hB.1 (by have := hB.2.1; omega) (by rw [hB.2.2]; simp [ups]) (fun _ => ⟨by rw [hB.2.2]; simp [ups], ?_⟩)
                 have hdv := dVal_rng (tx := B 5) D52 hd52
                 have hpb := pB_le ⟨D52, by omega⟩
                 dsimp only at hpb
                 rw [hB.2.2]
                 simp only [ups, if_true]
                 exact wr_id ⟨by omega, by omega⟩)
              | (refine K1 _ _ _ _ ⟨hA.2, hc, Or.inl ⟨by omega, _, _, ⟨D11, ⟨by omega, h611⟩, hd11, by omega, c25.2, rfl, rfl⟩, ⟨D28, ⟨by omega, h628⟩, hd28, by omega, c33.2, rfl, rfl⟩, Or.inr ⟨c43, ⟨D52, ⟨by omega, h652⟩, hd52, by omega, c79.2, rfl, rfl⟩⟩⟩⟩ X hB.1 (by have := hB.2.1; omega) (by rw [hB.2.2]; simp [ups]) (fun _ => ⟨by rw [hB.2.2]; simp [ups], ?_⟩)
                 rw [hB.2.2]
                 simp [ups])
              | (refine K0 (fun n0 n1 n2 nx O => ?_) _ (by first | exact hB.1 | exact (hB _).1) (by first | (rw [hB.2.1]; omega) | (rw [(hB _).2.1]; omega))
                 obtain ⟨o1, o2, ⟨o3, a1, a2, N1, N2, o4⟩ | ⟨o3, N1, o5, o6⟩⟩ := O
                 · first
                   | (exfalso; omega)
                   | (have q1 := num_of n44 h611 hd11 hs11 N1
                      obtain ⟨q11, q12, q13, q14, q15⟩ := q1
                      first
                      | (exfalso; omega)
                      | exact absurd ⟨q12, q13⟩ c25
                      | (subst q15
                         have q2 := num_of n44 h628 hd28 hs28 N2
                         obtain ⟨q21, q22, q23, q24, q25⟩ := q2
                         first
                         | (exfalso; omega)
                         | exact absurd ⟨q22, q23⟩ c33
                         | (subst q25
                            obtain ⟨s1, s2, x, N3, s3⟩ | ⟨s1, N3⟩ := o4
                            · first
                              | exact absurd ⟨s1, s2⟩ c43
                              | (have q3 := num_of n59 h652 hd52 hs52 N3
                                 obtain ⟨q31, q32, q33, q34, q35⟩ := q3
                                 first
                                 | (exfalso; omega)
                                 | exact absurd ⟨q32, q33⟩ c79
                                 | exact absurd ⟨q12, q13⟩ c79)
                            · first
                              | exact absurd c43 s1
                              | (have q3 := num_of n59 h652 hd52 hs52 N3
                                 obtain ⟨q31, q32, q33, q34, q35⟩ := q3
                                 first
                                 | (exfalso; omega)
                                 | exact absurd ⟨q32, q33⟩ c79
                                 | exact absurd ⟨q12, q13⟩ c79))))
                 · first
                   | (exfalso; omega)
                   | (have q1 := num_of n59 h611 hd11 hs11 N1
                      obtain ⟨q11, q12, q13, q14, q15⟩ := q1
                      first
                      | (exfalso; omega)
                      | exact absurd ⟨q32, q33⟩ c79
                      | exact absurd ⟨q12, q13⟩ c79))
            · have c33 := b2i_n0.mp c33
              have ea : a32 = A + 1 + (D11 : Int) + 1 + (D28 : Int) + 1 := by omega
              subst ea
              refine x_1 (p' := 35) hC rfl rfl rfl rfl ?_
              refine x_1 (p' := 37) hC rfl rfl rfl rfl ?_
              refine x_stI2 (p' := 38) hC rfl rfl rfl ?_
              refine x_1 (p' := 39) hC rfl rfl rfl rfl ?_
              refine x_ifeq (p' := 40) hC rfl rfl (fun c => absurd c (by decide)) (fun _ => ?_)
              refine x_1 (p' := 41) hC rfl rfl rfl rfl ?_
              refine x_1 (p' := 42) hC rfl rfl rfl rfl ?_
              refine x_cIV1 (p' := 43) (n := 73) hC rfl rfl rfl rfl rfl (hO.ty) ?_
              refine sp_m_has hO (by first | exact hB | exact hB _) (by omega) hLL (by omega) (fun X a42 e42 hB => ?_)
              refine x_ifeq (p' := 44) hC rfl rfl (fun c43 => ?_) (fun c43 => ?_)
              · have c43 := b2i_0.mp c43
                have ea : a42 = A + 1 + (D11 : Int) + 1 + (D28 : Int) + 1 := by omega
                subst ea
                refine x_1 (p' := 47) hC rfl rfl rfl rfl ?_
                refine x_stI3 (p' := 48) hC rfl rfl rfl ?_
                refine x_1 (p' := 49) hC rfl rfl rfl rfl ?_
                refine x_ifeq (p' := 50) hC rfl rfl (fun c => absurd c (by decide)) (fun _ => ?_)
                refine x_1 (p' := 51) hC rfl rfl rfl rfl ?_
                refine x_1 (p' := 52) hC rfl rfl rfl rfl ?_
                refine x_cIV1 (p' := 53) (n := 74) hC rfl rfl rfl rfl rfl (hO.ty) ?_
                refine sp_m_takes hO hB (by omega) hLL (by omega) (by decide) (fun D52 X h652 hd52 hl52 hs52 hB => ?_)
                refine x_ifeq (p' := 54) hC rfl rfl (fun c53 => ?_) (fun c53 => ?_)
                · have c53 := b2i_0.mp c53
                  refine x_1 (p' := 57) hC rfl rfl rfl rfl ?_
                  refine x_stI2 (p' := 58) hC rfl rfl rfl ?_
                  refine x_1 (p' := 59) hC rfl rfl rfl rfl ?_
                  refine y_gR (p' := 60) (n := 6) hO hC rfl rfl rfl rfl ?_
                  refine x_1 (p' := 61) hC rfl rfl rfl rfl ?_
                  refine x_1 (p' := 62) hC rfl rfl rfl rfl ?_
                  refine x_ifeq (p' := 63) hC rfl rfl (fun _ => ?_) (fun c => absurd c (by decide))
                  refine x_1 (p' := 70) hC rfl rfl rfl rfl ?_
                  refine y_gR (p' := 71) (n := 6) hO hC rfl rfl rfl rfl ?_
                  refine x_1 (p' := 72) hC rfl rfl rfl rfl ?_
                  refine y_ld (p' := 73) (L := 3) hO hC rfl rfl rfl rfl (by omega) (by omega) ?_
                  rw [hB.2.2]
                  refine y_st (p' := 74) (L := 3) hO hC rfl rfl rfl rfl (by omega) (by omega) ?_
                  have hB := fun v => hB.st 2 v
                  refine x_1 (p' := 75) hC rfl rfl rfl rfl ?_
                  refine x_ifeq (p' := 76) hC rfl rfl (fun _ => ?_) (fun c => absurd c (by decide))
                  refine x_1 (p' := 83) hC rfl rfl rfl rfl ?_
                  refine x_zret hC rfl rfl rfl (by first | omega | exact b2i_01 _) ⟨_, rfl, ?_⟩
                  first
                  | (exfalso; omega)
                  | (refine K1 _ 0 0 _ ⟨hA.2, hc, Or.inr ⟨by omega, ⟨D11, ⟨by omega, h611⟩, hd11, by omega, c79.2, rfl, rfl⟩, rfl, rfl⟩⟩ X hB.1 (by have := hB.2.1; omega) (by rw [hB.2.2]; simp [ups]) (fun q => absurd q (by omega)))
                  | (refine K1 _ _ _ _ ⟨hA.2, hc, Or.inl ⟨by omega, _, _, ⟨D11, ⟨by omega, h611⟩, hd11, by omega, c25.2, rfl, rfl⟩, ⟨D28, ⟨by omega, h628⟩, hd28, by omega, c33.2, rfl, rfl⟩, Or.inl ⟨c43.1, c43.2, _, ⟨D52, ⟨by omega, h652⟩, hd52, by omega, c79.2, rfl, rfl⟩, rfl⟩⟩⟩ X hB.1 (by have := hB.2.1; omega) (by rw [hB.2.2]; simp [ups]) (fun _ => ⟨by rw [hB.2.2]; simp [ups], ?_⟩)
                     have hdv := dVal_rng (tx := B 5) D52 hd52
                     have hpb := pB_le ⟨D52, by omega⟩
                     dsimp only at hpb
                     rw [hB.2.2]
                     simp only [ups, if_true]
                     exact wr_id ⟨by omega, by omega⟩)
                  | (refine K1 _ _ _ _ ⟨hA.2, hc, Or.inl ⟨by omega, _, _, ⟨D11, ⟨by omega, h611⟩, hd11, by omega, c25.2, rfl, rfl⟩, ⟨D28, ⟨by omega, h628⟩, hd28, by omega, c33.2, rfl, rfl⟩, Or.inr ⟨c43, ⟨D52, ⟨by omega, h652⟩, hd52, by omega, c79.2, rfl, rfl⟩⟩⟩⟩ X hB.1 (by have := hB.2.1; omega) (by rw [hB.2.2]; simp [ups]) (fun _ => ⟨by rw [hB.2.2]; simp [ups], ?_⟩)
                     rw [hB.2.2]
                     simp [ups])
                  | (refine K0 (fun n0 n1 n2 nx O => ?_) _ (by first | exact hB.1 | exact (hB _).1) (by first | (rw [hB.2.1]; omega) | (rw [(hB _).2.1]; omega))
                     obtain ⟨o1, o2, ⟨o3, a1, a2, N1, N2, o4⟩ | ⟨o3, N1, o5, o6⟩⟩ := O
                     · first
                       | (exfalso; omega)
                       | (have q1 := num_of n44 h611 hd11 hs11 N1
                          obtain ⟨q11, q12, q13, q14, q15⟩ := q1
                          first
                          | (exfalso; omega)
                          | exact absurd ⟨q12, q13⟩ c25
                          | (subst q15
                             have q2 := num_of n44 h628 hd28 hs28 N2
                             obtain ⟨q21, q22, q23, q24, q25⟩ := q2
                             first
                             | (exfalso; omega)
                             | exact absurd ⟨q22, q23⟩ c33
                             | (subst q25
                                obtain ⟨s1, s2, x, N3, s3⟩ | ⟨s1, N3⟩ := o4
                                · first
                                  | exact absurd ⟨s1, s2⟩ c43
                                  | (have q3 := num_of n59 h652 hd52 hs52 N3
                                     obtain ⟨q31, q32, q33, q34, q35⟩ := q3
                                     first
                                     | (exfalso; omega)
                                     | exact absurd ⟨q32, q33⟩ c79
                                     | exact absurd ⟨q12, q13⟩ c79)
                                · first
                                  | exact absurd c43 s1
                                  | (have q3 := num_of n59 h652 hd52 hs52 N3
                                     obtain ⟨q31, q32, q33, q34, q35⟩ := q3
                                     first
                                     | (exfalso; omega)
                                     | exact absurd ⟨q32, q33⟩ c79
                                     | exact absurd ⟨q12, q13⟩ c79))))
                     · first
                       | (exfalso; omega)
                       | (have q1 := num_of n59 h611 hd11 hs11 N1
                          obtain ⟨q11, q12, q13, q14, q15⟩ := q1
                          first
                          | (exfalso; omega)
                          | exact absurd ⟨q32, q33⟩ c79
                          | exact absurd ⟨q12, q13⟩ c79))
                · have c53 := b2i_n0.mp c53
                  refine x_1 (p' := 55) hC rfl rfl rfl rfl ?_
                  refine x_1 (p' := 57) hC rfl rfl rfl rfl ?_
                  refine x_stI2 (p' := 58) hC rfl rfl rfl ?_
                  refine x_1 (p' := 59) hC rfl rfl rfl rfl ?_
                  refine y_gR (p' := 60) (n := 6) hO hC rfl rfl rfl rfl ?_
                  refine x_1 (p' := 61) hC rfl rfl rfl rfl ?_
                  refine x_1 (p' := 62) hC rfl rfl rfl rfl ?_
                  refine x_ifeq (p' := 63) hC rfl rfl (fun _ => ?_) (fun c => absurd c (by decide))
                  refine x_1 (p' := 70) hC rfl rfl rfl rfl ?_
                  refine y_gR (p' := 71) (n := 6) hO hC rfl rfl rfl rfl ?_
                  refine x_1 (p' := 72) hC rfl rfl rfl rfl ?_
                  refine y_ld (p' := 73) (L := 3) hO hC rfl rfl rfl rfl (by omega) (by omega) ?_
                  rw [hB.2.2]
                  refine y_st (p' := 74) (L := 3) hO hC rfl rfl rfl rfl (by omega) (by omega) ?_
                  have hB := fun v => hB.st 2 v
                  refine x_1 (p' := 75) hC rfl rfl rfl rfl ?_
                  refine x_ifeq (p' := 76) hC rfl rfl (fun c => absurd c (by decide)) (fun _ => ?_)
                  refine x_1 (p' := 77) hC rfl rfl rfl rfl ?_
                  refine x_1 (p' := 78) hC rfl rfl rfl rfl ?_
                  refine x_cIV1 (p' := 79) (n := 73) hC rfl rfl rfl rfl rfl (hO.ty) ?_
                  refine sp_m_has hO (by first | exact hB | exact hB _) (by omega) hLL (by omega) (fun X a78 e78 hB => ?_)
                  refine x_ifeq (p' := 80) hC rfl rfl (fun c79 => ?_) (fun c79 => ?_)
                  · have c79 := b2i_0.mp c79
                    refine x_1 (p' := 83) hC rfl rfl rfl rfl ?_
                    refine x_zret hC rfl rfl rfl (by first | omega | exact b2i_01 _) ⟨_, rfl, ?_⟩
                    first
                    | (exfalso; omega)
                    | (refine K1 _ 0 0 _ ⟨hA.2, hc, Or.inr ⟨by omega, ⟨D11, ⟨by omega, h611⟩, hd11, by omega, c79.2, rfl, rfl⟩, rfl, rfl⟩⟩ X hB.1 (by have := hB.2.1; omega) (by rw [hB.2.2]; simp [ups]) (fun q => absurd q (by omega)))
                    | (refine K1 _ _ _ _ ⟨hA.2, hc, Or.inl ⟨by omega, _, _, ⟨D11, ⟨by omega, h611⟩, hd11, by omega, c25.2, rfl, rfl⟩, ⟨D28, ⟨by omega, h628⟩, hd28, by omega, c33.2, rfl, rfl⟩, Or.inl ⟨c43.1, c43.2, _, ⟨D52, ⟨by omega, h652⟩, hd52, by omega, c79.2, rfl, rfl⟩, rfl⟩⟩⟩ X hB.1 (by have := hB.2.1; omega) (by rw [hB.2.2]; simp [ups]) (fun _ => ⟨by rw [hB.2.2]; simp [ups], ?_⟩)
                       have hdv := dVal_rng (tx := B 5) D52 hd52
                       have hpb := pB_le ⟨D52, by omega⟩
                       dsimp only at hpb
                       rw [hB.2.2]
                       simp only [ups, if_true]
                       exact wr_id ⟨by omega, by omega⟩)
                    | (refine K1 _ _ _ _ ⟨hA.2, hc, Or.inl ⟨by omega, _, _, ⟨D11, ⟨by omega, h611⟩, hd11, by omega, c25.2, rfl, rfl⟩, ⟨D28, ⟨by omega, h628⟩, hd28, by omega, c33.2, rfl, rfl⟩, Or.inr ⟨c43, ⟨D52, ⟨by omega, h652⟩, hd52, by omega, c79.2, rfl, rfl⟩⟩⟩⟩ X hB.1 (by have := hB.2.1; omega) (by rw [hB.2.2]; simp [ups]) (fun _ => ⟨by rw [hB.2.2]; simp [ups], ?_⟩)
                       rw [hB.2.2]
                       simp [ups])
                    | (refine K0 (fun n0 n1 n2 nx O => ?_) _ (by first | exact hB.1 | exact (hB _).1) (by first | (rw [hB.2.1]; omega) | (rw [(hB _).2.1]; omega))
                       obtain ⟨o1, o2, ⟨o3, a1, a2, N1, N2, o4⟩ | ⟨o3, N1, o5, o6⟩⟩ := O
                       · first
                         | (exfalso; omega)
                         | (have q1 := num_of n44 h611 hd11 hs11 N1
                            obtain ⟨q11, q12, q13, q14, q15⟩ := q1
                            first
                            | (exfalso; omega)
                            | exact absurd ⟨q12, q13⟩ c25
                            | (subst q15
                               have q2 := num_of n44 h628 hd28 hs28 N2
                               obtain ⟨q21, q22, q23, q24, q25⟩ := q2
                               first
                               | (exfalso; omega)
                               | exact absurd ⟨q22, q23⟩ c33
                               | (subst q25
                                  obtain ⟨s1, s2, x, N3, s3⟩ | ⟨s1, N3⟩ := o4
                                  · first
                                    | exact absurd ⟨s1, s2⟩ c43
                                    | (have q3 := num_of n59 h652 hd52 hs52 N3
                                       obtain ⟨q31, q32, q33, q34, q35⟩ := q3
                                       first
                                       | (exfalso; omega)
                                       | exact absurd ⟨q32, q33⟩ c79
                                       | exact absurd ⟨q12, q13⟩ c79)
                                  · first
                                    | exact absurd c43 s1
                                    | (have q3 := num_of n59 h652 hd52 hs52 N3
                                       obtain ⟨q31, q32, q33, q34, q35⟩ := q3
                                       first
                                       | (exfalso; omega)
                                       | exact absurd ⟨q32, q33⟩ c79
                                       | exact absurd ⟨q12, q13⟩ c79))))
                       · first
                         | (exfalso; omega)
                         | (have q1 := num_of n59 h611 hd11 hs11 N1
                            obtain ⟨q11, q12, q13, q14, q15⟩ := q1
                            first
                            | (exfalso; omega)
                            | exact absurd ⟨q32, q33⟩ c79
                            | exact absurd ⟨q12, q13⟩ c79))
                  · have c79 := b2i_n0.mp c79
                    refine x_1 (p' := 81) hC rfl rfl rfl rfl ?_
                    refine x_1 (p' := 83) hC rfl rfl rfl rfl ?_
                    refine x_zret hC rfl rfl rfl (by first | omega | exact b2i_01 _) ⟨_, rfl, ?_⟩
                    first
                    | (exfalso; omega)
                    | (refine K1 _ 0 0 _ ⟨hA.2, hc, Or.inr ⟨by omega, ⟨D11, ⟨by omega, h611⟩, hd11, by omega, c79.2, rfl, rfl⟩, rfl, rfl⟩⟩ X hB.1 (by have := hB.2.1; omega) (by rw [hB.2.2]; simp [ups]) (fun q => absurd q (by omega)))
                    | (refine K1 _ _ _ _ ⟨hA.2, hc, Or.inl ⟨by omega, _, _, ⟨D11, ⟨by omega, h611⟩, hd11, by omega, c25.2, rfl, rfl⟩, ⟨D28, ⟨by omega, h628⟩, hd28, by omega, c33.2, rfl, rfl⟩, Or.inl ⟨c43.1, c43.2, _, ⟨D52, ⟨by omega, h652⟩, hd52, by omega, c79.2, rfl, rfl⟩, rfl⟩⟩⟩ X hB.1 (by have := hB.2.1; omega) (by rw [hB.2.2]; simp [ups]) (fun _ => ⟨by rw [hB.2.2]; simp [ups], ?_⟩)
                       have hdv := dVal_rng (tx := B 5) D52 hd52
                       have hpb := pB_le ⟨D52, by omega⟩
                       dsimp only at hpb
                       rw [hB.2.2]
                       simp only [ups, if_true]
                       exact wr_id ⟨by omega, by omega⟩)
                    | (refine K1 _ _ _ _ ⟨hA.2, hc, Or.inl ⟨by omega, _, _, ⟨D11, ⟨by omega, h611⟩, hd11, by omega, c25.2, rfl, rfl⟩, ⟨D28, ⟨by omega, h628⟩, hd28, by omega, c33.2, rfl, rfl⟩, Or.inr ⟨c43, ⟨D52, ⟨by omega, h652⟩, hd52, by omega, c79.2, rfl, rfl⟩⟩⟩⟩ X hB.1 (by have := hB.2.1; omega) (by rw [hB.2.2]; simp [ups]) (fun _ => ⟨by rw [hB.2.2]; simp [ups], ?_⟩)
                       rw [hB.2.2]
                       simp [ups])
                    | (refine K0 (fun n0 n1 n2 nx O => ?_) _ (by first | exact hB.1 | exact (hB _).1) (by first | (rw [hB.2.1]; omega) | (rw [(hB _).2.1]; omega))
                       obtain ⟨o1, o2, ⟨o3, a1, a2, N1, N2, o4⟩ | ⟨o3, N1, o5, o6⟩⟩ := O
                       · first
                         | (exfalso; omega)
                         | (have q1 := num_of n44 h611 hd11 hs11 N1
                            obtain ⟨q11, q12, q13, q14, q15⟩ := q1
                            first
                            | (exfalso; omega)
                            | exact absurd ⟨q12, q13⟩ c25
                            | (subst q15
                               have q2 := num_of n44 h628 hd28 hs28 N2
                               obtain ⟨q21, q22, q23, q24, q25⟩ := q2
                               first
                               | (exfalso; omega)
                               | exact absurd ⟨q22, q23⟩ c33
                               | (subst q25
                                  obtain ⟨s1, s2, x, N3, s3⟩ | ⟨s1, N3⟩ := o4
                                  · first
                                    | exact absurd ⟨s1, s2⟩ c43
                                    | (have q3 := num_of n59 h652 hd52 hs52 N3
                                       obtain ⟨q31, q32, q33, q34, q35⟩ := q3
                                       first
                                       | (exfalso; omega)
                                       | exact absurd ⟨q32, q33⟩ c79
                                       | exact absurd ⟨q12, q13⟩ c79)
                                  · first
                                    | exact absurd c43 s1
                                    | (have q3 := num_of n59 h652 hd52 hs52 N3
                                       obtain ⟨q31, q32, q33, q34, q35⟩ := q3
                                       first
                                       | (exfalso; omega)
                                       | exact absurd ⟨q32, q33⟩ c79
                                       | exact absurd ⟨q12, q13⟩ c79))))
                       · first
                         | (exfalso; omega)
                         | (have q1 := num_of n59 h611 hd11 hs11 N1
                            obtain ⟨q11, q12, q13, q14, q15⟩ := q1
                            first
                            | (exfalso; omega)
                            | exact absurd ⟨q32, q33⟩ c79
                            | exact absurd ⟨q12, q13⟩ c79))
              · have c43 := b2i_n0.mp c43
                have ea : a42 = A + 1 + (D11 : Int) + 1 + (D28 : Int) + 1 + 1 := by omega
                subst ea
                refine x_1 (p' := 45) hC rfl rfl rfl rfl ?_
                refine x_1 (p' := 47) hC rfl rfl rfl rfl ?_
                refine x_stI3 (p' := 48) hC rfl rfl rfl ?_
                refine x_1 (p' := 49) hC rfl rfl rfl rfl ?_
                refine x_ifeq (p' := 50) hC rfl rfl (fun c => absurd c (by decide)) (fun _ => ?_)
                refine x_1 (p' := 51) hC rfl rfl rfl rfl ?_
                refine x_1 (p' := 52) hC rfl rfl rfl rfl ?_
                refine x_cIV1 (p' := 53) (n := 74) hC rfl rfl rfl rfl rfl (hO.ty) ?_
                refine sp_m_takes hO hB (by omega) hLL (by omega) (by decide) (fun D52 X h652 hd52 hl52 hs52 hB => ?_)
                refine x_ifeq (p' := 54) hC rfl rfl (fun c53 => ?_) (fun c53 => ?_)
                · have c53 := b2i_0.mp c53
                  refine x_1 (p' := 57) hC rfl rfl rfl rfl ?_
                  refine x_stI2 (p' := 58) hC rfl rfl rfl ?_
                  refine x_1 (p' := 59) hC rfl rfl rfl rfl ?_
                  refine y_gR (p' := 60) (n := 6) hO hC rfl rfl rfl rfl ?_
                  refine x_1 (p' := 61) hC rfl rfl rfl rfl ?_
                  refine x_1 (p' := 62) hC rfl rfl rfl rfl ?_
                  refine x_ifeq (p' := 63) hC rfl rfl (fun c => absurd c (by decide)) (fun _ => ?_)
                  refine x_1 (p' := 64) hC rfl rfl rfl rfl ?_
                  refine y_gR (p' := 65) (n := 6) hO hC rfl rfl rfl rfl ?_
                  refine x_1 (p' := 66) hC rfl rfl rfl rfl ?_
                  refine y_ld (p' := 67) (L := 3) hO hC rfl rfl rfl rfl (by omega) (by omega) ?_
                  rw [hB.2.2]
                  refine x_1 (p' := 68) hC rfl rfl rfl rfl ?_
                  refine x_1 (p' := 73) hC rfl rfl rfl rfl ?_
                  refine y_st (p' := 74) (L := 3) hO hC rfl rfl rfl rfl (by omega) (by omega) ?_
                  have hB := fun v => hB.st 2 v
                  refine x_1 (p' := 75) hC rfl rfl rfl rfl ?_
                  refine x_ifeq (p' := 76) hC rfl rfl (fun _ => ?_) (fun c => absurd c (by decide))
                  refine x_1 (p' := 83) hC rfl rfl rfl rfl ?_
                  refine x_zret hC rfl rfl rfl (by first | omega | exact b2i_01 _) ⟨_, rfl, ?_⟩
                  first
                  | (exfalso; omega)
                  | (refine K1 _ 0 0 _ ⟨hA.2, hc, Or.inr ⟨by omega, ⟨D11, ⟨by omega, h611⟩, hd11, by omega, c79.2, rfl, rfl⟩, rfl, rfl⟩⟩ X hB.1 (by have := hB.2.1; omega) (by rw [hB.2.2]; simp [ups]) (fun q => absurd q (by omega)))
                  | (refine K1 _ _ _ _ ⟨hA.2, hc, Or.inl ⟨by omega, _, _, ⟨D11, ⟨by omega, h611⟩, hd11, by omega, c25.2, rfl, rfl⟩, ⟨D28, ⟨by omega, h628⟩, hd28, by omega, c33.2, rfl, rfl⟩, Or.inl ⟨c43.1, c43.2, _, ⟨D52, ⟨by omega, h652⟩, hd52, by omega, c79.2, rfl, rfl⟩, rfl⟩⟩⟩ X hB.1 (by have := hB.2.1; omega) (by rw [hB.2.2]; simp [ups]) (fun _ => ⟨by rw [hB.2.2]; simp [ups], ?_⟩)
                     have hdv := dVal_rng (tx := B 5) D52 hd52
                     have hpb := pB_le ⟨D52, by omega⟩
                     dsimp only at hpb
                     rw [hB.2.2]
                     simp only [ups, if_true]
                     exact wr_id ⟨by omega, by omega⟩)
                  | (refine K1 _ _ _ _ ⟨hA.2, hc, Or.inl ⟨by omega, _, _, ⟨D11, ⟨by omega, h611⟩, hd11, by omega, c25.2, rfl, rfl⟩, ⟨D28, ⟨by omega, h628⟩, hd28, by omega, c33.2, rfl, rfl⟩, Or.inr ⟨c43, ⟨D52, ⟨by omega, h652⟩, hd52, by omega, c79.2, rfl, rfl⟩⟩⟩⟩ X hB.1 (by have := hB.2.1; omega) (by rw [hB.2.2]; simp [ups]) (fun _ => ⟨by rw [hB.2.2]; simp [ups], ?_⟩)
                     rw [hB.2.2]
                     simp [ups])
                  | (refine K0 (fun n0 n1 n2 nx O => ?_) _ (by first | exact hB.1 | exact (hB _).1) (by first | (rw [hB.2.1]; omega) | (rw [(hB _).2.1]; omega))
                     obtain ⟨o1, o2, ⟨o3, a1, a2, N1, N2, o4⟩ | ⟨o3, N1, o5, o6⟩⟩ := O
                     · first
                       | (exfalso; omega)
                       | (have q1 := num_of n44 h611 hd11 hs11 N1
                          obtain ⟨q11, q12, q13, q14, q15⟩ := q1
                          first
                          | (exfalso; omega)
                          | exact absurd ⟨q12, q13⟩ c25
                          | (subst q15
                             have q2 := num_of n44 h628 hd28 hs28 N2
                             obtain ⟨q21, q22, q23, q24, q25⟩ := q2
                             first
                             | (exfalso; omega)
                             | exact absurd ⟨q22, q23⟩ c33
                             | (subst q25
                                obtain ⟨s1, s2, x, N3, s3⟩ | ⟨s1, N3⟩ := o4
                                · first
                                  | exact absurd ⟨s1, s2⟩ c43
                                  | (have q3 := num_of n59 h652 hd52 hs52 N3
                                     obtain ⟨q31, q32, q33, q34, q35⟩ := q3
                                     first
                                     | (exfalso; omega)
                                     | exact absurd ⟨q32, q33⟩ c79
                                     | exact absurd ⟨q12, q13⟩ c79)
                                · first
                                  | exact absurd c43 s1
                                  | (have q3 := num_of n59 h652 hd52 hs52 N3
                                     obtain ⟨q31, q32, q33, q34, q35⟩ := q3
                                     first
                                     | (exfalso; omega)
                                     | exact absurd ⟨q32, q33⟩ c79
                                     | exact absurd ⟨q12, q13⟩ c79))))
                     · first
                       | (exfalso; omega)
                       | (have q1 := num_of n59 h611 hd11 hs11 N1
                          obtain ⟨q11, q12, q13, q14, q15⟩ := q1
                          first
                          | (exfalso; omega)
                          | exact absurd ⟨q32, q33⟩ c79
                          | exact absurd ⟨q12, q13⟩ c79))
                · have c53 := b2i_n0.mp c53
                  refine x_1 (p' := 55) hC rfl rfl rfl rfl ?_
                  refine x_1 (p' := 57) hC rfl rfl rfl rfl ?_
                  refine x_stI2 (p' := 58) hC rfl rfl rfl ?_
                  refine x_1 (p' := 59) hC rfl rfl rfl rfl ?_
                  refine y_gR (p' := 60) (n := 6) hO hC rfl rfl rfl rfl ?_
                  refine x_1 (p' := 61) hC rfl rfl rfl rfl ?_
                  refine x_1 (p' := 62) hC rfl rfl rfl rfl ?_
                  refine x_ifeq (p' := 63) hC rfl rfl (fun c => absurd c (by decide)) (fun _ => ?_)
                  refine x_1 (p' := 64) hC rfl rfl rfl rfl ?_
                  refine y_gR (p' := 65) (n := 6) hO hC rfl rfl rfl rfl ?_
                  refine x_1 (p' := 66) hC rfl rfl rfl rfl ?_
                  refine y_ld (p' := 67) (L := 3) hO hC rfl rfl rfl rfl (by omega) (by omega) ?_
                  rw [hB.2.2]
                  refine x_1 (p' := 68) hC rfl rfl rfl rfl ?_
                  refine x_1 (p' := 73) hC rfl rfl rfl rfl ?_
                  refine y_st (p' := 74) (L := 3) hO hC rfl rfl rfl rfl (by omega) (by omega) ?_
                  have hB := fun v => hB.st 2 v
                  refine x_1 (p' := 75) hC rfl rfl rfl rfl ?_
                  refine x_ifeq (p' := 76) hC rfl rfl (fun c => absurd c (by decide)) (fun _ => ?_)
                  refine x_1 (p' := 77) hC rfl rfl rfl rfl ?_
                  refine x_1 (p' := 78) hC rfl rfl rfl rfl ?_
                  refine x_cIV1 (p' := 79) (n := 73) hC rfl rfl rfl rfl rfl (hO.ty) ?_
                  refine sp_m_has hO (by first | exact hB | exact hB _) (by omega) hLL (by omega) (fun X a78 e78 hB => ?_)
                  refine x_ifeq (p' := 80) hC rfl rfl (fun c79 => ?_) (fun c79 => ?_)
                  · have c79 := b2i_0.mp c79
                    refine x_1 (p' := 83) hC rfl rfl rfl rfl ?_
                    refine x_zret hC rfl rfl rfl (by first | omega | exact b2i_01 _) ⟨_, rfl, ?_⟩
                    first
                    | (exfalso; omega)
                    | (refine K1 _ 0 0 _ ⟨hA.2, hc, Or.inr ⟨by omega, ⟨D11, ⟨by omega, h611⟩, hd11, by omega, c79.2, rfl, rfl⟩, rfl, rfl⟩⟩ X hB.1 (by have := hB.2.1; omega) (by rw [hB.2.2]; simp [ups]) (fun q => absurd q (by omega)))
                    | (refine K1 _ _ _ _ ⟨hA.2, hc, Or.inl ⟨by omega, _, _, ⟨D11, ⟨by omega, h611⟩, hd11, by omega, c25.2, rfl, rfl⟩, ⟨D28, ⟨by omega, h628⟩, hd28, by omega, c33.2, rfl, rfl⟩, Or.inl ⟨c43.1, c43.2, _, ⟨D52, ⟨by omega, h652⟩, hd52, by omega, c79.2, rfl, rfl⟩, rfl⟩⟩⟩ X hB.1 (by have := hB.2.1; omega) (by rw [hB.2.2]; simp [ups]) (fun _ => ⟨by rw [hB.2.2]; simp [ups], ?_⟩)
                       have hdv := dVal_rng (tx := B 5) D52 hd52
                       have hpb := pB_le ⟨D52, by omega⟩
                       dsimp only at hpb
                       rw [hB.2.2]
                       simp only [ups, if_true]
                       exact wr_id ⟨by omega, by omega⟩)
                    | (refine K1 _ _ _ _ ⟨hA.2, hc, Or.inl ⟨by omega, _, _, ⟨D11, ⟨by omega, h611⟩, hd11, by omega, c25.2, rfl, rfl⟩, ⟨D28, ⟨by omega, h628⟩, hd28, by omega, c33.2, rfl, rfl⟩, Or.inr ⟨c43, ⟨D52, ⟨by omega, h652⟩, hd52, by omega, c79.2, rfl, rfl⟩⟩⟩⟩ X hB.1 (by have := hB.2.1; omega) (by rw [hB.2.2]; simp [ups]) (fun _ => ⟨by rw [hB.2.2]; simp [ups], ?_⟩)
                       rw [hB.2.2]
                       simp [ups])
                    | (refine K0 (fun n0 n1 n2 nx O => ?_) _ (by first | exact hB.1 | exact (hB _).1) (by first | (rw [hB.2.1]; omega) | (rw [(hB _).2.1]; omega))
                       obtain ⟨o1, o2, ⟨o3, a1, a2, N1, N2, o4⟩ | ⟨o3, N1, o5, o6⟩⟩ := O
                       · first
                         | (exfalso; omega)
                         | (have q1 := num_of n44 h611 hd11 hs11 N1
                            obtain ⟨q11, q12, q13, q14, q15⟩ := q1
                            first
                            | (exfalso; omega)
                            | exact absurd ⟨q12, q13⟩ c25
                            | (subst q15
                               have q2 := num_of n44 h628 hd28 hs28 N2
                               obtain ⟨q21, q22, q23, q24, q25⟩ := q2
                               first
                               | (exfalso; omega)
                               | exact absurd ⟨q22, q23⟩ c33
                               | (subst q25
                                  obtain ⟨s1, s2, x, N3, s3⟩ | ⟨s1, N3⟩ := o4
                                  · first
                                    | exact absurd ⟨s1, s2⟩ c43
                                    | (have q3 := num_of n59 h652 hd52 hs52 N3
                                       obtain ⟨q31, q32, q33, q34, q35⟩ := q3
                                       first
                                       | (exfalso; omega)
                                       | exact absurd ⟨q32, q33⟩ c79
                                       | exact absurd ⟨q12, q13⟩ c79)
                                  · first
                                    | exact absurd c43 s1
                                    | (have q3 := num_of n59 h652 hd52 hs52 N3
                                       obtain ⟨q31, q32, q33, q34, q35⟩ := q3
                                       first
                                       | (exfalso; omega)
                                       | exact absurd ⟨q32, q33⟩ c79
                                       | exact absurd ⟨q12, q13⟩ c79))))
                       · first
                         | (exfalso; omega)
                         | (have q1 := num_of n59 h611 hd11 hs11 N1
                            obtain ⟨q11, q12, q13, q14, q15⟩ := q1
                            first
                            | (exfalso; omega)
                            | exact absurd ⟨q32, q33⟩ c79
                            | exact absurd ⟨q12, q13⟩ c79))
                  · have c79 := b2i_n0.mp c79
                    refine x_1 (p' := 81) hC rfl rfl rfl rfl ?_
                    refine x_1 (p' := 83) hC rfl rfl rfl rfl ?_
                    refine x_zret hC rfl rfl rfl (by first | omega | exact b2i_01 _) ⟨_, rfl, ?_⟩
                    first
                    | (exfalso; omega)
                    | (refine K1 _ 0 0 _ ⟨hA.2, hc, Or.inr ⟨by omega, ⟨D11, ⟨by omega, h611⟩, hd11, by omega, c79.2, rfl, rfl⟩, rfl, rfl⟩⟩ X hB.1 (by have := hB.2.1; omega) (by rw [hB.2.2]; simp [ups]) (fun q => absurd q (by omega)))
                    | (refine K1 _ _ _ _ ⟨hA.2, hc, Or.inl ⟨by omega, _, _, ⟨D11, ⟨by omega, h611⟩, hd11, by omega, c25.2, rfl, rfl⟩, ⟨D28, ⟨by omega, h628⟩, hd28, by omega, c33.2, rfl, rfl⟩, Or.inl ⟨c43.1, c43.2, _, ⟨D52, ⟨by omega, h652⟩, hd52, by omega, c79.2, rfl, rfl⟩, rfl⟩⟩⟩ X hB.1 (by have := hB.2.1; omega) (by rw [hB.2.2]; simp [ups]) (fun _ => ⟨by rw [hB.2.2]; simp [ups], ?_⟩)
                       have hdv := dVal_rng (tx := B 5) D52 hd52
                       have hpb := pB_le ⟨D52, by omega⟩
                       dsimp only at hpb
                       rw [hB.2.2]
                       simp only [ups, if_true]
                       exact wr_id ⟨by omega, by omega⟩)
                    | (refine K1 _ _ _ _ ⟨hA.2, hc, Or.inl ⟨by omega, _, _, ⟨D11, ⟨by omega, h611⟩, hd11, by omega, c25.2, rfl, rfl⟩, ⟨D28, ⟨by omega, h628⟩, hd28, by omega, c33.2, rfl, rfl⟩, Or.inr ⟨c43, ⟨D52, ⟨by omega, h652⟩, hd52, by omega, c79.2, rfl, rfl⟩⟩⟩⟩ X hB.1 (by have := hB.2.1; omega) (by rw [hB.2.2]; simp [ups]) (fun _ => ⟨by rw [hB.2.2]; simp [ups], ?_⟩)
                       rw [hB.2.2]
                       simp [ups])
                    | (refine K0 (fun n0 n1 n2 nx O => ?_) _ (by first | exact hB.1 | exact (hB _).1) (by first | (rw [hB.2.1]; omega) | (rw [(hB _).2.1]; omega))
                       obtain ⟨o1, o2, ⟨o3, a1, a2, N1, N2, o4⟩ | ⟨o3, N1, o5, o6⟩⟩ := O
                       · first
                         | (exfalso; omega)
                         | (have q1 := num_of n44 h611 hd11 hs11 N1
                            obtain ⟨q11, q12, q13, q14, q15⟩ := q1
                            first
                            | (exfalso; omega)
                            | exact absurd ⟨q12, q13⟩ c25
                            | (subst q15
                               have q2 := num_of n44 h628 hd28 hs28 N2
                               obtain ⟨q21, q22, q23, q24, q25⟩ := q2
                               first
                               | (exfalso; omega)
                               | exact absurd ⟨q22, q23⟩ c33
                               | (subst q25
                                  obtain ⟨s1, s2, x, N3, s3⟩ | ⟨s1, N3⟩ := o4
                                  · first
                                    | exact absurd ⟨s1, s2⟩ c43
                                    | (have q3 := num_of n59 h652 hd52 hs52 N3
                                       obtain ⟨q31, q32, q33, q34, q35⟩ := q3
                                       first
                                       | (exfalso; omega)
                                       | exact absurd ⟨q32, q33⟩ c79
                                       | exact absurd ⟨q12, q13⟩ c79)
                                  · first
                                    | exact absurd c43 s1
                                    | (have q3 := num_of n59 h652 hd52 hs52 N3
                                       obtain ⟨q31, q32, q33, q34, q35⟩ := q3
                                       first
                                       | (exfalso; omega)
                                       | exact absurd ⟨q32, q33⟩ c79
                                       | exact absurd ⟨q12, q13⟩ c79))))
                       · first
                         | (exfalso; omega)
                         | (have q1 := num_of n59 h611 hd11 hs11 N1
                            obtain ⟨q11, q12, q13, q14, q15⟩ := q1
                            first
                            | (exfalso; omega)
                            | exact absurd ⟨q32, q33⟩ c79
                            | exact absurd ⟨q12, q13⟩ c79))
  · refine x_1 (p' := 4) hC rfl rfl rfl rfl ?_
    refine x_1 (p' := 5) hC rfl rfl rfl rfl ?_
    refine x_iceq (p' := 6) hC rfl rfl (fun c5 => ?_) (fun c5 => ?_)
    · refine x_1 (p' := 10) hC rfl rfl rfl rfl ?_
      refine x_1 (p' := 11) hC rfl rfl rfl rfl ?_
      refine x_cIV1 (p' := 12) (n := 74) hC rfl rfl rfl rfl rfl (hO.ty) ?_
      refine sp_m_takes hO hB (by omega) hLL (by omega) (by decide) (fun D11 X h611 hd11 hl11 hs11 hB => ?_)
      refine x_ifeq (p' := 13) hC rfl rfl (fun c12 => ?_) (fun c12 => ?_)
      · have c12 := b2i_0.mp c12
        refine x_1 (p' := 16) hC rfl rfl rfl rfl ?_
        refine x_stI2 (p' := 17) hC rfl rfl rfl ?_
        refine x_1 (p' := 18) hC rfl rfl rfl rfl ?_
        refine x_ifeq (p' := 19) hC rfl rfl (fun _ => ?_) (fun c => absurd c (by decide))
        refine x_1 (p' := 75) hC rfl rfl rfl rfl ?_
        refine x_ifeq (p' := 76) hC rfl rfl (fun _ => ?_) (fun c => absurd c (by decide))
        refine x_1 (p' := 83) hC rfl rfl rfl rfl ?_
        refine x_zret hC rfl rfl rfl (by first | omega | exact b2i_01 _) ⟨_, rfl, ?_⟩
        first
        | (exfalso; omega)
        | (refine K1 _ 0 0 _ ⟨hA.2, hc, Or.inr ⟨by omega, ⟨D11, ⟨by omega, h611⟩, hd11, by omega, c79.2, rfl, rfl⟩, rfl, rfl⟩⟩ X hB.1 (by have := hB.2.1; omega) (by rw [hB.2.2]; simp [ups]) (fun q => absurd q (by omega)))
        | (refine K1 _ _ _ _ ⟨hA.2, hc, Or.inl ⟨by omega, _, _, ⟨D11, ⟨by omega, h611⟩, hd11, by omega, c25.2, rfl, rfl⟩, ⟨D28, ⟨by omega, h628⟩, hd28, by omega, c33.2, rfl, rfl⟩, Or.inl ⟨c43.1, c43.2, _, ⟨D52, ⟨by omega, h652⟩, hd52, by omega, c79.2, rfl, rfl⟩, rfl⟩⟩⟩ X hB.1 (by have := hB.2.1; omega) (by rw [hB.2.2]; simp [ups]) (fun _ => ⟨by rw [hB.2.2]; simp [ups], ?_⟩)
           have hdv := dVal_rng (tx := B 5) D52 hd52
           have hpb := pB_le ⟨D52, by omega⟩
           dsimp only at hpb
           rw [hB.2.2]
           simp only [ups, if_true]
           exact wr_id ⟨by omega, by omega⟩)
        | (refine K1 _ _ _ _ ⟨hA.2, hc, Or.inl ⟨by omega, _, _, ⟨D11, ⟨by omega, h611⟩, hd11, by omega, c25.2, rfl, rfl⟩, ⟨D28, ⟨by omega, h628⟩, hd28, by omega, c33.2, rfl, rfl⟩, Or.inr ⟨c43, ⟨D52, ⟨by omega, h652⟩, hd52, by omega, c79.2, rfl, rfl⟩⟩⟩⟩ X hB.1 (by have := hB.2.1; omega) (by rw [hB.2.2]; simp [ups]) (fun _ => ⟨by rw [hB.2.2]; simp [ups], ?_⟩)
           rw [hB.2.2]
           simp [ups])
        | (refine K0 (fun n0 n1 n2 nx O => ?_) _ (by first | exact hB.1 | exact (hB _).1) (by first | (rw [hB.2.1]; omega) | (rw [(hB _).2.1]; omega))
           obtain ⟨o1, o2, ⟨o3, a1, a2, N1, N2, o4⟩ | ⟨o3, N1, o5, o6⟩⟩ := O
           · first
             | (exfalso; omega)
             | (have q1 := num_of n44 h611 hd11 hs11 N1
                obtain ⟨q11, q12, q13, q14, q15⟩ := q1
                first
                | (exfalso; omega)
                | exact absurd ⟨q12, q13⟩ c25
                | (subst q15
                   have q2 := num_of n44 h628 hd28 hs28 N2
                   obtain ⟨q21, q22, q23, q24, q25⟩ := q2
                   first
                   | (exfalso; omega)
                   | exact absurd ⟨q22, q23⟩ c33
                   | (subst q25
                      obtain ⟨s1, s2, x, N3, s3⟩ | ⟨s1, N3⟩ := o4
                      · first
                        | exact absurd ⟨s1, s2⟩ c43
                        | (have q3 := num_of n59 h652 hd52 hs52 N3
                           obtain ⟨q31, q32, q33, q34, q35⟩ := q3
                           first
                           | (exfalso; omega)
                           | exact absurd ⟨q32, q33⟩ c79
                           | exact absurd ⟨q12, q13⟩ c79)
                      · first
                        | exact absurd c43 s1
                        | (have q3 := num_of n59 h652 hd52 hs52 N3
                           obtain ⟨q31, q32, q33, q34, q35⟩ := q3
                           first
                           | (exfalso; omega)
                           | exact absurd ⟨q32, q33⟩ c79
                           | exact absurd ⟨q12, q13⟩ c79))))
           · first
             | (exfalso; omega)
             | (have q1 := num_of n59 h611 hd11 hs11 N1
                obtain ⟨q11, q12, q13, q14, q15⟩ := q1
                first
                | (exfalso; omega)
                | exact absurd ⟨q32, q33⟩ c79
                | exact absurd ⟨q12, q13⟩ c79))
      · have c12 := b2i_n0.mp c12
        refine x_1 (p' := 14) hC rfl rfl rfl rfl ?_
        refine x_1 (p' := 16) hC rfl rfl rfl rfl ?_
        refine x_stI2 (p' := 17) hC rfl rfl rfl ?_
        refine x_1 (p' := 18) hC rfl rfl rfl rfl ?_
        refine x_ifeq (p' := 19) hC rfl rfl (fun c => absurd c (by decide)) (fun _ => ?_)
        refine x_1 (p' := 20) hC rfl rfl rfl rfl ?_
        refine x_1 (p' := 21) hC rfl rfl rfl rfl ?_
        refine x_icne (p' := 22) hC rfl rfl (fun c21 => ?_) (fun c21 => ?_)
        · refine x_1 (p' := 75) hC rfl rfl rfl rfl ?_
          refine x_ifeq (p' := 76) hC rfl rfl (fun c => absurd c (by decide)) (fun _ => ?_)
          refine x_1 (p' := 77) hC rfl rfl rfl rfl ?_
          refine x_1 (p' := 78) hC rfl rfl rfl rfl ?_
          refine x_cIV1 (p' := 79) (n := 73) hC rfl rfl rfl rfl rfl (hO.ty) ?_
          refine sp_m_has hO (by first | exact hB | exact hB _) (by omega) hLL (by omega) (fun X a78 e78 hB => ?_)
          refine x_ifeq (p' := 80) hC rfl rfl (fun c79 => ?_) (fun c79 => ?_)
          · have c79 := b2i_0.mp c79
            refine x_1 (p' := 83) hC rfl rfl rfl rfl ?_
            refine x_zret hC rfl rfl rfl (by first | omega | exact b2i_01 _) ⟨_, rfl, ?_⟩
            first
            | (exfalso; omega)
            | (refine K1 _ 0 0 _ ⟨hA.2, hc, Or.inr ⟨by omega, ⟨D11, ⟨by omega, h611⟩, hd11, by omega, c79.2, rfl, rfl⟩, rfl, rfl⟩⟩ X hB.1 (by have := hB.2.1; omega) (by rw [hB.2.2]; simp [ups]) (fun q => absurd q (by omega)))
            | (refine K1 _ _ _ _ ⟨hA.2, hc, Or.inl ⟨by omega, _, _, ⟨D11, ⟨by omega, h611⟩, hd11, by omega, c25.2, rfl, rfl⟩, ⟨D28, ⟨by omega, h628⟩, hd28, by omega, c33.2, rfl, rfl⟩, Or.inl ⟨c43.1, c43.2, _, ⟨D52, ⟨by omega, h652⟩, hd52, by omega, c79.2, rfl, rfl⟩, rfl⟩⟩⟩ X hB.1 (by have := hB.2.1; omega) (by rw [hB.2.2]; simp [ups]) (fun _ => ⟨by rw [hB.2.2]; simp [ups], ?_⟩)
               have hdv := dVal_rng (tx := B 5) D52 hd52
               have hpb := pB_le ⟨D52, by omega⟩
               dsimp only at hpb
               rw [hB.2.2]
               simp only [ups, if_true]
               exact wr_id ⟨by omega, by omega⟩)
            | (refine K1 _ _ _ _ ⟨hA.2, hc, Or.inl ⟨by omega, _, _, ⟨D11, ⟨by omega, h611⟩, hd11, by omega, c25.2, rfl, rfl⟩, ⟨D28, ⟨by omega, h628⟩, hd28, by omega, c33.2, rfl, rfl⟩, Or.inr ⟨c43, ⟨D52, ⟨by omega, h652⟩, hd52, by omega, c79.2, rfl, rfl⟩⟩⟩⟩ X hB.1 (by have := hB.2.1; omega) (by rw [hB.2.2]; simp [ups]) (fun _ => ⟨by rw [hB.2.2]; simp [ups], ?_⟩)
               rw [hB.2.2]
               simp [ups])
            | (refine K0 (fun n0 n1 n2 nx O => ?_) _ (by first | exact hB.1 | exact (hB _).1) (by first | (rw [hB.2.1]; omega) | (rw [(hB _).2.1]; omega))
               obtain ⟨o1, o2, ⟨o3, a1, a2, N1, N2, o4⟩ | ⟨o3, N1, o5, o6⟩⟩ := O
               · first
                 | (exfalso; omega)
                 | (have q1 := num_of n44 h611 hd11 hs11 N1
                    obtain ⟨q11, q12, q13, q14, q15⟩ := q1
                    first
                    | (exfalso; omega)
                    | exact absurd ⟨q12, q13⟩ c25
                    | (subst q15
                       have q2 := num_of n44 h628 hd28 hs28 N2
                       obtain ⟨q21, q22, q23, q24, q25⟩ := q2
                       first
                       | (exfalso; omega)
                       | exact absurd ⟨q22, q23⟩ c33
                       | (subst q25
                          obtain ⟨s1, s2, x, N3, s3⟩ | ⟨s1, N3⟩ := o4
                          · first
                            | exact absurd ⟨s1, s2⟩ c43
                            | (have q3 := num_of n59 h652 hd52 hs52 N3
                               obtain ⟨q31, q32, q33, q34, q35⟩ := q3
                               first
                               | (exfalso; omega)
                               | exact absurd ⟨q32, q33⟩ c79
                               | exact absurd ⟨q12, q13⟩ c79)
                          · first
                            | exact absurd c43 s1
                            | (have q3 := num_of n59 h652 hd52 hs52 N3
                               obtain ⟨q31, q32, q33, q34, q35⟩ := q3
                               first
                               | (exfalso; omega)
                               | exact absurd ⟨q32, q33⟩ c79
                               | exact absurd ⟨q12, q13⟩ c79))))
               · first
                 | (exfalso; omega)
                 | (have q1 := num_of n59 h611 hd11 hs11 N1
                    obtain ⟨q11, q12, q13, q14, q15⟩ := q1
                    first
                    | (exfalso; omega)
                    | exact absurd ⟨q32, q33⟩ c79
                    | exact absurd ⟨q12, q13⟩ c79))
          · have c79 := b2i_n0.mp c79
            refine x_1 (p' := 81) hC rfl rfl rfl rfl ?_
            refine x_1 (p' := 83) hC rfl rfl rfl rfl ?_
            refine x_zret hC rfl rfl rfl (by first | omega | exact b2i_01 _) ⟨_, rfl, ?_⟩
            first
            | (exfalso; omega)
            | (refine K1 _ 0 0 _ ⟨hA.2, hc, Or.inr ⟨by omega, ⟨D11, ⟨by omega, h611⟩, hd11, by omega, c79.2, rfl, rfl⟩, rfl, rfl⟩⟩ X hB.1 (by have := hB.2.1; omega) (by rw [hB.2.2]; simp [ups]) (fun q => absurd q (by omega)))
            | (refine K1 _ _ _ _ ⟨hA.2, hc, Or.inl ⟨by omega, _, _, ⟨D11, ⟨by omega, h611⟩, hd11, by omega, c25.2, rfl, rfl⟩, ⟨D28, ⟨by omega, h628⟩, hd28, by omega, c33.2, rfl, rfl⟩, Or.inl ⟨c43.1, c43.2, _, ⟨D52, ⟨by omega, h652⟩, hd52, by omega, c79.2, rfl, rfl⟩, rfl⟩⟩⟩ X hB.1 (by have := hB.2.1; omega) (by rw [hB.2.2]; simp [ups]) (fun _ => ⟨by rw [hB.2.2]; simp [ups], ?_⟩)
               have hdv := dVal_rng (tx := B 5) D52 hd52
               have hpb := pB_le ⟨D52, by omega⟩
               dsimp only at hpb
               rw [hB.2.2]
               simp only [ups, if_true]
               exact wr_id ⟨by omega, by omega⟩)
            | (refine K1 _ _ _ _ ⟨hA.2, hc, Or.inl ⟨by omega, _, _, ⟨D11, ⟨by omega, h611⟩, hd11, by omega, c25.2, rfl, rfl⟩, ⟨D28, ⟨by omega, h628⟩, hd28, by omega, c33.2, rfl, rfl⟩, Or.inr ⟨c43, ⟨D52, ⟨by omega, h652⟩, hd52, by omega, c79.2, rfl, rfl⟩⟩⟩⟩ X hB.1 (by have := hB.2.1; omega) (by rw [hB.2.2]; simp [ups]) (fun _ => ⟨by rw [hB.2.2]; simp [ups], ?_⟩)
               rw [hB.2.2]
               simp [ups])
            | (refine K0 (fun n0 n1 n2 nx O => ?_) _ (by first | exact hB.1 | exact (hB _).1) (by first | (rw [hB.2.1]; omega) | (rw [(hB _).2.1]; omega))
               obtain ⟨o1, o2, ⟨o3, a1, a2, N1, N2, o4⟩ | ⟨o3, N1, o5, o6⟩⟩ := O
               · first
                 | (exfalso; omega)
                 | (have q1 := num_of n44 h611 hd11 hs11 N1
                    obtain ⟨q11, q12, q13, q14, q15⟩ := q1
                    first
                    | (exfalso; omega)
                    | exact absurd ⟨q12, q13⟩ c25
                    | (subst q15
                       have q2 := num_of n44 h628 hd28 hs28 N2
                       obtain ⟨q21, q22, q23, q24, q25⟩ := q2
                       first
                       | (exfalso; omega)
                       | exact absurd ⟨q22, q23⟩ c33
                       | (subst q25
                          obtain ⟨s1, s2, x, N3, s3⟩ | ⟨s1, N3⟩ := o4
                          · first
                            | exact absurd ⟨s1, s2⟩ c43
                            | (have q3 := num_of n59 h652 hd52 hs52 N3
                               obtain ⟨q31, q32, q33, q34, q35⟩ := q3
                               first
                               | (exfalso; omega)
                               | exact absurd ⟨q32, q33⟩ c79
                               | exact absurd ⟨q12, q13⟩ c79)
                          · first
                            | exact absurd c43 s1
                            | (have q3 := num_of n59 h652 hd52 hs52 N3
                               obtain ⟨q31, q32, q33, q34, q35⟩ := q3
                               first
                               | (exfalso; omega)
                               | exact absurd ⟨q32, q33⟩ c79
                               | exact absurd ⟨q12, q13⟩ c79))))
               · first
                 | (exfalso; omega)
                 | (have q1 := num_of n59 h611 hd11 hs11 N1
                    obtain ⟨q11, q12, q13, q14, q15⟩ := q1
                    first
                    | (exfalso; omega)
                    | exact absurd ⟨q32, q33⟩ c79
                    | exact absurd ⟨q12, q13⟩ c79))
        · refine x_1 (p' := 23) hC rfl rfl rfl rfl ?_
          refine x_1 (p' := 24) hC rfl rfl rfl rfl ?_
          refine x_cIV1 (p' := 25) (n := 73) hC rfl rfl rfl rfl rfl (hO.ty) ?_
          refine sp_m_has hO (by first | exact hB | exact hB _) (by omega) hLL (by omega) (fun X a24 e24 hB => ?_)
          refine x_ifeq (p' := 26) hC rfl rfl (fun c25 => ?_) (fun c25 => ?_)
          · have c25 := b2i_0.mp c25
            refine x_1 (p' := 37) hC rfl rfl rfl rfl ?_
            refine x_stI2 (p' := 38) hC rfl rfl rfl ?_
            refine x_1 (p' := 39) hC rfl rfl rfl rfl ?_
            refine x_ifeq (p' := 40) hC rfl rfl (fun _ => ?_) (fun c => absurd c (by decide))
            refine x_1 (p' := 47) hC rfl rfl rfl rfl ?_
            refine x_stI3 (p' := 48) hC rfl rfl rfl ?_
            refine x_1 (p' := 49) hC rfl rfl rfl rfl ?_
            refine x_ifeq (p' := 50) hC rfl rfl (fun _ => ?_) (fun c => absurd c (by decide))
            refine x_1 (p' := 57) hC rfl rfl rfl rfl ?_
            refine x_stI2 (p' := 58) hC rfl rfl rfl ?_
            refine x_1 (p' := 59) hC rfl rfl rfl rfl ?_
            refine y_gR (p' := 60) (n := 6) hO hC rfl rfl rfl rfl ?_
            refine x_1 (p' := 61) hC rfl rfl rfl rfl ?_
            refine x_1 (p' := 62) hC rfl rfl rfl rfl ?_
            refine x_ifeq (p' := 63) hC rfl rfl (fun _ => ?_) (fun c => absurd c (by decide))
            refine x_1 (p' := 70) hC rfl rfl rfl rfl ?_
            refine y_gR (p' := 71) (n := 6) hO hC rfl rfl rfl rfl ?_
            refine x_1 (p' := 72) hC rfl rfl rfl rfl ?_
            refine y_ld (p' := 73) (L := 3) hO hC rfl rfl rfl rfl (by omega) (by omega) ?_
            rw [hB.2.2]
            refine y_st (p' := 74) (L := 3) hO hC rfl rfl rfl rfl (by omega) (by omega) ?_
            have hB := fun v => hB.st 2 v
            refine x_1 (p' := 75) hC rfl rfl rfl rfl ?_
            refine x_ifeq (p' := 76) hC rfl rfl (fun _ => ?_) (fun c => absurd c (by decide))
            refine x_1 (p' := 83) hC rfl rfl rfl rfl ?_
            refine x_zret hC rfl rfl rfl (by first | omega | exact b2i_01 _) ⟨_, rfl, ?_⟩
            first
            | (exfalso; omega)
            | (refine K1 _ 0 0 _ ⟨hA.2, hc, Or.inr ⟨by omega, ⟨D11, ⟨by omega, h611⟩, hd11, by omega, c79.2, rfl, rfl⟩, rfl, rfl⟩⟩ X hB.1 (by have := hB.2.1; omega) (by rw [hB.2.2]; simp [ups]) (fun q => absurd q (by omega)))
            | (refine K1 _ _ _ _ ⟨hA.2, hc, Or.inl ⟨by omega, _, _, ⟨D11, ⟨by omega, h611⟩, hd11, by omega, c25.2, rfl, rfl⟩, ⟨D28, ⟨by omega, h628⟩, hd28, by omega, c33.2, rfl, rfl⟩, Or.inl ⟨c43.1, c43.2, _, ⟨D52, ⟨by omega, h652⟩, hd52, by omega, c79.2, rfl, rfl⟩, rfl⟩⟩⟩ X hB.1 (by have := hB.2.1; omega) (by rw [hB.2.2]; simp [ups]) (fun _ => ⟨by rw [hB.2.2]; simp [ups], ?_⟩)
               have hdv := dVal_rng (tx := B 5) D52 hd52
               have hpb := pB_le ⟨D52, by omega⟩
               dsimp only at hpb
               rw [hB.2.2]
               simp only [ups, if_true]
               exact wr_id ⟨by omega, by omega⟩)
            | (refine K1 _ _ _ _ ⟨hA.2, hc, Or.inl ⟨by omega, _, _, ⟨D11, ⟨by omega, h611⟩, hd11, by omega, c25.2, rfl, rfl⟩, ⟨D28, ⟨by omega, h628⟩, hd28, by omega, c33.2, rfl, rfl⟩, Or.inr ⟨c43, ⟨D52, ⟨by omega, h652⟩, hd52, by omega, c79.2, rfl, rfl⟩⟩⟩⟩ X hB.1 (by have := hB.2.1; omega) (by rw [hB.2.2]; simp [ups]) (fun _ => ⟨by rw [hB.2.2]; simp [ups], ?_⟩)
               rw [hB.2.2]
               simp [ups])
            | (refine K0 (fun n0 n1 n2 nx O => ?_) _ (by first | exact hB.1 | exact (hB _).1) (by first | (rw [hB.2.1]; omega) | (rw [(hB _).2.1]; omega))
               obtain ⟨o1, o2, ⟨o3, a1, a2, N1, N2, o4⟩ | ⟨o3, N1, o5, o6⟩⟩ := O
               · first
                 | (exfalso; omega)
                 | (have q1 := num_of n44 h611 hd11 hs11 N1
                    obtain ⟨q11, q12, q13, q14, q15⟩ := q1
                    first
                    | (exfalso; omega)
                    | exact absurd ⟨q12, q13⟩ c25
                    | (subst q15
                       have q2 := num_of n44 h628 hd28 hs28 N2
                       obtain ⟨q21, q22, q23, q24, q25⟩ := q2
                       first
                       | (exfalso; omega)
                       | exact absurd ⟨q22, q23⟩ c33
                       | (subst q25
                          obtain ⟨s1, s2, x, N3, s3⟩ | ⟨s1, N3⟩ := o4
                          · first
                            | exact absurd ⟨s1, s2⟩ c43
                            | (have q3 := num_of n59 h652 hd52 hs52 N3
                               obtain ⟨q31, q32, q33, q34, q35⟩ := q3
                               first
                               | (exfalso; omega)
                               | exact absurd ⟨q32, q33⟩ c79
                               | exact absurd ⟨q12, q13⟩ c79)
                          · first
                            | exact absurd c43 s1
                            | (have q3 := num_of n59 h652 hd52 hs52 N3
                               obtain ⟨q31, q32, q33, q34, q35⟩ := q3
                               first
                               | (exfalso; omega)
                               | exact absurd ⟨q32, q33⟩ c79
                               | exact absurd ⟨q12, q13⟩ c79))))
               · first
                 | (exfalso; omega)
                 | (have q1 := num_of n59 h611 hd11 hs11 N1
                    obtain ⟨q11, q12, q13, q14, q15⟩ := q1
                    first
                    | (exfalso; omega)
                    | exact absurd ⟨q32, q33⟩ c79
                    | exact absurd ⟨q12, q13⟩ c79))
          · have c25 := b2i_n0.mp c25
            have ea : a24 = A + 1 + (D11 : Int) + 1 := by omega
            subst ea
            refine x_1 (p' := 27) hC rfl rfl rfl rfl ?_
            refine x_1 (p' := 28) hC rfl rfl rfl rfl ?_
            refine x_cIV1 (p' := 29) (n := 74) hC rfl rfl rfl rfl rfl (hO.ty) ?_
            refine sp_m_takes hO hB (by omega) hLL (by omega) (by decide) (fun D28 X h628 hd28 hl28 hs28 hB => ?_)
            refine x_ifeq (p' := 30) hC rfl rfl (fun c29 => ?_) (fun c29 => ?_)
            · have c29 := b2i_0.mp c29
              refine x_1 (p' := 37) hC rfl rfl rfl rfl ?_
              refine x_stI2 (p' := 38) hC rfl rfl rfl ?_
              refine x_1 (p' := 39) hC rfl rfl rfl rfl ?_
              refine x_ifeq (p' := 40) hC rfl rfl (fun _ => ?_) (fun c => absurd c (by decide))
              refine x_1 (p' := 47) hC rfl rfl rfl rfl ?_
              refine x_stI3 (p' := 48) hC rfl rfl rfl ?_
              refine x_1 (p' := 49) hC rfl rfl rfl rfl ?_
              refine x_ifeq (p' := 50) hC rfl rfl (fun _ => ?_) (fun c => absurd c (by decide))
              refine x_1 (p' := 57) hC rfl rfl rfl rfl ?_
              refine x_stI2 (p' := 58) hC rfl rfl rfl ?_
              refine x_1 (p' := 59) hC rfl rfl rfl rfl ?_
              refine y_gR (p' := 60) (n := 6) hO hC rfl rfl rfl rfl ?_
              refine x_1 (p' := 61) hC rfl rfl rfl rfl ?_
              refine x_1 (p' := 62) hC rfl rfl rfl rfl ?_
              refine x_ifeq (p' := 63) hC rfl rfl (fun _ => ?_) (fun c => absurd c (by decide))
              refine x_1 (p' := 70) hC rfl rfl rfl rfl ?_
              refine y_gR (p' := 71) (n := 6) hO hC rfl rfl rfl rfl ?_
              refine x_1 (p' := 72) hC rfl rfl rfl rfl ?_
              refine y_ld (p' := 73) (L := 3) hO hC rfl rfl rfl rfl (by omega) (by omega) ?_
              rw [hB.2.2]
              refine y_st (p' := 74) (L := 3) hO hC rfl rfl rfl rfl (by omega) (by omega) ?_
              have hB := fun v => hB.st 2 v
              refine x_1 (p' := 75) hC rfl rfl rfl rfl ?_
              refine x_ifeq (p' := 76) hC rfl rfl (fun _ => ?_) (fun c => absurd c (by decide))
              refine x_1 (p' := 83) hC rfl rfl rfl rfl ?_
              refine x_zret hC rfl rfl rfl (by first | omega | exact b2i_01 _) ⟨_, rfl, ?_⟩
              first
              | (exfalso; omega)
              | (refine K1 _ 0 0 _ ⟨hA.2, hc, Or.inr ⟨by omega, ⟨D11, ⟨by omega, h611⟩, hd11, by omega, c79.2, rfl, rfl⟩, rfl, rfl⟩⟩ X hB.1 (by have := hB.2.1; omega) (by rw [hB.2.2]; simp [ups]) (fun q => absurd q (by omega)))
              | (refine K1 _ _ _ _ ⟨hA.2, hc, Or.inl ⟨by omega, _, _, ⟨D11, ⟨by omega, h611⟩, hd11, by omega, c25.2, rfl, rfl⟩, ⟨D28, ⟨by omega, h628⟩, hd28, by omega, c33.2, rfl, rfl⟩, Or.inl ⟨c43.1, c43.2, _, ⟨D52, ⟨by omega, h652⟩, hd52, by omega, c79.2, rfl, rfl⟩, rfl⟩⟩⟩ X hB.1 (by have := hB.2.1; omega) (by rw [hB.2.2]; simp [ups]) (fun _ => ⟨by rw [hB.2.2]; simp [ups], ?_⟩)
                 have hdv := dVal_rng (tx := B 5) D52 hd52
                 have hpb := pB_le ⟨D52, by omega⟩
                 dsimp only at hpb
                 rw [hB.2.2]
                 simp only [ups, if_true]
                 exact wr_id ⟨by omega, by omega⟩)
              | (refine K1 _ _ _ _ ⟨hA.2, hc, Or.inl ⟨by omega, _, _, ⟨D11, ⟨by omega, h611⟩, hd11, by omega, c25.2, rfl, rfl⟩, ⟨D28, ⟨by omega, h628⟩, hd28, by omega, c33.2, rfl, rfl⟩, Or.inr ⟨c43, ⟨D52, ⟨by omega, h652⟩, hd52, by omega, c79.2, rfl, rfl⟩⟩⟩⟩ X hB.1 (by have := hB.2.1; omega) (by rw [hB.2.2]; simp [ups]) (fun _ => ⟨by rw [hB.2.2]; simp [ups], ?_⟩)
                 rw [hB.2.2]
                 simp [ups])
              | (refine K0 (fun n0 n1 n2 nx O => ?_) _ (by first | exact hB.1 | exact (hB _).1) (by first | (rw [hB.2.1]; omega) | (rw [(hB _).2.1]; omega))
                 obtain ⟨o1, o2, ⟨o3, a1, a2, N1, N2, o4⟩ | ⟨o3, N1, o5, o6⟩⟩ := O
                 · first
                   | (exfalso; omega)
                   | (have q1 := num_of n44 h611 hd11 hs11 N1
                      obtain ⟨q11, q12, q13, q14, q15⟩ := q1
                      first
                      | (exfalso; omega)
                      | exact absurd ⟨q12, q13⟩ c25
                      | (subst q15
                         have q2 := num_of n44 h628 hd28 hs28 N2
                         obtain ⟨q21, q22, q23, q24, q25⟩ := q2
                         first
                         | (exfalso; omega)
                         | exact absurd ⟨q22, q23⟩ c33
                         | (subst q25
                            obtain ⟨s1, s2, x, N3, s3⟩ | ⟨s1, N3⟩ := o4
                            · first
                              | exact absurd ⟨s1, s2⟩ c43
                              | (have q3 := num_of n59 h652 hd52 hs52 N3
                                 obtain ⟨q31, q32, q33, q34, q35⟩ := q3
                                 first
                                 | (exfalso; omega)
                                 | exact absurd ⟨q32, q33⟩ c79
                                 | exact absurd ⟨q12, q13⟩ c79)
                            · first
                              | exact absurd c43 s1
                              | (have q3 := num_of n59 h652 hd52 hs52 N3
                                 obtain ⟨q31, q32, q33, q34, q35⟩ := q3
                                 first
                                 | (exfalso; omega)
                                 | exact absurd ⟨q32, q33⟩ c79
                                 | exact absurd ⟨q12, q13⟩ c79))))
                 · first
                   | (exfalso; omega)
                   | (have q1 := num_of n59 h611 hd11 hs11 N1
                      obtain ⟨q11, q12, q13, q14, q15⟩ := q1
                      first
                      | (exfalso; omega)
                      | exact absurd ⟨q32, q33⟩ c79
                      | exact absurd ⟨q12, q13⟩ c79))
            · have c29 := b2i_n0.mp c29
              refine x_1 (p' := 31) hC rfl rfl rfl rfl ?_
              refine x_1 (p' := 32) hC rfl rfl rfl rfl ?_
              refine x_cIV1 (p' := 33) (n := 73) hC rfl rfl rfl rfl rfl (hO.ty) ?_
              refine sp_m_has hO (by first | exact hB | exact hB _) (by omega) hLL (by omega) (fun X a32 e32 hB => ?_)
              refine x_ifeq (p' := 34) hC rfl rfl (fun c33 => ?_) (fun c33 => ?_)
              · have c33 := b2i_0.mp c33
                refine x_1 (p' := 37) hC rfl rfl rfl rfl ?_
                refine x_stI2 (p' := 38) hC rfl rfl rfl ?_
                refine x_1 (p' := 39) hC rfl rfl rfl rfl ?_
                refine x_ifeq (p' := 40) hC rfl rfl (fun _ => ?_) (fun c => absurd c (by decide))
                refine x_1 (p' := 47) hC rfl rfl rfl rfl ?_
                refine x_stI3 (p' := 48) hC rfl rfl rfl ?_
                refine x_1 (p' := 49) hC rfl rfl rfl rfl ?_
                refine x_ifeq (p' := 50) hC rfl rfl (fun _ => ?_) (fun c => absurd c (by decide))
                refine x_1 (p' := 57) hC rfl rfl rfl rfl ?_
                refine x_stI2 (p' := 58) hC rfl rfl rfl ?_
                refine x_1 (p' := 59) hC rfl rfl rfl rfl ?_
                refine y_gR (p' := 60) (n := 6) hO hC rfl rfl rfl rfl ?_
                refine x_1 (p' := 61) hC rfl rfl rfl rfl ?_
                refine x_1 (p' := 62) hC rfl rfl rfl rfl ?_
                refine x_ifeq (p' := 63) hC rfl rfl (fun _ => ?_) (fun c => absurd c (by decide))
                refine x_1 (p' := 70) hC rfl rfl rfl rfl ?_
                refine y_gR (p' := 71) (n := 6) hO hC rfl rfl rfl rfl ?_
                refine x_1 (p' := 72) hC rfl rfl rfl rfl ?_
                refine y_ld (p' := 73) (L := 3) hO hC rfl rfl rfl rfl (by omega) (by omega) ?_
                rw [hB.2.2]
                refine y_st (p' := 74) (L := 3) hO hC rfl rfl rfl rfl (by omega) (by omega) ?_
                have hB := fun v => hB.st 2 v
                refine x_1 (p' := 75) hC rfl rfl rfl rfl ?_
                refine x_ifeq (p' := 76) hC rfl rfl (fun _ => ?_) (fun c => absurd c (by decide))
                refine x_1 (p' := 83) hC rfl rfl rfl rfl ?_
                refine x_zret hC rfl rfl rfl (by first | omega | exact b2i_01 _) ⟨_, rfl, ?_⟩
                first
                | (exfalso; omega)
                | (refine K1 _ 0 0 _ ⟨hA.2, hc, Or.inr ⟨by omega, ⟨D11, ⟨by omega, h611⟩, hd11, by omega, c79.2, rfl, rfl⟩, rfl, rfl⟩⟩ X hB.1 (by have := hB.2.1; omega) (by rw [hB.2.2]; simp [ups]) (fun q => absurd q (by omega)))
                | (refine K1 _ _ _ _ ⟨hA.2, hc, Or.inl ⟨by omega, _, _, ⟨D11, ⟨by omega, h611⟩, hd11, by omega, c25.2, rfl, rfl⟩, ⟨D28, ⟨by omega, h628⟩, hd28, by omega, c33.2, rfl, rfl⟩, Or.inl ⟨c43.1, c43.2, _, ⟨D52, ⟨by omega, h652⟩, hd52, by omega, c79.2, rfl, rfl⟩, rfl⟩⟩⟩ X hB.1 (by have := hB.2.1; omega) (by rw [hB.2.2]; simp [ups]) (fun _ => ⟨by rw [hB.2.2]; simp [ups], ?_⟩)
                   have hdv := dVal_rng (tx := B 5) D52 hd52
                   have hpb := pB_le ⟨D52, by omega⟩
                   dsimp only at hpb
                   rw [hB.2.2]
                   simp only [ups, if_true]
                   exact wr_id ⟨by omega, by omega⟩)
                | (refine K1 _ _ _ _ ⟨hA.2, hc, Or.inl ⟨by omega, _, _, ⟨D11, ⟨by omega, h611⟩, hd11, by omega, c25.2, rfl, rfl⟩, ⟨D28, ⟨by omega, h628⟩, hd28, by omega, c33.2, rfl, rfl⟩, Or.inr ⟨c43, ⟨D52, ⟨by omega, h652⟩, hd52, by omega, c79.2, rfl, rfl⟩⟩⟩⟩ X hB.1 (by have := hB.2.1; omega) (by rw [hB.2.2]; simp [ups]) (fun _ => ⟨by rw [hB.2.2]; simp [ups], ?_⟩)
                   rw [hB.2.2]
                   simp [ups])
                | (refine K0 (fun n0 n1 n2 nx O => ?_) _ (by first | exact hB.1 | exact (hB _).1) (by first | (rw [hB.2.1]; omega) | (rw [(hB _).2.1]; omega))
                   obtain ⟨o1, o2, ⟨o3, a1, a2, N1, N2, o4⟩ | ⟨o3, N1, o5, o6⟩⟩ := O
                   · first
                     | (exfalso; omega)
                     | (have q1 := num_of n44 h611 hd11 hs11 N1
                        obtain ⟨q11, q12, q13, q14, q15⟩ := q1
                        first
                        | (exfalso; omega)
                        | exact absurd ⟨q12, q13⟩ c25
                        | (subst q15
                           have q2 := num_of n44 h628 hd28 hs28 N2
                           obtain ⟨q21, q22, q23, q24, q25⟩ := q2
                           first
                           | (exfalso; omega)
                           | exact absurd ⟨q22, q23⟩ c33
                           | (subst q25
                              obtain ⟨s1, s2, x, N3, s3⟩ | ⟨s1, N3⟩ := o4
                              · first
                                | exact absurd ⟨s1, s2⟩ c43
                                | (have q3 := num_of n59 h652 hd52 hs52 N3
                                   obtain ⟨q31, q32, q33, q34, q35⟩ := q3
                                   first
                                   | (exfalso; omega)
                                   | exact absurd ⟨q32, q33⟩ c79
                                   | exact absurd ⟨q12, q13⟩ c79)
                              · first
                                | exact absurd c43 s1
                                | (have q3 := num_of n59 h652 hd52 hs52 N3
                                   obtain ⟨q31, q32, q33, q34, q35⟩ := q3
                                   first
                                   | (exfalso; omega)
                                   | exact absurd ⟨q32, q33⟩ c79
                                   | exact absurd ⟨q12, q13⟩ c79))))
                   · first
                     | (exfalso; omega)
                     | (have q1 := num_of n59 h611 hd11 hs11 N1
                        obtain ⟨q11, q12, q13, q14, q15⟩ := q1
                        first
                        | (exfalso; omega)
                        | exact absurd ⟨q32, q33⟩ c79
                        | exact absurd ⟨q12, q13⟩ c79))
              · have c33 := b2i_n0.mp c33
                have ea : a32 = A + 1 + (D11 : Int) + 1 + (D28 : Int) + 1 := by omega
                subst ea
                refine x_1 (p' := 35) hC rfl rfl rfl rfl ?_
                refine x_1 (p' := 37) hC rfl rfl rfl rfl ?_
                refine x_stI2 (p' := 38) hC rfl rfl rfl ?_
                refine x_1 (p' := 39) hC rfl rfl rfl rfl ?_
                refine x_ifeq (p' := 40) hC rfl rfl (fun c => absurd c (by decide)) (fun _ => ?_)
                refine x_1 (p' := 41) hC rfl rfl rfl rfl ?_
                refine x_1 (p' := 42) hC rfl rfl rfl rfl ?_
                refine x_cIV1 (p' := 43) (n := 73) hC rfl rfl rfl rfl rfl (hO.ty) ?_
                refine sp_m_has hO (by first | exact hB | exact hB _) (by omega) hLL (by omega) (fun X a42 e42 hB => ?_)
                refine x_ifeq (p' := 44) hC rfl rfl (fun c43 => ?_) (fun c43 => ?_)
                · have c43 := b2i_0.mp c43
                  have ea : a42 = A + 1 + (D11 : Int) + 1 + (D28 : Int) + 1 := by omega
                  subst ea
                  refine x_1 (p' := 47) hC rfl rfl rfl rfl ?_
                  refine x_stI3 (p' := 48) hC rfl rfl rfl ?_
                  refine x_1 (p' := 49) hC rfl rfl rfl rfl ?_
                  refine x_ifeq (p' := 50) hC rfl rfl (fun c => absurd c (by decide)) (fun _ => ?_)
                  refine x_1 (p' := 51) hC rfl rfl rfl rfl ?_
                  refine x_1 (p' := 52) hC rfl rfl rfl rfl ?_
                  refine x_cIV1 (p' := 53) (n := 74) hC rfl rfl rfl rfl rfl (hO.ty) ?_
                  refine sp_m_takes hO hB (by omega) hLL (by omega) (by decide) (fun D52 X h652 hd52 hl52 hs52 hB => ?_)
                  refine x_ifeq (p' := 54) hC rfl rfl (fun c53 => ?_) (fun c53 => ?_)
                  · have c53 := b2i_0.mp c53
                    refine x_1 (p' := 57) hC rfl rfl rfl rfl ?_
                    refine x_stI2 (p' := 58) hC rfl rfl rfl ?_
                    refine x_1 (p' := 59) hC rfl rfl rfl rfl ?_
                    refine y_gR (p' := 60) (n := 6) hO hC rfl rfl rfl rfl ?_
                    refine x_1 (p' := 61) hC rfl rfl rfl rfl ?_
                    refine x_1 (p' := 62) hC rfl rfl rfl rfl ?_
                    refine x_ifeq (p' := 63) hC rfl rfl (fun _ => ?_) (fun c => absurd c (by decide))
                    refine x_1 (p' := 70) hC rfl rfl rfl rfl ?_
                    refine y_gR (p' := 71) (n := 6) hO hC rfl rfl rfl rfl ?_
                    refine x_1 (p' := 72) hC rfl rfl rfl rfl ?_
                    refine y_ld (p' := 73) (L := 3) hO hC rfl rfl rfl rfl (by omega) (by omega) ?_
                    rw [hB.2.2]
                    refine y_st (p' := 74) (L := 3) hO hC rfl rfl rfl rfl (by omega) (by omega) ?_
                    have hB := fun v => hB.st 2 v
                    refine x_1 (p' := 75) hC rfl rfl rfl rfl ?_
                    refine x_ifeq (p' := 76) hC rfl rfl (fun _ => ?_) (fun c => absurd c (by decide))
                    refine x_1 (p' := 83) hC rfl rfl rfl rfl ?_
                    refine x_zret hC rfl rfl rfl (by first | omega | exact b2i_01 _) ⟨_, rfl, ?_⟩
                    first
                    | (exfalso; omega)
                    | (refine K1 _ 0 0 _ ⟨hA.2, hc, Or.inr ⟨by omega, ⟨D11, ⟨by omega, h611⟩, hd11, by omega, c79.2, rfl, rfl⟩, rfl, rfl⟩⟩ X hB.1 (by have := hB.2.1; omega) (by rw [hB.2.2]; simp [ups]) (fun q => absurd q (by omega)))
                    | (refine K1 _ _ _ _ ⟨hA.2, hc, Or.inl ⟨by omega, _, _, ⟨D11, ⟨by omega, h611⟩, hd11, by omega, c25.2, rfl, rfl⟩, ⟨D28, ⟨by omega, h628⟩, hd28, by omega, c33.2, rfl, rfl⟩, Or.inl ⟨c43.1, c43.2, _, ⟨D52, ⟨by omega, h652⟩, hd52, by omega, c79.2, rfl, rfl⟩, rfl⟩⟩⟩ X hB.1 (by have := hB.2.1; omega) (by rw [hB.2.2]; simp [ups]) (fun _ => ⟨by rw [hB.2.2]; simp [ups], ?_⟩)
                       have hdv := dVal_rng (tx := B 5) D52 hd52
                       have hpb := pB_le ⟨D52, by omega⟩
                       dsimp only at hpb
                       rw [hB.2.2]
                       simp only [ups, if_true]
                       exact wr_id ⟨by omega, by omega⟩)
                    | (refine K1 _ _ _ _ ⟨hA.2, hc, Or.inl ⟨by omega, _, _, ⟨D11, ⟨by omega, h611⟩, hd11, by omega, c25.2, rfl, rfl⟩, ⟨D28, ⟨by omega, h628⟩, hd28, by omega, c33.2, rfl, rfl⟩, Or.inr ⟨c43, ⟨D52, ⟨by omega, h652⟩, hd52, by omega, c79.2, rfl, rfl⟩⟩⟩⟩ X hB.1 (by have := hB.2.1; omega) (by rw [hB.2.2]; simp [ups]) (fun _ => ⟨by rw [hB.2.2]; simp [ups], ?_⟩)
                       rw [hB.2.2]
                       simp [ups])
                    | (refine K0 (fun n0 n1 n2 nx O => ?_) _ (by first | exact hB.1 | exact (hB _).1) (by first | (rw [hB.2.1]; omega) | (rw [(hB _).2.1]; omega))
                       obtain ⟨o1, o2, ⟨o3, a1, a2, N1, N2, o4⟩ | ⟨o3, N1, o5, o6⟩⟩ := O
                       · first
                         | (exfalso; omega)
                         | (have q1 := num_of n44 h611 hd11 hs11 N1
                            obtain ⟨q11, q12, q13, q14, q15⟩ := q1
                            first
                            | (exfalso; omega)
                            | exact absurd ⟨q12, q13⟩ c25
                            | (subst q15
                               have q2 := num_of n44 h628 hd28 hs28 N2
                               obtain ⟨q21, q22, q23, q24, q25⟩ := q2
                               first
                               | (exfalso; omega)
                               | exact absurd ⟨q22, q23⟩ c33
                               | (subst q25
                                  obtain ⟨s1, s2, x, N3, s3⟩ | ⟨s1, N3⟩ := o4
                                  · first
                                    | exact absurd ⟨s1, s2⟩ c43
                                    | (have q3 := num_of n59 h652 hd52 hs52 N3
                                       obtain ⟨q31, q32, q33, q34, q35⟩ := q3
                                       first
                                       | (exfalso; omega)
                                       | exact absurd ⟨q32, q33⟩ c79
                                       | exact absurd ⟨q12, q13⟩ c79)
                                  · first
                                    | exact absurd c43 s1
                                    | (have q3 := num_of n59 h652 hd52 hs52 N3
                                       obtain ⟨q31, q32, q33, q34, q35⟩ := q3
                                       first
                                       | (exfalso; omega)
                                       | exact absurd ⟨q32, q33⟩ c79
                                       | exact absurd ⟨q12, q13⟩ c79))))
                       · first
                         | (exfalso; omega)
                         | (have q1 := num_of n59 h611 hd11 hs11 N1
                            obtain ⟨q11, q12, q13, q14, q15⟩ := q1
                            first
                            | (exfalso; omega)
                            | exact absurd ⟨q32, q33⟩ c79
                            | exact absurd ⟨q12, q13⟩ c79))
                  · have c53 := b2i_n0.mp c53
                    refine x_1 (p' := 55) hC rfl rfl rfl rfl ?_
                    refine x_1 (p' := 57) hC rfl rfl rfl rfl ?_
                    refine x_stI2 (p' := 58) hC rfl rfl rfl ?_
                    refine x_1 (p' := 59) hC rfl rfl rfl rfl ?_
                    refine y_gR (p' := 60) (n := 6) hO hC rfl rfl rfl rfl ?_
                    refine x_1 (p' := 61) hC rfl rfl rfl rfl ?_
                    refine x_1 (p' := 62) hC rfl rfl rfl rfl ?_
                    refine x_ifeq (p' := 63) hC rfl rfl (fun _ => ?_) (fun c => absurd c (by decide))
                    refine x_1 (p' := 70) hC rfl rfl rfl rfl ?_
                    refine y_gR (p' := 71) (n := 6) hO hC rfl rfl rfl rfl ?_
                    refine x_1 (p' := 72) hC rfl rfl rfl rfl ?_
                    refine y_ld (p' := 73) (L := 3) hO hC rfl rfl rfl rfl (by omega) (by omega) ?_
                    rw [hB.2.2]
                    refine y_st (p' := 74) (L := 3) hO hC rfl rfl rfl rfl (by omega) (by omega) ?_
                    have hB := fun v => hB.st 2 v
                    refine x_1 (p' := 75) hC rfl rfl rfl rfl ?_
                    refine x_ifeq (p' := 76) hC rfl rfl (fun c => absurd c (by decide)) (fun _ => ?_)
                    refine x_1 (p' := 77) hC rfl rfl rfl rfl ?_
                    refine x_1 (p' := 78) hC rfl rfl rfl rfl ?_
                    refine x_cIV1 (p' := 79) (n := 73) hC rfl rfl rfl rfl rfl (hO.ty) ?_
                    refine sp_m_has hO (by first | exact hB | exact hB _) (by omega) hLL (by omega) (fun X a78 e78 hB => ?_)
                    refine x_ifeq (p' := 80) hC rfl rfl (fun c79 => ?_) (fun c79 => ?_)
                    · have c79 := b2i_0.mp c79
                      refine x_1 (p' := 83) hC rfl rfl rfl rfl ?_
                      refine x_zret hC rfl rfl rfl (by first | omega | exact b2i_01 _) ⟨_, rfl, ?_⟩
                      first
                      | (exfalso; omega)
                      | (refine K1 _ 0 0 _ ⟨hA.2, hc, Or.inr ⟨by omega, ⟨D11, ⟨by omega, h611⟩, hd11, by omega, c79.2, rfl, rfl⟩, rfl, rfl⟩⟩ X hB.1 (by have := hB.2.1; omega) (by rw [hB.2.2]; simp [ups]) (fun q => absurd q (by omega)))
                      | (refine K1 _ _ _ _ ⟨hA.2, hc, Or.inl ⟨by omega, _, _, ⟨D11, ⟨by omega, h611⟩, hd11, by omega, c25.2, rfl, rfl⟩, ⟨D28, ⟨by omega, h628⟩, hd28, by omega, c33.2, rfl, rfl⟩, Or.inl ⟨c43.1, c43.2, _, ⟨D52, ⟨by omega, h652⟩, hd52, by omega, c79.2, rfl, rfl⟩, rfl⟩⟩⟩ X hB.1 (by have := hB.2.1; omega) (by rw [hB.2.2]; simp [ups]) (fun _ => ⟨by rw [hB.2.2]; simp [ups], ?_⟩)
                         have hdv := dVal_rng (tx := B 5) D52 hd52
                         have hpb := pB_le ⟨D52, by omega⟩
                         dsimp only at hpb
                         rw [hB.2.2]
                         simp only [ups, if_true]
                         exact wr_id ⟨by omega, by omega⟩)
                      | (refine K1 _ _ _ _ ⟨hA.2, hc, Or.inl ⟨by omega, _, _, ⟨D11, ⟨by omega, h611⟩, hd11, by omega, c25.2, rfl, rfl⟩, ⟨D28, ⟨by omega, h628⟩, hd28, by omega, c33.2, rfl, rfl⟩, Or.inr ⟨c43, ⟨D52, ⟨by omega, h652⟩, hd52, by omega, c79.2, rfl, rfl⟩⟩⟩⟩ X hB.1 (by have := hB.2.1; omega) (by rw [hB.2.2]; simp [ups]) (fun _ => ⟨by rw [hB.2.2]; simp [ups], ?_⟩)
                         rw [hB.2.2]
                         simp [ups])
                      | (refine K0 (fun n0 n1 n2 nx O => ?_) _ (by first | exact hB.1 | exact (hB _).1) (by first | (rw [hB.2.1]; omega) | (rw [(hB _).2.1]; omega))
                         obtain ⟨o1, o2, ⟨o3, a1, a2, N1, N2, o4⟩ | ⟨o3, N1, o5, o6⟩⟩ := O
                         · first
                           | (exfalso; omega)
                           | (have q1 := num_of n44 h611 hd11 hs11 N1
                              obtain ⟨q11, q12, q13, q14, q15⟩ := q1
                              first
                              | (exfalso; omega)
                              | exact absurd ⟨q12, q13⟩ c25
                              | (subst q15
                                 have q2 := num_of n44 h628 hd28 hs28 N2
                                 obtain ⟨q21, q22, q23, q24, q25⟩ := q2
                                 first
                                 | (exfalso; omega)
                                 | exact absurd ⟨q22, q23⟩ c33
                                 | (subst q25
                                    obtain ⟨s1, s2, x, N3, s3⟩ | ⟨s1, N3⟩ := o4
                                    · first
                                      | exact absurd ⟨s1, s2⟩ c43
                                      | (have q3 := num_of n59 h652 hd52 hs52 N3
                                         obtain ⟨q31, q32, q33, q34, q35⟩ := q3
                                         first
                                         | (exfalso; omega)
                                         | exact absurd ⟨q32, q33⟩ c79
                                         | exact absurd ⟨q12, q13⟩ c79)
                                    · first
                                      | exact absurd c43 s1
                                      | (have q3 := num_of n59 h652 hd52 hs52 N3
                                         obtain ⟨q31, q32, q33, q34, q35⟩ := q3
                                         first
                                         | (exfalso; omega)
                                         | exact absurd ⟨q32, q33⟩ c79
                                         | exact absurd ⟨q12, q13⟩ c79))))
                         · first
                           | (exfalso; omega)
                           | (have q1 := num_of n59 h611 hd11 hs11 N1
                              obtain ⟨q11, q12, q13, q14, q15⟩ := q1
                              first
                              | (exfalso; omega)
                              | exact absurd ⟨q32, q33⟩ c79
                              | exact absurd ⟨q12, q13⟩ c79))
                    · have c79 := b2i_n0.mp c79
                      refine x_1 (p' := 81) hC rfl rfl rfl rfl ?_
                      refine x_1 (p' := 83) hC rfl rfl rfl rfl ?_
                      refine x_zret hC rfl rfl rfl (by first | omega | exact b2i_01 _) ⟨_, rfl, ?_⟩
                      first
                      | (exfalso; omega)
                      | (refine K1 _ 0 0 _ ⟨hA.2, hc, Or.inr ⟨by omega, ⟨D11, ⟨by omega, h611⟩, hd11, by omega, c79.2, rfl, rfl⟩, rfl, rfl⟩⟩ X hB.1 (by have := hB.2.1; omega) (by rw [hB.2.2]; simp [ups]) (fun q => absurd q (by omega)))
                      | (refine K1 _ _ _ _ ⟨hA.2, hc, Or.inl ⟨by omega, _, _, ⟨D11, ⟨by omega, h611⟩, hd11, by omega, c25.2, rfl, rfl⟩, ⟨D28, ⟨by omega, h628⟩, hd28, by omega, c33.2, rfl, rfl⟩, Or.inl ⟨c43.1, c43.2, _, ⟨D52, ⟨by omega, h652⟩, hd52, by omega, c79.2, rfl, rfl⟩, rfl⟩⟩⟩ X hB.1 (by have := hB.2.1; omega) (by rw [hB.2.2]; simp [ups]) (fun _ => ⟨by rw [hB.2.2]; simp [ups], ?_⟩)
                         have hdv := dVal_rng (tx := B 5) D52 hd52
                         have hpb := pB_le ⟨D52, by omega⟩
                         dsimp only at hpb
                         rw [hB.2.2]
                         simp only [ups, if_true]
                         exact wr_id ⟨by omega, by omega⟩)
                      | (refine K1 _ _ _ _ ⟨hA.2, hc, Or.inl ⟨by omega, _, _, ⟨D11, ⟨by omega, h611⟩, hd11, by omega, c25.2, rfl, rfl⟩, ⟨D28, ⟨by omega, h628⟩, hd28, by omega, c33.2, rfl, rfl⟩, Or.inr ⟨c43, ⟨D52, ⟨by omega, h652⟩, hd52, by omega, c79.2, rfl, rfl⟩⟩⟩⟩ X hB.1 (by have := hB.2.1; omega) (by rw [hB.2.2]; simp [ups]) (fun _ => ⟨by rw [hB.2.2]; simp [ups], ?_⟩)
                         rw [hB.2.2]
                         simp [ups])
                      | (refine K0 (fun n0 n1 n2 nx O => ?_) _ (by first | exact hB.1 | exact (hB _).1) (by first | (rw [hB.2.1]; omega) | (rw [(hB _).2.1]; omega))
                         obtain ⟨o1, o2, ⟨o3, a1, a2, N1, N2, o4⟩ | ⟨o3, N1, o5, o6⟩⟩ := O
                         · first
                           | (exfalso; omega)
                           | (have q1 := num_of n44 h611 hd11 hs11 N1
                              obtain ⟨q11, q12, q13, q14, q15⟩ := q1
                              first
                              | (exfalso; omega)
                              | exact absurd ⟨q12, q13⟩ c25
                              | (subst q15
                                 have q2 := num_of n44 h628 hd28 hs28 N2
                                 obtain ⟨q21, q22, q23, q24, q25⟩ := q2
                                 first
                                 | (exfalso; omega)
                                 | exact absurd ⟨q22, q23⟩ c33
                                 | (subst q25
                                    obtain ⟨s1, s2, x, N3, s3⟩ | ⟨s1, N3⟩ := o4
                                    · first
                                      | exact absurd ⟨s1, s2⟩ c43
                                      | (have q3 := num_of n59 h652 hd52 hs52 N3
                                         obtain ⟨q31, q32, q33, q34, q35⟩ := q3
                                         first
                                         | (exfalso; omega)
                                         | exact absurd ⟨q32, q33⟩ c79
                                         | exact absurd ⟨q12, q13⟩ c79)
                                    · first
                                      | exact absurd c43 s1
                                      | (have q3 := num_of n59 h652 hd52 hs52 N3
                                         obtain ⟨q31, q32, q33, q34, q35⟩ := q3
                                         first
                                         | (exfalso; omega)
                                         | exact absurd ⟨q32, q33⟩ c79
                                         | exact absurd ⟨q12, q13⟩ c79))))
                         · first
                           | (exfalso; omega)
                           | (have q1 := num_of n59 h611 hd11 hs11 N1
                              obtain ⟨q11, q12, q13, q14, q15⟩ := q1
                              first
                              | (exfalso; omega)
                              | exact absurd ⟨q32, q33⟩ c79
                              | exact absurd ⟨q12, q13⟩ c79))
                · have c43 := b2i_n0.mp c43
                  have ea : a42 = A + 1 + (D11 : Int) + 1 + (D28 : Int) + 1 + 1 := by omega
                  subst ea
                  refine x_1 (p' := 45) hC rfl rfl rfl rfl ?_
                  refine x_1 (p' := 47) hC rfl rfl rfl rfl ?_
                  refine x_stI3 (p' := 48) hC rfl rfl rfl ?_
                  refine x_1 (p' := 49) hC rfl rfl rfl rfl ?_
                  refine x_ifeq (p' := 50) hC rfl rfl (fun c => absurd c (by decide)) (fun _ => ?_)
                  refine x_1 (p' := 51) hC rfl rfl rfl rfl ?_
                  refine x_1 (p' := 52) hC rfl rfl rfl rfl ?_
                  refine x_cIV1 (p' := 53) (n := 74) hC rfl rfl rfl rfl rfl (hO.ty) ?_
                  refine sp_m_takes hO hB (by omega) hLL (by omega) (by decide) (fun D52 X h652 hd52 hl52 hs52 hB => ?_)
                  refine x_ifeq (p' := 54) hC rfl rfl (fun c53 => ?_) (fun c53 => ?_)
                  · have c53 := b2i_0.mp c53
                    refine x_1 (p' := 57) hC rfl rfl rfl rfl ?_
                    refine x_stI2 (p' := 58) hC rfl rfl rfl ?_
                    refine x_1 (p' := 59) hC rfl rfl rfl rfl ?_
                    refine y_gR (p' := 60) (n := 6) hO hC rfl rfl rfl rfl ?_
                    refine x_1 (p' := 61) hC rfl rfl rfl rfl ?_
                    refine x_1 (p' := 62) hC rfl rfl rfl rfl ?_
                    refine x_ifeq (p' := 63) hC rfl rfl (fun c => absurd c (by decide)) (fun _ => ?_)
                    refine x_1 (p' := 64) hC rfl rfl rfl rfl ?_
                    refine y_gR (p' := 65) (n := 6) hO hC rfl rfl rfl rfl ?_
                    refine x_1 (p' := 66) hC rfl rfl rfl rfl ?_
                    refine y_ld (p' := 67) (L := 3) hO hC rfl rfl rfl rfl (by omega) (by omega) ?_
                    rw [hB.2.2]
                    refine x_1 (p' := 68) hC rfl rfl rfl rfl ?_
                    refine x_1 (p' := 73) hC rfl rfl rfl rfl ?_
                    refine y_st (p' := 74) (L := 3) hO hC rfl rfl rfl rfl (by omega) (by omega) ?_
                    have hB := fun v => hB.st 2 v
                    refine x_1 (p' := 75) hC rfl rfl rfl rfl ?_
                    refine x_ifeq (p' := 76) hC rfl rfl (fun _ => ?_) (fun c => absurd c (by decide))
                    refine x_1 (p' := 83) hC rfl rfl rfl rfl ?_
                    refine x_zret hC rfl rfl rfl (by first | omega | exact b2i_01 _) ⟨_, rfl, ?_⟩
                    first
                    | (exfalso; omega)
                    | (refine K1 _ 0 0 _ ⟨hA.2, hc, Or.inr ⟨by omega, ⟨D11, ⟨by omega, h611⟩, hd11, by omega, c79.2, rfl, rfl⟩, rfl, rfl⟩⟩ X hB.1 (by have := hB.2.1; omega) (by rw [hB.2.2]; simp [ups]) (fun q => absurd q (by omega)))
                    | (refine K1 _ _ _ _ ⟨hA.2, hc, Or.inl ⟨by omega, _, _, ⟨D11, ⟨by omega, h611⟩, hd11, by omega, c25.2, rfl, rfl⟩, ⟨D28, ⟨by omega, h628⟩, hd28, by omega, c33.2, rfl, rfl⟩, Or.inl ⟨c43.1, c43.2, _, ⟨D52, ⟨by omega, h652⟩, hd52, by omega, c79.2, rfl, rfl⟩, rfl⟩⟩⟩ X hB.1 (by have := hB.2.1; omega) (by rw [hB.2.2]; simp [ups]) (fun _ => ⟨by rw [hB.2.2]; simp [ups], ?_⟩)
                       have hdv := dVal_rng (tx := B 5) D52 hd52
                       have hpb := pB_le ⟨D52, by omega⟩
                       dsimp only at hpb
                       rw [hB.2.2]
                       simp only [ups, if_true]
                       exact wr_id ⟨by omega, by omega⟩)
                    | (refine K1 _ _ _ _ ⟨hA.2, hc, Or.inl ⟨by omega, _, _, ⟨D11, ⟨by omega, h611⟩, hd11, by omega, c25.2, rfl, rfl⟩, ⟨D28, ⟨by omega, h628⟩, hd28, by omega, c33.2, rfl, rfl⟩, Or.inr ⟨c43, ⟨D52, ⟨by omega, h652⟩, hd52, by omega, c79.2, rfl, rfl⟩⟩⟩⟩ X hB.1 (by have := hB.2.1; omega) (by rw [hB.2.2]; simp [ups]) (fun _ => ⟨by rw [hB.2.2]; simp [ups], ?_⟩)
                       rw [hB.2.2]
                       simp [ups])
                    | (refine K0 (fun n0 n1 n2 nx O => ?_) _ (by first | exact hB.1 | exact (hB _).1) (by first | (rw [hB.2.1]; omega) | (rw [(hB _).2.1]; omega))
                       obtain ⟨o1, o2, ⟨o3, a1, a2, N1, N2, o4⟩ | ⟨o3, N1, o5, o6⟩⟩ := O
                       · first
                         | (exfalso; omega)
                         | (have q1 := num_of n44 h611 hd11 hs11 N1
                            obtain ⟨q11, q12, q13, q14, q15⟩ := q1
                            first
                            | (exfalso; omega)
                            | exact absurd ⟨q12, q13⟩ c25
                            | (subst q15
                               have q2 := num_of n44 h628 hd28 hs28 N2
                               obtain ⟨q21, q22, q23, q24, q25⟩ := q2
                               first
                               | (exfalso; omega)
                               | exact absurd ⟨q22, q23⟩ c33
                               | (subst q25
                                  obtain ⟨s1, s2, x, N3, s3⟩ | ⟨s1, N3⟩ := o4
                                  · first
                                    | exact absurd ⟨s1, s2⟩ c43
                                    | (have q3 := num_of n59 h652 hd52 hs52 N3
                                       obtain ⟨q31, q32, q33, q34, q35⟩ := q3
                                       first
                                       | (exfalso; omega)
                                       | exact absurd ⟨q32, q33⟩ c79
                                       | exact absurd ⟨q12, q13⟩ c79)
                                  · first
                                    | exact absurd c43 s1
                                    | (have q3 := num_of n59 h652 hd52 hs52 N3
                                       obtain ⟨q31, q32, q33, q34, q35⟩ := q3
                                       first
                                       | (exfalso; omega)
                                       | exact absurd ⟨q32, q33⟩ c79
                                       | exact absurd ⟨q12, q13⟩ c79))))
                       · first
                         | (exfalso; omega)
                         | (have q1 := num_of n59 h611 hd11 hs11 N1
                            obtain ⟨q11, q12, q13, q14, q15⟩ := q1
                            first
                            | (exfalso; omega)
                            | exact absurd ⟨q32, q33⟩ c79
                            | exact absurd ⟨q12, q13⟩ c79))
                  · have c53 := b2i_n0.mp c53
                    refine x_1 (p' := 55) hC rfl rfl rfl rfl ?_
                    refine x_1 (p' := 57) hC rfl rfl rfl rfl ?_
                    refine x_stI2 (p' := 58) hC rfl rfl rfl ?_
                    refine x_1 (p' := 59) hC rfl rfl rfl rfl ?_
                    refine y_gR (p' := 60) (n := 6) hO hC rfl rfl rfl rfl ?_
                    refine x_1 (p' := 61) hC rfl rfl rfl rfl ?_
                    refine x_1 (p' := 62) hC rfl rfl rfl rfl ?_
                    refine x_ifeq (p' := 63) hC rfl rfl (fun c => absurd c (by decide)) (fun _ => ?_)
                    refine x_1 (p' := 64) hC rfl rfl rfl rfl ?_
                    refine y_gR (p' := 65) (n := 6) hO hC rfl rfl rfl rfl ?_
                    refine x_1 (p' := 66) hC rfl rfl rfl rfl ?_
                    refine y_ld (p' := 67) (L := 3) hO hC rfl rfl rfl rfl (by omega) (by omega) ?_
                    rw [hB.2.2]
                    refine x_1 (p' := 68) hC rfl rfl rfl rfl ?_
                    refine x_1 (p' := 73) hC rfl rfl rfl rfl ?_
                    refine y_st (p' := 74) (L := 3) hO hC rfl rfl rfl rfl (by omega) (by omega) ?_
                    have hB := fun v => hB.st 2 v
                    refine x_1 (p' := 75) hC rfl rfl rfl rfl ?_
                    refine x_ifeq (p' := 76) hC rfl rfl (fun c => absurd c (by decide)) (fun _ => ?_)
                    refine x_1 (p' := 77) hC rfl rfl rfl rfl ?_
                    refine x_1 (p' := 78) hC rfl rfl rfl rfl ?_
                    refine x_cIV1 (p' := 79) (n := 73) hC rfl rfl rfl rfl rfl (hO.ty) ?_
                    refine sp_m_has hO (by first | exact hB | exact hB _) (by omega) hLL (by omega) (fun X a78 e78 hB => ?_)
                    refine x_ifeq (p' := 80) hC rfl rfl (fun c79 => ?_) (fun c79 => ?_)
                    · have c79 := b2i_0.mp c79
                      refine x_1 (p' := 83) hC rfl rfl rfl rfl ?_
                      refine x_zret hC rfl rfl rfl (by first | omega | exact b2i_01 _) ⟨_, rfl, ?_⟩
                      first
                      | (exfalso; omega)
                      | (refine K1 _ 0 0 _ ⟨hA.2, hc, Or.inr ⟨by omega, ⟨D11, ⟨by omega, h611⟩, hd11, by omega, c79.2, rfl, rfl⟩, rfl, rfl⟩⟩ X hB.1 (by have := hB.2.1; omega) (by rw [hB.2.2]; simp [ups]) (fun q => absurd q (by omega)))
                      | (refine K1 _ _ _ _ ⟨hA.2, hc, Or.inl ⟨by omega, _, _, ⟨D11, ⟨by omega, h611⟩, hd11, by omega, c25.2, rfl, rfl⟩, ⟨D28, ⟨by omega, h628⟩, hd28, by omega, c33.2, rfl, rfl⟩, Or.inl ⟨c43.1, c43.2, _, ⟨D52, ⟨by omega, h652⟩, hd52, by omega, c79.2, rfl, rfl⟩, rfl⟩⟩⟩ X hB.1 (by have := hB.2.1; omega) (by rw [hB.2.2]; simp [ups]) (fun _ => ⟨by rw [hB.2.2]; simp [ups], ?_⟩)
                         have hdv := dVal_rng (tx := B 5) D52 hd52
                         have hpb := pB_le ⟨D52, by omega⟩
                         dsimp only at hpb
                         rw [hB.2.2]
                         simp only [ups, if_true]
                         exact wr_id ⟨by omega, by omega⟩)
                      | (refine K1 _ _ _ _ ⟨hA.2, hc, Or.inl ⟨by omega, _, _, ⟨D11, ⟨by omega, h611⟩, hd11, by omega, c25.2, rfl, rfl⟩, ⟨D28, ⟨by omega, h628⟩, hd28, by omega, c33.2, rfl, rfl⟩, Or.inr ⟨c43, ⟨D52, ⟨by omega, h652⟩, hd52, by omega, c79.2, rfl, rfl⟩⟩⟩⟩ X hB.1 (by have := hB.2.1; omega) (by rw [hB.2.2]; simp [ups]) (fun _ => ⟨by rw [hB.2.2]; simp [ups], ?_⟩)
                         rw [hB.2.2]
                         simp [ups])
                      | (refine K0 (fun n0 n1 n2 nx O => ?_) _ (by first | exact hB.1 | exact (hB _).1) (by first | (rw [hB.2.1]; omega) | (rw [(hB _).2.1]; omega))
                         obtain ⟨o1, o2, ⟨o3, a1, a2, N1, N2, o4⟩ | ⟨o3, N1, o5, o6⟩⟩ := O
                         · first
                           | (exfalso; omega)
                           | (have q1 := num_of n44 h611 hd11 hs11 N1
                              obtain ⟨q11, q12, q13, q14, q15⟩ := q1
                              first
                              | (exfalso; omega)
                              | exact absurd ⟨q12, q13⟩ c25
                              | (subst q15
                                 have q2 := num_of n44 h628 hd28 hs28 N2
                                 obtain ⟨q21, q22, q23, q24, q25⟩ := q2
                                 first
                                 | (exfalso; omega)
                                 | exact absurd ⟨q22, q23⟩ c33
                                 | (subst q25
                                    obtain ⟨s1, s2, x, N3, s3⟩ | ⟨s1, N3⟩ := o4
                                    · first
                                      | exact absurd ⟨s1, s2⟩ c43
                                      | (have q3 := num_of n59 h652 hd52 hs52 N3
                                         obtain ⟨q31, q32, q33, q34, q35⟩ := q3
                                         first
                                         | (exfalso; omega)
                                         | exact absurd ⟨q32, q33⟩ c79
                                         | exact absurd ⟨q12, q13⟩ c79)
                                    · first
                                      | exact absurd c43 s1
                                      | (have q3 := num_of n59 h652 hd52 hs52 N3
                                         obtain ⟨q31, q32, q33, q34, q35⟩ := q3
                                         first
                                         | (exfalso; omega)
                                         | exact absurd ⟨q32, q33⟩ c79
                                         | exact absurd ⟨q12, q13⟩ c79))))
                         · first
                           | (exfalso; omega)
                           | (have q1 := num_of n59 h611 hd11 hs11 N1
                              obtain ⟨q11, q12, q13, q14, q15⟩ := q1
                              first
                              | (exfalso; omega)
                              | exact absurd ⟨q32, q33⟩ c79
                              | exact absurd ⟨q12, q13⟩ c79))
                    · have c79 := b2i_n0.mp c79
                      refine x_1 (p' := 81) hC rfl rfl rfl rfl ?_
                      refine x_1 (p' := 83) hC rfl rfl rfl rfl ?_
                      refine x_zret hC rfl rfl rfl (by first | omega | exact b2i_01 _) ⟨_, rfl, ?_⟩
                      first
                      | (exfalso; omega)
                      | (refine K1 _ 0 0 _ ⟨hA.2, hc, Or.inr ⟨by omega, ⟨D11, ⟨by omega, h611⟩, hd11, by omega, c79.2, rfl, rfl⟩, rfl, rfl⟩⟩ X hB.1 (by have := hB.2.1; omega) (by rw [hB.2.2]; simp [ups]) (fun q => absurd q (by omega)))
                      | (refine K1 _ _ _ _ ⟨hA.2, hc, Or.inl ⟨by omega, _, _, ⟨D11, ⟨by omega, h611⟩, hd11, by omega, c25.2, rfl, rfl⟩, ⟨D28, ⟨by omega, h628⟩, hd28, by omega, c33.2, rfl, rfl⟩, Or.inl ⟨c43.1, c43.2, _, ⟨D52, ⟨by omega, h652⟩, hd52, by omega, c79.2, rfl, rfl⟩, rfl⟩⟩⟩ X hB.1 (by have := hB.2.1; omega) (by rw [hB.2.2]; simp [ups]) (fun _ => ⟨by rw [hB.2.2]; simp [ups], ?_⟩)
                         have hdv := dVal_rng (tx := B 5) D52 hd52
                         have hpb := pB_le ⟨D52, by omega⟩
                         dsimp only at hpb
                         rw [hB.2.2]
                         simp only [ups, if_true]
                         exact wr_id ⟨by omega, by omega⟩)
                      | (refine K1 _ _ _ _ ⟨hA.2, hc, Or.inl ⟨by omega, _, _, ⟨D11, ⟨by omega, h611⟩, hd11, by omega, c25.2, rfl, rfl⟩, ⟨D28, ⟨by omega, h628⟩, hd28, by omega, c33.2, rfl, rfl⟩, Or.inr ⟨c43, ⟨D52, ⟨by omega, h652⟩, hd52, by omega, c79.2, rfl, rfl⟩⟩⟩⟩ X hB.1 (by have := hB.2.1; omega) (by rw [hB.2.2]; simp [ups]) (fun _ => ⟨by rw [hB.2.2]; simp [ups], ?_⟩)
                         rw [hB.2.2]
                         simp [ups])
                      | (refine K0 (fun n0 n1 n2 nx O => ?_) _ (by first | exact hB.1 | exact (hB _).1) (by first | (rw [hB.2.1]; omega) | (rw [(hB _).2.1]; omega))
                         obtain ⟨o1, o2, ⟨o3, a1, a2, N1, N2, o4⟩ | ⟨o3, N1, o5, o6⟩⟩ := O
                         · first
                           | (exfalso; omega)
                           | (have q1 := num_of n44 h611 hd11 hs11 N1
                              obtain ⟨q11, q12, q13, q14, q15⟩ := q1
                              first
                              | (exfalso; omega)
                              | exact absurd ⟨q12, q13⟩ c25
                              | (subst q15
                                 have q2 := num_of n44 h628 hd28 hs28 N2
                                 obtain ⟨q21, q22, q23, q24, q25⟩ := q2
                                 first
                                 | (exfalso; omega)
                                 | exact absurd ⟨q22, q23⟩ c33
                                 | (subst q25
                                    obtain ⟨s1, s2, x, N3, s3⟩ | ⟨s1, N3⟩ := o4
                                    · first
                                      | exact absurd ⟨s1, s2⟩ c43
                                      | (have q3 := num_of n59 h652 hd52 hs52 N3
                                         obtain ⟨q31, q32, q33, q34, q35⟩ := q3
                                         first
                                         | (exfalso; omega)
                                         | exact absurd ⟨q32, q33⟩ c79
                                         | exact absurd ⟨q12, q13⟩ c79)
                                    · first
                                      | exact absurd c43 s1
                                      | (have q3 := num_of n59 h652 hd52 hs52 N3
                                         obtain ⟨q31, q32, q33, q34, q35⟩ := q3
                                         first
                                         | (exfalso; omega)
                                         | exact absurd ⟨q32, q33⟩ c79
                                         | exact absurd ⟨q12, q13⟩ c79))))
                         · first
                           | (exfalso; omega)
                           | (have q1 := num_of n59 h611 hd11 hs11 N1
                              obtain ⟨q11, q12, q13, q14, q15⟩ := q1
                              first
                              | (exfalso; omega)
                              | exact absurd ⟨q32, q33⟩ c79
                              | exact absurd ⟨q12, q13⟩ c79))
    · refine x_1 (p' := 7) hC rfl rfl rfl rfl ?_
      refine x_1 (p' := 8) hC rfl rfl rfl rfl ?_
      refine x_icne (p' := 9) hC rfl rfl (fun c8 => ?_) (fun c8 => ?_)
      · refine x_1 (p' := 16) hC rfl rfl rfl rfl ?_
        refine x_stI2 (p' := 17) hC rfl rfl rfl ?_
        refine x_1 (p' := 18) hC rfl rfl rfl rfl ?_
        refine x_ifeq (p' := 19) hC rfl rfl (fun _ => ?_) (fun c => absurd c (by decide))
        refine x_1 (p' := 75) hC rfl rfl rfl rfl ?_
        refine x_ifeq (p' := 76) hC rfl rfl (fun _ => ?_) (fun c => absurd c (by decide))
        refine x_1 (p' := 83) hC rfl rfl rfl rfl ?_
        refine x_zret hC rfl rfl rfl (by first | omega | exact b2i_01 _) ⟨_, rfl, ?_⟩
        first
        | (exfalso; omega)
        | (refine K1 _ 0 0 _ ⟨hA.2, hc, Or.inr ⟨by omega, ⟨D11, ⟨by omega, h611⟩, hd11, by omega, c79.2, rfl, rfl⟩, rfl, rfl⟩⟩ X hB.1 (by have := hB.2.1; omega) (by rw [hB.2.2]; simp [ups]) (fun q => absurd q (by omega)))
        | (refine K1 _ _ _ _ ⟨hA.2, hc, Or.inl ⟨by omega, _, _, ⟨D11, ⟨by omega, h611⟩, hd11, by omega, c25.2, rfl, rfl⟩, ⟨D28, ⟨by omega, h628⟩, hd28, by omega, c33.2, rfl, rfl⟩, Or.inl ⟨c43.1, c43.2, _, ⟨D52, ⟨by omega, h652⟩, hd52, by omega, c79.2, rfl, rfl⟩, rfl⟩⟩⟩ X hB.1 (by have := hB.2.1; omega) (by rw [hB.2.2]; simp [ups]) (fun _ => ⟨by rw [hB.2.2]; simp [ups], ?_⟩)
           have hdv := dVal_rng (tx := B 5) D52 hd52
           have hpb := pB_le ⟨D52, by omega⟩
           dsimp only at hpb
           rw [hB.2.2]
           simp only [ups, if_true]
           exact wr_id ⟨by omega, by omega⟩)
        | (refine K1 _ _ _ _ ⟨hA.2, hc, Or.inl ⟨by omega, _, _, ⟨D11, ⟨by omega, h611⟩, hd11, by omega, c25.2, rfl, rfl⟩, ⟨D28, ⟨by omega, h628⟩, hd28, by omega, c33.2, rfl, rfl⟩, Or.inr ⟨c43, ⟨D52, ⟨by omega, h652⟩, hd52, by omega, c79.2, rfl, rfl⟩⟩⟩⟩ X hB.1 (by have := hB.2.1; omega) (by rw [hB.2.2]; simp [ups]) (fun _ => ⟨by rw [hB.2.2]; simp [ups], ?_⟩)
           rw [hB.2.2]
           simp [ups])
        | (refine K0 (fun n0 n1 n2 nx O => ?_) _ (by first | exact hB.1 | exact (hB _).1) (by first | (rw [hB.2.1]; omega) | (rw [(hB _).2.1]; omega))
           obtain ⟨o1, o2, ⟨o3, a1, a2, N1, N2, o4⟩ | ⟨o3, N1, o5, o6⟩⟩ := O
           · first
             | (exfalso; omega)
             | (have q1 := num_of n44 h611 hd11 hs11 N1
                obtain ⟨q11, q12, q13, q14, q15⟩ := q1
                first
                | (exfalso; omega)
                | exact absurd ⟨q12, q13⟩ c25
                | (subst q15
                   have q2 := num_of n44 h628 hd28 hs28 N2
                   obtain ⟨q21, q22, q23, q24, q25⟩ := q2
                   first
                   | (exfalso; omega)
                   | exact absurd ⟨q22, q23⟩ c33
                   | (subst q25
                      obtain ⟨s1, s2, x, N3, s3⟩ | ⟨s1, N3⟩ := o4
                      · first
                        | exact absurd ⟨s1, s2⟩ c43
                        | (have q3 := num_of n59 h652 hd52 hs52 N3
                           obtain ⟨q31, q32, q33, q34, q35⟩ := q3
                           first
                           | (exfalso; omega)
                           | exact absurd ⟨q32, q33⟩ c79
                           | exact absurd ⟨q12, q13⟩ c79)
                      · first
                        | exact absurd c43 s1
                        | (have q3 := num_of n59 h652 hd52 hs52 N3
                           obtain ⟨q31, q32, q33, q34, q35⟩ := q3
                           first
                           | (exfalso; omega)
                           | exact absurd ⟨q32, q33⟩ c79
                           | exact absurd ⟨q12, q13⟩ c79))))
           · first
             | (exfalso; omega)
             | (have q1 := num_of n59 h611 hd11 hs11 N1
                obtain ⟨q11, q12, q13, q14, q15⟩ := q1
                first
                | (exfalso; omega)
                | exact absurd ⟨q32, q33⟩ c79
                | exact absurd ⟨q12, q13⟩ c79))
      · refine x_1 (p' := 10) hC rfl rfl rfl rfl ?_
        refine x_1 (p' := 11) hC rfl rfl rfl rfl ?_
        refine x_cIV1 (p' := 12) (n := 74) hC rfl rfl rfl rfl rfl (hO.ty) ?_
        refine sp_m_takes hO hB (by omega) hLL (by omega) (by decide) (fun D11 X h611 hd11 hl11 hs11 hB => ?_)
        refine x_ifeq (p' := 13) hC rfl rfl (fun c12 => ?_) (fun c12 => ?_)
        · have c12 := b2i_0.mp c12
          refine x_1 (p' := 16) hC rfl rfl rfl rfl ?_
          refine x_stI2 (p' := 17) hC rfl rfl rfl ?_
          refine x_1 (p' := 18) hC rfl rfl rfl rfl ?_
          refine x_ifeq (p' := 19) hC rfl rfl (fun _ => ?_) (fun c => absurd c (by decide))
          refine x_1 (p' := 75) hC rfl rfl rfl rfl ?_
          refine x_ifeq (p' := 76) hC rfl rfl (fun _ => ?_) (fun c => absurd c (by decide))
          refine x_1 (p' := 83) hC rfl rfl rfl rfl ?_
          refine x_zret hC rfl rfl rfl (by first | omega | exact b2i_01 _) ⟨_, rfl, ?_⟩
          first
          | (exfalso; omega)
          | (refine K1 _ 0 0 _ ⟨hA.2, hc, Or.inr ⟨by omega, ⟨D11, ⟨by omega, h611⟩, hd11, by omega, c79.2, rfl, rfl⟩, rfl, rfl⟩⟩ X hB.1 (by have := hB.2.1; omega) (by rw [hB.2.2]; simp [ups]) (fun q => absurd q (by omega)))
          | (refine K1 _ _ _ _ ⟨hA.2, hc, Or.inl ⟨by omega, _, _, ⟨D11, ⟨by omega, h611⟩, hd11, by omega, c25.2, rfl, rfl⟩, ⟨D28, ⟨by omega, h628⟩, hd28, by omega, c33.2, rfl, rfl⟩, Or.inl ⟨c43.1, c43.2, _, ⟨D52, ⟨by omega, h652⟩, hd52, by omega, c79.2, rfl, rfl⟩, rfl⟩⟩⟩ X hB.1 (by have := hB.2.1; omega) (by rw [hB.2.2]; simp [ups]) (fun _ => ⟨by rw [hB.2.2]; simp [ups], ?_⟩)
             have hdv := dVal_rng (tx := B 5) D52 hd52
             have hpb := pB_le ⟨D52, by omega⟩
             dsimp only at hpb
             rw [hB.2.2]
             simp only [ups, if_true]
             exact wr_id ⟨by omega, by omega⟩)
          | (refine K1 _ _ _ _ ⟨hA.2, hc, Or.inl ⟨by omega, _, _, ⟨D11, ⟨by omega, h611⟩, hd11, by omega, c25.2, rfl, rfl⟩, ⟨D28, ⟨by omega, h628⟩, hd28, by omega, c33.2, rfl, rfl⟩, Or.inr ⟨c43, ⟨D52, ⟨by omega, h652⟩, hd52, by omega, c79.2, rfl, rfl⟩⟩⟩⟩ X hB.1 (by have := hB.2.1; omega) (by rw [hB.2.2]; simp [ups]) (fun _ => ⟨by rw [hB.2.2]; simp [ups], ?_⟩)
             rw [hB.2.2]
             simp [ups])
          | (refine K0 (fun n0 n1 n2 nx O => ?_) _ (by first | exact hB.1 | exact (hB _).1) (by first | (rw [hB.2.1]; omega) | (rw [(hB _).2.1]; omega))
             obtain ⟨o1, o2, ⟨o3, a1, a2, N1, N2, o4⟩ | ⟨o3, N1, o5, o6⟩⟩ := O
             · first
               | (exfalso; omega)
               | (have q1 := num_of n44 h611 hd11 hs11 N1
                  obtain ⟨q11, q12, q13, q14, q15⟩ := q1
                  first
                  | (exfalso; omega)
                  | exact absurd ⟨q12, q13⟩ c25
                  | (subst q15
                     have q2 := num_of n44 h628 hd28 hs28 N2
                     obtain ⟨q21, q22, q23, q24, q25⟩ := q2
                     first
                     | (exfalso; omega)
                     | exact absurd ⟨q22, q23⟩ c33
                     | (subst q25
                        obtain ⟨s1, s2, x, N3, s3⟩ | ⟨s1, N3⟩ := o4
                        · first
                          | exact absurd ⟨s1, s2⟩ c43
                          | (have q3 := num_of n59 h652 hd52 hs52 N3
                             obtain ⟨q31, q32, q33, q34, q35⟩ := q3
                             first
                             | (exfalso; omega)
                             | exact absurd ⟨q32, q33⟩ c79
                             | exact absurd ⟨q12, q13⟩ c79)
                        · first
                          | exact absurd c43 s1
                          | (have q3 := num_of n59 h652 hd52 hs52 N3
                             obtain ⟨q31, q32, q33, q34, q35⟩ := q3
                             first
                             | (exfalso; omega)
                             | exact absurd ⟨q32, q33⟩ c79
                             | exact absurd ⟨q12, q13⟩ c79))))
             · first
               | (exfalso; omega)
               | (have q1 := num_of n59 h611 hd11 hs11 N1
                  obtain ⟨q11, q12, q13, q14, q15⟩ := q1
                  first
                  | (exfalso; omega)
                  | exact absurd ⟨q32, q33⟩ c79
                  | exact absurd ⟨q12, q13⟩ c79))
        · have c12 := b2i_n0.mp c12
          refine x_1 (p' := 14) hC rfl rfl rfl rfl ?_
          refine x_1 (p' := 16) hC rfl rfl rfl rfl ?_
          refine x_stI2 (p' := 17) hC rfl rfl rfl ?_
          refine x_1 (p' := 18) hC rfl rfl rfl rfl ?_
          refine x_ifeq (p' := 19) hC rfl rfl (fun c => absurd c (by decide)) (fun _ => ?_)
          refine x_1 (p' := 20) hC rfl rfl rfl rfl ?_
          refine x_1 (p' := 21) hC rfl rfl rfl rfl ?_
          refine x_icne (p' := 22) hC rfl rfl (fun c21 => ?_) (fun c21 => ?_)
          · refine x_1 (p' := 75) hC rfl rfl rfl rfl ?_
            refine x_ifeq (p' := 76) hC rfl rfl (fun c => absurd c (by decide)) (fun _ => ?_)
            refine x_1 (p' := 77) hC rfl rfl rfl rfl ?_
            refine x_1 (p' := 78) hC rfl rfl rfl rfl ?_
            refine x_cIV1 (p' := 79) (n := 73) hC rfl rfl rfl rfl rfl (hO.ty) ?_
            refine sp_m_has hO (by first | exact hB | exact hB _) (by omega) hLL (by omega) (fun X a78 e78 hB => ?_)
            refine x_ifeq (p' := 80) hC rfl rfl (fun c79 => ?_) (fun c79 => ?_)
            · have c79 := b2i_0.mp c79
              refine x_1 (p' := 83) hC rfl rfl rfl rfl ?_
              refine x_zret hC rfl rfl rfl (by first | omega | exact b2i_01 _) ⟨_, rfl, ?_⟩
              first
              | (exfalso; omega)
              | (refine K1 _ 0 0 _ ⟨hA.2, hc, Or.inr ⟨by omega, ⟨D11, ⟨by omega, h611⟩, hd11, by omega, c79.2, rfl, rfl⟩, rfl, rfl⟩⟩ X hB.1 (by have := hB.2.1; omega) (by rw [hB.2.2]; simp [ups]) (fun q => absurd q (by omega)))
              | (refine K1 _ _ _ _ ⟨hA.2, hc, Or.inl ⟨by omega, _, _, ⟨D11, ⟨by omega, h611⟩, hd11, by omega, c25.2, rfl, rfl⟩, ⟨D28, ⟨by omega, h628⟩, hd28, by omega, c33.2, rfl, rfl⟩, Or.inl ⟨c43.1, c43.2, _, ⟨D52, ⟨by omega, h652⟩, hd52, by omega, c79.2, rfl, rfl⟩, rfl⟩⟩⟩ X hB.1 (by have := hB.2.1; omega) (by rw [hB.2.2]; simp [ups]) (fun _ => ⟨by rw [hB.2.2]; simp [ups], ?_⟩)
                 have hdv := dVal_rng (tx := B 5) D52 hd52
                 have hpb := pB_le ⟨D52, by omega⟩
                 dsimp only at hpb
                 rw [hB.2.2]
                 simp only [ups, if_true]
                 exact wr_id ⟨by omega, by omega⟩)
              | (refine K1 _ _ _ _ ⟨hA.2, hc, Or.inl ⟨by omega, _, _, ⟨D11, ⟨by omega, h611⟩, hd11, by omega, c25.2, rfl, rfl⟩, ⟨D28, ⟨by omega, h628⟩, hd28, by omega, c33.2, rfl, rfl⟩, Or.inr ⟨c43, ⟨D52, ⟨by omega, h652⟩, hd52, by omega, c79.2, rfl, rfl⟩⟩⟩⟩ X hB.1 (by have := hB.2.1; omega) (by rw [hB.2.2]; simp [ups]) (fun _ => ⟨by rw [hB.2.2]; simp [ups], ?_⟩)
                 rw [hB.2.2]
                 simp [ups])
              | (refine K0 (fun n0 n1 n2 nx O => ?_) _ (by first | exact hB.1 | exact (hB _).1) (by first | (rw [hB.2.1]; omega) | (rw [(hB _).2.1]; omega))
                 obtain ⟨o1, o2, ⟨o3, a1, a2, N1, N2, o4⟩ | ⟨o3, N1, o5, o6⟩⟩ := O
                 · first
                   | (exfalso; omega)
                   | (have q1 := num_of n44 h611 hd11 hs11 N1
                      obtain ⟨q11, q12, q13, q14, q15⟩ := q1
                      first
                      | (exfalso; omega)
                      | exact absurd ⟨q12, q13⟩ c25
                      | (subst q15
                         have q2 := num_of n44 h628 hd28 hs28 N2
                         obtain ⟨q21, q22, q23, q24, q25⟩ := q2
                         first
                         | (exfalso; omega)
                         | exact absurd ⟨q22, q23⟩ c33
                         | (subst q25
                            obtain ⟨s1, s2, x, N3, s3⟩ | ⟨s1, N3⟩ := o4
                            · first
                              | exact absurd ⟨s1, s2⟩ c43
                              | (have q3 := num_of n59 h652 hd52 hs52 N3
                                 obtain ⟨q31, q32, q33, q34, q35⟩ := q3
                                 first
                                 | (exfalso; omega)
                                 | exact absurd ⟨q32, q33⟩ c79
                                 | exact absurd ⟨q12, q13⟩ c79)
                            · first
                              | exact absurd c43 s1
                              | (have q3 := num_of n59 h652 hd52 hs52 N3
                                 obtain ⟨q31, q32, q33, q34, q35⟩ := q3
                                 first
                                 | (exfalso; omega)
                                 | exact absurd ⟨q32, q33⟩ c79
                                 | exact absurd ⟨q12, q13⟩ c79))))
                 · first
                   | (exfalso; omega)
                   | (have q1 := num_of n59 h611 hd11 hs11 N1
                      obtain ⟨q11, q12, q13, q14, q15⟩ := q1
                      first
                      | (exfalso; omega)
                      | exact absurd ⟨q32, q33⟩ c79
                      | exact absurd ⟨q12, q13⟩ c79))
            · have c79 := b2i_n0.mp c79
              refine x_1 (p' := 81) hC rfl rfl rfl rfl ?_
              refine x_1 (p' := 83) hC rfl rfl rfl rfl ?_
              refine x_zret hC rfl rfl rfl (by first | omega | exact b2i_01 _) ⟨_, rfl, ?_⟩
              first
              | (exfalso; omega)
              | (refine K1 _ 0 0 _ ⟨hA.2, hc, Or.inr ⟨by omega, ⟨D11, ⟨by omega, h611⟩, hd11, by omega, c79.2, rfl, rfl⟩, rfl, rfl⟩⟩ X hB.1 (by have := hB.2.1; omega) (by rw [hB.2.2]; simp [ups]) (fun q => absurd q (by omega)))
              | (refine K1 _ _ _ _ ⟨hA.2, hc, Or.inl ⟨by omega, _, _, ⟨D11, ⟨by omega, h611⟩, hd11, by omega, c25.2, rfl, rfl⟩, ⟨D28, ⟨by omega, h628⟩, hd28, by omega, c33.2, rfl, rfl⟩, Or.inl ⟨c43.1, c43.2, _, ⟨D52, ⟨by omega, h652⟩, hd52, by omega, c79.2, rfl, rfl⟩, rfl⟩⟩⟩ X hB.1 (by have := hB.2.1; omega) (by rw [hB.2.2]; simp [ups]) (fun _ => ⟨by rw [hB.2.2]; simp [ups], ?_⟩)
                 have hdv := dVal_rng (tx := B 5) D52 hd52
                 have hpb := pB_le ⟨D52, by omega⟩
                 dsimp only at hpb
                 rw [hB.2.2]
                 simp only [ups, if_true]
                 exact wr_id ⟨by omega, by omega⟩)
              | (refine K1 _ _ _ _ ⟨hA.2, hc, Or.inl ⟨by omega, _, _, ⟨D11, ⟨by omega, h611⟩, hd11, by omega, c25.2, rfl, rfl⟩, ⟨D28, ⟨by omega, h628⟩, hd28, by omega, c33.2, rfl, rfl⟩, Or.inr ⟨c43, ⟨D52, ⟨by omega, h652⟩, hd52, by omega, c79.2, rfl, rfl⟩⟩⟩⟩ X hB.1 (by have := hB.2.1; omega) (by rw [hB.2.2]; simp [ups]) (fun _ => ⟨by rw [hB.2.2]; simp [ups], ?_⟩)
                 rw [hB.2.2]
                 simp [ups])
              | (refine K0 (fun n0 n1 n2 nx O => ?_) _ (by first | exact hB.1 | exact (hB _).1) (by first | (rw [hB.2.1]; omega) | (rw [(hB _).2.1]; omega))
                 obtain ⟨o1, o2, ⟨o3, a1, a2, N1, N2, o4⟩ | ⟨o3, N1, o5, o6⟩⟩ := O
                 · first
                   | (exfalso; omega)
                   | (have q1 := num_of n44 h611 hd11 hs11 N1
                      obtain ⟨q11, q12, q13, q14, q15⟩ := q1
                      first
                      | (exfalso; omega)
                      | exact absurd ⟨q12, q13⟩ c25
                      | (subst q15
                         have q2 := num_of n44 h628 hd28 hs28 N2
                         obtain ⟨q21, q22, q23, q24, q25⟩ := q2
                         first
                         | (exfalso; omega)
                         | exact absurd ⟨q22, q23⟩ c33
                         | (subst q25
                            obtain ⟨s1, s2, x, N3, s3⟩ | ⟨s1, N3⟩ := o4
                            · first
                              | exact absurd ⟨s1, s2⟩ c43
                              | (have q3 := num_of n59 h652 hd52 hs52 N3
                                 obtain ⟨q31, q32, q33, q34, q35⟩ := q3
                                 first
                                 | (exfalso; omega)
                                 | exact absurd ⟨q32, q33⟩ c79
                                 | exact absurd ⟨q12, q13⟩ c79)
                            · first
                              | exact absurd c43 s1
                              | (have q3 := num_of n59 h652 hd52 hs52 N3
                                 obtain ⟨q31, q32, q33, q34, q35⟩ := q3
                                 first
                                 | (exfalso; omega)
                                 | exact absurd ⟨q32, q33⟩ c79
                                 | exact absurd ⟨q12, q13⟩ c79))))
                 · first
                   | (exfalso; omega)
                   | (have q1 := num_of n59 h611 hd11 hs11 N1
                      obtain ⟨q11, q12, q13, q14, q15⟩ := q1
                      first
                      | (exfalso; omega)
                      | exact absurd ⟨q32, q33⟩ c79
                      | exact absurd ⟨q12, q13⟩ c79))
          · refine x_1 (p' := 23) hC rfl rfl rfl rfl ?_
            refine x_1 (p' := 24) hC rfl rfl rfl rfl ?_
            refine x_cIV1 (p' := 25) (n := 73) hC rfl rfl rfl rfl rfl (hO.ty) ?_
            refine sp_m_has hO (by first | exact hB | exact hB _) (by omega) hLL (by omega) (fun X a24 e24 hB => ?_)
            refine x_ifeq (p' := 26) hC rfl rfl (fun c25 => ?_) (fun c25 => ?_)
            · have c25 := b2i_0.mp c25
              refine x_1 (p' := 37) hC rfl rfl rfl rfl ?_
              refine x_stI2 (p' := 38) hC rfl rfl rfl ?_
              refine x_1 (p' := 39) hC rfl rfl rfl rfl ?_
              refine x_ifeq (p' := 40) hC rfl rfl (fun _ => ?_) (fun c => absurd c (by decide))
              refine x_1 (p' := 47) hC rfl rfl rfl rfl ?_
              refine x_stI3 (p' := 48) hC rfl rfl rfl ?_
              refine x_1 (p' := 49) hC rfl rfl rfl rfl ?_
              refine x_ifeq (p' := 50) hC rfl rfl (fun _ => ?_) (fun c => absurd c (by decide))
              refine x_1 (p' := 57) hC rfl rfl rfl rfl ?_
              refine x_stI2 (p' := 58) hC rfl rfl rfl ?_
              refine x_1 (p' := 59) hC rfl rfl rfl rfl ?_
              refine y_gR (p' := 60) (n := 6) hO hC rfl rfl rfl rfl ?_
              refine x_1 (p' := 61) hC rfl rfl rfl rfl ?_
              refine x_1 (p' := 62) hC rfl rfl rfl rfl ?_
              refine x_ifeq (p' := 63) hC rfl rfl (fun _ => ?_) (fun c => absurd c (by decide))
              refine x_1 (p' := 70) hC rfl rfl rfl rfl ?_
              refine y_gR (p' := 71) (n := 6) hO hC rfl rfl rfl rfl ?_
              refine x_1 (p' := 72) hC rfl rfl rfl rfl ?_
              refine y_ld (p' := 73) (L := 3) hO hC rfl rfl rfl rfl (by omega) (by omega) ?_
              rw [hB.2.2]
              refine y_st (p' := 74) (L := 3) hO hC rfl rfl rfl rfl (by omega) (by omega) ?_
              have hB := fun v => hB.st 2 v
              refine x_1 (p' := 75) hC rfl rfl rfl rfl ?_
              refine x_ifeq (p' := 76) hC rfl rfl (fun _ => ?_) (fun c => absurd c (by decide))
              refine x_1 (p' := 83) hC rfl rfl rfl rfl ?_
              refine x_zret hC rfl rfl rfl (by first | omega | exact b2i_01 _) ⟨_, rfl, ?_⟩
              first
              | (exfalso; omega)
              | (refine K1 _ 0 0 _ ⟨hA.2, hc, Or.inr ⟨by omega, ⟨D11, ⟨by omega, h611⟩, hd11, by omega, c79.2, rfl, rfl⟩, rfl, rfl⟩⟩ X hB.1 (by have := hB.2.1; omega) (by rw [hB.2.2]; simp [ups]) (fun q => absurd q (by omega)))
              | (refine K1 _ _ _ _ ⟨hA.2, hc, Or.inl ⟨by omega, _, _, ⟨D11, ⟨by omega, h611⟩, hd11, by omega, c25.2, rfl, rfl⟩, ⟨D28, ⟨by omega, h628⟩, hd28, by omega, c33.2, rfl, rfl⟩, Or.inl ⟨c43.1, c43.2, _, ⟨D52, ⟨by omega, h652⟩, hd52, by omega, c79.2, rfl, rfl⟩, rfl⟩⟩⟩ X hB.1 (by have := hB.2.1; omega) (by rw [hB.2.2]; simp [ups]) (fun _ => ⟨by rw [hB.2.2]; simp [ups], ?_⟩)
                 have hdv := dVal_rng (tx := B 5) D52 hd52
                 have hpb := pB_le ⟨D52, by omega⟩
                 dsimp only at hpb
                 rw [hB.2.2]
                 simp only [ups, if_true]
                 exact wr_id ⟨by omega, by omega⟩)
              | (refine K1 _ _ _ _ ⟨hA.2, hc, Or.inl ⟨by omega, _, _, ⟨D11, ⟨by omega, h611⟩, hd11, by omega, c25.2, rfl, rfl⟩, ⟨D28, ⟨by omega, h628⟩, hd28, by omega, c33.2, rfl, rfl⟩, Or.inr ⟨c43, ⟨D52, ⟨by omega, h652⟩, hd52, by omega, c79.2, rfl, rfl⟩⟩⟩⟩ X hB.1 (by have := hB.2.1; omega) (by rw [hB.2.2]; simp [ups]) (fun _ => ⟨by rw [hB.2.2]; simp [ups], ?_⟩)
                 rw [hB.2.2]
                 simp [ups])
              | (refine K0 (fun n0 n1 n2 nx O => ?_) _ (by first | exact hB.1 | exact (hB _).1) (by first | (rw [hB.2.1]; omega) | (rw [(hB _).2.1]; omega))
                 obtain ⟨o1, o2, ⟨o3, a1, a2, N1, N2, o4⟩ | ⟨o3, N1, o5, o6⟩⟩ := O
                 · first
                   | (exfalso; omega)
                   | (have q1 := num_of n44 h611 hd11 hs11 N1
                      obtain ⟨q11, q12, q13, q14, q15⟩ := q1
                      first
                      | (exfalso; omega)
                      | exact absurd ⟨q12, q13⟩ c25
                      | (subst q15
                         have q2 := num_of n44 h628 hd28 hs28 N2
                         obtain ⟨q21, q22, q23, q24, q25⟩ := q2
                         first
                         | (exfalso; omega)
                         | exact absurd ⟨q22, q23⟩ c33
                         | (subst q25
                            obtain ⟨s1, s2, x, N3, s3⟩ | ⟨s1, N3⟩ := o4
                            · first
                              | exact absurd ⟨s1, s2⟩ c43
                              | (have q3 := num_of n59 h652 hd52 hs52 N3
                                 obtain ⟨q31, q32, q33, q34, q35⟩ := q3
                                 first
                                 | (exfalso; omega)
                                 | exact absurd ⟨q32, q33⟩ c79
                                 | exact absurd ⟨q12, q13⟩ c79)
                            · first
                              | exact absurd c43 s1
                              | (have q3 := num_of n59 h652 hd52 hs52 N3
                                 obtain ⟨q31, q32, q33, q34, q35⟩ := q3
                                 first
                                 | (exfalso; omega)
                                 | exact absurd ⟨q32, q33⟩ c79
                                 | exact absurd ⟨q12, q13⟩ c79))))
                 · first
                   | (exfalso; omega)
                   | (have q1 := num_of n59 h611 hd11 hs11 N1
                      obtain ⟨q11, q12, q13, q14, q15⟩ := q1
                      first
                      | (exfalso; omega)
                      | exact absurd ⟨q32, q33⟩ c79
                      | exact absurd ⟨q12, q13⟩ c79))
            · have c25 := b2i_n0.mp c25
              have ea : a24 = A + 1 + (D11 : Int) + 1 := by omega
              subst ea
              refine x_1 (p' := 27) hC rfl rfl rfl rfl ?_
              refine x_1 (p' := 28) hC rfl rfl rfl rfl ?_
              refine x_cIV1 (p' := 29) (n := 74) hC rfl rfl rfl rfl rfl (hO.ty) ?_
              refine sp_m_takes hO hB (by omega) hLL (by omega) (by decide) (fun D28 X h628 hd28 hl28 hs28 hB => ?_)
              refine x_ifeq (p' := 30) hC rfl rfl (fun c29 => ?_) (fun c29 => ?_)
              · have c29 := b2i_0.mp c29
                refine x_1 (p' := 37) hC rfl rfl rfl rfl ?_
                refine x_stI2 (p' := 38) hC rfl rfl rfl ?_
                refine x_1 (p' := 39) hC rfl rfl rfl rfl ?_
                refine x_ifeq (p' := 40) hC rfl rfl (fun _ => ?_) (fun c => absurd c (by decide))
                refine x_1 (p' := 47) hC rfl rfl rfl rfl ?_
                refine x_stI3 (p' := 48) hC rfl rfl rfl ?_
                refine x_1 (p' := 49) hC rfl rfl rfl rfl ?_
                refine x_ifeq (p' := 50) hC rfl rfl (fun _ => ?_) (fun c => absurd c (by decide))
                refine x_1 (p' := 57) hC rfl rfl rfl rfl ?_
                refine x_stI2 (p' := 58) hC rfl rfl rfl ?_
                refine x_1 (p' := 59) hC rfl rfl rfl rfl ?_
                refine y_gR (p' := 60) (n := 6) hO hC rfl rfl rfl rfl ?_
                refine x_1 (p' := 61) hC rfl rfl rfl rfl ?_
                refine x_1 (p' := 62) hC rfl rfl rfl rfl ?_
                refine x_ifeq (p' := 63) hC rfl rfl (fun _ => ?_) (fun c => absurd c (by decide))
                refine x_1 (p' := 70) hC rfl rfl rfl rfl ?_
                refine y_gR (p' := 71) (n := 6) hO hC rfl rfl rfl rfl ?_
                refine x_1 (p' := 72) hC rfl rfl rfl rfl ?_
                refine y_ld (p' := 73) (L := 3) hO hC rfl rfl rfl rfl (by omega) (by omega) ?_
                rw [hB.2.2]
                refine y_st (p' := 74) (L := 3) hO hC rfl rfl rfl rfl (by omega) (by omega) ?_
                have hB := fun v => hB.st 2 v
                refine x_1 (p' := 75) hC rfl rfl rfl rfl ?_
                refine x_ifeq (p' := 76) hC rfl rfl (fun _ => ?_) (fun c => absurd c (by decide))
                refine x_1 (p' := 83) hC rfl rfl rfl rfl ?_
                refine x_zret hC rfl rfl rfl (by first | omega | exact b2i_01 _) ⟨_, rfl, ?_⟩
                first
                | (exfalso; omega)
                | (refine K1 _ 0 0 _ ⟨hA.2, hc, Or.inr ⟨by omega, ⟨D11, ⟨by omega, h611⟩, hd11, by omega, c79.2, rfl, rfl⟩, rfl, rfl⟩⟩ X hB.1 (by have := hB.2.1; omega) (by rw [hB.2.2]; simp [ups]) (fun q => absurd q (by omega)))
                | (refine K1 _ _ _ _ ⟨hA.2, hc, Or.inl ⟨by omega, _, _, ⟨D11, ⟨by omega, h611⟩, hd11, by omega, c25.2, rfl, rfl⟩, ⟨D28, ⟨by omega, h628⟩, hd28, by omega, c33.2, rfl, rfl⟩, Or.inl ⟨c43.1, c43.2, _, ⟨D52, ⟨by omega, h652⟩, hd52, by omega, c79.2, rfl, rfl⟩, rfl⟩⟩⟩ X hB.1 (by have := hB.2.1; omega) (by rw [hB.2.2]; simp [ups]) (fun _ => ⟨by rw [hB.2.2]; simp [ups], ?_⟩)
                   have hdv := dVal_rng (tx := B 5) D52 hd52
                   have hpb := pB_le ⟨D52, by omega⟩
                   dsimp only at hpb
                   rw [hB.2.2]
                   simp only [ups, if_true]
                   exact wr_id ⟨by omega, by omega⟩)
                | (refine K1 _ _ _ _ ⟨hA.2, hc, Or.inl ⟨by omega, _, _, ⟨D11, ⟨by omega, h611⟩, hd11, by omega, c25.2, rfl, rfl⟩, ⟨D28, ⟨by omega, h628⟩, hd28, by omega, c33.2, rfl, rfl⟩, Or.inr ⟨c43, ⟨D52, ⟨by omega, h652⟩, hd52, by omega, c79.2, rfl, rfl⟩⟩⟩⟩ X hB.1 (by have := hB.2.1; omega) (by rw [hB.2.2]; simp [ups]) (fun _ => ⟨by rw [hB.2.2]; simp [ups], ?_⟩)
                   rw [hB.2.2]
                   simp [ups])
                | (refine K0 (fun n0 n1 n2 nx O => ?_) _ (by first | exact hB.1 | exact (hB _).1) (by first | (rw [hB.2.1]; omega) | (rw [(hB _).2.1]; omega))
                   obtain ⟨o1, o2, ⟨o3, a1, a2, N1, N2, o4⟩ | ⟨o3, N1, o5, o6⟩⟩ := O
                   · first
                     | (exfalso; omega)
                     | (have q1 := num_of n44 h611 hd11 hs11 N1
                        obtain ⟨q11, q12, q13, q14, q15⟩ := q1
                        first
                        | (exfalso; omega)
                        | exact absurd ⟨q12, q13⟩ c25
                        | (subst q15
                           have q2 := num_of n44 h628 hd28 hs28 N2
                           obtain ⟨q21, q22, q23, q24, q25⟩ := q2
                           first
                           | (exfalso; omega)
                           | exact absurd ⟨q22, q23⟩ c33
                           | (subst q25
                              obtain ⟨s1, s2, x, N3, s3⟩ | ⟨s1, N3⟩ := o4
                              · first
                                | exact absurd ⟨s1, s2⟩ c43
                                | (have q3 := num_of n59 h652 hd52 hs52 N3
                                   obtain ⟨q31, q32, q33, q34, q35⟩ := q3
                                   first
                                   | (exfalso; omega)
                                   | exact absurd ⟨q32, q33⟩ c79
                                   | exact absurd ⟨q12, q13⟩ c79)
                              · first
                                | exact absurd c43 s1
                                | (have q3 := num_of n59 h652 hd52 hs52 N3
                                   obtain ⟨q31, q32, q33, q34, q35⟩ := q3
                                   first
                                   | (exfalso; omega)
                                   | exact absurd ⟨q32, q33⟩ c79
                                   | exact absurd ⟨q12, q13⟩ c79))))
                   · first
                     | (exfalso; omega)
                     | (have q1 := num_of n59 h611 hd11 hs11 N1
                        obtain ⟨q11, q12, q13, q14, q15⟩ := q1
                        first
                        | (exfalso; omega)
                        | exact absurd ⟨q32, q33⟩ c79
                        | exact absurd ⟨q12, q13⟩ c79))
              · have c29 := b2i_n0.mp c29
                refine x_1 (p' := 31) hC rfl rfl rfl rfl ?_
                refine x_1 (p' := 32) hC rfl rfl rfl rfl ?_
                refine x_cIV1 (p' := 33) (n := 73) hC rfl rfl rfl rfl rfl (hO.ty) ?_
                refine sp_m_has hO (by first | exact hB | exact hB _) (by omega) hLL (by omega) (fun X a32 e32 hB => ?_)
                refine x_ifeq (p' := 34) hC rfl rfl (fun c33 => ?_) (fun c33 => ?_)
                · have c33 := b2i_0.mp c33
                  refine x_1 (p' := 37) hC rfl rfl rfl rfl ?_
                  refine x_stI2 (p' := 38) hC rfl rfl rfl ?_
                  refine x_1 (p' := 39) hC rfl rfl rfl rfl ?_
                  refine x_ifeq (p' := 40) hC rfl rfl (fun _ => ?_) (fun c => absurd c (by decide))
                  refine x_1 (p' := 47) hC rfl rfl rfl rfl ?_
                  refine x_stI3 (p' := 48) hC rfl rfl rfl ?_
                  refine x_1 (p' := 49) hC rfl rfl rfl rfl ?_
                  refine x_ifeq (p' := 50) hC rfl rfl (fun _ => ?_) (fun c => absurd c (by decide))
                  refine x_1 (p' := 57) hC rfl rfl rfl rfl ?_
                  refine x_stI2 (p' := 58) hC rfl rfl rfl ?_
                  refine x_1 (p' := 59) hC rfl rfl rfl rfl ?_
                  refine y_gR (p' := 60) (n := 6) hO hC rfl rfl rfl rfl ?_
                  refine x_1 (p' := 61) hC rfl rfl rfl rfl ?_
                  refine x_1 (p' := 62) hC rfl rfl rfl rfl ?_
                  refine x_ifeq (p' := 63) hC rfl rfl (fun _ => ?_) (fun c => absurd c (by decide))
                  refine x_1 (p' := 70) hC rfl rfl rfl rfl ?_
                  refine y_gR (p' := 71) (n := 6) hO hC rfl rfl rfl rfl ?_
                  refine x_1 (p' := 72) hC rfl rfl rfl rfl ?_
                  refine y_ld (p' := 73) (L := 3) hO hC rfl rfl rfl rfl (by omega) (by omega) ?_
                  rw [hB.2.2]
                  refine y_st (p' := 74) (L := 3) hO hC rfl rfl rfl rfl (by omega) (by omega) ?_
                  have hB := fun v => hB.st 2 v
                  refine x_1 (p' := 75) hC rfl rfl rfl rfl ?_
                  refine x_ifeq (p' := 76) hC rfl rfl (fun _ => ?_) (fun c => absurd c (by decide))
                  refine x_1 (p' := 83) hC rfl rfl rfl rfl ?_
                  refine x_zret hC rfl rfl rfl (by first | omega | exact b2i_01 _) ⟨_, rfl, ?_⟩
                  first
                  | (exfalso; omega)
                  | (refine K1 _ 0 0 _ ⟨hA.2, hc, Or.inr ⟨by omega, ⟨D11, ⟨by omega, h611⟩, hd11, by omega, c79.2, rfl, rfl⟩, rfl, rfl⟩⟩ X hB.1 (by have := hB.2.1; omega) (by rw [hB.2.2]; simp [ups]) (fun q => absurd q (by omega)))
                  | (refine K1 _ _ _ _ ⟨hA.2, hc, Or.inl ⟨by omega, _, _, ⟨D11, ⟨by omega, h611⟩, hd11, by omega, c25.2, rfl, rfl⟩, ⟨D28, ⟨by omega, h628⟩, hd28, by omega, c33.2, rfl, rfl⟩, Or.inl ⟨c43.1, c43.2, _, ⟨D52, ⟨by omega, h652⟩, hd52, by omega, c79.2, rfl, rfl⟩, rfl⟩⟩⟩ X hB.1 (by have := hB.2.1; omega) (by rw [hB.2.2]; simp [ups]) (fun _ => ⟨by rw [hB.2.2]; simp [ups], ?_⟩)
                     have hdv := dVal_rng (tx := B 5) D52 hd52
                     have hpb := pB_le ⟨D52, by omega⟩
                     dsimp only at hpb
                     rw [hB.2.2]
                     simp only [ups, if_true]
                     exact wr_id ⟨by omega, by omega⟩)
                  | (refine K1 _ _ _ _ ⟨hA.2, hc, Or.inl ⟨by omega, _, _, ⟨D11, ⟨by omega, h611⟩, hd11, by omega, c25.2, rfl, rfl⟩, ⟨D28, ⟨by omega, h628⟩, hd28, by omega, c33.2, rfl, rfl⟩, Or.inr ⟨c43, ⟨D52, ⟨by omega, h652⟩, hd52, by omega, c79.2, rfl, rfl⟩⟩⟩⟩ X hB.1 (by have := hB.2.1; omega) (by rw [hB.2.2]; simp [ups]) (fun _ => ⟨by rw [hB.2.2]; simp [ups], ?_⟩)
                     rw [hB.2.2]
                     simp [ups])
                  | (refine K0 (fun n0 n1 n2 nx O => ?_) _ (by first | exact hB.1 | exact (hB _).1) (by first | (rw [hB.2.1]; omega) | (rw [(hB _).2.1]; omega))
                     obtain ⟨o1, o2, ⟨o3, a1, a2, N1, N2, o4⟩ | ⟨o3, N1, o5, o6⟩⟩ := O
                     · first
                       | (exfalso; omega)
                       | (have q1 := num_of n44 h611 hd11 hs11 N1
                          obtain ⟨q11, q12, q13, q14, q15⟩ := q1
                          first
                          | (exfalso; omega)
                          | exact absurd ⟨q12, q13⟩ c25
                          | (subst q15
                             have q2 := num_of n44 h628 hd28 hs28 N2
                             obtain ⟨q21, q22, q23, q24, q25⟩ := q2
                             first
                             | (exfalso; omega)
                             | exact absurd ⟨q22, q23⟩ c33
                             | (subst q25
                                obtain ⟨s1, s2, x, N3, s3⟩ | ⟨s1, N3⟩ := o4
                                · first
                                  | exact absurd ⟨s1, s2⟩ c43
                                  | (have q3 := num_of n59 h652 hd52 hs52 N3
                                     obtain ⟨q31, q32, q33, q34, q35⟩ := q3
                                     first
                                     | (exfalso; omega)
                                     | exact absurd ⟨q32, q33⟩ c79
                                     | exact absurd ⟨q12, q13⟩ c79)
                                · first
                                  | exact absurd c43 s1
                                  | (have q3 := num_of n59 h652 hd52 hs52 N3
                                     obtain ⟨q31, q32, q33, q34, q35⟩ := q3
                                     first
                                     | (exfalso; omega)
                                     | exact absurd ⟨q32, q33⟩ c79
                                     | exact absurd ⟨q12, q13⟩ c79))))
                     · first
                       | (exfalso; omega)
                       | (have q1 := num_of n59 h611 hd11 hs11 N1
                          obtain ⟨q11, q12, q13, q14, q15⟩ := q1
                          first
                          | (exfalso; omega)
                          | exact absurd ⟨q32, q33⟩ c79
                          | exact absurd ⟨q12, q13⟩ c79))
                · have c33 := b2i_n0.mp c33
                  have ea : a32 = A + 1 + (D11 : Int) + 1 + (D28 : Int) + 1 := by omega
                  subst ea
                  refine x_1 (p' := 35) hC rfl rfl rfl rfl ?_
                  refine x_1 (p' := 37) hC rfl rfl rfl rfl ?_
                  refine x_stI2 (p' := 38) hC rfl rfl rfl ?_
                  refine x_1 (p' := 39) hC rfl rfl rfl rfl ?_
                  refine x_ifeq (p' := 40) hC rfl rfl (fun c => absurd c (by decide)) (fun _ => ?_)
                  refine x_1 (p' := 41) hC rfl rfl rfl rfl ?_
                  refine x_1 (p' := 42) hC rfl rfl rfl rfl ?_
                  refine x_cIV1 (p' := 43) (n := 73) hC rfl rfl rfl rfl rfl (hO.ty) ?_
                  refine sp_m_has hO (by first | exact hB | exact hB _) (by omega) hLL (by omega) (fun X a42 e42 hB => ?_)
                  refine x_ifeq (p' := 44) hC rfl rfl (fun c43 => ?_) (fun c43 => ?_)
                  · have c43 := b2i_0.mp c43
                    have ea : a42 = A + 1 + (D11 : Int) + 1 + (D28 : Int) + 1 := by omega
                    subst ea
                    refine x_1 (p' := 47) hC rfl rfl rfl rfl ?_
                    refine x_stI3 (p' := 48) hC rfl rfl rfl ?_
                    refine x_1 (p' := 49) hC rfl rfl rfl rfl ?_
                    refine x_ifeq (p' := 50) hC rfl rfl (fun c => absurd c (by decide)) (fun _ => ?_)
                    refine x_1 (p' := 51) hC rfl rfl rfl rfl ?_
                    refine x_1 (p' := 52) hC rfl rfl rfl rfl ?_
                    refine x_cIV1 (p' := 53) (n := 74) hC rfl rfl rfl rfl rfl (hO.ty) ?_
                    refine sp_m_takes hO hB (by omega) hLL (by omega) (by decide) (fun D52 X h652 hd52 hl52 hs52 hB => ?_)
                    refine x_ifeq (p' := 54) hC rfl rfl (fun c53 => ?_) (fun c53 => ?_)
                    · have c53 := b2i_0.mp c53
                      refine x_1 (p' := 57) hC rfl rfl rfl rfl ?_
                      refine x_stI2 (p' := 58) hC rfl rfl rfl ?_
                      refine x_1 (p' := 59) hC rfl rfl rfl rfl ?_
                      refine y_gR (p' := 60) (n := 6) hO hC rfl rfl rfl rfl ?_
                      refine x_1 (p' := 61) hC rfl rfl rfl rfl ?_
                      refine x_1 (p' := 62) hC rfl rfl rfl rfl ?_
                      refine x_ifeq (p' := 63) hC rfl rfl (fun _ => ?_) (fun c => absurd c (by decide))
                      refine x_1 (p' := 70) hC rfl rfl rfl rfl ?_
                      refine y_gR (p' := 71) (n := 6) hO hC rfl rfl rfl rfl ?_
                      refine x_1 (p' := 72) hC rfl rfl rfl rfl ?_
                      refine y_ld (p' := 73) (L := 3) hO hC rfl rfl rfl rfl (by omega) (by omega) ?_
                      rw [hB.2.2]
                      refine y_st (p' := 74) (L := 3) hO hC rfl rfl rfl rfl (by omega) (by omega) ?_
                      have hB := fun v => hB.st 2 v
                      refine x_1 (p' := 75) hC rfl rfl rfl rfl ?_
                      refine x_ifeq (p' := 76) hC rfl rfl (fun _ => ?_) (fun c => absurd c (by decide))
                      refine x_1 (p' := 83) hC rfl rfl rfl rfl ?_
                      refine x_zret hC rfl rfl rfl (by first | omega | exact b2i_01 _) ⟨_, rfl, ?_⟩
                      first
                      | (exfalso; omega)
                      | (refine K1 _ 0 0 _ ⟨hA.2, hc, Or.inr ⟨by omega, ⟨D11, ⟨by omega, h611⟩, hd11, by omega, c79.2, rfl, rfl⟩, rfl, rfl⟩⟩ X hB.1 (by have := hB.2.1; omega) (by rw [hB.2.2]; simp [ups]) (fun q => absurd q (by omega)))
                      | (refine K1 _ _ _ _ ⟨hA.2, hc, Or.inl ⟨by omega, _, _, ⟨D11, ⟨by omega, h611⟩, hd11, by omega, c25.2, rfl, rfl⟩, ⟨D28, ⟨by omega, h628⟩, hd28, by omega, c33.2, rfl, rfl⟩, Or.inl ⟨c43.1, c43.2, _, ⟨D52, ⟨by omega, h652⟩, hd52, by omega, c79.2, rfl, rfl⟩, rfl⟩⟩⟩ X hB.1 (by have := hB.2.1; omega) (by rw [hB.2.2]; simp [ups]) (fun _ => ⟨by rw [hB.2.2]; simp [ups], ?_⟩)
                         have hdv := dVal_rng (tx := B 5) D52 hd52
                         have hpb := pB_le ⟨D52, by omega⟩
                         dsimp only at hpb
                         rw [hB.2.2]
                         simp only [ups, if_true]
                         exact wr_id ⟨by omega, by omega⟩)
                      | (refine K1 _ _ _ _ ⟨hA.2, hc, Or.inl ⟨by omega, _, _, ⟨D11, ⟨by omega, h611⟩, hd11, by omega, c25.2, rfl, rfl⟩, ⟨D28, ⟨by omega, h628⟩, hd28, by omega, c33.2, rfl, rfl⟩, Or.inr ⟨c43, ⟨D52, ⟨by omega, h652⟩, hd52, by omega, c79.2, rfl, rfl⟩⟩⟩⟩ X hB.1 (by have := hB.2.1; omega) (by rw [hB.2.2]; simp [ups]) (fun _ => ⟨by rw [hB.2.2]; simp [ups], ?_⟩)
                         rw [hB.2.2]
                         simp [ups])
                      | (refine K0 (fun n0 n1 n2 nx O => ?_) _ (by first | exact hB.1 | exact (hB _).1) (by first | (rw [hB.2.1]; omega) | (rw [(hB _).2.1]; omega))
                         obtain ⟨o1, o2, ⟨o3, a1, a2, N1, N2, o4⟩ | ⟨o3, N1, o5, o6⟩⟩ := O
                         · first
                           | (exfalso; omega)
                           | (have q1 := num_of n44 h611 hd11 hs11 N1
                              obtain ⟨q11, q12, q13, q14, q15⟩ := q1
                              first
                              | (exfalso; omega)
                              | exact absurd ⟨q12, q13⟩ c25
                              | (subst q15
                                 have q2 := num_of n44 h628 hd28 hs28 N2
                                 obtain ⟨q21, q22, q23, q24, q25⟩ := q2
                                 first
                                 | (exfalso; omega)
                                 | exact absurd ⟨q22, q23⟩ c33
                                 | (subst q25
                                    obtain ⟨s1, s2, x, N3, s3⟩ | ⟨s1, N3⟩ := o4
                                    · first
                                      | exact absurd ⟨s1, s2⟩ c43
                                      | (have q3 := num_of n59 h652 hd52 hs52 N3
                                         obtain ⟨q31, q32, q33, q34, q35⟩ := q3
                                         first
                                         | (exfalso; omega)
                                         | exact absurd ⟨q32, q33⟩ c79
                                         | exact absurd ⟨q12, q13⟩ c79)
                                    · first
                                      | exact absurd c43 s1
                                      | (have q3 := num_of n59 h652 hd52 hs52 N3
                                         obtain ⟨q31, q32, q33, q34, q35⟩ := q3
                                         first
                                         | (exfalso; omega)
                                         | exact absurd ⟨q32, q33⟩ c79
                                         | exact absurd ⟨q12, q13⟩ c79))))
                         · first
                           | (exfalso; omega)
                           | (have q1 := num_of n59 h611 hd11 hs11 N1
                              obtain ⟨q11, q12, q13, q14, q15⟩ := q1
                              first
                              | (exfalso; omega)
                              | exact absurd ⟨q32, q33⟩ c79
                              | exact absurd ⟨q12, q13⟩ c79))
                    · have c53 := b2i_n0.mp c53
                      refine x_1 (p' := 55) hC rfl rfl rfl rfl ?_
                      refine x_1 (p' := 57) hC rfl rfl rfl rfl ?_
                      refine x_stI2 (p' := 58) hC rfl rfl rfl ?_
                      refine x_1 (p' := 59) hC rfl rfl rfl rfl ?_
                      refine y_gR (p' := 60) (n := 6) hO hC rfl rfl rfl rfl ?_
                      refine x_1 (p' := 61) hC rfl rfl rfl rfl ?_
                      refine x_1 (p' := 62) hC rfl rfl rfl rfl ?_
                      refine x_ifeq (p' := 63) hC rfl rfl (fun _ => ?_) (fun c => absurd c (by decide))
                      refine x_1 (p' := 70) hC rfl rfl rfl rfl ?_
                      refine y_gR (p' := 71) (n := 6) hO hC rfl rfl rfl rfl ?_
                      refine x_1 (p' := 72) hC rfl rfl rfl rfl ?_
                      refine y_ld (p' := 73) (L := 3) hO hC rfl rfl rfl rfl (by omega) (by omega) ?_
                      rw [hB.2.2]
                      refine y_st (p' := 74) (L := 3) hO hC rfl rfl rfl rfl (by omega) (by omega) ?_
                      have hB := fun v => hB.st 2 v
                      refine x_1 (p' := 75) hC rfl rfl rfl rfl ?_
                      refine x_ifeq (p' := 76) hC rfl rfl (fun c => absurd c (by decide)) (fun _ => ?_)
                      refine x_1 (p' := 77) hC rfl rfl rfl rfl ?_
                      refine x_1 (p' := 78) hC rfl rfl rfl rfl ?_
                      refine x_cIV1 (p' := 79) (n := 73) hC rfl rfl rfl rfl rfl (hO.ty) ?_
                      refine sp_m_has hO (by first | exact hB | exact hB _) (by omega) hLL (by omega) (fun X a78 e78 hB => ?_)
                      refine x_ifeq (p' := 80) hC rfl rfl (fun c79 => ?_) (fun c79 => ?_)
                      · have c79 := b2i_0.mp c79
                        refine x_1 (p' := 83) hC rfl rfl rfl rfl ?_
                        refine x_zret hC rfl rfl rfl (by first | omega | exact b2i_01 _) ⟨_, rfl, ?_⟩
                        first
                        | (exfalso; omega)
                        | (refine K1 _ 0 0 _ ⟨hA.2, hc, Or.inr ⟨by omega, ⟨D11, ⟨by omega, h611⟩, hd11, by omega, c79.2, rfl, rfl⟩, rfl, rfl⟩⟩ X hB.1 (by have := hB.2.1; omega) (by rw [hB.2.2]; simp [ups]) (fun q => absurd q (by omega)))
                        | (refine K1 _ _ _ _ ⟨hA.2, hc, Or.inl ⟨by omega, _, _, ⟨D11, ⟨by omega, h611⟩, hd11, by omega, c25.2, rfl, rfl⟩, ⟨D28, ⟨by omega, h628⟩, hd28, by omega, c33.2, rfl, rfl⟩, Or.inl ⟨c43.1, c43.2, _, ⟨D52, ⟨by omega, h652⟩, hd52, by omega, c79.2, rfl, rfl⟩, rfl⟩⟩⟩ X hB.1 (by have := hB.2.1; omega) (by rw [hB.2.2]; simp [ups]) (fun _ => ⟨by rw [hB.2.2]; simp [ups], ?_⟩)
                           have hdv := dVal_rng (tx := B 5) D52 hd52
                           have hpb := pB_le ⟨D52, by omega⟩
                           dsimp only at hpb
                           rw [hB.2.2]
                           simp only [ups, if_true]
                           exact wr_id ⟨by omega, by omega⟩)
                        | (refine K1 _ _ _ _ ⟨hA.2, hc, Or.inl ⟨by omega, _, _, ⟨D11, ⟨by omega, h611⟩, hd11, by omega, c25.2, rfl, rfl⟩, ⟨D28, ⟨by omega, h628⟩, hd28, by omega, c33.2, rfl, rfl⟩, Or.inr ⟨c43, ⟨D52, ⟨by omega, h652⟩, hd52, by omega, c79.2, rfl, rfl⟩⟩⟩⟩ X hB.1 (by have := hB.2.1; omega) (by rw [hB.2.2]; simp [ups]) (fun _ => ⟨by rw [hB.2.2]; simp [ups], ?_⟩)
                           rw [hB.2.2]
                           simp [ups])
                        | (refine K0 (fun n0 n1 n2 nx O => ?_) _ (by first | exact hB.1 | exact (hB _).1) (by first | (rw [hB.2.1]; omega) | (rw [(hB _).2.1]; omega))
                           obtain ⟨o1, o2, ⟨o3, a1, a2, N1, N2, o4⟩ | ⟨o3, N1, o5, o6⟩⟩ := O
                           · first
                             | (exfalso; omega)
                             | (have q1 := num_of n44 h611 hd11 hs11 N1
                                obtain ⟨q11, q12, q13, q14, q15⟩ := q1
                                first
                                | (exfalso; omega)
                                | exact absurd ⟨q12, q13⟩ c25
                                | (subst q15
                                   have q2 := num_of n44 h628 hd28 hs28 N2
                                   obtain ⟨q21, q22, q23, q24, q25⟩ := q2
                                   first
                                   | (exfalso; omega)
                                   | exact absurd ⟨q22, q23⟩ c33
                                   | (subst q25
                                      obtain ⟨s1, s2, x, N3, s3⟩ | ⟨s1, N3⟩ := o4
                                      · first
                                        | exact absurd ⟨s1, s2⟩ c43
                                        | (have q3 := num_of n59 h652 hd52 hs52 N3
                                           obtain ⟨q31, q32, q33, q34, q35⟩ := q3
                                           first
                                           | (exfalso; omega)
                                           | exact absurd ⟨q32, q33⟩ c79
                                           | exact absurd ⟨q12, q13⟩ c79)
                                      · first
                                        | exact absurd c43 s1
                                        | (have q3 := num_of n59 h652 hd52 hs52 N3
                                           obtain ⟨q31, q32, q33, q34, q35⟩ := q3
                                           first
                                           | (exfalso; omega)
                                           | exact absurd ⟨q32, q33⟩ c79
                                           | exact absurd ⟨q12, q13⟩ c79))))
                           · first
                             | (exfalso; omega)
                             | (have q1 := num_of n59 h611 hd11 hs11 N1
                                obtain ⟨q11, q12, q13, q14, q15⟩ := q1
                                first
                                | (exfalso; omega)
                                | exact absurd ⟨q32, q33⟩ c79
                                | exact absurd ⟨q12, q13⟩ c79))
                      · have c79 := b2i_n0.mp c79
                        refine x_1 (p' := 81) hC rfl rfl rfl rfl ?_
                        refine x_1 (p' := 83) hC rfl rfl rfl rfl ?_
                        refine x_zret hC rfl rfl rfl (by first | omega | exact b2i_01 _) ⟨_, rfl, ?_⟩
                        first
                        | (exfalso; omega)
                        | (refine K1 _ 0 0 _ ⟨hA.2, hc, Or.inr ⟨by omega, ⟨D11, ⟨by omega, h611⟩, hd11, by omega, c79.2, rfl, rfl⟩, rfl, rfl⟩⟩ X hB.1 (by have := hB.2.1; omega) (by rw [hB.2.2]; simp [ups]) (fun q => absurd q (by omega)))
                        | (refine K1 _ _ _ _ ⟨hA.2, hc, Or.inl ⟨by omega, _, _, ⟨D11, ⟨by omega, h611⟩, hd11, by omega, c25.2, rfl, rfl⟩, ⟨D28, ⟨by omega, h628⟩, hd28, by omega, c33.2, rfl, rfl⟩, Or.inl ⟨c43.1, c43.2, _, ⟨D52, ⟨by omega, h652⟩, hd52, by omega, c79.2, rfl, rfl⟩, rfl⟩⟩⟩ X hB.1 (by have := hB.2.1; omega) (by rw [hB.2.2]; simp [ups]) (fun _ => ⟨by rw [hB.2.2]; simp [ups], ?_⟩)
                           have hdv := dVal_rng (tx := B 5) D52 hd52
                           have hpb := pB_le ⟨D52, by omega⟩
                           dsimp only at hpb
                           rw [hB.2.2]
                           simp only [ups, if_true]
                           exact wr_id ⟨by omega, by omega⟩)
                        | (refine K1 _ _ _ _ ⟨hA.2, hc, Or.inl ⟨by omega, _, _, ⟨D11, ⟨by omega, h611⟩, hd11, by omega, c25.2, rfl, rfl⟩, ⟨D28, ⟨by omega, h628⟩, hd28, by omega, c33.2, rfl, rfl⟩, Or.inr ⟨c43, ⟨D52, ⟨by omega, h652⟩, hd52, by omega, c79.2, rfl, rfl⟩⟩⟩⟩ X hB.1 (by have := hB.2.1; omega) (by rw [hB.2.2]; simp [ups]) (fun _ => ⟨by rw [hB.2.2]; simp [ups], ?_⟩)
                           rw [hB.2.2]
                           simp [ups])
                        | (refine K0 (fun n0 n1 n2 nx O => ?_) _ (by first | exact hB.1 | exact (hB _).1) (by first | (rw [hB.2.1]; omega) | (rw [(hB _).2.1]; omega))
                           obtain ⟨o1, o2, ⟨o3, a1, a2, N1, N2, o4⟩ | ⟨o3, N1, o5, o6⟩⟩ := O
                           · first
                             | (exfalso; omega)
                             | (have q1 := num_of n44 h611 hd11 hs11 N1
                                obtain ⟨q11, q12, q13, q14, q15⟩ := q1
                                first
                                | (exfalso; omega)
                                | exact absurd ⟨q12, q13⟩ c25
                                | (subst q15
                                   have q2 := num_of n44 h628 hd28 hs28 N2
                                   obtain ⟨q21, q22, q23, q24, q25⟩ := q2
                                   first
                                   | (exfalso; omega)
                                   | exact absurd ⟨q22, q23⟩ c33
                                   | (subst q25
                                      obtain ⟨s1, s2, x, N3, s3⟩ | ⟨s1, N3⟩ := o4
                                      · first
                                        | exact absurd ⟨s1, s2⟩ c43
                                        | (have q3 := num_of n59 h652 hd52 hs52 N3
                                           obtain ⟨q31, q32, q33, q34, q35⟩ := q3
                                           first
                                           | (exfalso; omega)
                                           | exact absurd ⟨q32, q33⟩ c79
                                           | exact absurd ⟨q12, q13⟩ c79)
                                      · first
                                        | exact absurd c43 s1
                                        | (have q3 := num_of n59 h652 hd52 hs52 N3
                                           obtain ⟨q31, q32, q33, q34, q35⟩ := q3
                                           first
                                           | (exfalso; omega)
                                           | exact absurd ⟨q32, q33⟩ c79
                                           | exact absurd ⟨q12, q13⟩ c79))))
                           · first
                             | (exfalso; omega)
                             | (have q1 := num_of n59 h611 hd11 hs11 N1
                                obtain ⟨q11, q12, q13, q14, q15⟩ := q1
                                first
                                | (exfalso; omega)
                                | exact absurd ⟨q32, q33⟩ c79
                                | exact absurd ⟨q12, q13⟩ c79))
                  · have c43 := b2i_n0.mp c43
                    have ea : a42 = A + 1 + (D11 : Int) + 1 + (D28 : Int) + 1 + 1 := by omega
                    subst ea
                    refine x_1 (p' := 45) hC rfl rfl rfl rfl ?_
                    refine x_1 (p' := 47) hC rfl rfl rfl rfl ?_
                    refine x_stI3 (p' := 48) hC rfl rfl rfl ?_
                    refine x_1 (p' := 49) hC rfl rfl rfl rfl ?_
                    refine x_ifeq (p' := 50) hC rfl rfl (fun c => absurd c (by decide)) (fun _ => ?_)
                    refine x_1 (p' := 51) hC rfl rfl rfl rfl ?_
                    refine x_1 (p' := 52) hC rfl rfl rfl rfl ?_
                    refine x_cIV1 (p' := 53) (n := 74) hC rfl rfl rfl rfl rfl (hO.ty) ?_
                    refine sp_m_takes hO hB (by omega) hLL (by omega) (by decide) (fun D52 X h652 hd52 hl52 hs52 hB => ?_)
                    refine x_ifeq (p' := 54) hC rfl rfl (fun c53 => ?_) (fun c53 => ?_)
                    · have c53 := b2i_0.mp c53
                      refine x_1 (p' := 57) hC rfl rfl rfl rfl ?_
                      refine x_stI2 (p' := 58) hC rfl rfl rfl ?_
                      refine x_1 (p' := 59) hC rfl rfl rfl rfl ?_
                      refine y_gR (p' := 60) (n := 6) hO hC rfl rfl rfl rfl ?_
                      refine x_1 (p' := 61) hC rfl rfl rfl rfl ?_
                      refine x_1 (p' := 62) hC rfl rfl rfl rfl ?_
                      refine x_ifeq (p' := 63) hC rfl rfl (fun c => absurd c (by decide)) (fun _ => ?_)
                      refine x_1 (p' := 64) hC rfl rfl rfl rfl ?_
                      refine y_gR (p' := 65) (n := 6) hO hC rfl rfl rfl rfl ?_
                      refine x_1 (p' := 66) hC rfl rfl rfl rfl ?_
                      refine y_ld (p' := 67) (L := 3) hO hC rfl rfl rfl rfl (by omega) (by omega) ?_
                      rw [hB.2.2]
                      refine x_1 (p' := 68) hC rfl rfl rfl rfl ?_
                      refine x_1 (p' := 73) hC rfl rfl rfl rfl ?_
                      refine y_st (p' := 74) (L := 3) hO hC rfl rfl rfl rfl (by omega) (by omega) ?_
                      have hB := fun v => hB.st 2 v
                      refine x_1 (p' := 75) hC rfl rfl rfl rfl ?_
                      refine x_ifeq (p' := 76) hC rfl rfl (fun _ => ?_) (fun c => absurd c (by decide))
                      refine x_1 (p' := 83) hC rfl rfl rfl rfl ?_
                      refine x_zret hC rfl rfl rfl (by first | omega | exact b2i_01 _) ⟨_, rfl, ?_⟩
                      first
                      | (exfalso; omega)
                      | (refine K1 _ 0 0 _ ⟨hA.2, hc, Or.inr ⟨by omega, ⟨D11, ⟨by omega, h611⟩, hd11, by omega, c79.2, rfl, rfl⟩, rfl, rfl⟩⟩ X hB.1 (by have := hB.2.1; omega) (by rw [hB.2.2]; simp [ups]) (fun q => absurd q (by omega)))
                      | (refine K1 _ _ _ _ ⟨hA.2, hc, Or.inl ⟨by omega, _, _, ⟨D11, ⟨by omega, h611⟩, hd11, by omega, c25.2, rfl, rfl⟩, ⟨D28, ⟨by omega, h628⟩, hd28, by omega, c33.2, rfl, rfl⟩, Or.inl ⟨c43.1, c43.2, _, ⟨D52, ⟨by omega, h652⟩, hd52, by omega, c79.2, rfl, rfl⟩, rfl⟩⟩⟩ X hB.1 (by have := hB.2.1; omega) (by rw [hB.2.2]; simp [ups]) (fun _ => ⟨by rw [hB.2.2]; simp [ups], ?_⟩)
                         have hdv := dVal_rng (tx := B 5) D52 hd52
                         have hpb := pB_le ⟨D52, by omega⟩
                         dsimp only at hpb
                         rw [hB.2.2]
                         simp only [ups, if_true]
                         exact wr_id ⟨by omega, by omega⟩)
                      | (refine K1 _ _ _ _ ⟨hA.2, hc, Or.inl ⟨by omega, _, _, ⟨D11, ⟨by omega, h611⟩, hd11, by omega, c25.2, rfl, rfl⟩, ⟨D28, ⟨by omega, h628⟩, hd28, by omega, c33.2, rfl, rfl⟩, Or.inr ⟨c43, ⟨D52, ⟨by omega, h652⟩, hd52, by omega, c79.2, rfl, rfl⟩⟩⟩⟩ X hB.1 (by have := hB.2.1; omega) (by rw [hB.2.2]; simp [ups]) (fun _ => ⟨by rw [hB.2.2]; simp [ups], ?_⟩)
                         rw [hB.2.2]
                         simp [ups])
                      | (refine K0 (fun n0 n1 n2 nx O => ?_) _ (by first | exact hB.1 | exact (hB _).1) (by first | (rw [hB.2.1]; omega) | (rw [(hB _).2.1]; omega))
                         obtain ⟨o1, o2, ⟨o3, a1, a2, N1, N2, o4⟩ | ⟨o3, N1, o5, o6⟩⟩ := O
                         · first
                           | (exfalso; omega)
                           | (have q1 := num_of n44 h611 hd11 hs11 N1
                              obtain ⟨q11, q12, q13, q14, q15⟩ := q1
                              first
                              | (exfalso; omega)
                              | exact absurd ⟨q12, q13⟩ c25
                              | (subst q15
                                 have q2 := num_of n44 h628 hd28 hs28 N2
                                 obtain ⟨q21, q22, q23, q24, q25⟩ := q2
                                 first
                                 | (exfalso; omega)
                                 | exact absurd ⟨q22, q23⟩ c33
                                 | (subst q25
                                    obtain ⟨s1, s2, x, N3, s3⟩ | ⟨s1, N3⟩ := o4
                                    · first
                                      | exact absurd ⟨s1, s2⟩ c43
                                      | (have q3 := num_of n59 h652 hd52 hs52 N3
                                         obtain ⟨q31, q32, q33, q34, q35⟩ := q3
                                         first
                                         | (exfalso; omega)
                                         | exact absurd ⟨q32, q33⟩ c79
                                         | exact absurd ⟨q12, q13⟩ c79)
                                    · first
                                      | exact absurd c43 s1
                                      | (have q3 := num_of n59 h652 hd52 hs52 N3
                                         obtain ⟨q31, q32, q33, q34, q35⟩ := q3
                                         first
                                         | (exfalso; omega)
                                         | exact absurd ⟨q32, q33⟩ c79
                                         | exact absurd ⟨q12, q13⟩ c79))))
                         · first
                           | (exfalso; omega)
                           | (have q1 := num_of n59 h611 hd11 hs11 N1
                              obtain ⟨q11, q12, q13, q14, q15⟩ := q1
                              first
                              | (exfalso; omega)
                              | exact absurd ⟨q32, q33⟩ c79
                              | exact absurd ⟨q12, q13⟩ c79))
                    · have c53 := b2i_n0.mp c53
                      refine x_1 (p' := 55) hC rfl rfl rfl rfl ?_
                      refine x_1 (p' := 57) hC rfl rfl rfl rfl ?_
                      refine x_stI2 (p' := 58) hC rfl rfl rfl ?_
                      refine x_1 (p' := 59) hC rfl rfl rfl rfl ?_
                      refine y_gR (p' := 60) (n := 6) hO hC rfl rfl rfl rfl ?_
                      refine x_1 (p' := 61) hC rfl rfl rfl rfl ?_
                      refine x_1 (p' := 62) hC rfl rfl rfl rfl ?_
                      refine x_ifeq (p' := 63) hC rfl rfl (fun c => absurd c (by decide)) (fun _ => ?_)
                      refine x_1 (p' := 64) hC rfl rfl rfl rfl ?_
                      refine y_gR (p' := 65) (n := 6) hO hC rfl rfl rfl rfl ?_
                      refine x_1 (p' := 66) hC rfl rfl rfl rfl ?_
                      refine y_ld (p' := 67) (L := 3) hO hC rfl rfl rfl rfl (by omega) (by omega) ?_
                      rw [hB.2.2]
                      refine x_1 (p' := 68) hC rfl rfl rfl rfl ?_
                      refine x_1 (p' := 73) hC rfl rfl rfl rfl ?_
                      refine y_st (p' := 74) (L := 3) hO hC rfl rfl rfl rfl (by omega) (by omega) ?_
                      have hB := fun v => hB.st 2 v
                      refine x_1 (p' := 75) hC rfl rfl rfl rfl ?_
                      refine x_ifeq (p' := 76) hC rfl rfl (fun c => absurd c (by decide)) (fun _ => ?_)
                      refine x_1 (p' := 77) hC rfl rfl rfl rfl ?_
                      refine x_1 (p' := 78) hC rfl rfl rfl rfl ?_
                      refine x_cIV1 (p' := 79) (n := 73) hC rfl rfl rfl rfl rfl (hO.ty) ?_
                      refine sp_m_has hO (by first | exact hB | exact hB _) (by omega) hLL (by omega) (fun X a78 e78 hB => ?_)
                      refine x_ifeq (p' := 80) hC rfl rfl (fun c79 => ?_) (fun c79 => ?_)
                      · have c79 := b2i_0.mp c79
                        refine x_1 (p' := 83) hC rfl rfl rfl rfl ?_
                        refine x_zret hC rfl rfl rfl (by first | omega | exact b2i_01 _) ⟨_, rfl, ?_⟩
                        first
                        | (exfalso; omega)
                        | (refine K1 _ 0 0 _ ⟨hA.2, hc, Or.inr ⟨by omega, ⟨D11, ⟨by omega, h611⟩, hd11, by omega, c79.2, rfl, rfl⟩, rfl, rfl⟩⟩ X hB.1 (by have := hB.2.1; omega) (by rw [hB.2.2]; simp [ups]) (fun q => absurd q (by omega)))
                        | (refine K1 _ _ _ _ ⟨hA.2, hc, Or.inl ⟨by omega, _, _, ⟨D11, ⟨by omega, h611⟩, hd11, by omega, c25.2, rfl, rfl⟩, ⟨D28, ⟨by omega, h628⟩, hd28, by omega, c33.2, rfl, rfl⟩, Or.inl ⟨c43.1, c43.2, _, ⟨D52, ⟨by omega, h652⟩, hd52, by omega, c79.2, rfl, rfl⟩, rfl⟩⟩⟩ X hB.1 (by have := hB.2.1; omega) (by rw [hB.2.2]; simp [ups]) (fun _ => ⟨by rw [hB.2.2]; simp [ups], ?_⟩)
                           have hdv := dVal_rng (tx := B 5) D52 hd52
                           have hpb := pB_le ⟨D52, by omega⟩
                           dsimp only at hpb
                           rw [hB.2.2]
                           simp only [ups, if_true]
                           exact wr_id ⟨by omega, by omega⟩)
                        | (refine K1 _ _ _ _ ⟨hA.2, hc, Or.inl ⟨by omega, _, _, ⟨D11, ⟨by omega, h611⟩, hd11, by omega, c25.2, rfl, rfl⟩, ⟨D28, ⟨by omega, h628⟩, hd28, by omega, c33.2, rfl, rfl⟩, Or.inr ⟨c43, ⟨D52, ⟨by omega, h652⟩, hd52, by omega, c79.2, rfl, rfl⟩⟩⟩⟩ X hB.1 (by have := hB.2.1; omega) (by rw [hB.2.2]; simp [ups]) (fun _ => ⟨by rw [hB.2.2]; simp [ups], ?_⟩)
                           rw [hB.2.2]
                           simp [ups])
                        | (refine K0 (fun n0 n1 n2 nx O => ?_) _ (by first | exact hB.1 | exact (hB _).1) (by first | (rw [hB.2.1]; omega) | (rw [(hB _).2.1]; omega))
                           obtain ⟨o1, o2, ⟨o3, a1, a2, N1, N2, o4⟩ | ⟨o3, N1, o5, o6⟩⟩ := O
                           · first
                             | (exfalso; omega)
                             | (have q1 := num_of n44 h611 hd11 hs11 N1
                                obtain ⟨q11, q12, q13, q14, q15⟩ := q1
                                first
                                | (exfalso; omega)
                                | exact absurd ⟨q12, q13⟩ c25
                                | (subst q15
                                   have q2 := num_of n44 h628 hd28 hs28 N2
                                   obtain ⟨q21, q22, q23, q24, q25⟩ := q2
                                   first
                                   | (exfalso; omega)
                                   | exact absurd ⟨q22, q23⟩ c33
                                   | (subst q25
                                      obtain ⟨s1, s2, x, N3, s3⟩ | ⟨s1, N3⟩ := o4
                                      · first
                                        | exact absurd ⟨s1, s2⟩ c43
                                        | (have q3 := num_of n59 h652 hd52 hs52 N3
                                           obtain ⟨q31, q32, q33, q34, q35⟩ := q3
                                           first
                                           | (exfalso; omega)
                                           | exact absurd ⟨q32, q33⟩ c79
                                           | exact absurd ⟨q12, q13⟩ c79)
                                      · first
                                        | exact absurd c43 s1
                                        | (have q3 := num_of n59 h652 hd52 hs52 N3
                                           obtain ⟨q31, q32, q33, q34, q35⟩ := q3
                                           first
                                           | (exfalso; omega)
                                           | exact absurd ⟨q32, q33⟩ c79
                                           | exact absurd ⟨q12, q13⟩ c79))))
                           · first
                             | (exfalso; omega)
                             | (have q1 := num_of n59 h611 hd11 hs11 N1
                                obtain ⟨q11, q12, q13, q14, q15⟩ := q1
                                first
                                | (exfalso; omega)
                                | exact absurd ⟨q32, q33⟩ c79
                                | exact absurd ⟨q12, q13⟩ c79))
                      · have c79 := b2i_n0.mp c79
                        refine x_1 (p' := 81) hC rfl rfl rfl rfl ?_
                        refine x_1 (p' := 83) hC rfl rfl rfl rfl ?_
                        refine x_zret hC rfl rfl rfl (by first | omega | exact b2i_01 _) ⟨_, rfl, ?_⟩
                        first
                        | (exfalso; omega)
                        | (refine K1 _ 0 0 _ ⟨hA.2, hc, Or.inr ⟨by omega, ⟨D11, ⟨by omega, h611⟩, hd11, by omega, c79.2, rfl, rfl⟩, rfl, rfl⟩⟩ X hB.1 (by have := hB.2.1; omega) (by rw [hB.2.2]; simp [ups]) (fun q => absurd q (by omega)))
                        | (refine K1 _ _ _ _ ⟨hA.2, hc, Or.inl ⟨by omega, _, _, ⟨D11, ⟨by omega, h611⟩, hd11, by omega, c25.2, rfl, rfl⟩, ⟨D28, ⟨by omega, h628⟩, hd28, by omega, c33.2, rfl, rfl⟩, Or.inl ⟨c43.1, c43.2, _, ⟨D52, ⟨by omega, h652⟩, hd52, by omega, c79.2, rfl, rfl⟩, rfl⟩⟩⟩ X hB.1 (by have := hB.2.1; omega) (by rw [hB.2.2]; simp [ups]) (fun _ => ⟨by rw [hB.2.2]; simp [ups], ?_⟩)
                           have hdv := dVal_rng (tx := B 5) D52 hd52
                           have hpb := pB_le ⟨D52, by omega⟩
                           dsimp only at hpb
                           rw [hB.2.2]
                           simp only [ups, if_true]
                           exact wr_id ⟨by omega, by omega⟩)
                        | (refine K1 _ _ _ _ ⟨hA.2, hc, Or.inl ⟨by omega, _, _, ⟨D11, ⟨by omega, h611⟩, hd11, by omega, c25.2, rfl, rfl⟩, ⟨D28, ⟨by omega, h628⟩, hd28, by omega, c33.2, rfl, rfl⟩, Or.inr ⟨c43, ⟨D52, ⟨by omega, h652⟩, hd52, by omega, c79.2, rfl, rfl⟩⟩⟩⟩ X hB.1 (by have := hB.2.1; omega) (by rw [hB.2.2]; simp [ups]) (fun _ => ⟨by rw [hB.2.2]; simp [ups], ?_⟩)
                           rw [hB.2.2]
                           simp [ups])
                        | (refine K0 (fun n0 n1 n2 nx O => ?_) _ (by first | exact hB.1 | exact (hB _).1) (by first | (rw [hB.2.1]; omega) | (rw [(hB _).2.1]; omega))
                           obtain ⟨o1, o2, ⟨o3, a1, a2, N1, N2, o4⟩ | ⟨o3, N1, o5, o6⟩⟩ := O
                           · first
                             | (exfalso; omega)
                             | (have q1 := num_of n44 h611 hd11 hs11 N1
                                obtain ⟨q11, q12, q13, q14, q15⟩ := q1
                                first
                                | (exfalso; omega)
                                | exact absurd ⟨q12, q13⟩ c25
                                | (subst q15
                                   have q2 := num_of n44 h628 hd28 hs28 N2
                                   obtain ⟨q21, q22, q23, q24, q25⟩ := q2
                                   first
                                   | (exfalso; omega)
                                   | exact absurd ⟨q22, q23⟩ c33
                                   | (subst q25
                                      obtain ⟨s1, s2, x, N3, s3⟩ | ⟨s1, N3⟩ := o4
                                      · first
                                        | exact absurd ⟨s1, s2⟩ c43
                                        | (have q3 := num_of n59 h652 hd52 hs52 N3
                                           obtain ⟨q31, q32, q33, q34, q35⟩ := q3
                                           first
                                           | (exfalso; omega)
                                           | exact absurd ⟨q32, q33⟩ c79
                                           | exact absurd ⟨q12, q13⟩ c79)
                                      · first
                                        | exact absurd c43 s1
                                        | (have q3 := num_of n59 h652 hd52 hs52 N3
                                           obtain ⟨q31, q32, q33, q34, q35⟩ := q3
                                           first
                                           | (exfalso; omega)
                                           | exact absurd ⟨q32, q33⟩ c79
                                           | exact absurd ⟨q12, q13⟩ c79))))
                           · first
                             | (exfalso; omega)
                             | (have q1 := num_of n59 h611 hd11 hs11 N1
                                obtain ⟨q11, q12, q13, q14, q15⟩ := q1
                                first
                                | (exfalso; omega)
                                | exact absurd ⟨q32, q33⟩ c79
                                | exact absurd ⟨q12, q13⟩ c79))
