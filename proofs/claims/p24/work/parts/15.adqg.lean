def ok3 (c1 : Cf) : Prop := okLs c1.2.1 ∧ okSt c1.2.2.1 ∧ okH c1.2.2.2
set_option maxHeartbeats 4000000 in
theorem ex1_ok3 {d pos : Nat} {i : Ins} {ls : Ls} {st : List AV} {h : HP} {c1 : Cf} (hL : okLs ls) (hS : okSt st) (hH : okH h) (hex : ex1 d i pos ls st h = some c1) : ok3 c1 := by
  have mx : ∀ f, f = e_mxF ∨ f = e_mnF → e_mx f d pos ls st h = some c1 → ok3 c1 := by
    intro f hf he
    unfold e_mx at he
    split at he
    · obtain ⟨x, z, r, rfl, rfl⟩ := e_bin_some he
      have i1 := okSt_cons.mp hS
      have i2 := okSt_cons.mp i1.2
      refine ⟨hL, okSt_cons.mpr ⟨?_, i2.2⟩, hH⟩
      rcases hf with rfl | rfl
      · show inR (e_mxF x z)
        unfold e_mxF; split
        · exact i2.1
        · exact i1.1
      · show inR (e_mnF x z)
        unfold e_mnF; split
        · exact i2.1
        · exact i1.1
    · cases he
  have bin : ∀ f : Int → Int → Int, (∀ x z, inR (f x z)) → e_bin f pos ls st h = some c1 → ok3 c1 := by
    intro f hf he
    obtain ⟨x, z, r, rfl, rfl⟩ := e_bin_some he
    exact ⟨hL, okSt_cons.mpr ⟨hf _ _, (okSt_cons.mp (okSt_cons.mp hS).2).2⟩, hH⟩
  have dv : ∀ f : Int → Int → Int, (∀ x z, inR (f x z)) → e_div f pos ls st h = some c1 → ok3 c1 := by
    intro f hf he
    obtain ⟨x, z, r, rfl, -, rfl⟩ := e_div_some he
    exact ⟨hL, okSt_cons.mpr ⟨hf _ _, (okSt_cons.mp (okSt_cons.mp hS).2).2⟩, hH⟩
  obtain ⟨raw, v, a, b, w, sw⟩ := i
  cases raw
  case iconst n => obtain ⟨hc, rfl⟩ := e_psh_some hex; exact ⟨hL, okSt_cons.mpr ⟨⟨by omega, by omega⟩, hS⟩, hH⟩
  case bipush n => obtain ⟨hc, rfl⟩ := e_psh_some hex; exact ⟨hL, okSt_cons.mpr ⟨⟨by omega, by omega⟩, hS⟩, hH⟩
  case sipush n => obtain ⟨hc, rfl⟩ := e_psh_some hex; exact ⟨hL, okSt_cons.mpr ⟨⟨by omega, by omega⟩, hS⟩, hH⟩
  case ldc n => obtain ⟨hc, rfl⟩ := e_psh_some hex; exact ⟨hL, okSt_cons.mpr ⟨hc, hS⟩, hH⟩
  case ldc_w n => obtain ⟨hc, rfl⟩ := e_psh_some hex; exact ⟨hL, okSt_cons.mpr ⟨hc, hS⟩, hH⟩
  case aconst_null => cases hex; exact ⟨hL, okSt_cons.mpr ⟨trivial, hS⟩, hH⟩
  case iload k => obtain ⟨x, hk, rfl⟩ := e_load_i hex; exact ⟨hL, okSt_cons.mpr ⟨hL _ _ hk, hS⟩, hH⟩
  case iload_n k => obtain ⟨x, hk, rfl⟩ := e_load_i hex; exact ⟨hL, okSt_cons.mpr ⟨hL _ _ hk, hS⟩, hH⟩
  case aload k => obtain ⟨x, hk, rfl⟩ := e_load_a hex; exact ⟨hL, okSt_cons.mpr ⟨trivial, hS⟩, hH⟩
  case aload_n k => obtain ⟨x, hk, rfl⟩ := e_load_a hex; exact ⟨hL, okSt_cons.mpr ⟨trivial, hS⟩, hH⟩
  case istore k => obtain ⟨x, r, rfl, hk, rfl⟩ := e_store_i hex; exact ⟨okLs_set hL (okSt_cons.mp hS).1, (okSt_cons.mp hS).2, hH⟩
  case istore_n k => obtain ⟨x, r, rfl, hk, rfl⟩ := e_store_i hex; exact ⟨okLs_set hL (okSt_cons.mp hS).1, (okSt_cons.mp hS).2, hH⟩
  case astore k => obtain ⟨x, r, rfl, hk, rfl⟩ := e_store_a hex; exact ⟨okLs_set hL trivial, (okSt_cons.mp hS).2, hH⟩
  case astore_n k => obtain ⟨x, r, rfl, hk, rfl⟩ := e_store_a hex; exact ⟨okLs_set hL trivial, (okSt_cons.mp hS).2, hH⟩
  case iinc k n => obtain ⟨x, hk, hk2, rfl⟩ := e_iinc_some hex; exact ⟨okLs_set hL (inR_wr _), hS, hH⟩
  case dup => obtain ⟨x, r, rfl, rfl⟩ := e_dup_some hex; exact ⟨hL, okSt_cons.mpr ⟨(okSt_cons.mp hS).1, hS⟩, hH⟩
  case dup2 =>
    obtain ⟨x, z, r, rfl, rfl⟩ := e_dup2_some hex
    exact ⟨hL, okSt_cons.mpr ⟨(okSt_cons.mp hS).1, okSt_cons.mpr ⟨(okSt_cons.mp (okSt_cons.mp hS).2).1, hS⟩⟩, hH⟩
  case dup_x1 =>
    obtain ⟨x, z, r, rfl, rfl⟩ := e_dupx1_some hex
    exact ⟨hL, okSt_cons.mpr ⟨(okSt_cons.mp hS).1, okSt_cons.mpr ⟨(okSt_cons.mp (okSt_cons.mp hS).2).1, okSt_cons.mpr ⟨(okSt_cons.mp hS).1, (okSt_cons.mp (okSt_cons.mp hS).2).2⟩⟩⟩, hH⟩
  case iadd => exact bin _ (fun _ _ => inR_wr _) hex
  case isub => exact bin _ (fun _ _ => inR_wr _) hex
  case imul => exact bin _ (fun _ _ => inR_wr _) hex
  case idiv => exact dv _ (fun _ _ => inR_wr _) hex
  case irem => exact dv _ (fun _ _ => inR_wr _) hex
  case ineg => obtain ⟨x, r, rfl, rfl⟩ := e_un_some hex; exact ⟨hL, okSt_cons.mpr ⟨inR_wr _, (okSt_cons.mp hS).2⟩, hH⟩
  case ishl => exact bin _ inR_shl hex
  case ishr => exact bin _ inR_shr hex
  case iushr => exact bin _ inR_ushr hex
  case iand => exact bin _ inR_and hex
  case ior => exact bin _ inR_or hex
  case i2c => obtain ⟨x, r, rfl, rfl⟩ := e_un_some hex; exact ⟨hL, okSt_cons.mpr ⟨inR_i2c _, (okSt_cons.mp hS).2⟩, hH⟩
  case ifCond cd off => obtain ⟨x, r, rfl, rfl⟩ := e_if_some hex; exact ⟨hL, (okSt_cons.mp hS).2, hH⟩
  case if_icmp cd off => obtain ⟨x, z, r, rfl, rfl⟩ := e_icmp_some hex; exact ⟨hL, (okSt_cons.mp (okSt_cons.mp hS).2).2, hH⟩
  case goto off => cases hex; exact ⟨hL, hS, hH⟩
  case ifnonnull off => obtain ⟨o, r, rfl, rfl⟩ := e_nn_some hex; exact ⟨hL, (okSt_cons.mp hS).2, hH⟩
  case tableswitch df lo hi offs => obtain ⟨x, r, t, rfl, ht, rfl⟩ := e_tsw_some hex; exact ⟨hL, (okSt_cons.mp hS).2, hH⟩
  case lookupswitch df ps => obtain ⟨x, r, t, rfl, ht, rfl⟩ := e_lsw_some hex; exact ⟨hL, (okSt_cons.mp hS).2, hH⟩
  case getfield idx =>
    obtain ⟨x, r, rfl, ht, rfl⟩ := e_get_some hex
    refine ⟨hL, okSt_cons.mpr ⟨?_, (okSt_cons.mp hS).2⟩, hH⟩
    split
    · trivial
    · exact hH _ _
  case putfield idx =>
    obtain ⟨v', x, r, rfl, ht, hk, hx3, hcase⟩ := e_put_some hex
    rcases hcase with ⟨z, rfl, h1, h2, h3, rfl⟩ | ⟨z, rfl, h1, rfl⟩
    · exact ⟨hL, (okSt_cons.mp (okSt_cons.mp hS).2).2, okH_sI hH (okSt_cons.mp hS).1⟩
    · exact ⟨hL, (okSt_cons.mp (okSt_cons.mp hS).2).2, hH⟩
  case getstatic idx =>
    simp only [ex1] at hex
    split at hex
    · cases hex; exact ⟨hL, okSt_cons.mpr ⟨trivial, hS⟩, hH⟩
    · cases hex
  case iaload => obtain ⟨j, x, r, rfl, ht, rfl⟩ := e_ald_some hex; exact ⟨hL, okSt_cons.mpr ⟨hH _ _, (okSt_cons.mp (okSt_cons.mp hS).2).2⟩, hH⟩
  case caload => obtain ⟨j, x, r, rfl, ht, rfl⟩ := e_ald_some hex; exact ⟨hL, okSt_cons.mpr ⟨hH _ _, (okSt_cons.mp (okSt_cons.mp hS).2).2⟩, hH⟩
  case aaload => obtain ⟨j, x, r, rfl, ht, rfl⟩ := e_aldq_some hex; exact ⟨hL, okSt_cons.mpr ⟨trivial, (okSt_cons.mp (okSt_cons.mp hS).2).2⟩, hH⟩
  case iastore => obtain ⟨z, j, x, r, rfl, ht, rfl⟩ := e_ast_some hex; exact ⟨hL, (okSt_cons.mp (okSt_cons.mp (okSt_cons.mp hS).2).2).2, okH_sI hH (okSt_cons.mp hS).1⟩
  case castore => obtain ⟨z, j, x, r, rfl, ht, rfl⟩ := e_ast_some hex; exact ⟨hL, (okSt_cons.mp (okSt_cons.mp (okSt_cons.mp hS).2).2).2, okH_sI hH (okSt_cons.mp hS).1⟩
  case aastore => obtain ⟨z, j, x, r, rfl, ht, rfl⟩ := e_astq_some hex; exact ⟨hL, (okSt_cons.mp (okSt_cons.mp (okSt_cons.mp hS).2).2).2, hH⟩
  case arraylength => obtain ⟨x, r, rfl, ht, rfl⟩ := e_len_some hex; exact ⟨hL, okSt_cons.mpr ⟨⟨by omega, by omega⟩, (okSt_cons.mp hS).2⟩, hH⟩
  case newarray ty =>
    cases ty
    case int => obtain ⟨n, r, rfl, ht, rfl⟩ := e_newa_some (t := 100) hex; exact ⟨hL, okSt_cons.mpr ⟨trivial, (okSt_cons.mp hS).2⟩, okH_sNew hH⟩
    case char => obtain ⟨n, r, rfl, ht, rfl⟩ := e_newa_some (t := 101) hex; exact ⟨hL, okSt_cons.mpr ⟨trivial, (okSt_cons.mp hS).2⟩, okH_sNew hH⟩
    all_goals exact absurd (show (none : Option Cf) = some c1 from hex) (by simp)
  case anewarray idx =>
    simp only [ex1] at hex
    split at hex
    · obtain ⟨n, r, rfl, ht, rfl⟩ := e_newa_some hex; exact ⟨hL, okSt_cons.mpr ⟨trivial, (okSt_cons.mp hS).2⟩, okH_sNew hH⟩
    · cases hex
  case new idx =>
    simp only [ex1] at hex
    split at hex
    · cases hex; exact ⟨hL, okSt_cons.mpr ⟨trivial, hS⟩, okH_sNew hH⟩
    · cases hex
  case invokespecial idx =>
    simp only [ex1] at hex
    split at hex
    · obtain ⟨x, r, rfl, ht, rfl⟩ := e_obj_some hex; exact ⟨hL, (okSt_cons.mp hS).2, hH⟩
    · cases hex
  case invokestatic idx =>
    simp only [ex1] at hex
    split at hex
    · obtain ⟨n, dp, x, sp, x0, r, rfl, ht, rfl⟩ := e_cpy_some hex
      exact ⟨hL, fun v hv => hS v (List.mem_cons_of_mem _ (List.mem_cons_of_mem _ (List.mem_cons_of_mem _ (List.mem_cons_of_mem _ (List.mem_cons_of_mem _ hv))))), okH_sCp hH⟩
    · split at hex
      · exact mx _ (Or.inl rfl) hex
      · split at hex
        · exact mx _ (Or.inr rfl) hex
        · cases hex
  all_goals exact absurd (show (none : Option Cf) = some c1 from hex) (by simp)
theorem okSt_take {st : List AV} (h : okSt st) (k : Nat) : okSt (st.take k).reverse ∧ okSt (st.drop k) := ⟨fun v hv => h v (List.mem_of_mem_take (List.mem_reverse.mp hv)), fun v hv => h v (List.mem_of_mem_drop hv)⟩
theorem okLs_ini {y : Nat} {as : List AV} (h : okSt as) : okLs (ini y as) := fun i v hv => h v (List.mem_of_getElem? (ini_at hv))
theorem run_ok : ∀ (n d y pos : Nat) (ls : Ls) (st : List AV) (h : HP) (v : Option AV) (h' : HP), okLs ls → okSt st → okH h → run n d y pos ls st h = some (v, h') → okH h' ∧ ∀ a, v = some a → okV a
  | 0, d, y, pos, ls, st, h, v, h', _, _, _, e => by simp [run] at e
  | n + 1, d, y, pos, ls, st, h, v, h', hL, hS, hH, e => by
    unfold run at e
    split at e
    · cases e
    · rename_i i hi
      split at e
      · obtain ⟨rfl, h1, -⟩ := e_ret_some e
        refine ⟨hH, fun a ha => ?_⟩
        subst ha
        exact hS a (by rw [h1]; exact List.mem_cons_self)
      · split at e
        · split at e
          · cases e
          · split at e
            · split at e
              · cases e
              · rename_i r hr
                have h0 := okSt_take hS (hAr i.2.2.1)
                have h1 := run_ok n _ _ _ _ _ _ r.1 r.2 (okLs_ini h0.1) (fun v hv => absurd hv List.not_mem_nil) hH hr
                refine run_ok n _ _ _ _ _ _ _ _ hL ?_ h1.1 e
                intro a ha
                rcases List.mem_append.mp ha with ha | ha
                · exact h1.2 a (by cases hr1 : r.1 <;> rw [hr1] at ha <;> simp_all)
                · exact h0.2 a ha
            · cases e
        · split at e
          · cases e
          · rename_i c1 hc
            have h1 := ex1_ok3 hL hS hH hc
            exact run_ok n _ _ _ _ _ _ _ _ h1.1 h1.2.1 h1.2.2 e
theorem noLaw_all : ev_cods.all (fun c => c.all noLaw) = true := by decide +kernel
theorem noLaw_at {y pos : Nat} {i : Ins} (h : (cod y)[pos]? = some i) (hc : isCall i = true) : i.2.2.1 ≠ 0 := by
  by_cases hy : y < ev_cods.length
  · have h1 : cod y ∈ ev_cods := by
      unfold cod
      rw [List.getD_eq_getElem?_getD, List.getElem?_eq_getElem hy]
      exact List.getElem_mem hy
    have h2 := List.all_eq_true.mp (List.all_eq_true.mp noLaw_all _ h1) i (List.mem_of_getElem? h)
    unfold noLaw at h2
    rw [hc] at h2
    simpa using h2
  · exfalso
    unfold cod at h
    rw [List.getD_eq_getElem?_getD, List.getElem?_eq_none (show ev_cods.length ≤ y by omega)] at h
    simp at h
/-- THE MACHINE DOES WHAT THE EVALUATOR ANSWERS -/
theorem adN (l : Launch) : ∀ n, AdN l n
  | 0 => fun G d y pos ls st h v h' hy e => by simp [run] at e
  | n + 1 => by
    intro G d y pos ls st h v h' hy e p e' R s m args below meth c H locs cells slots Q lsM hF hC hRm hroom K
    have hmono := run_mono _ _ _ _ _ _ _ _ _ e
    have hokr := run_ok _ _ _ _ _ _ _ _ _ hC.2.1 hC.2.2.1 hC.2.2.2.1 e
    unfold run at e
    split at e
    · cases e
    · rename_i i hi
      have hokI := ev_ok y hy pos i hi
      split at e
      · rename_i hret
        obtain ⟨rfl, hst, hro⟩ := e_ret_some e
        obtain ⟨hdg, -, -⟩ := okI_spec hokI
        have hlen : iLen i = 1 := by
          obtain ⟨raw, w0, a, b, w, sw⟩ := i
          rcases hro with ⟨-, h1, -⟩ | ⟨x, -, h1, -⟩ | ⟨r, -, h1, -⟩ <;> (dsimp only at h1; subst h1; rfl)
        rw [hlen] at hdg
        have K1 := K (pcO y pos) i.1 lsM H locs hdg hro hokr.2 hC.2.2.2.1 hC.2.2.2.2.1 hC.2.2.2.2.2
        rw [Nat.sub_self, Nat.sub_self, Nat.add_zero, Nat.add_zero, ← hst] at K1
        exact K1
      · split at e
        · rename_i hic
          split at e
          · cases e
          · rename_i d'
            split at e
            · rename_i hst
              split at e
              · cases e
              · rename_i r hr
                have hlk := (okI_spec hokI).2.2
                have hy1 := inst_call_y hlk hic
                have hy2 := noLaw_at hi hic
                have h0 := okSt_take hC.2.2.1 (hAr i.2.2.1)
                have m1 := run_mono _ _ _ _ _ _ _ r.1 r.2 hr
                have m2 := run_mono _ _ _ _ _ _ _ _ _ e
                have k1 := run_ok _ _ _ _ _ _ _ r.1 r.2 (okLs_ini h0.1) (fun v hv => absurd hv List.not_mem_nil) hC.2.2.2.1 hr
                obtain ⟨-, -, -, k4, -⟩ := okHd_spec (ev_hd _ hy2 hy1)
                have hcnt : Cnt l G i.2.2.1 d' (st.take (hAr i.2.2.1)).reverse h r.1 r.2 := cnt_of (adN l n) hy1 hy2 hr hC.2.2.2.1 h0.1 (by
                  rw [List.length_reverse, List.length_take]
                  omega)
                refine ad_call hF hokI hic hC hRm hy1 hy2 hst (by omega) hcnt fun H1 locs1 hRp1 hS1 => ?_
                have hst1 : okSt (r.1.toList ++ st.drop (hAr i.2.2.1)) := by
                  intro a ha
                  rcases List.mem_append.mp ha with ha | ha
                  · exact k1.2 a (by cases hr1 : r.1 <;> rw [hr1] at ha <;> simp_all)
                  · exact h0.2 a ha
                refine adN l n G (d' + 1) y (pos + 1) ls _ r.2 v h' hy e p e' R s m args below meth c H1 locs1 _ _ Q lsM hF ⟨hC.1, hC.2.1, hst1, k1.1, hRp1, hS1⟩ hRm (by omega) ?_
                intro pcR raw lsR H' locs' g1 g2 g3 g4 g5 g6
                have K1 := K pcR raw lsR H' locs' g1 g2 g3 g4 g5 g6
                rw [show cells + (hZ r.2 - hZ h) + (hZ h' - hZ r.2) = cells + (hZ h' - hZ h) by omega, show slots + (hU r.2 - hU h) + (hU h' - hU r.2) = slots + (hU h' - hU h) by omega]
                exact K1
            · cases e
        · split at e
          · cases e
          · rename_i c1 hc
            have m1 := ex1_mono hc
            have m2 := run_mono _ _ _ _ _ _ _ _ _ e
            refine ad1 hF hokI hc hC hRm (by omega) ?_
            intro H1 locs1 lsM1 hC1
            refine adN l n G d y c1.1 c1.2.1 c1.2.2.1 c1.2.2.2 v h' hy e p e' R s m args below meth c H1 locs1 _ _ Q lsM1 hF hC1 hRm (by omega) ?_
            intro pcR raw lsR H' locs' g1 g2 g3 g4 g5 g6
            have K1 := K pcR raw lsR H' locs' g1 g2 g3 g4 g5 g6
            rw [show cells + (hZ c1.2.2.2 - hZ h) + (hZ h' - hZ c1.2.2.2) = cells + (hZ h' - hZ h) by omega, show slots + (hU c1.2.2.2 - hU h) + (hU h' - hU c1.2.2.2) = slots + (hU h' - hU h) by omega]
            exact K1
