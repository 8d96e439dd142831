section AD3
variable {G : GG} {p : Program} {l : Launch} {e : Env} {R : Room} {s : State} {m : MethodId} {args : Array Value} {below : List Frame} {meth : Method} {c : Code} {H : Heap} {locs : List Loc} {cells slots : Nat} {Q : State → Prop}
variable {y pos : Nat} {lsM : Array Slot}
/-- behind a call -/
theorem a_after {mc ms : Nat} {h1 : HP} {v : Option AV} {rest st0 : List Value} {a : Array Value} (hr : va_Run p l e R s m args below meth c H locs cells slots mc ms (F0 m (pcO y pos) lsM st0) rest ((fun _ st oc t => (oc = .returned (v.map (mv G.2.2)) ∧ Rep G h1 t.heap) ∧ va_F (frA G.2.2) st t : Array Value → State → Outcome → State → Prop) a) (frA G.2.2)) (hS : va_S (frA G.2.2) s.heap H locs)
    (kk : ∀ (H1 : Heap) (locs1 : List Loc), Rep G h1 H1 → va_S (frA G.2.2) s.heap H1 locs1 → W p l e R s m args below meth c H1 locs1 (cells + mc) (slots + ms) Q (F0 m (pcO y pos + 3) lsM ((v.map (mv G.2.2)).toList ++ rest))) : W p l e R s m args below meth c H locs cells slots Q (F0 m (pcO y pos) lsM st0) := by
  intro T hT X
  obtain ⟨w, st₀, t, T', L, h0, X', hL, e1, e2, ⟨⟨hv, hb⟩, hz, hk⟩, st⟩ := hr T hT X
  cases hv
  rw [h0] at hz hk
  obtain ⟨t2, a1, b1⟩ := kk T'.heap (locs ++ L) (by rw [e1]; exact hb)
    ⟨Nat.le_trans hS.1 (by rw [e1]; exact hz), fun q h1 h2 => by rw [e1, hk q (Nat.lt_of_lt_of_le h1 hS.1) h2]; exact hS.2.1 q h1 h2, fun q hq => by
      rcases List.mem_append.mp hq with h | h
      · exact hS.2.2 q h
      · exact hL q h⟩ T' rfl X'
  exact ⟨t2, st t2 a1, b1⟩
theorem pc_blind {as : List Value} {h : HP} : FrameBlind (va_Pc as (fun U => Rep G h U.heap ∧ WK G U)) := fun a U g mk q => ⟨q.1, q.2.1, WK_moved (Vm.Alike.refl U.vm) (fun _ _ _ => rfl) q.2.2⟩
theorem pre_S {as : List Value} {h : HP} (hRp : Rep G h H) (hWK : WK G s) (hS : va_S (frA G.2.2) s.heap H locs) : ∀ U : State, U.heap = H → s.WarmedH U.vm → va_Pc as (fun U => Rep G h U.heap ∧ WK G U) as.toArray U :=
  fun U hU hW => ⟨rfl, by rw [hU]; exact hRp, WK_moved hW.alike (fun q h1 h2 => by rw [hU]; exact hS.2.1 q h1 h2) hWK⟩
theorem rcv_some {k y' : Nat} {as : List AV} {h : HP} (e : rcv k y' as h = true) : (k ≤ 1 → ∃ a r, as = .inr (some a) :: r ∧ (hTy h a).1 = hCi y' + 1) ∧ (k = 4 ∨ k = 5 → ∃ a r, as = .inr (some a) :: r) := by
  unfold rcv at e
  split at e
  · exact ⟨fun _ => ⟨_, _, rfl, of_decide_eq_true e⟩, fun q => by omega⟩
  · exact ⟨fun _ => ⟨_, _, rfl, of_decide_eq_true e⟩, fun q => by omega⟩
  · exact ⟨fun q => by omega, fun q => by omega⟩
  · exact ⟨fun q => by omega, fun q => by omega⟩
  · exact ⟨fun q => by omega, fun _ => ⟨_, _, rfl⟩⟩
  · exact ⟨fun q => by omega, fun _ => ⟨_, _, rfl⟩⟩
  · cases e
set_option maxHeartbeats 4000000 in
theorem ad_call {i : Ins} {d' : Nat} {ls : Ls} {st : List AV} {h h1 : HP} {v : Option AV} (hF : Fx G p s m args meth c y) (hok : okI y pos i = true) (hic : isCall i = true) (hC : Cg G s y H locs lsM ls st h) (hRm : d' + 1 ≤ R.frames ∧ 40 * (d' + 1) ≤ R.locals) (hy : i.2.2.1 < 193) (hy0 : i.2.2.1 ≠ 0)
    (hst : hAr i.2.2.1 ≤ st.length ∧ (st.drop (hAr i.2.2.1)).length ≤ 8 ∧ rcv i.2.2.2.1 i.2.2.1 (st.take (hAr i.2.2.1)).reverse h = true) (hroom : cells + (hZ h1 - hZ h) ≤ R.cells ∧ slots + (hU h1 - hU h) ≤ R.slots)
    (hM : Cnt l G i.2.2.1 d' (st.take (hAr i.2.2.1)).reverse h v h1)
    (kk : ∀ (H1 : Heap) (locs1 : List Loc), Rep G h1 H1 → va_S (frA G.2.2) s.heap H1 locs1 → W p l e R s m args below meth c H1 locs1 (cells + (hZ h1 - hZ h)) (slots + (hU h1 - hU h)) Q (F0 m (pcO y (pos + 1)) lsM ((v.toList ++ st.drop (hAr i.2.2.1)).map (mv G.2.2)))) :
    W p l e R s m args below meth c H locs cells slots Q (F0 m (pcO y pos) lsM (st.map (mv G.2.2))) := by
  obtain ⟨raw, w0, y', b, w, sw⟩ := i
  obtain ⟨hx, hb, hml, hown, hts, hWK, hini⟩ := hF
  obtain ⟨hdg, hnx, hln⟩ := okI_spec hok
  obtain ⟨hLR, hLs, hSt, hHk, hRp, hVS⟩ := id hC
  dsimp only at hy hy0 hst hM kk
  obtain ⟨hl1, hl2, hrc⟩ := hst
  obtain ⟨k1, k2, k3, k4, k5, k6, k7⟩ := okHd_spec (ev_hd y' hy0 hy)
  generalize hAs : (st.take (hAr y')).reverse = as at hM hrc
  generalize hRs : st.drop (hAr y') = rs at kk hl2
  have hsp : st = as.reverse ++ rs := by rw [← hAs, ← hRs, List.reverse_reverse, List.take_append_drop]
  have hal : as.length = hAr y' := by rw [← hAs, List.length_reverse, List.length_take]; omega
  have kk' : ∀ (H1 : Heap) (locs1 : List Loc), pcO y (pos + 1) = pcO y pos + 3 → Rep G h1 H1 → va_S (frA G.2.2) s.heap H1 locs1 → W p l e R s m args below meth c H1 locs1 (cells + (hZ h1 - hZ h)) (slots + (hU h1 - hU h)) Q (F0 m (pcO y pos + 3) lsM ((v.map (mv G.2.2)).toList ++ rs.map (mv G.2.2))) := by
    intro H1 locs1 hp hr hs
    have := kk H1 locs1 hr hs
    rw [hp, List.map_append] at this
    cases v <;> exact this
  have hrr : 2 * (F0 m (pcO y pos) lsM (st.map (mv G.2.2))).monitorRoom + ((rs.map (mv G.2.2)).map fun v => v.category).sum ≤ 8 := by
    show 2 * 0 + _ ≤ 8
    rw [cat_sum]
    omega
  have hRR : d' + 1 ≤ R.frames ∧ 8 + (hMx y' + 11) + 40 * d' ≤ R.locals := ⟨hRm.1, by have := hRm.2; omega⟩
  have hwarm : ∀ q ∈ wsY y', ∀ (a' : Array Value) (U : State), s.WarmedH U.vm → q.before a' U = true := by
    intro q hq
    rcases List.mem_cons.mp hq with rfl | hq
    · exact warm_all hts _ k1
    · exact warm_all hts _ hq
  have cb : ∀ (n index : Nat), (parseMethodDescriptor (hNm y').desc).map (fun d => d.parameters.length) = some n → Jvm.Cond.methodLink (hNm y).cls index (hNm y') ∈ evT →
      CallB R s args (hNm y).cls index (hNm y') (hBy y') (hMx y') (hRt y') (wsY y') ({ frames := d', cells := hZ h1 - hZ h, slots := hU h1 - hU h, locals := 40 * d' } : Room) (hZ h1 - hZ h) (hU h1 - hU h) n := by
    intro n index hn hl
    refine ⟨rfl, rfl, hRR.1, hRR.2, hwarm, List.mem_cons_self, hts _ k1, hts _ k2, k7, fun sig hs => ?_, hts _ hl⟩
    rw [hs] at hn
    exact (Option.some.inj hn).symm
  have cn : ∀ (n index : Nat), (parseMethodDescriptor (hNm y').desc).map (fun d => d.parameters.length) = some n → Jvm.Cond.methodLinkNest (hNm y).cls index (hNm y') "PhasorTree" ∈ evT →
      va_CN R s args (hNm y).cls index (hNm y') "PhasorTree" (hBy y') (hMx y') (hRt y') (wsY y') ({ frames := d', cells := hZ h1 - hZ h, slots := hU h1 - hU h, locals := 40 * d' } : Room) (hZ h1 - hZ h) (hU h1 - hU h) n := by
    intro n index hn hl
    refine ⟨⟨rfl, rfl, hRR.1, hRR.2, hwarm, List.mem_cons_self⟩, hts _ k1, hts _ k2, k7, fun sig hs => ?_, hts _ hl⟩
    rw [hs] at hn
    exact (Option.some.inj hn).symm
  have S : CallFix p m c (hBy y) (hMx y) s args evT (hNm y).cls := ⟨hx, hb, hml, hown, hts⟩
  cases raw
  case invokevirtual idx =>
    have hb1 : b ≤ 1 := of_decide_eq_true hic
    obtain ⟨a, r, rfl, hty⟩ := (rcv_some hrc).1 hb1
    simp only [lnkO, Bool.and_eq_true, decide_eq_true_eq] at hln
    obtain ⟨⟨⟨⟨⟨⟨-, hc8⟩, h0⟩, hlk⟩, hiw⟩, hsw⟩, hpl⟩ := hln
    have hat := (rep_obj hRp hty hc8).2
    have hrcv := va_recv (q0 := 0) hWK.1 (va_P1 hat) (clF _ hc8).1 rfl
    rw [show (fldC (hCi y'), fldT (hCi y'), fcn (hCi y')).1 = (hNm y').cls from hCi_ok y' hy hc8] at hrcv
    have hsk : st.map (mv G.2.2) = ((r.map (mv G.2.2)).reverse) ++ .ref (adr G.2.2 a) :: rs.map (mv G.2.2) := by
      rw [hsp]
      simp [mv, va_rf]
    have hn : (r.map (mv G.2.2)).length = hAr y' - 1 := by
      simp only [List.length_cons] at hal
      rw [List.length_map]
      omega
    have hpV : PreV s H (hNm y').cls (adr G.2.2 a) (va_Pc ((Sum.inr (some a) :: r).map (mv G.2.2)) (fun U => Rep G h U.heap ∧ WK G U)) (r.map (mv G.2.2)) := ⟨pc_blind, hrcv, pre_S hRp hWK hVS⟩
    by_cases hb0 : b = 0
    · rw [if_pos hb0] at hlk
      exact a_after (a := #[]) (va_runV S hM ⟨cb _ idx hpl (wd_in hlk), hts _ (wd_in hiw), hts _ (wd_in hsw)⟩ hpV rfl hn hLR.1 hsk hrr hdg hroom) hVS (fun H1 locs1 => kk' H1 locs1 (hnx rfl))
    · rw [if_neg hb0] at hlk
      exact a_after (a := #[]) (va_runVN S hM ⟨cn _ idx hpl (wd_in hlk), hts _ (wd_in hiw), hts _ (wd_in hsw)⟩ hpV rfl hn hLR.1 hsk hrr hdg hroom) hVS (fun H1 locs1 => kk' H1 locs1 (hnx rfl))
  case invokestatic idx =>
    have hb1 : 2 ≤ b ∧ b ≤ 3 := of_decide_eq_true hic
    simp only [lnkO] at hln
    rw [if_neg (by omega), if_neg (by omega), if_neg (by omega)] at hln
    simp only [Bool.and_eq_true, decide_eq_true_eq] at hln
    obtain ⟨⟨⟨-, hlk⟩, hiw⟩, hpl⟩ := hln
    have hsk : st.map (mv G.2.2) = ((as.map (mv G.2.2)).reverse) ++ rs.map (mv G.2.2) := by
      rw [hsp]
      simp
    have hn : (as.map (mv G.2.2)).length = hAr y' := by rw [List.length_map]; exact hal
    have hpS : PreS s H (va_Pc (as.map (mv G.2.2)) (fun U => Rep G h U.heap ∧ WK G U)) (as.map (mv G.2.2)) := ⟨pc_blind, pre_S hRp hWK hVS⟩
    by_cases hb0 : b = 2
    · rw [if_pos hb0] at hlk
      exact a_after (a := #[]) (va_runS S hM ⟨cb _ idx hpl (wd_in hlk), hts _ (wd_in hiw)⟩ hpS rfl hn hLR.1 hsk hrr hdg hroom) hVS (fun H1 locs1 => kk' H1 locs1 (hnx rfl))
    · rw [if_neg hb0] at hlk
      exact a_after (a := #[]) (va_runSN S hM ⟨cn _ idx hpl (wd_in hlk), hts _ (wd_in hiw), trivial⟩ hpS rfl hn hLR.1 hsk hrr hdg hroom) hVS (fun H1 locs1 => kk' H1 locs1 (hnx rfl))
  case invokespecial idx =>
    have hb1 : 4 ≤ b ∧ b ≤ 5 := of_decide_eq_true hic
    obtain ⟨a, r, rfl⟩ := (rcv_some hrc).2 (by omega)
    simp only [lnkO] at hln
    rw [if_neg (by omega)] at hln
    simp only [Bool.and_eq_true, decide_eq_true_eq] at hln
    obtain ⟨⟨⟨⟨⟨⟨-, h0⟩, hlk⟩, hiw⟩, hnm⟩, hrt⟩, hpl⟩ := hln
    have hsk : st.map (mv G.2.2) = ((r.map (mv G.2.2)).reverse) ++ .ref (adr G.2.2 a) :: rs.map (mv G.2.2) := by
      rw [hsp]
      simp [mv, va_rf]
    have hn : (r.map (mv G.2.2)).length = hAr y' - 1 := by
      simp only [List.length_cons] at hal
      rw [List.length_map]
      omega
    have hpS : PreS s H (va_Pc ((Sum.inr (some a) :: r).map (mv G.2.2)) (fun U => Rep G h U.heap ∧ WK G U)) (.ref (adr G.2.2 a) :: r.map (mv G.2.2)) := ⟨pc_blind, pre_S hRp hWK hVS⟩
    have cb' := fun n => cb n idx
    have cn' := fun n => cn n idx
    rw [hrt] at cb' cn'
    by_cases hb0 : b = 4
    · rw [if_pos hb0] at hlk
      exact a_after (a := #[]) (va_runI S hM ⟨cb' _ hpl (wd_in hlk), hnm, hts _ (wd_in hiw)⟩ hpS rfl hn hLR.1 hsk hrr hdg hroom) hVS (fun H1 locs1 => kk' H1 locs1 (hnx rfl))
    · rw [if_neg hb0] at hlk
      exact a_after (a := #[]) (va_runIN S hM ⟨cn' _ hpl (wd_in hlk), hnm, hts _ (wd_in hiw)⟩ hpS rfl hn hLR.1 hsk hrr hdg hroom) hVS (fun H1 locs1 => kk' H1 locs1 (hnx rfl))
  all_goals exact absurd (show (false : Bool) = true from hic) (by decide)
end AD3
theorem ex1_ok {d pos : Nat} {i : Ins} {ls : Ls} {st : List AV} {h : HP} {c1 : Cf} (hk : okLs ls) (hs : okSt st) (hh : okH h) (hex : ex1 d i pos ls st h = some c1) : True := trivial
theorem inst_call_y {y pos : Nat} {i : Ins} (h : lnkO y pos i = true) (hic : isCall i = true) : i.2.2.1 < 193 := by
  obtain ⟨raw, w0, y', b, w, sw⟩ := i
  cases raw
  case invokevirtual idx =>
    simp only [lnkO, Bool.and_eq_true, decide_eq_true_eq] at h
    exact h.1.1.1.1.1.1
  case invokestatic idx =>
    have hb1 : 2 ≤ b ∧ b ≤ 3 := of_decide_eq_true hic
    simp only [lnkO] at h
    rw [if_neg (by omega), if_neg (by omega), if_neg (by omega)] at h
    simp only [Bool.and_eq_true, decide_eq_true_eq] at h
    exact h.1.1.1
  case invokespecial idx =>
    have hb1 : 4 ≤ b ∧ b ≤ 5 := of_decide_eq_true hic
    simp only [lnkO] at h
    rw [if_neg (by omega)] at h
    simp only [Bool.and_eq_true, decide_eq_true_eq] at h
    exact h.1.1.1.1.1.1
  all_goals exact absurd (show (false : Bool) = true from hic) (by decide)
def noLaw (i : Ins) : Bool := !(isCall i) || decide (i.2.2.1 ≠ 0)
