
theorem srch_le1 {n : Nat} {sure : (Nat → Nat) → Bool} {cost : (Nat → Nat) → Nat} : ∀ (k : Nat) (tr : Nat → Nat) (S : SS), S.1 ≤ 1 → (srch n sure cost k tr S).1 ≤ 1
  | 0, _, _, h => h
  | k + 1, tr, S, h => by
    have h1 : (stpS sure cost S tr).1 ≤ 1 := by
      unfold stpS
      split
      · exact Nat.le_refl _
      · exact h
    unfold srch
    split
    · exact h1
    · exact srch_le1 k _ _ h1
theorem c_cheapest {s : St} {h : List PC} (hI : Inv s) (hR : RepC s h) (c : Int32) : Ct mX11_cheapest [.ref 0, .int c] h (RC (fCheapest s c) h) := by
  obtain ⟨r0, rSh, rF, rM, rC, rS, rT, r55, rG, rL, r68, r69, r73, rY, rR⟩ := id hR; obtain ⟨⟨i0, i1, i2, i3, i4, i5, i6, i7, i8, i9, i10, i11⟩, k1, k2, k3, k4, k5, k5z, k5s, k6, k6z, k7, k7s, k8s, k8z, k9, k10, k11, k11z, k50, k15, k16⟩ := id hI; obtain ⟨f4, ⟨kd, f5, e5⟩, f6, f7, ⟨db, f15, e15⟩, ⟨pr, f16, e16⟩, ⟨st, f17, e17⟩⟩ := id rF; obtain ⟨c21, c22, c29, c23, c30⟩ := id rC; obtain ⟨m18, ⟨sh, m19, e19⟩, ⟨tc, m20, e20⟩⟩ := id rM
  obtain ⟨bc, wa, wb, hbc, s36, s37, s38⟩ := id rS
  refine ct_at (L := [_, _]) (by decide +kernel) rfl rfl (Nat.le_of_ble_eq_true rfl) ?_
  refine at_aload_n 1 dX11_cheapest_0 rfl rfl rfl ?_
  refine at_g 4 dX11_cheapest_1 rfl fl_X11_29 ⟨_, by assumption, ?_⟩
  refine ⟨_, rfl, ?_⟩
  refine at_iload_n 5 dX11_cheapest_4 rfl rfl rfl ?_
  refine at_invV (ci := 1) 8 [_] _ (c_X1_has c c21) dX11_cheapest_5 rfl rfl (by assumption) rfl ml_X11_178 cl_X1_has vl_X1_has rfl (Nat.le_of_ble_eq_true rfl) ⟨by decide, by decide⟩ (by decide) (fun rr hh qq => ?_)
  obtain ⟨rfl, hq2⟩ := qq; rw [hq2]; clear hq2 hh
  refine at_if_eqB 22 11 dX11_cheapest_8 rfl rfl (fun cc => ?_) (fun cc => ?_)
  · refine at_ldc 24 (-1000000000) dX11_cheapest_22 rfl cn_X11_102 ?_
    refine at_iret dX11_cheapest_24 rfl (by decide) (by decide) ?_
    exact rc_no (fun ⟨c', q1, q2, q3⟩ => has_f cc (by omega) ⟨c', q1, q2⟩) hR
  obtain ⟨c', hc, rfl⟩ := has_t cc (by omega)
  clear cc
  refine at_aload_n 12 dX11_cheapest_11 rfl rfl rfl ?_
  refine at_g 15 dX11_cheapest_12 rfl fl_X11_38 ⟨_, by assumption, ?_⟩
  refine ⟨_, rfl, ?_⟩
  refine at_iload_n 16 dX11_cheapest_15 rfl rfl rfl ?_
  by_cases hn : s 0 0 = 0
  · have f4' := f4
    rw [hn] at f4'
    refine at_invV (ci := 7) 19 [_] _ (c_X7_find_0 (nI c') s36 f4') dX11_cheapest_16 rfl rfl (by assumption) rfl ml_X11_190 cl_X7_find vl_X7_find rfl (Nat.le_of_ble_eq_true rfl) ⟨by decide, by decide⟩ (by decide) (fun rr hh qq => ?_)
    obtain ⟨rfl, hq2⟩ := qq; rw [hq2]; clear hq2 hh
    refine at_if_neN 25 22 dX11_cheapest_19 rfl rfl (by omega) (fun cc => ?_) (fun cc => ?_)
    · omega
    · refine at_ldc 24 (-1000000000) dX11_cheapest_22 rfl cn_X11_102 ?_
      refine at_iret dX11_cheapest_24 rfl (by decide) (by decide) ?_
      exact rc_no (fun ⟨c', q1, q2, q3, q4⟩ => by omega) hR
  have eSR : srch (s 0 0) (fun tr => sureB (s 9) (s 10) (s 7) db tr (s 0 0) c') (fun tr => costT pr tr (s 0 0)) 20000 tr0 (0, 0, fun _ => 0) = SRn s c' := by
    unfold SRn
    congr 1
    · funext tr
      unfold sureB
      refine allB_congr (fun t ht => ?_)
      have h1 : lowS (s 7) db tr (s 0 0) t = lowS (s 7) (s 2) tr (s 0 0) t := sm_congr (fun f hf => by rw [e15 f (by omega)])
      have h2 : highS (s 7) db tr (s 0 0) t = highS (s 7) (s 2) tr (s 0 0) t := sm_congr (fun f hf => by rw [e15 f (by omega)])
      rw [h1, h2]
    · funext tr
      exact sm_congr (fun f hf => by rw [e16 f (by omega)])
  refine at_invV (ci := 7) 19 [_] _ (c_X7_find (c := c') (le := s 9) (mo := s 10) (mk := s 7) (db := db) (pr := pr) hbc s36 s37 s38 c21 c22 c29 (c23 c' (by omega)) (c30 c' (by omega)) f4 f6 f7 f15 f16 (by omega) i0 (by omega) k7 (fun f hf => by rw [e15 f hf]; exact k2 f hf) (fun f hf => by rw [e16 f hf]; exact k3 f hf) (fun t ht => k9 _ (by omega)) (fun t ht => k10 _ (by omega))) dX11_cheapest_16 rfl rfl (by assumption) rfl ml_X11_190 cl_X7_find vl_X7_find rfl (Nat.le_of_ble_eq_true rfl) ⟨by decide, by decide⟩ (by decide) (fun rr hh qq => ?_)
  rw [eSR] at qq
  obtain ⟨rfl, ⟨wt, x37⟩, ⟨bc2, bs2, hbc2, x36, x38, xS⟩, hfr⟩ := qq
  have hle1 : (SRn s c').1 ≤ 1 := srch_le1 _ _ _ (Nat.zero_le _)
  have r0' := hfr.at (k := 0) (by omega) r0
  have x18 := hfr.at (k := 18) (by omega) m18
  refine at_if_neN 25 22 dX11_cheapest_19 rfl rfl (by omega) (fun cc => ?_) (fun cc => ?_)
  rotate_left
  · refine at_ldc 24 (-1000000000) dX11_cheapest_22 rfl cn_X11_102 ?_
    refine at_iret dX11_cheapest_24 rfl (by decide) (by decide) ?_
    show RC (gx _ _ (NOi, s)) h _ hh
    rw [gx_f (fun ⟨c2, q1, q2, q3, q4⟩ => by
      have e1 := nI_inj q2 (by omega) (by omega)
      subst e1
      exact q4 cc)]
    refine ⟨rfl, ?_, hfr.wk (fun j hj => by omega)⟩
    refine ⟨at_fr r0 hfr (fun j h1 h2 => by omega), rSh.fr' hfr (fun j h1 h2 => by omega), rF.fr hfr (fun j h1 h2 => by omega), rM.fr hfr (fun j h1 h2 => by omega), rC.fr hfr (fun j h1 h2 => by omega), ⟨bc2, wt, bs2, hbc2, x36, x37, x38⟩, rT.fr hfr (fun j h1 h2 => by omega), r55.fr hfr (fun j h1 h2 => by omega), rG.fr' hfr (fun j h1 h2 => by omega), rL.fr hfr (fun j h1 h2 => by omega), at_fr r68 hfr (fun j h1 h2 => by omega), r69.fr hfr (fun j h1 h2 => by omega), r73.fr hfr (fun j h1 h2 => by omega), rY.fr hfr (fun j h1 h2 => by omega), rR.fr hfr (fun j h1 h2 => by omega)⟩
  obtain ⟨xb, xs⟩ := xS cc
  refine at_aload_n 26 dX11_cheapest_25 rfl rfl rfl ?_
  refine at_g 29 dX11_cheapest_26 rfl fl_X11_22 ⟨_, by assumption, ?_⟩
  refine ⟨_, rfl, ?_⟩
  refine at_aload_n 30 dX11_cheapest_29 rfl rfl rfl ?_
  refine at_g 33 dX11_cheapest_30 rfl fl_X11_38 ⟨_, by assumption, ?_⟩
  refine ⟨_, rfl, ?_⟩
  refine at_g 36 dX11_cheapest_33 rfl fl_X11_193 ⟨_, by assumption, ?_⟩
  refine ⟨_, rfl, ?_⟩
  refine at_invV (ci := 6) 39 [_] _ (c_X6_become x18 (hfr.at (k := 19) (by omega) m19) (hfr.at (k := 20) (by omega) m20) x38 (by decide)) dX11_cheapest_36 rfl rfl (by assumption) rfl ml_X11_171 cl_X6_become vl_X6_become rfl (Nat.le_of_ble_eq_true rfl) ⟨by decide, by decide⟩ (by decide) (fun rr hh qq => ?_)
  obtain ⟨rfl, y19, y20, y18, hfr2⟩ := qq
  have r0'' := hfr2.at (k := 0) (by omega) r0'
  have y36 := hfr2.at (k := 36) (by omega) x36
  have hfr3 : Fr (fun j => (18 ≤ j ∧ j ≤ 20) ∨ (36 ≤ j ∧ j ≤ 38)) h hh := (hfr.wk (P' := fun j => (18 ≤ j ∧ j ≤ 20) ∨ (36 ≤ j ∧ j ≤ 38)) (fun j hj => by omega)).tr hfr2 (fun j hj => by omega)
  refine at_aload_n 40 dX11_cheapest_39 rfl rfl rfl ?_
  refine at_g 43 dX11_cheapest_40 rfl fl_X11_38 ⟨_, by assumption, ?_⟩
  refine ⟨_, rfl, ?_⟩
  refine at_g 46 dX11_cheapest_43 rfl fl_X11_196 ⟨_, by assumption, ?_⟩
  refine ⟨_, rfl, ?_⟩
  refine at_iret dX11_cheapest_46 rfl (by decide) (by decide) ?_
  refine rc_yes ⟨c', hc, rfl, by omega, cc⟩ (by rw [tn_nI (by omega), xb]) ?_ (hfr3.wk (fun j hj => by omega))
  rw [tn_nI (by omega)]
  refine ⟨at_fr r0 hfr3 (fun j h1 h2 => by omega), rSh.fr' hfr3 (fun j h1 h2 => by omega), rF.fr hfr3 (fun j h1 h2 => by omega), ⟨y18, y19.cg xs, y20.cg xs⟩, rC.fr hfr3 (fun j h1 h2 => by omega), ⟨bc2, wt, bs2, hbc2, y36, hfr2.at (k := 37) (by omega) x37, hfr2.at (k := 38) (by omega) x38⟩, rT.fr hfr3 (fun j h1 h2 => by omega), r55.fr hfr3 (fun j h1 h2 => by omega), rG.fr' hfr3 (fun j h1 h2 => by omega), rL.fr hfr3 (fun j h1 h2 => by omega), at_fr r68 hfr3 (fun j h1 h2 => by omega), r69.fr hfr3 (fun j h1 h2 => by omega), r73.fr hfr3 (fun j h1 h2 => by omega), rY.fr hfr3 (fun j h1 h2 => by omega), rR.fr hfr3 (fun j h1 h2 => by omega)⟩
theorem c_when {s : St} {h : List PC} (hI : Inv s) (hR : RepC s h) (c : Int32) : Ct mX11_when [.ref 0, .int c] h (RC (fWhen s c) h) := by
  obtain ⟨r0, rSh, rF, rM, rC, rS, rT, r55, rG, rL, r68, r69, r73, rY, rR⟩ := id hR; obtain ⟨⟨i0, i1, i2, i3, i4, i5, i6, i7, i8, i9, i10, i11⟩, k1, k2, k3, k4, k5, k5z, k5s, k6, k6z, k7, k7s, k8s, k8z, k9, k10, k11, k11z, k50, k15, k16⟩ := id hI; obtain ⟨⟨sti, t39⟩, tA⟩ := id rT; obtain ⟨c21, c22, c29, c23, c30⟩ := id rC; obtain ⟨m18, ⟨sh, m19, e19⟩, ⟨tc, m20, e20⟩⟩ := id rM
  refine ct_at (L := [_, _]) (by decide +kernel) rfl rfl (Nat.le_of_ble_eq_true rfl) ?_
  refine at_aload_n 1 dX11_when_0 rfl rfl rfl ?_
  refine at_g 4 dX11_when_1 rfl fl_X11_29 ⟨_, by assumption, ?_⟩
  refine ⟨_, rfl, ?_⟩
  refine at_iload_n 5 dX11_when_4 rfl rfl rfl ?_
  refine at_invV (ci := 1) 8 [_] _ (c_X1_has c c21) dX11_when_5 rfl rfl (by assumption) rfl ml_X11_178 cl_X1_has vl_X1_has rfl (Nat.le_of_ble_eq_true rfl) ⟨by decide, by decide⟩ (by decide) (fun rr hh qq => ?_)
  obtain ⟨rfl, hq2⟩ := qq; rw [hq2]; clear hq2 hh
  refine at_if_eqB 18 11 dX11_when_8 rfl rfl (fun cc => ?_) (fun cc => ?_)
  · refine at_ldc 20 (-1000000000) dX11_when_18 rfl cn_X11_102 ?_
    refine at_iret dX11_when_20 rfl (by decide) (by decide) ?_
    exact rc_no (fun ⟨c', q1, q2, q3⟩ => has_f cc (by omega) ⟨c', q1, q2⟩) hR
  obtain ⟨c', hc, rfl⟩ := has_t cc (by omega)
  clear cc
  refine at_aload_n 12 dX11_when_11 rfl rfl rfl ?_
  refine at_invV (ci := 11) 15 [] _ (c_X11_canRun r0 t39 m18 i2 i1) dX11_when_12 rfl rfl (by assumption) rfl ml_X11_199 cl_X11_canRun vl_X11_canRun rfl (Nat.le_of_ble_eq_true rfl) ⟨by decide, by decide⟩ (by decide) (fun rr hh qq => ?_)
  obtain ⟨rfl, hq2⟩ := qq; rw [hq2]; clear hq2 hh
  refine at_if_neB 21 18 dX11_when_15 rfl rfl (fun cc => ?_) (fun cc => ?_)
  rotate_left
  · refine at_ldc 20 (-1000000000) dX11_when_18 rfl cn_X11_102 ?_
    refine at_iret dX11_when_20 rfl (by decide) (by decide) ?_
    exact rc_no (fun ⟨c', q1, q2, q3, q4⟩ => of_decide_eq_false cc ⟨q3, q4⟩) hR
  obtain ⟨hm, hx⟩ := of_decide_eq_true cc
  clear cc
  obtain ⟨st, hS⟩ := rep_c hR
  refine at_aload_n 22 dX11_when_21 rfl rfl rfl ?_
  refine at_g 25 dX11_when_22 rfl fl_X11_79 ⟨_, by assumption, ?_⟩
  refine ⟨_, rfl, ?_⟩
  refine at_iload_n 26 dX11_when_25 rfl rfl rfl ?_
  refine at_invV (ci := 3) 29 [_] _ (c_X3_firstHour (c := c') hS (rep_x hR) r69 (inv_f hI hx) (by omega) (inv_p hI hm) (by omega) i2 k9 k10) dX11_when_26 rfl rfl (by assumption) rfl ml_X11_237 cl_X3_firstHour vl_X3_firstHour rfl (Nat.le_of_ble_eq_true rfl) ⟨by decide, by decide⟩ (by decide) (fun rr hh qq => ?_)
  obtain ⟨rfl, eX, ⟨d69, d70, d71, d72⟩, hfr⟩ := qq
  refine at_iret dX11_when_29 rfl (by decide) (by decide) ?_
  refine rc_yes ⟨c', hc, rfl, hm, hx⟩ (by rw [tn_nI (by omega)]; rfl) ?_ (hfr.wk (fun j hj => by omega))
  refine ⟨at_fr r0 hfr (fun j h1 h2 => by omega), eX.1, rF.fr hfr (fun j h1 h2 => by omega), rM.fr hfr (fun j h1 h2 => by omega), rC.fr hfr (fun j h1 h2 => by omega), rS.fr hfr (fun j h1 h2 => by omega), rT.fr hfr (fun j h1 h2 => by omega), r55.fr hfr (fun j h1 h2 => by omega), rG.fr' hfr (fun j h1 h2 => by omega), rL.fr hfr (fun j h1 h2 => by omega), at_fr r68 hfr (fun j h1 h2 => by omega), ChS.of d69 d70 d71 d72 (lo_ok (inv_f hI hx)), r73.fr hfr (fun j h1 h2 => by omega), eX.y, rR.fr hfr (fun j h1 h2 => by omega)⟩
theorem c_between {s : St} {h : List PC} (hI : Inv s) (hR : RepC s h) : Ct mX11_between [.ref 0] h (RC (fBetween s) h) := by
  obtain ⟨r0, rSh, rF, rM, rC, rS, rT, r55, rG, rL, r68, r69, r73, rY, rR⟩ := id hR; obtain ⟨⟨i0, i1, i2, i3, i4, i5, i6, i7, i8, i9, i10, i11⟩, k1, k2, k3, k4, k5, k5z, k5s, k6, k6z, k7, k7s, k8s, k8z, k9, k10, k11, k11z, k50, k15, k16⟩ := id hI; obtain ⟨⟨sti, t39⟩, tA⟩ := id rT; obtain ⟨c21, c22, c29, c23, c30⟩ := id rC; obtain ⟨m18, ⟨sh, m19, e19⟩, ⟨tc, m20, e20⟩⟩ := id rM
  refine ct_at (L := [_]) (by decide +kernel) rfl rfl (Nat.le_of_ble_eq_true rfl) ?_
  refine at_aload_n 1 dX11_between_0 rfl rfl rfl ?_
  refine at_invV (ci := 11) 4 [] _ (c_X11_canRun r0 t39 m18 i2 i1) dX11_between_1 rfl rfl (by assumption) rfl ml_X11_199 cl_X11_canRun vl_X11_canRun rfl (Nat.le_of_ble_eq_true rfl) ⟨by decide, by decide⟩ (by decide) (fun rr hh qq => ?_)
  obtain ⟨rfl, hq2⟩ := qq; rw [hq2]; clear hq2 hh
  refine at_if_neB 10 7 dX11_between_4 rfl rfl (fun cc => ?_) (fun cc => ?_)
  rotate_left
  · refine at_ldc 9 (-1000000000) dX11_between_7 rfl cn_X11_102 ?_
    refine at_iret dX11_between_9 rfl (by decide) (by decide) ?_
    exact rc_no (fun ⟨q3, q4⟩ => of_decide_eq_false cc ⟨q3, q4⟩) hR
  obtain ⟨hm, hx⟩ := of_decide_eq_true cc
  clear cc
  obtain ⟨st, hS⟩ := rep_c hR
  refine at_aload_n 11 dX11_between_10 rfl rfl rfl ?_
  refine at_g 14 dX11_between_11 rfl fl_X11_79 ⟨_, by assumption, ?_⟩
  refine ⟨_, rfl, ?_⟩
  refine at_invV (ci := 3) 17 [] _ (c_X3_hoursWithoutName hS (rep_x hR) r69 (inv_f hI hx) i6 (inv_p hI hm) (by omega) i2 k9 k10) dX11_between_14 rfl rfl (by assumption) rfl ml_X11_240 cl_X3_hoursWithoutName vl_X3_hoursWithoutName rfl (Nat.le_of_ble_eq_true rfl) ⟨by decide, by decide⟩ (by decide) (fun rr hh qq => ?_)
  obtain ⟨rfl, eX, ⟨d69, d70, d71, d72⟩, hfr⟩ := qq
  refine at_iret dX11_between_17 rfl (by decide) (by decide) ?_
  refine rc_yes ⟨hm, hx⟩ rfl ?_ (hfr.wk (fun j hj => by omega))
  refine ⟨at_fr r0 hfr (fun j h1 h2 => by omega), eX.1, rF.fr hfr (fun j h1 h2 => by omega), rM.fr hfr (fun j h1 h2 => by omega), rC.fr hfr (fun j h1 h2 => by omega), rS.fr hfr (fun j h1 h2 => by omega), rT.fr hfr (fun j h1 h2 => by omega), r55.fr hfr (fun j h1 h2 => by omega), rG.fr' hfr (fun j h1 h2 => by omega), rL.fr hfr (fun j h1 h2 => by omega), at_fr r68 hfr (fun j h1 h2 => by omega), ChS.of d69 d70 d71 d72 (lo_ok (inv_f hI hx)), r73.fr hfr (fun j h1 h2 => by omega), eX.y, rR.fr hfr (fun j h1 h2 => by omega)⟩
theorem c_dose {s : St} {h : List PC} (hI : Inv s) (hR : RepC s h) (c f : Int32) : Ct mX11_dose [.ref 0, .int c, .int f] h (RC (fDose s c f) h) := by
  obtain ⟨r0, rSh, rF, rM, rC, rS, rT, r55, rG, rL, r68, r69, r73, rY, rR⟩ := id hR; obtain ⟨⟨i0, i1, i2, i3, i4, i5, i6, i7, i8, i9, i10, i11⟩, k1, k2, k3, k4, k5, k5z, k5s, k6, k6z, k7, k7s, k8s, k8z, k9, k10, k11, k11z, k50, k15, k16⟩ := id hI; obtain ⟨⟨sti, t39⟩, tA⟩ := id rT; obtain ⟨c21, c22, c29, c23, c30⟩ := id rC; obtain ⟨m18, ⟨sh, m19, e19⟩, ⟨tc, m20, e20⟩⟩ := id rM; obtain ⟨f4, ⟨kd, f5, e5⟩, f6, f7, ⟨db, f15, e15⟩, ⟨pr, f16, e16⟩, ⟨st, f17, e17⟩⟩ := id rF
  refine ct_at (L := [_, _, _]) (by decide +kernel) rfl rfl (Nat.le_of_ble_eq_true rfl) ?_
  refine at_aload_n 1 dX11_dose_0 rfl rfl rfl ?_
  refine at_g 4 dX11_dose_1 rfl fl_X11_29 ⟨_, by assumption, ?_⟩
  refine ⟨_, rfl, ?_⟩
  refine at_iload_n 5 dX11_dose_4 rfl rfl rfl ?_
  refine at_invV (ci := 1) 8 [_] _ (c_X1_has c c21) dX11_dose_5 rfl rfl (by assumption) rfl ml_X11_178 cl_X1_has vl_X1_has rfl (Nat.le_of_ble_eq_true rfl) ⟨by decide, by decide⟩ (by decide) (fun rr hh qq => ?_)
  obtain ⟨rfl, hq2⟩ := qq; rw [hq2]; clear hq2 hh
  refine at_if_eqB 42 11 dX11_dose_8 rfl rfl (fun cc => ?_) (fun cc => ?_)
  · refine at_ldc 44 (-1000000000) dX11_dose_42 rfl cn_X11_102 ?_
    refine at_iret dX11_dose_44 rfl (by decide) (by decide) ?_
    exact rc_no (fun ⟨c', f', q1, q2, q3⟩ => has_f cc (by omega) ⟨c', q1, q2⟩) hR
  obtain ⟨c', hc, rfl⟩ := has_t cc (by omega)
  clear cc
  refine at_aload_n 12 dX11_dose_11 rfl rfl rfl ?_
  refine at_g 15 dX11_dose_12 rfl fl_X11_15 ⟨_, by assumption, ?_⟩
  refine ⟨_, rfl, ?_⟩
  refine at_iload_n 16 dX11_dose_15 rfl rfl rfl ?_
  refine at_invV (ci := 2) 19 [_] _ (c_X2_has f f4) dX11_dose_16 rfl rfl (by assumption) rfl ml_X11_111 cl_X2_has vl_X2_has rfl (Nat.le_of_ble_eq_true rfl) ⟨by decide, by decide⟩ (by decide) (fun rr hh qq => ?_)
  obtain ⟨rfl, hq2⟩ := qq; rw [hq2]; clear hq2 hh
  refine at_if_eqB 42 22 dX11_dose_19 rfl rfl (fun cc => ?_) (fun cc => ?_)
  · refine at_ldc 44 (-1000000000) dX11_dose_42 rfl cn_X11_102 ?_
    refine at_iret dX11_dose_44 rfl (by decide) (by decide) ?_
    exact rc_no (fun ⟨c', f', q1, q2, q3, q4, _⟩ => has_f cc (by omega) ⟨f', q3, q4⟩) hR
  obtain ⟨f', hf, rfl⟩ := has_t cc (by omega)
  clear cc
  have hkd : kd f' = s 1 f' := e5 f' (by omega)
  have hkb := k1 f' (by omega)
  refine at_aload_n 23 dX11_dose_22 rfl rfl rfl ?_
  refine at_g 26 dX11_dose_23 rfl fl_X11_15 ⟨_, by assumption, ?_⟩
  refine ⟨_, rfl, ?_⟩
  refine at_g 29 dX11_dose_26 rfl fl_X11_124 ⟨_, by assumption, ?_⟩
  refine ⟨_, rfl, ?_⟩
  refine at_iload_n 30 dX11_dose_29 rfl rfl rfl ?_
  first | refine at_ia 31 dX11_dose_30 rfl ⟨_, _, by assumption, by omega, by first | decide | omega, ?_⟩ | refine at_iaG 31 dX11_dose_30 rfl ⟨_, _, by assumption, by omega, by first | decide | omega, ?_⟩
  refine at_iconst 32 (nI 2) dX11_dose_31 rfl (by decide) ?_
  refine at_icmp_neN 42 35 dX11_dose_32 rfl rfl (by omega) (by omega) (fun cc => ?_) (fun cc => ?_)
  · refine at_ldc 44 (-1000000000) dX11_dose_42 rfl cn_X11_102 ?_
    refine at_iret dX11_dose_44 rfl (by decide) (by decide) ?_
    exact rc_no (fun ⟨c', f2, q1, q2, q3, q4, q5, _⟩ => by
      have e1 := nI_inj q4 (by omega) (by omega)
      subst e1
      omega) hR
  have hk2 := cc
  clear cc
  refine at_aload_n 36 dX11_dose_35 rfl rfl rfl ?_
  refine at_invV (ci := 11) 39 [] _ (c_X11_canRun r0 t39 m18 i2 i1) dX11_dose_36 rfl rfl (by assumption) rfl ml_X11_199 cl_X11_canRun vl_X11_canRun rfl (Nat.le_of_ble_eq_true rfl) ⟨by decide, by decide⟩ (by decide) (fun rr hh qq => ?_)
  obtain ⟨rfl, hq2⟩ := qq; rw [hq2]; clear hq2 hh
  refine at_if_neB 45 42 dX11_dose_39 rfl rfl (fun cc => ?_) (fun cc => ?_)
  rotate_left
  · refine at_ldc 44 (-1000000000) dX11_dose_42 rfl cn_X11_102 ?_
    refine at_iret dX11_dose_44 rfl (by decide) (by decide) ?_
    exact rc_no (fun ⟨c', f', q1, q2, q3, q4, q5, q6, q7⟩ => of_decide_eq_false cc ⟨q6, q7⟩) hR
  obtain ⟨hm, hx⟩ := of_decide_eq_true cc
  clear cc
  obtain ⟨st, hS⟩ := rep_c hR
  refine at_aload_n 46 dX11_dose_45 rfl rfl rfl ?_
  refine at_g 49 dX11_dose_46 rfl fl_X11_79 ⟨_, by assumption, ?_⟩
  refine ⟨_, rfl, ?_⟩
  refine at_iload_n 50 dX11_dose_49 rfl rfl rfl ?_
  refine at_iload_n 51 dX11_dose_50 rfl rfl rfl ?_
  refine at_invV (ci := 3) 54 [_, _] _ (c_X3_bestDose (c := c') (f := f') hS (rep_x hR) r69 r73 (inv_f hI hx) (by omega) hf (inv_p hI hm) (by omega) i2 k9 k10) dX11_dose_51 rfl rfl (by assumption) rfl ml_X11_243 cl_X3_bestDose vl_X3_bestDose rfl (Nat.le_of_ble_eq_true rfl) ⟨by decide, by decide⟩ (by decide) (fun rr hh qq => ?_)
  obtain ⟨rfl, eX, ⟨d69, d70, d71, d72⟩, d73, hfr⟩ := qq
  refine at_iret dX11_dose_54 rfl (by decide) (by decide) ?_
  refine rc_yes ⟨c', f', hc, rfl, hf, rfl, by omega, hm, hx⟩ (by rw [tn_nI (by omega), tn_nI (by omega)]; rfl) ?_ (hfr.wk (fun j hj => by omega))
  refine ⟨at_fr r0 hfr (fun j h1 h2 => by omega), eX.1, rF.fr hfr (fun j h1 h2 => by omega), rM.fr hfr (fun j h1 h2 => by omega), rC.fr hfr (fun j h1 h2 => by omega), rS.fr hfr (fun j h1 h2 => by omega), rT.fr hfr (fun j h1 h2 => by omega), r55.fr hfr (fun j h1 h2 => by omega), rG.fr' hfr (fun j h1 h2 => by omega), rL.fr hfr (fun j h1 h2 => by omega), at_fr r68 hfr (fun j h1 h2 => by omega), ChS.of d69 d70 d71 d72 (lo_ok (inv_f hI hx)), d73, eX.y, rR.fr hfr (fun j h1 h2 => by omega)⟩
/-! the ring -/
theorem rsrch_cg {m : Nat} {ch : Nat → Nat} : ∀ (k : Nat) (o o' : Nat → Nat) (S S' : Nat × (Nat → Nat)), (∀ x, x < m → o x = o' x) → S.1 = S'.1 → (∀ x, x < m → S.2 x = S'.2 x) → (rsrch m ch k o S).1 = (rsrch m ch k o' S').1 ∧ ∀ x, x < m → (rsrch m ch k o S).2 x = (rsrch m ch k o' S').2 x
  | 0, _, _, _, _, _, h1, h2 => ⟨h1, h2⟩
  | k + 1, o, o', S, S', ho, h1, h2 => by
    have hp : pivN o (m - 2) = pivN o' (m - 2) := by
      by_cases hm : 2 ≤ m
      · exact pivN_congr (fun j hj => ho j (by omega))
      · rw [show m - 2 = 0 by omega]; rfl
    unfold rsrch
    rw [hp]
    by_cases e : pivN o' (m - 2) = 0
    · rw [if_pos e, if_pos e]; exact ⟨h1, h2⟩
    · rw [if_neg e, if_neg e]
      have hm : 2 ≤ m := by
        apply Classical.byContradiction
        intro hm
        apply e
        rw [show m - 2 = 0 by omega]; rfl
      have hn := nxtO_congr ho hm
      have hs := sumO_congr (ch := ch) hn
      refine rsrch_cg k _ _ _ _ hn ?_ ?_
      · rw [hs, h1]; split <;> first | rfl | exact h1
      · intro x hx
        rw [hs, h1]
        split
        · exact hn x hx
        · exact h2 x hx
theorem gatN_cg (k : Nat) (f f' : Nat → Nat) : ∀ c, (gatN k f c).1 = (gatN k f' c).1 ∧ ∀ x, x < (gatN k f c).1 → (gatN k f c).2 x = (gatN k f' c).2 x
  | 0 => ⟨rfl, fun x hx => absurd hx (Nat.not_lt_zero _)⟩
  | c + 1 => by
    obtain ⟨h1, h2⟩ := gatN_cg k f f' c
    unfold gatN
    by_cases e : bitN k c = 1
    · rw [if_pos e, if_pos e]
      refine ⟨by rw [h1], fun x hx => ?_⟩
      dsimp only at hx ⊢
      rw [← h1]
      by_cases q : x = (gatN k f c).1
      · rw [q, updN_s, updN_s]
      · rw [updN_n _ _ q, updN_n _ _ q]; exact h2 x (by omega)
    · rw [if_neg e, if_neg e]; exact ⟨h1, h2⟩
theorem ringM_pos : ∀ k, k < 64 → 1 ≤ k → 0 < ringM k := by decide +kernel
theorem ringM_le (k : Nat) : ringM k ≤ 6 := gatN_le _ _ _
theorem shl_p : ∀ n, n < 7 → nI 1 <<< (nI n &&& 31) = nI (2 ^ n) := by decide +kernel
theorem p2_le : ∀ n, n < 7 → 2 ^ n ≤ 64 ∧ 1 ≤ 2 ^ n := by decide +kernel
theorem c_ring {s : St} {h : List PC} (hI : Inv s) (hR : RepC s h) (x : Int32) : Ct mX11_ring [.ref 0, .int x] h (RC (fRing s x) h) := by
  obtain ⟨r0, rSh, rF, rM, rC, rS, rT, r55, rG, rL, r68, r69, r73, rY, rR⟩ := id hR; obtain ⟨⟨i0, i1, i2, i3, i4, i5, i6, i7, i8, i9, i10, i11⟩, k1, k2, k3, k4, k5, k5z, k5s, k6, k6z, k7, k7s, k8s, k8z, k9, k10, k11, k11z, k50, k15, k16⟩ := id hI; obtain ⟨c21, c22, c29, c23, c30⟩ := id rC; obtain ⟨g96, g97, g98, ⟨glt, g104, e104⟩, ⟨go, g105, e105⟩⟩ := id rR
  have hp := p2_le (s 0 6) (by omega)
  refine ct_at (L := [_, _]) (by decide +kernel) rfl rfl (Nat.le_of_ble_eq_true rfl) ?_
  refine at_iload_n 1 dX11_ring_0 rfl rfl rfl ?_
  refine at_iconst 2 (nI 1) dX11_ring_1 rfl (by decide) ?_
  refine at_iconst 3 (nI 1) dX11_ring_2 rfl (by decide) ?_
  refine at_aload_n 4 dX11_ring_3 rfl rfl rfl ?_
  refine at_g 7 dX11_ring_4 rfl fl_X11_29 ⟨_, by assumption, ?_⟩
  refine ⟨_, rfl, ?_⟩
  refine at_g 10 dX11_ring_7 rfl fl_X11_250 ⟨_, by assumption, ?_⟩
  refine ⟨_, rfl, ?_⟩
  refine at_ishl 11 dX11_ring_10 rfl ?_
  rw [shl_p (s 0 6) (by omega)]
  refine at_iconst 12 (nI 1) dX11_ring_11 rfl (by decide) ?_
  first | refine at_isubN 13 dX11_ring_12 rfl (by omega) ?_ | refine at_isub 13 dX11_ring_12 rfl ?_
  refine at_invS 16 [_, _, _] _ (c_X11_isWithin x (nI 1) (nI (2 ^ s 0 6 - 1))) dX11_ring_13 rfl rfl ml_X11_94 cl_X11_isWithin sv_X11_isWithin rfl (Nat.le_of_ble_eq_true rfl) ⟨by decide, by decide⟩ (by decide) (fun rr hh qq => ?_)
  obtain ⟨rfl, hq2⟩ := qq; rw [hq2]; clear hq2 hh
  refine at_if_neB 22 19 dX11_ring_16 rfl rfl (fun cc => ?_) (fun cc => ?_)
  rotate_left
  · refine at_ldc 21 (-1000000000) dX11_ring_19 rfl cn_X11_102 ?_
    refine at_iret dX11_ring_21 rfl (by decide) (by decide) ?_
    exact rc_no (fun ⟨k, q1, q2, q3⟩ => wi_no cc (by omega) q3 q1 (by omega)) hR
  obtain ⟨k, h1, h2, rfl⟩ := wi_t cc (by omega) (by omega)
  clear cc
  obtain ⟨gm, gx2⟩ := gatN_cg k go (fun _ => 0) 6
  have hm0 := ringM_pos k (by omega) h1
  refine at_aload_n 23 dX11_ring_22 rfl rfl rfl ?_
  refine at_g 26 dX11_ring_23 rfl fl_X11_86 ⟨_, by assumption, ?_⟩
  refine ⟨_, rfl, ?_⟩
  refine at_iload_n 27 dX11_ring_26 rfl rfl rfl ?_
  refine at_invV (ci := 8) 30 [_] _ (c_X8_leastSum (s := k) g96 g97 g98 g104 g105 (by omega) rfl rfl (by rw [gm]; exact hm0) e105 k11) dX11_ring_27 rfl rfl (by assumption) rfl ml_X11_251 cl_X8_leastSum vl_X8_leastSum rfl (Nat.le_of_ble_eq_true rfl) ⟨by decide, by decide⟩ (by decide) (fun rr hh qq => ?_)
  obtain ⟨rfl, x96, x104, ⟨o', x105, xb⟩, hfr⟩ := qq
  have hcg := rsrch_cg (m := ringM k) (ch := s 11) 200 (gatN k go 6).2 (ringO k) (sumO (s 11) (gatN k go 6).2 (ringM k), (gatN k go 6).2) (sumO (s 11) (ringO k) (ringM k), ringO k) (fun x hx => gx2 x (by rw [gm]; exact hx)) (sumO_congr (fun x hx => gx2 x (by rw [gm]; exact hx))) (fun x hx => gx2 x (by rw [gm]; exact hx))
  have gm' : (gatN k go 6).1 = ringM k := gm
  rw [gm'] at x96 x104 ⊢
  refine at_iret dX11_ring_30 rfl (by decide) (by decide) ?_
  refine rc_yes ⟨k, h1, by omega, rfl⟩ (by rw [tn_nI (by omega), hcg.1]; rfl) ?_ (hfr.wk (fun j hj => by omega))
  rw [tn_nI (by omega)]
  refine ⟨at_fr r0 hfr (fun j h1 h2 => by omega), rSh.fr' hfr (fun j h1 h2 => by omega), rF.fr hfr (fun j h1 h2 => by omega), rM.fr hfr (fun j h1 h2 => by omega), rC.fr hfr (fun j h1 h2 => by omega), rS.fr hfr (fun j h1 h2 => by omega), rT.fr hfr (fun j h1 h2 => by omega), r55.fr hfr (fun j h1 h2 => by omega), rG.fr' hfr (fun j h1 h2 => by omega), rL.fr hfr (fun j h1 h2 => by omega), at_fr r68 hfr (fun j h1 h2 => by omega), r69.fr hfr (fun j h1 h2 => by omega), r73.fr hfr (fun j h1 h2 => by omega), rY.fr hfr (fun j h1 h2 => by omega), ⟨x96, at_fr g97 hfr (fun j h1 h2 => by omega), rows_fr g98 hfr (fun j h1 h2 => by omega), x104.cg (fun i hi => ?_), ⟨o', x105, xb⟩⟩⟩
  show (if i < ringM k then _ else glt i) = if i < ringM k then (ringR s k).2 i else s 17 i
  split
  · exact hcg.2 i (by assumption)
  · exact e104 i hi

