
theorem c_pull {s : St} {h : List PC} (hI : Inv s) (hR : RepC s h) (p : Int32) : Ct mX11_pull [.ref 0, .int p] h (RC (fPull s p) h) := by
  obtain ⟨r0, rSh, rF, rM, rC, rS, rT, r55, rG, rL, r68, r69, r73, rY, rR⟩ := id hR; obtain ⟨⟨i0, i1, i2, i3, i4, i5, i6, i7, i8, i9, i10, i11⟩, k1, k2, k3, k4, k5, k5z, k5s, k6, k6z, k7, k7s, k8s, k8z, k9, k10, k11, k11z, k50, k15, k16⟩ := id hI; obtain ⟨⟨sti, t39⟩, tA⟩ := id rT
  refine ct_at (L := [_, _, _]) (by decide +kernel) rfl rfl (Nat.le_of_ble_eq_true rfl) ?_
  refine at_iload_n 1 dX11_pull_0 rfl rfl rfl ?_
  refine at_iconst 2 (nI 1) dX11_pull_1 rfl (by decide) ?_
  refine at_aload_n 3 dX11_pull_2 rfl rfl rfl ?_
  refine at_g 6 dX11_pull_3 rfl fl_X11_47 ⟨_, by assumption, ?_⟩
  refine ⟨_, rfl, ?_⟩
  refine at_g 9 dX11_pull_6 rfl fl_X11_147 ⟨_, by assumption, ?_⟩
  refine ⟨_, rfl, ?_⟩
  refine at_invS 12 [_, _, _] _ (c_X11_isWithin p (nI 1) (nI (s 0 4))) dX11_pull_9 rfl rfl ml_X11_94 cl_X11_isWithin sv_X11_isWithin rfl (Nat.le_of_ble_eq_true rfl) ⟨by decide, by decide⟩ (by decide) (fun rr hh qq => ?_)
  obtain ⟨rfl, hq2⟩ := qq; rw [hq2]; clear hq2 hh
  refine at_if_neB 18 15 dX11_pull_12 rfl rfl (fun cc => ?_) (fun cc => ?_)
  rotate_left
  · refine at_ldc 17 (-1000000000) dX11_pull_15 rfl cn_X11_102 ?_
    refine at_iret dX11_pull_17 rfl (by decide) (by decide) ?_
    exact rc_no (fun ⟨j, q1, q2, q3⟩ => wi_no cc (by omega) q3 q1 q2) hR
  obtain ⟨j, h1, h2, rfl⟩ := wi_t cc (by omega) (by omega)
  have hfr : Fr (fun j => j = 39) h h := Fr.rf
  refine at_aload_n 19 dX11_pull_18 rfl rfl rfl ?_
  refine at_g 22 dX11_pull_19 rfl fl_X11_47 ⟨_, by assumption, ?_⟩
  refine ⟨_, rfl, ?_⟩
  refine at_g 25 dX11_pull_22 rfl fl_X11_141 ⟨_, by assumption, ?_⟩
  refine ⟨_, rfl, ?_⟩
  refine at_istore_n (L' := [_, _, _]) 26 dX11_pull_25 rfl rfl (by decide) rfl rfl ?_
  refine at_aload_n 27 dX11_pull_26 rfl rfl rfl ?_
  refine at_g 30 dX11_pull_27 rfl fl_X11_47 ⟨_, by assumption, ?_⟩
  refine ⟨_, rfl, ?_⟩
  refine at_iload_n 31 dX11_pull_30 rfl rfl rfl ?_
  refine at_pi 34 dX11_pull_31 rfl pl_X11_141 (rfl) (rfl) ⟨_, by assumption, ?_⟩
  refine ⟨(Nat.le_of_ble_eq_true rfl), [_, _, _, _, _, _, _, _], rfl, fun hh1 nn1 => ?_⟩
  replace r0 := nn1.o (by first | decide | omega | assumption) r0
  replace t39 := nn1.1
  replace hfr := hfr.nw nn1 (by first | (dsimp only; omega) | (dsimp only; done) | simp)
  clear nn1
  refine at_iload_n 35 dX11_pull_34 rfl rfl rfl ?_
  refine at_iret dX11_pull_35 rfl (by decide) (by decide) ?_
  refine rc_yes ⟨j, h1, h2, rfl⟩ rfl ?_ (hfr.wk (fun j hj => by omega))
  rw [tn_nI (by omega)]
  refine ⟨r0, rSh.fr' hfr (fun j h1 h2 => by omega), rF.fr hfr (fun j h1 h2 => by omega), rM.fr hfr (fun j h1 h2 => by omega), rC.fr hfr (fun j h1 h2 => by omega), rS.fr hfr (fun j h1 h2 => by omega), ⟨⟨_, t39⟩, ?_⟩, r55.fr hfr (fun j h1 h2 => by omega), rG.fr' hfr (fun j h1 h2 => by omega), rL.fr hfr (fun j h1 h2 => by omega), at_fr r68 hfr (fun j h1 h2 => by omega), r69.fr hfr (fun j h1 h2 => by omega), r73.fr hfr (fun j h1 h2 => by omega), rY.fr hfr (fun j h1 h2 => by omega), rR.fr hfr (fun j h1 h2 => by omega)⟩
  obtain ⟨a1, a2, a3, a4⟩ := tA
  exact ⟨at_fr a1 hfr (fun j h1 h2 => by omega), at_fr a2 hfr (fun j h1 h2 => by omega), fun c hc => (a3 c hc).fr hfr (by omega), fun c hc => by
    obtain ⟨F, k1, k2⟩ := a4 c hc
    exact ⟨F, at_fr k1 hfr (fun j h1 h2 => by omega), k2⟩⟩
theorem c_share {s : St} {h : List PC} (hI : Inv s) (hR : RepC s h) (f x : Int32) : Ct mX11_share [.ref 0, .int f, .int x] h (RC (fShare s f x) h) := by
  obtain ⟨r0, rSh, rF, rM, rC, rS, rT, r55, rG, rL, r68, r69, r73, rY, rR⟩ := id hR; obtain ⟨⟨i0, i1, i2, i3, i4, i5, i6, i7, i8, i9, i10, i11⟩, k1, k2, k3, k4, k5, k5z, k5s, k6, k6z, k7, k7s, k8s, k8z, k9, k10, k11, k11z, k50, k15, k16⟩ := id hI; obtain ⟨f4, ⟨kd, f5, e5⟩, f6, f7, ⟨db, f15, e15⟩, ⟨pr, f16, e16⟩, ⟨st, f17, e17⟩⟩ := id rF; obtain ⟨m18, ⟨sh, m19, e19⟩, ⟨tc, m20, e20⟩⟩ := id rM
  refine ct_at (L := [_, _, _, _]) (by decide +kernel) rfl rfl (Nat.le_of_ble_eq_true rfl) ?_
  refine at_aload_n 1 dX11_share_0 rfl rfl rfl ?_
  refine at_g 4 dX11_share_1 rfl fl_X11_15 ⟨_, by assumption, ?_⟩
  refine ⟨_, rfl, ?_⟩
  refine at_iload_n 5 dX11_share_4 rfl rfl rfl ?_
  refine at_invV (ci := 2) 8 [_] _ (c_X2_has f f4) dX11_share_5 rfl rfl (by assumption) rfl ml_X11_111 cl_X2_has vl_X2_has rfl (Nat.le_of_ble_eq_true rfl) ⟨by decide, by decide⟩ (by decide) (fun rr hh qq => ?_)
  obtain ⟨rfl, hq2⟩ := qq; rw [hq2]; clear hq2 hh
  refine at_if_eqB 22 11 dX11_share_8 rfl rfl (fun cc => ?_) (fun cc => ?_)
  · refine at_ldc 24 (-1000000000) dX11_share_22 rfl cn_X11_102 ?_
    refine at_iret dX11_share_24 rfl (by decide) (by decide) ?_
    exact rc_no (fun ⟨i, j, q1, q2, _⟩ => has_f cc (by omega) ⟨i, q1, q2⟩) hR
  obtain ⟨i, hi, rfl⟩ := has_t cc (by omega)
  clear cc
  refine at_iload_n 12 dX11_share_11 rfl rfl rfl ?_
  refine at_iconst 13 (nI 0) dX11_share_12 rfl (by decide) ?_
  refine at_sipush 16 (nI 1000) dX11_share_13 rfl (by decide) ?_
  refine at_invS 19 [_, _, _] _ (c_X11_isWithin x (nI 0) (nI 1000)) dX11_share_16 rfl rfl ml_X11_94 cl_X11_isWithin sv_X11_isWithin rfl (Nat.le_of_ble_eq_true rfl) ⟨by decide, by decide⟩ (by decide) (fun rr hh qq => ?_)
  obtain ⟨rfl, hq2⟩ := qq; rw [hq2]; clear hq2 hh
  refine at_if_neB 25 22 dX11_share_19 rfl rfl (fun cc => ?_) (fun cc => ?_)
  rotate_left
  · refine at_ldc 24 (-1000000000) dX11_share_22 rfl cn_X11_102 ?_
    refine at_iret dX11_share_24 rfl (by decide) (by decide) ?_
    exact rc_no (fun ⟨i, j, q1, q2, q3, q4⟩ => wi_no cc (by omega) q4 (by omega) q3) hR
  obtain ⟨j, h1, h2, rfl⟩ := wi_t cc (by omega) (by omega)
  have hfr : Fr (fun j => j = 20) h h := Fr.rf
  refine at_aload_n 26 dX11_share_25 rfl rfl rfl ?_
  refine at_g 29 dX11_share_26 rfl fl_X11_22 ⟨_, by assumption, ?_⟩
  refine ⟨_, rfl, ?_⟩
  refine at_g 32 dX11_share_29 rfl fl_X11_164 ⟨_, by assumption, ?_⟩
  refine ⟨_, rfl, ?_⟩
  refine at_iload_n 33 dX11_share_32 rfl rfl rfl ?_
  first | refine at_ia 34 dX11_share_33 rfl ⟨_, _, by assumption, by omega, by first | decide | omega, ?_⟩ | refine at_iaG 34 dX11_share_33 rfl ⟨_, _, by assumption, by omega, by first | decide | omega, ?_⟩
  refine at_istore_n (L' := [_, _, _, _]) 35 dX11_share_34 rfl rfl (by decide) rfl rfl ?_
  refine at_aload_n 36 dX11_share_35 rfl rfl rfl ?_
  refine at_g 39 dX11_share_36 rfl fl_X11_22 ⟨_, by assumption, ?_⟩
  refine ⟨_, rfl, ?_⟩
  refine at_g 42 dX11_share_39 rfl fl_X11_164 ⟨_, by assumption, ?_⟩
  refine ⟨_, rfl, ?_⟩
  refine at_iload_n 43 dX11_share_42 rfl rfl rfl ?_
  refine at_iload_n 44 dX11_share_43 rfl rfl rfl ?_
  first | refine at_is 45 dX11_share_44 rfl ⟨_, _, by assumption, by omega, by first | decide | omega, fun hh2 nn2 => ?_⟩ | refine at_isG 45 dX11_share_44 rfl ⟨_, _, by assumption, by omega, by first | decide | omega, fun hh2 nn2 => ?_⟩
  replace r0 := nn2.o (by first | decide | omega | assumption) r0
  replace m18 := nn2.o (by first | decide | omega | assumption) m18
  replace m20 := nn2.1
  replace hfr := hfr.nw nn2 (by first | (dsimp only; omega) | (dsimp only; done) | simp)
  clear nn2
  refine at_iload_n 46 dX11_share_45 rfl rfl rfl ?_
  refine at_iret dX11_share_46 rfl (by decide) (by decide) ?_
  refine rc_yes ⟨i, j, hi, rfl, h2, rfl⟩ (by rw [tn_nI (by omega), e20 i (by omega)]) ?_ (hfr.wk (fun j hj => by omega))
  rw [tn_nI (by omega), tn_nI (by omega)]
  refine ⟨r0, rSh.fr' hfr (fun j h1 h2 => by omega), rF.fr hfr (fun j h1 h2 => by omega), ⟨m18, (rM.2.1).gt hfr (fun j h1 h2 => by omega), Ar.up m20 e20 rfl⟩, rC.fr hfr (fun j h1 h2 => by omega), rS.fr hfr (fun j h1 h2 => by omega), rT.fr hfr (fun j h1 h2 => by omega), r55.fr hfr (fun j h1 h2 => by omega), rG.fr' hfr (fun j h1 h2 => by omega), rL.fr hfr (fun j h1 h2 => by omega), at_fr r68 hfr (fun j h1 h2 => by omega), r69.fr hfr (fun j h1 h2 => by omega), r73.fr hfr (fun j h1 h2 => by omega), rY.fr hfr (fun j h1 h2 => by omega), rR.fr hfr (fun j h1 h2 => by omega)⟩
theorem c_mix {s : St} {h : List PC} (hI : Inv s) (hR : RepC s h) : Ct mX11_mix [.ref 0] h (RC (fMix s) h) := by
  obtain ⟨r0, rSh, rF, rM, rC, rS, rT, r55, rG, rL, r68, r69, r73, rY, rR⟩ := id hR; obtain ⟨⟨i0, i1, i2, i3, i4, i5, i6, i7, i8, i9, i10, i11⟩, k1, k2, k3, k4, k5, k5z, k5s, k6, k6z, k7, k7s, k8s, k8z, k9, k10, k11, k11z, k50, k15, k16⟩ := id hI; obtain ⟨m18, ⟨sh, m19, e19⟩, ⟨tc, m20, e20⟩⟩ := id rM
  have hs : sm tc 8 = sm (s 6) 8 := sm_congr e20
  have hb : sm (s 6) 8 ≤ 8 * 1000 := sm_bound k6
  refine ct_at (L := [_]) (by decide +kernel) rfl rfl (Nat.le_of_ble_eq_true rfl) ?_
  refine at_aload_n 1 dX11_mix_0 rfl rfl rfl ?_
  refine at_g 4 dX11_mix_1 rfl fl_X11_22 ⟨_, by assumption, ?_⟩
  refine ⟨_, rfl, ?_⟩
  refine at_g 7 dX11_mix_4 rfl fl_X11_164 ⟨_, by assumption, ?_⟩
  refine ⟨_, rfl, ?_⟩
  refine at_invS 10 [_] _ (c_X11_sumOf m20) dX11_mix_7 rfl rfl ml_X11_167 cl_X11_sumOf sv_X11_sumOf rfl (Nat.le_of_ble_eq_true rfl) ⟨by decide, by decide⟩ (by decide) (fun rr hh qq => ?_)
  obtain ⟨rfl, hq2⟩ := qq; rw [hq2]; clear hq2 hh
  refine at_sipush 13 (nI 1000) dX11_mix_10 rfl (by decide) ?_
  refine at_icmp_eqN 19 16 dX11_mix_13 rfl rfl (by omega) (by omega) (fun cc => ?_) (fun cc => ?_)
  rotate_left
  · refine at_ldc 18 (-1000000000) dX11_mix_16 rfl cn_X11_102 ?_
    refine at_iret dX11_mix_18 rfl (by decide) (by decide) ?_
    exact rc_no (by omega) hR
  refine at_aload_n 20 dX11_mix_19 rfl rfl rfl ?_
  refine at_g 23 dX11_mix_20 rfl fl_X11_22 ⟨_, by assumption, ?_⟩
  refine ⟨_, rfl, ?_⟩
  refine at_aload_n 24 dX11_mix_23 rfl rfl rfl ?_
  refine at_g 27 dX11_mix_24 rfl fl_X11_22 ⟨_, by assumption, ?_⟩
  refine ⟨_, rfl, ?_⟩
  refine at_g 30 dX11_mix_27 rfl fl_X11_164 ⟨_, by assumption, ?_⟩
  refine ⟨_, rfl, ?_⟩
  refine at_invV (ci := 6) 33 [_] _ (c_X6_become_self m18 m19 m20) dX11_mix_30 rfl rfl (by assumption) rfl ml_X11_171 cl_X6_become vl_X6_become rfl (Nat.le_of_ble_eq_true rfl) ⟨by decide, by decide⟩ (by decide) (fun rr hh qq => ?_)
  obtain ⟨rfl, x19, x20, x18, hfr⟩ := qq
  refine at_iconst 34 (nI 1) dX11_mix_33 rfl (by decide) ?_
  refine at_iret dX11_mix_34 rfl (by decide) (by decide) ?_
  refine rc_yes (by omega) rfl ?_ (hfr.wk (fun j hj => by omega))
  refine ⟨at_fr r0 hfr (fun j h1 h2 => by omega), rSh.fr' hfr (fun j h1 h2 => by omega), rF.fr hfr (fun j h1 h2 => by omega), ⟨x18, x19.cg e20, x20.cg e20⟩, rC.fr hfr (fun j h1 h2 => by omega), rS.fr hfr (fun j h1 h2 => by omega), rT.fr hfr (fun j h1 h2 => by omega), r55.fr hfr (fun j h1 h2 => by omega), rG.fr' hfr (fun j h1 h2 => by omega), rL.fr hfr (fun j h1 h2 => by omega), at_fr r68 hfr (fun j h1 h2 => by omega), r69.fr hfr (fun j h1 h2 => by omega), r73.fr hfr (fun j h1 h2 => by omega), rY.fr hfr (fun j h1 h2 => by omega), rR.fr hfr (fun j h1 h2 => by omega)⟩
theorem c_colour {s : St} {h : List PC} (hI : Inv s) (hR : RepC s h) : Ct mX11_colour [.ref 0] h (RC (fColour s) h) := by
  obtain ⟨r0, rSh, rF, rM, rC, rS, rT, r55, rG, rL, r68, r69, r73, rY, rR⟩ := id hR; obtain ⟨⟨i0, i1, i2, i3, i4, i5, i6, i7, i8, i9, i10, i11⟩, k1, k2, k3, k4, k5, k5z, k5s, k6, k6z, k7, k7s, k8s, k8z, k9, k10, k11, k11z, k50, k15, k16⟩ := id hI; obtain ⟨c21, c22, c29, c23, c30⟩ := id rC
  refine ct_at (L := [_]) (by decide +kernel) rfl rfl (Nat.le_of_ble_eq_true rfl) ?_
  refine at_aload_n 1 dX11_colour_0 rfl rfl rfl ?_
  refine at_g 4 dX11_colour_1 rfl fl_X11_29 ⟨_, by assumption, ?_⟩
  refine ⟨_, rfl, ?_⟩
  by_cases hn : s 0 6 < 6
  · obtain ⟨wa, g1, -⟩ := c23 _ hn
    obtain ⟨wb, g2, -⟩ := c30 _ hn
    refine at_invV (ci := 1) 7 [] _ (c_X1_add c21 c22 c29 g1 g2 hn) dX11_colour_4 rfl rfl (by assumption) rfl ml_X11_175 cl_X1_add vl_X1_add rfl (Nat.le_of_ble_eq_true rfl) ⟨by decide, by decide⟩ (by decide) (fun rr hh qq => ?_)
    obtain ⟨rfl, x21, x23, x30, hfr⟩ := qq
    refine at_iret dX11_colour_7 rfl (by decide) (by decide) ?_
    refine rc_yes hn rfl ?_ (hfr.wk (fun j hj => by omega))
    refine ⟨at_fr r0 hfr (fun j h1 h2 => by omega), rSh.fr' hfr (fun j h1 h2 => by omega), rF.fr hfr (fun j h1 h2 => by omega), rM.fr hfr (fun j h1 h2 => by omega), ⟨x21, at_fr c22 hfr (fun j h1 h2 => by omega), at_fr c29 hfr (fun j h1 h2 => by omega), fun c hc => ?_, fun c hc => ?_⟩, rS.fr hfr (fun j h1 h2 => by omega), rT.fr hfr (fun j h1 h2 => by omega), r55.fr hfr (fun j h1 h2 => by omega), rG.fr' hfr (fun j h1 h2 => by omega), rL.fr hfr (fun j h1 h2 => by omega), at_fr r68 hfr (fun j h1 h2 => by omega), r69.fr hfr (fun j h1 h2 => by omega), r73.fr hfr (fun j h1 h2 => by omega), rY.fr hfr (fun j h1 h2 => by omega), rR.fr hfr (fun j h1 h2 => by omega)⟩
    · by_cases e : c = s 0 6
      · subst e
        exact x23.cg (fun t ht => (if_pos (by omega : 4 * s 0 6 ≤ 4 * s 0 6 + t ∧ 4 * s 0 6 + t < 4 * s 0 6 + 4)).symm)
      · exact ((c23 c hc).fr hfr (by omega)).cg (fun t ht => (if_neg (by omega : ¬ (4 * s 0 6 ≤ 4 * c + t ∧ 4 * c + t < 4 * s 0 6 + 4))).symm)
    · by_cases e : c = s 0 6
      · subst e
        exact x30.cg (fun t ht => (if_pos (by omega : 4 * s 0 6 ≤ 4 * s 0 6 + t ∧ 4 * s 0 6 + t < 4 * s 0 6 + 4)).symm)
      · exact ((c30 c hc).fr hfr (by omega)).cg (fun t ht => (if_neg (by omega : ¬ (4 * s 0 6 ≤ 4 * c + t ∧ 4 * c + t < 4 * s 0 6 + 4))).symm)
  · refine at_invV (ci := 1) 7 [] _ (c_X1_add_full c21 (by omega) (by omega)) dX11_colour_4 rfl rfl (by assumption) rfl ml_X11_175 cl_X1_add vl_X1_add rfl (Nat.le_of_ble_eq_true rfl) ⟨by decide, by decide⟩ (by decide) (fun rr hh qq => ?_)
    obtain ⟨rfl, hq2⟩ := qq; rw [hq2]; clear hq2 hh
    refine at_iret dX11_colour_7 rfl (by decide) (by decide) ?_
    exact rc_no hn hR
theorem row_up {h : List PC} {b n m c t x : Nat} {w f : Nat → Nat} (e : h[b + c]? = some (aI n (updN w t x))) (hw : ∀ j, j < n → w j = f (m * c + j)) (ht : t < n) : Ar h (b + c) n (fun j => updN f (m * c + t) x (m * c + j)) := ⟨_, e, fun j hj => by
  show updN w t x j = updN f (m * c + t) x (m * c + j)
  by_cases q : j = t
  · subst q; rw [updN_s, updN_s]
  · rw [updN_n _ _ q, updN_n _ _ (by omega), hw j hj]⟩
theorem row_no {f : Nat → Nat} {n c c' t x : Nat} (hc : c ≠ c') (ht : t < n) : ∀ j, j < n → f (n * c + j) = updN f (n * c' + t) x (n * c + j) := fun j hj => by
  rw [updN_n]
  intro e
  apply hc
  have h1 : (n * c + j) / n = c := by rw [Nat.mul_add_div (by omega), Nat.div_eq_of_lt hj]; omega
  have h2 : (n * c' + t) / n = c' := by rw [Nat.mul_add_div (by omega), Nat.div_eq_of_lt ht]; omega
  rw [← h1, ← h2, e]
theorem c_span {s : St} {h : List PC} (hI : Inv s) (hR : RepC s h) (c t a b : Int32) : Ct mX11_span [.ref 0, .int c, .int t, .int a, .int b] h (RC (fSpan s c t a b) h) := by
  obtain ⟨r0, rSh, rF, rM, rC, rS, rT, r55, rG, rL, r68, r69, r73, rY, rR⟩ := id hR; obtain ⟨⟨i0, i1, i2, i3, i4, i5, i6, i7, i8, i9, i10, i11⟩, k1, k2, k3, k4, k5, k5z, k5s, k6, k6z, k7, k7s, k8s, k8z, k9, k10, k11, k11z, k50, k15, k16⟩ := id hI; obtain ⟨c21, c22, c29, c23, c30⟩ := id rC
  refine ct_at (L := [_, _, _, _, _]) (by decide +kernel) rfl rfl (Nat.le_of_ble_eq_true rfl) ?_
  refine at_aload_n 1 dX11_span_0 rfl rfl rfl ?_
  refine at_g 4 dX11_span_1 rfl fl_X11_29 ⟨_, by assumption, ?_⟩
  refine ⟨_, rfl, ?_⟩
  refine at_iload_n 5 dX11_span_4 rfl rfl rfl ?_
  refine at_invV (ci := 1) 8 [_] _ (c_X1_has c c21) dX11_span_5 rfl rfl (by assumption) rfl ml_X11_178 cl_X1_has vl_X1_has rfl (Nat.le_of_ble_eq_true rfl) ⟨by decide, by decide⟩ (by decide) (fun rr hh qq => ?_)
  obtain ⟨rfl, hq2⟩ := qq; rw [hq2]; clear hq2 hh
  refine at_if_eqB 18 11 dX11_span_8 rfl rfl (fun cc => ?_) (fun cc => ?_)
  · refine at_ldc 20 (-1000000000) dX11_span_18 rfl cn_X11_102 ?_
    refine at_iret dX11_span_20 rfl (by decide) (by decide) ?_
    exact rc_no (fun ⟨c', t', a', b', q1, q2, q3, q4, z1, z2, z3, z4⟩ => has_f cc (by omega) ⟨c', q1, z1⟩) hR
  obtain ⟨c', hc, rfl⟩ := has_t cc (by omega)
  clear cc
  refine at_iload_n 12 dX11_span_11 rfl rfl rfl ?_
  refine at_invS 15 [_] _ (c_X11_isThing t) dX11_span_12 rfl rfl ml_X11_153 cl_X11_isThing sv_X11_isThing rfl (Nat.le_of_ble_eq_true rfl) ⟨by decide, by decide⟩ (by decide) (fun rr hh qq => ?_)
  obtain ⟨rfl, hq2⟩ := qq; rw [hq2]; clear hq2 hh
  refine at_if_neB 21 18 dX11_span_15 rfl rfl (fun cc => ?_) (fun cc => ?_)
  rotate_left
  · refine at_ldc 20 (-1000000000) dX11_span_18 rfl cn_X11_102 ?_
    refine at_iret dX11_span_20 rfl (by decide) (by decide) ?_
    exact rc_no (fun ⟨c', t', a', b', q1, q2, q3, q4, z1, z2, z3, z4⟩ => wi_no cc (by omega) z2 (by omega) (by omega)) hR
  obtain ⟨t', -, ht, rfl⟩ := wi_t cc (by omega) (by omega)
  clear cc
  refine at_iload_n 22 dX11_span_21 rfl rfl rfl ?_
  refine at_iconst 23 (nI 0) dX11_span_22 rfl (by decide) ?_
  refine at_sipush 26 (nI 1000) dX11_span_23 rfl (by decide) ?_
  refine at_invS 29 [_, _, _] _ (c_X11_isWithin a (nI 0) (nI 1000)) dX11_span_26 rfl rfl ml_X11_94 cl_X11_isWithin sv_X11_isWithin rfl (Nat.le_of_ble_eq_true rfl) ⟨by decide, by decide⟩ (by decide) (fun rr hh qq => ?_)
  obtain ⟨rfl, hq2⟩ := qq; rw [hq2]; clear hq2 hh
  refine at_if_eqB 50 32 dX11_span_29 rfl rfl (fun cc => ?_) (fun cc => ?_)
  · refine at_ldc 52 (-1000000000) dX11_span_50 rfl cn_X11_102 ?_
    refine at_iret dX11_span_52 rfl (by decide) (by decide) ?_
    exact rc_no (fun ⟨c', t', a', b', q1, q2, q3, q4, z1, z2, z3, z4⟩ => wi_no cc (by omega) z3 (by omega) (by omega)) hR
  obtain ⟨a', -, ha, rfl⟩ := wi_t cc (by omega) (by omega)
  clear cc
  refine at_iload 34 dX11_span_32 rfl rfl ?_
  refine at_iconst 35 (nI 0) dX11_span_34 rfl (by decide) ?_
  refine at_sipush 38 (nI 1000) dX11_span_35 rfl (by decide) ?_
  refine at_invS 41 [_, _, _] _ (c_X11_isWithin b (nI 0) (nI 1000)) dX11_span_38 rfl rfl ml_X11_94 cl_X11_isWithin sv_X11_isWithin rfl (Nat.le_of_ble_eq_true rfl) ⟨by decide, by decide⟩ (by decide) (fun rr hh qq => ?_)
  obtain ⟨rfl, hq2⟩ := qq; rw [hq2]; clear hq2 hh
  refine at_if_eqB 50 44 dX11_span_41 rfl rfl (fun cc => ?_) (fun cc => ?_)
  · refine at_ldc 52 (-1000000000) dX11_span_50 rfl cn_X11_102 ?_
    refine at_iret dX11_span_52 rfl (by decide) (by decide) ?_
    exact rc_no (fun ⟨c', t', a', b', q1, q2, q3, q4, z1, z2, z3, z4⟩ => wi_no cc (by omega) z4 (by omega) (by omega)) hR
  obtain ⟨b', -, hb, rfl⟩ := wi_t cc (by omega) (by omega)
  clear cc
  refine at_iload_n 45 dX11_span_44 rfl rfl rfl ?_
  refine at_iload 47 dX11_span_45 rfl rfl ?_
  refine at_icmp_leN 53 50 dX11_span_47 rfl rfl (by omega) (by omega) (fun cc => ?_) (fun cc => ?_)
  rotate_left
  · refine at_ldc 52 (-1000000000) dX11_span_50 rfl cn_X11_102 ?_
    refine at_iret dX11_span_52 rfl (by decide) (by decide) ?_
    exact rc_no (fun ⟨c2, t2, a2, b2, q1, q2, q3, q4, z1, z2, z3, z4⟩ => by
      have e1 := nI_inj z3 (by omega) (by omega)
      have e2 := nI_inj z4 (by omega) (by omega)
      omega) hR
  obtain ⟨wl, gl, el⟩ := c23 c' (by omega)
  obtain ⟨wm, gm, em⟩ := c30 c' (by omega)
  have hfr : Fr (fun j => j = 23 + c' ∨ j = 30 + c') h h := Fr.rf
  refine at_aload_n 54 dX11_span_53 rfl rfl rfl ?_
  refine at_g 57 dX11_span_54 rfl fl_X11_29 ⟨_, by assumption, ?_⟩
  refine ⟨_, rfl, ?_⟩
  refine at_g 60 dX11_span_57 rfl fl_X11_179 ⟨_, by assumption, ?_⟩
  refine ⟨_, rfl, ?_⟩
  refine at_iload_n 61 dX11_span_60 rfl rfl rfl ?_
  refine at_aa 62 dX11_span_61 rfl ⟨_, _, by assumption, by omega, by first | decide | omega, ?_⟩
  refine ⟨_, rowsAt_in (by omega), ?_⟩
  refine at_iload_n 63 dX11_span_62 rfl rfl rfl ?_
  refine at_iload_n 64 dX11_span_63 rfl rfl rfl ?_
  first | refine at_is 65 dX11_span_64 rfl ⟨_, _, by assumption, by omega, by first | decide | omega, fun hh3 nn3 => ?_⟩ | refine at_isG 65 dX11_span_64 rfl ⟨_, _, by assumption, by omega, by first | decide | omega, fun hh3 nn3 => ?_⟩
  replace r0 := nn3.o (by first | decide | omega | assumption) r0
  replace c21 := nn3.o (by first | decide | omega | assumption) c21
  replace c22 := nn3.o (by first | decide | omega | assumption) c22
  replace c29 := nn3.o (by first | decide | omega | assumption) c29
  replace gl := nn3.1
  replace gm := nn3.o (by first | decide | omega | assumption) gm
  replace hfr := hfr.nw nn3 (by first | (dsimp only; omega) | (dsimp only; done) | simp)
  clear nn3
  refine at_aload_n 66 dX11_span_65 rfl rfl rfl ?_
  refine at_g 69 dX11_span_66 rfl fl_X11_29 ⟨_, by assumption, ?_⟩
  refine ⟨_, rfl, ?_⟩
  refine at_g 72 dX11_span_69 rfl fl_X11_182 ⟨_, by assumption, ?_⟩
  refine ⟨_, rfl, ?_⟩
  refine at_iload_n 73 dX11_span_72 rfl rfl rfl ?_
  refine at_aa 74 dX11_span_73 rfl ⟨_, _, by assumption, by omega, by first | decide | omega, ?_⟩
  refine ⟨_, rowsAt_in (by omega), ?_⟩
  refine at_iload_n 75 dX11_span_74 rfl rfl rfl ?_
  refine at_iload 77 dX11_span_75 rfl rfl ?_
  first | refine at_is 78 dX11_span_77 rfl ⟨_, _, by assumption, by omega, by first | decide | omega, fun hh4 nn4 => ?_⟩ | refine at_isG 78 dX11_span_77 rfl ⟨_, _, by assumption, by omega, by first | decide | omega, fun hh4 nn4 => ?_⟩
  replace r0 := nn4.o (by first | decide | omega | assumption) r0
  replace c21 := nn4.o (by first | decide | omega | assumption) c21
  replace c22 := nn4.o (by first | decide | omega | assumption) c22
  replace c29 := nn4.o (by first | decide | omega | assumption) c29
  replace gl := nn4.o (by first | decide | omega | assumption) gl
  replace gm := nn4.1
  replace hfr := hfr.nw nn4 (by first | (dsimp only; omega) | (dsimp only; done) | simp)
  clear nn4
  refine at_iconst 79 (nI 1) dX11_span_78 rfl (by decide) ?_
  refine at_iret dX11_span_79 rfl (by decide) (by decide) ?_
  refine rc_yes ⟨c', t', a', b', hc, by omega, cc, hb, rfl, rfl, rfl, rfl⟩ rfl ?_ (hfr.wk (fun j hj => by omega))
  rw [tn_nI (by omega), tn_nI (by omega), tn_nI (by omega), tn_nI (by omega)]
  refine ⟨r0, rSh.fr' hfr (fun j h1 h2 => by omega), rF.fr hfr (fun j h1 h2 => by omega), rM.fr hfr (fun j h1 h2 => by omega), ⟨c21, c22, c29, fun c hc => ?_, fun c hc => ?_⟩, rS.fr hfr (fun j h1 h2 => by omega), rT.fr hfr (fun j h1 h2 => by omega), r55.fr hfr (fun j h1 h2 => by omega), rG.fr' hfr (fun j h1 h2 => by omega), rL.fr hfr (fun j h1 h2 => by omega), at_fr r68 hfr (fun j h1 h2 => by omega), r69.fr hfr (fun j h1 h2 => by omega), r73.fr hfr (fun j h1 h2 => by omega), rY.fr hfr (fun j h1 h2 => by omega), rR.fr hfr (fun j h1 h2 => by omega)⟩
  · by_cases e : c = c'
    · subst e; exact row_up gl el (by omega)
    · exact ((c23 c hc).fr hfr (by omega)).cg (row_no e (by omega))
  · by_cases e : c = c'
    · subst e; exact row_up gm em (by omega)
    · exact ((c30 c hc).fr hfr (by omega)).cg (row_no e (by omega))
theorem c_sure {s : St} {h : List PC} (hI : Inv s) (hR : RepC s h) (c : Int32) : Ct mX11_sure [.ref 0, .int c] h (RC (fSure s c) h) := by
  obtain ⟨r0, rSh, rF, rM, rC, rS, rT, r55, rG, rL, r68, r69, r73, rY, rR⟩ := id hR; obtain ⟨⟨i0, i1, i2, i3, i4, i5, i6, i7, i8, i9, i10, i11⟩, k1, k2, k3, k4, k5, k5z, k5s, k6, k6z, k7, k7s, k8s, k8z, k9, k10, k11, k11z, k50, k15, k16⟩ := id hI; obtain ⟨c21, c22, c29, c23, c30⟩ := id rC; obtain ⟨m18, ⟨sh, m19, e19⟩, ⟨tc, m20, e20⟩⟩ := id rM; obtain ⟨f4, ⟨kd, f5, e5⟩, f6, f7, ⟨db, f15, e15⟩, ⟨pr, f16, e16⟩, ⟨st, f17, e17⟩⟩ := id rF
  refine ct_at (L := [_, _]) (by decide +kernel) rfl rfl (Nat.le_of_ble_eq_true rfl) ?_
  refine at_aload_n 1 dX11_sure_0 rfl rfl rfl ?_
  refine at_g 4 dX11_sure_1 rfl fl_X11_29 ⟨_, by assumption, ?_⟩
  refine ⟨_, rfl, ?_⟩
  refine at_iload_n 5 dX11_sure_4 rfl rfl rfl ?_
  refine at_invV (ci := 1) 8 [_] _ (c_X1_has c c21) dX11_sure_5 rfl rfl (by assumption) rfl ml_X11_178 cl_X1_has vl_X1_has rfl (Nat.le_of_ble_eq_true rfl) ⟨by decide, by decide⟩ (by decide) (fun rr hh qq => ?_)
  obtain ⟨rfl, hq2⟩ := qq; rw [hq2]; clear hq2 hh
  refine at_if_eqB 21 11 dX11_sure_8 rfl rfl (fun cc => ?_) (fun cc => ?_)
  · refine at_ldc 23 (-1000000000) dX11_sure_21 rfl cn_X11_102 ?_
    refine at_iret dX11_sure_23 rfl (by decide) (by decide) ?_
    exact rc_no (fun ⟨c', q1, q2, q3⟩ => has_f cc (by omega) ⟨c', q1, q2⟩) hR
  obtain ⟨c', hc, rfl⟩ := has_t cc (by omega)
  clear cc
  refine at_aload_n 12 dX11_sure_11 rfl rfl rfl ?_
  refine at_g 15 dX11_sure_12 rfl fl_X11_22 ⟨_, by assumption, ?_⟩
  refine ⟨_, rfl, ?_⟩
  refine at_g 18 dX11_sure_15 rfl fl_X11_185 ⟨_, by assumption, ?_⟩
  refine ⟨_, rfl, ?_⟩
  refine at_if_neN 24 21 dX11_sure_18 rfl rfl (by omega) (fun cc => ?_) (fun cc => ?_)
  rotate_left
  · refine at_ldc 23 (-1000000000) dX11_sure_21 rfl cn_X11_102 ?_
    refine at_iret dX11_sure_23 rfl (by decide) (by decide) ?_
    exact rc_no (fun ⟨c', q1, q2, q3⟩ => by omega) hR
  refine at_aload_n 25 dX11_sure_24 rfl rfl rfl ?_
  refine at_g 28 dX11_sure_25 rfl fl_X11_29 ⟨_, by assumption, ?_⟩
  refine ⟨_, rfl, ?_⟩
  refine at_iload_n 29 dX11_sure_28 rfl rfl rfl ?_
  refine at_aload_n 30 dX11_sure_29 rfl rfl rfl ?_
  refine at_g 33 dX11_sure_30 rfl fl_X11_22 ⟨_, by assumption, ?_⟩
  refine ⟨_, rfl, ?_⟩
  refine at_g 36 dX11_sure_33 rfl fl_X11_133 ⟨_, by assumption, ?_⟩
  refine ⟨_, rfl, ?_⟩
  refine at_aload_n 37 dX11_sure_36 rfl rfl rfl ?_
  refine at_g 40 dX11_sure_37 rfl fl_X11_15 ⟨_, by assumption, ?_⟩
  refine ⟨_, rfl, ?_⟩
  refine at_invV (ci := 1) 43 [_, _, _] _ (c_X1_isSure (c := c') c21 c22 c29 (c23 c' (by omega)) (c30 c' (by omega)) f4 f6 f7 f15 m19 (by omega) i0 (fun f hf => by rw [e19 f hf]; exact k5 f hf) k7 (fun f hf => by rw [e15 f hf]; exact k2 f hf) (fun t ht => k9 _ (by omega)) (fun t ht => k10 _ (by omega))) dX11_sure_40 rfl rfl (by assumption) rfl ml_X11_186 cl_X1_isSure vl_X1_isSure rfl (Nat.le_of_ble_eq_true rfl) ⟨by decide, by decide⟩ (by decide) (fun rr hh qq => ?_)
  obtain ⟨rfl, hq2⟩ := qq; rw [hq2]; clear hq2 hh
  have e9 : sureB (s 9) (s 10) (s 7) db sh (s 0 0) c' = sureB (s 9) (s 10) (s 7) (s 2) (s 5) (s 0 0) c' := by
    rw [sureB_congr (fun j hj => e19 j (by omega))]
    unfold sureB
    refine allB_congr (fun t ht => ?_)
    have h1 : lowS (s 7) db (s 5) (s 0 0) t = lowS (s 7) (s 2) (s 5) (s 0 0) t := sm_congr (fun f hf => by rw [e15 f (by omega)])
    have h2 : highS (s 7) db (s 5) (s 0 0) t = highS (s 7) (s 2) (s 5) (s 0 0) t := sm_congr (fun f hf => by rw [e15 f (by omega)])
    rw [h1, h2]
  rw [e9]
  have ecc := cc
  refine at_if_eqB 50 46 dX11_sure_43 rfl rfl (fun cc => ?_) (fun cc => ?_)
  · refine at_iconst 51 (nI 0) dX11_sure_50 rfl (by decide) ?_
    refine at_iret dX11_sure_51 rfl (by decide) (by decide) ?_
    exact rc_yes ⟨c', hc, rfl, by omega⟩ (by rw [tn_nI (by omega), cc]; rfl) hR Fr.rf
  · refine at_iconst 47 (nI 1) dX11_sure_46 rfl (by decide) ?_
    refine at_goto 51 dX11_sure_47 rfl ?_
    refine at_iret dX11_sure_51 rfl (by decide) (by decide) ?_
    exact rc_yes ⟨c', hc, rfl, by omega⟩ (by rw [tn_nI (by omega), cc]; rfl) hR Fr.rf
theorem c_want {s : St} {h : List PC} (hI : Inv s) (hR : RepC s h) (c : Int32) : Ct mX11_want [.ref 0, .int c] h (RC (fWant s c) h) := by
  obtain ⟨r0, rSh, rF, rM, rC, rS, rT, r55, rG, rL, r68, r69, r73, rY, rR⟩ := id hR; obtain ⟨⟨i0, i1, i2, i3, i4, i5, i6, i7, i8, i9, i10, i11⟩, k1, k2, k3, k4, k5, k5z, k5s, k6, k6z, k7, k7s, k8s, k8z, k9, k10, k11, k11z, k50, k15, k16⟩ := id hI; obtain ⟨c21, c22, c29, c23, c30⟩ := id rC
  have fin : ∀ k, k ≤ s 0 6 → c = nI k - 1 → At mX11_want T0 19 [.ref 0, .int c, .null] [] h 0 0 (ZM mX11_want (RC (fWant s c) h)) := by
    intro k hk hc
    have hfr : Fr (fun j => j = 0) h h := Fr.rf
    refine at_aload_n 20 dX11_want_19 rfl rfl rfl ?_
    refine at_g 23 dX11_want_20 rfl fl_X11_90 ⟨_, by assumption, ?_⟩
    refine ⟨_, rfl, ?_⟩
    refine at_istore_n (L' := [_, _, _]) 24 dX11_want_23 rfl rfl (by decide) rfl rfl ?_
    refine at_aload_n 25 dX11_want_24 rfl rfl rfl ?_
    refine at_iload_n 26 dX11_want_25 rfl rfl rfl ?_
    refine at_pi 29 dX11_want_26 rfl pl_X11_90 (rfl) (rfl) ⟨_, by assumption, ?_⟩
    refine ⟨(Nat.le_of_ble_eq_true rfl), [_, _, _, _, _, _, _, _, _, _, _], rfl, fun hh5 nn5 => ?_⟩
    replace r0 := nn5.1
    replace hfr := hfr.nw nn5 (by first | (dsimp only; omega) | (dsimp only; done) | simp)
    clear nn5
    refine at_iload_n 30 dX11_want_29 rfl rfl rfl ?_
    refine at_iret dX11_want_30 rfl (by decide) (by decide) ?_
    refine rc_yes ⟨k, hk, hc⟩ rfl ?_ (hfr.wk (fun j hj => by omega))
    refine ⟨?_, rSh.fr' hfr (fun j h1 h2 => by omega), rF.fr hfr (fun j h1 h2 => by omega), rM.fr hfr (fun j h1 h2 => by omega), rC.fr hfr (fun j h1 h2 => by omega), rS.fr hfr (fun j h1 h2 => by omega), rT.fr hfr (fun j h1 h2 => by omega), r55.fr hfr (fun j h1 h2 => by omega), rG.fr' hfr (fun j h1 h2 => by omega), rL.fr hfr (fun j h1 h2 => by omega), at_fr r68 hfr (fun j h1 h2 => by omega), r69.fr hfr (fun j h1 h2 => by omega), r73.fr hfr (fun j h1 h2 => by omega), rY.fr hfr (fun j h1 h2 => by omega), rR.fr hfr (fun j h1 h2 => by omega)⟩
    rw [r0]
    show some (oTankObj c) = some (oTankObj (nI (tn (c + 1)) - 1))
    rw [hc, tn_nI1 (by omega)]
  refine ct_at (L := [_, _, _]) (by decide +kernel) rfl rfl (Nat.le_of_ble_eq_true rfl) ?_
  refine at_iload_n 1 dX11_want_0 rfl rfl rfl ?_
  refine at_iconst 2 (-1) dX11_want_1 rfl (by decide) ?_
  refine at_icmp_eq 19 5 dX11_want_2 rfl rfl (fun cc => ?_) (fun cc => ?_)
  · exact fin 0 (by omega) (by rw [cc]; decide)
  have c1 := cc
  refine at_aload_n 6 dX11_want_5 rfl rfl rfl ?_
  refine at_g 9 dX11_want_6 rfl fl_X11_29 ⟨_, by assumption, ?_⟩
  refine ⟨_, rfl, ?_⟩
  refine at_iload_n 10 dX11_want_9 rfl rfl rfl ?_
  refine at_invV (ci := 1) 13 [_] _ (c_X1_has c c21) dX11_want_10 rfl rfl (by assumption) rfl ml_X11_178 cl_X1_has vl_X1_has rfl (Nat.le_of_ble_eq_true rfl) ⟨by decide, by decide⟩ (by decide) (fun rr hh qq => ?_)
  obtain ⟨rfl, hq2⟩ := qq; rw [hq2]; clear hq2 hh
  refine at_if_neB 19 16 dX11_want_13 rfl rfl (fun cc => ?_) (fun cc => ?_)
  · obtain ⟨k, hk, rfl⟩ := has_t cc (by omega)
    exact fin (k + 1) (by omega) (by rw [nI_pred])
  · refine at_ldc 18 (-1000000000) dX11_want_16 rfl cn_X11_102 ?_
    refine at_iret dX11_want_18 rfl (by decide) (by decide) ?_
    refine rc_no (fun ⟨k, q1, q2⟩ => ?_) hR
    rcases Nat.eq_zero_or_pos k with q | q
    · subst q; exact c1 (by rw [q2]; decide)
    · obtain ⟨j, rfl⟩ : ∃ j, k = j + 1 := ⟨k - 1, by omega⟩
      rw [nI_pred] at q2
      exact has_f cc (by omega) ⟨j, by omega, q2⟩

