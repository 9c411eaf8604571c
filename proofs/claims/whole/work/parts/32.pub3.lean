
theorem wi_pred {x : Int32} {z : Nat} (hz : z < 2 ^ 31) : wi x (nI 0) (nI z - nI 1) = decide (0 ≤ x ∧ x < nI z) := by
  rcases Nat.eq_zero_or_pos z with q | q
  · subst q
    unfold wi
    rw [decide_eq_false, decide_eq_false]
    · rintro ⟨h1, h2⟩
      exact Int32.not_lt.mpr h1 h2
    · rintro ⟨h1, h2⟩
      have h3 : nI 0 ≤ nI 0 - nI 1 := Int32.le_trans h1 h2
      exact absurd h3 (by decide)
  · rw [pk_sub (by omega)]
    by_cases hx : x < 0
    · unfold wi
      rw [decide_eq_false (fun q => Int32.not_lt.mpr q.1 hx), decide_eq_false (fun q => Int32.not_lt.mpr q.1 hx)]
    · obtain ⟨j, hj, rfl⟩ := nI_of hx
      rw [wi_nI hj (by omega) (by omega)]
      by_cases e : j < z
      · rw [decide_eq_true (by omega), decide_eq_true ⟨nI_pos' hj, (nI_ltI hj hz).mpr e⟩]
      · rw [decide_eq_false (by omega), decide_eq_false (fun q => e ((nI_ltI hj hz).mp q.2))]
theorem inv_p {s : St} (hI : Inv s) (hm : s 0 2 = 1) : POk (s 8) (s 0 4) (s 0 5) (s 0 3) (s 0 0 * 4) := by
  obtain ⟨⟨i0, i1, i2, i3, i4, i5, i6, i7, i8, i9, i10, i11⟩, k1, k2, k3, k4, k5, k5z, k5s, k6, k6z, k7, k7s, k8s, k8z, k9, k10, k11, k11z, k50, k15, k16⟩ := id hI
  exact ⟨⟨by omega, by omega⟩, by omega, ⟨by omega, by omega, by omega⟩, k8s hm, k8z hm⟩
theorem inv_f {s : St} (hI : Inv s) (hm : s 0 1 = 1) : FmOk (s 0 0) (s 7) (s 5) := by
  obtain ⟨⟨i0, i1, i2, i3, i4, i5, i6, i7, i8, i9, i10, i11⟩, k1, k2, k3, k4, k5, k5z, k5s, k6, k6z, k7, k7s, k8s, k8z, k9, k10, k11, k11z, k50, k15, k16⟩ := id hI
  exact ⟨i0, k7s, k5s hm, k5z⟩
theorem rep_c {s : St} {h : List PC} (hR : RepC s h) : ∃ st, FcS h (s 0 0) (s 0 1) (s 0 6) (s 0 2) (s 0 3) (s 0 4) (s 0 5) st (s 7) (s 5) (s 9) (s 10) (s 8) := by
  obtain ⟨r0, rSh, rF, rM, rC, rS, rT, r55, rG, rL, r68, r69, r73, rY, rR⟩ := id hR
  obtain ⟨⟨sti, t39⟩, tA⟩ := rT
  exact ⟨sti, r68, ⟨rF.1, rF.2.2.1, rF.2.2.2.1⟩, ⟨rM.1, rM.2.1⟩, rC, t39, tA.1, tA.2.2.1⟩
theorem rep_x {s : St} {h : List PC} (hR : RepC s h) : FcX h (s 0 0 * 4) := by
  obtain ⟨r0, rSh, rF, rM, rC, rS, rT, r55, rG, rL, r68, r69, r73, rY, rR⟩ := id hR
  exact ⟨rSh, rY⟩
theorem c_tank {s : St} {h : List PC} (hI : Inv s) (hR : RepC s h) (n w p f : Int32) : Ct mX11_tank [.ref 0, .int n, .int w, .int p, .int f] h (RC (fTank s n w p f) h) := by
  obtain ⟨r0, rSh, rF, rM, rC, rS, rT, r55, rG, rL, r68, r69, r73, rY, rR⟩ := id hR; obtain ⟨⟨i0, i1, i2, i3, i4, i5, i6, i7, i8, i9, i10, i11⟩, k1, k2, k3, k4, k5, k5z, k5s, k6, k6z, k7, k7s, k8s, k8z, k9, k10, k11, k11z, k50, k15, k16⟩ := id hI; obtain ⟨f4, ⟨kd, f5, e5⟩, f6, f7, ⟨db, f15, e15⟩, ⟨pr, f16, e16⟩, ⟨st, f17, e17⟩⟩ := id rF; obtain ⟨⟨sti, t39⟩, tA⟩ := id rT; obtain ⟨l62, ⟨lth, l63, e63⟩, ⟨lld, l64, e64⟩, ⟨lgr, l65, e65⟩, ⟨lnm, l66, e66⟩, ⟨lws, l67, e67⟩⟩ := id rL
  refine ct_at (L := [_, _, _, _, _]) (by decide +kernel) rfl rfl (Nat.le_of_ble_eq_true rfl) ?_
  refine at_iload_n 1 dX11_tank_0 rfl rfl rfl ?_
  refine at_iconst 2 (nI 2) dX11_tank_1 rfl (by decide) ?_
  refine at_bipush 4 (nI 6) dX11_tank_2 rfl (by decide) ?_
  refine at_invS 7 [_, _, _] _ (c_X11_isWithin n (nI 2) (nI 6)) dX11_tank_4 rfl rfl ml_X11_94 cl_X11_isWithin sv_X11_isWithin rfl (Nat.le_of_ble_eq_true rfl) ⟨by decide, by decide⟩ (by decide) (fun rr hh qq => ?_)
  obtain ⟨rfl, hq2⟩ := qq; rw [hq2]; clear hq2 hh
  refine at_if_eqB 21 10 dX11_tank_7 rfl rfl (fun cc => ?_) (fun cc => ?_)
  · refine at_ldc 23 (-1000000000) dX11_tank_21 rfl cn_X11_102 ?_
    refine at_iret dX11_tank_23 rfl (by decide) (by decide) ?_
    exact rc_no (fun ⟨n', w', p', f', q1, q2, q3, q4, z1, z2, z3, z4⟩ => wi_no cc (by omega) z1 q1.1 q1.2) hR
  obtain ⟨n', n1, n2, rfl⟩ := wi_t cc (by omega) (by omega)
  clear cc
  refine at_iload_n 11 dX11_tank_10 rfl rfl rfl ?_
  refine at_bipush 13 (nI 100) dX11_tank_11 rfl (by decide) ?_
  refine at_ldc 15 (nI 100000) dX11_tank_13 rfl cn_X11_136 ?_
  refine at_invS 18 [_, _, _] _ (c_X11_isWithin w (nI 100) (nI 100000)) dX11_tank_15 rfl rfl ml_X11_94 cl_X11_isWithin sv_X11_isWithin rfl (Nat.le_of_ble_eq_true rfl) ⟨by decide, by decide⟩ (by decide) (fun rr hh qq => ?_)
  obtain ⟨rfl, hq2⟩ := qq; rw [hq2]; clear hq2 hh
  refine at_if_neB 24 21 dX11_tank_18 rfl rfl (fun cc => ?_) (fun cc => ?_)
  rotate_left
  · refine at_ldc 23 (-1000000000) dX11_tank_21 rfl cn_X11_102 ?_
    refine at_iret dX11_tank_23 rfl (by decide) (by decide) ?_
    exact rc_no (fun ⟨n', w', p', f', q1, q2, q3, q4, z1, z2, z3, z4⟩ => wi_no cc (by omega) z2 q2.1 q2.2) hR
  obtain ⟨w', w1, w2, rfl⟩ := wi_t cc (by omega) (by omega)
  clear cc
  refine at_iload_n 25 dX11_tank_24 rfl rfl rfl ?_
  refine at_iconst 26 (nI 1) dX11_tank_25 rfl (by decide) ?_
  refine at_iload_n 27 dX11_tank_26 rfl rfl rfl ?_
  refine at_invS 30 [_, _, _] _ (c_X11_isWithin p (nI 1) (nI w')) dX11_tank_27 rfl rfl ml_X11_94 cl_X11_isWithin sv_X11_isWithin rfl (Nat.le_of_ble_eq_true rfl) ⟨by decide, by decide⟩ (by decide) (fun rr hh qq => ?_)
  obtain ⟨rfl, hq2⟩ := qq; rw [hq2]; clear hq2 hh
  refine at_if_eqB 45 33 dX11_tank_30 rfl rfl (fun cc => ?_) (fun cc => ?_)
  · refine at_ldc 47 (-1000000000) dX11_tank_45 rfl cn_X11_102 ?_
    refine at_iret dX11_tank_47 rfl (by decide) (by decide) ?_
    exact rc_no (fun ⟨n2, w2, p2, f2, q1, q2, q3, q4, z1, z2, z3, z4⟩ => by
      have e1 := nI_inj z2 (by omega) (by omega)
      subst e1
      exact wi_no cc (by omega) z3 q3.1 q3.2) hR
  obtain ⟨p', p1, p2, rfl⟩ := wi_t cc (by omega) (by omega)
  clear cc
  refine at_aload_n 34 dX11_tank_33 rfl rfl rfl ?_
  refine at_g 37 dX11_tank_34 rfl fl_X11_15 ⟨_, by assumption, ?_⟩
  refine ⟨_, rfl, ?_⟩
  refine at_iload 39 dX11_tank_37 rfl rfl ?_
  refine at_invV (ci := 2) 42 [_] _ (c_X2_has f f4) dX11_tank_39 rfl rfl (by assumption) rfl ml_X11_111 cl_X2_has vl_X2_has rfl (Nat.le_of_ble_eq_true rfl) ⟨by decide, by decide⟩ (by decide) (fun rr hh qq => ?_)
  obtain ⟨rfl, hq2⟩ := qq; rw [hq2]; clear hq2 hh
  refine at_if_neB 48 45 dX11_tank_42 rfl rfl (fun cc => ?_) (fun cc => ?_)
  rotate_left
  · refine at_ldc 47 (-1000000000) dX11_tank_45 rfl cn_X11_102 ?_
    refine at_iret dX11_tank_47 rfl (by decide) (by decide) ?_
    exact rc_no (fun ⟨n2, w2, p2, f2, q1, q2, q3, q4, z1, z2, z3, z4⟩ => has_f cc (by omega) ⟨f2, q4, z4⟩) hR
  obtain ⟨f', hf, rfl⟩ := has_t cc (by omega)
  clear cc
  obtain ⟨wk, gk, ek⟩ := f7 f' (by omega)
  obtain ⟨s1, ⟨R, s2⟩, ⟨P, s3⟩⟩ := id rSh
  refine at_aload_n 49 dX11_tank_48 rfl rfl rfl ?_
  refine at_g 52 dX11_tank_49 rfl fl_X11_47 ⟨_, by assumption, ?_⟩
  refine ⟨_, rfl, ?_⟩
  refine at_iload_n 53 dX11_tank_52 rfl rfl rfl ?_
  refine at_iload_n 54 dX11_tank_53 rfl rfl rfl ?_
  refine at_iload 56 dX11_tank_54 rfl rfl ?_
  refine at_aload_n 57 dX11_tank_56 rfl rfl rfl ?_
  refine at_g 60 dX11_tank_57 rfl fl_X11_15 ⟨_, by assumption, ?_⟩
  refine ⟨_, rfl, ?_⟩
  refine at_g 63 dX11_tank_60 rfl fl_X11_120 ⟨_, by assumption, ?_⟩
  refine ⟨_, rfl, ?_⟩
  refine at_iload 65 dX11_tank_63 rfl rfl ?_
  refine at_aa 66 dX11_tank_65 rfl ⟨_, _, by assumption, by omega, by first | decide | omega, ?_⟩
  refine ⟨_, rowsAt_in (by omega), ?_⟩
  refine at_invV (ci := 10) 69 [_, _, _, _] _ (c_X10_fill (t := 39) (km := 7 + f') (by decide) (by omega) s1 s2 s3 t39 tA.1 tA.2.2.1 gk ((sm_congr ek).trans (k7s f' hf)) (by omega) (by omega) (by omega)) dX11_tank_66 rfl rfl (by assumption) rfl ml_X11_137 cl_X10_fill vl_X10_fill rfl (Nat.le_of_ble_eq_true rfl) ⟨by decide, by decide⟩ (by decide) (fun rr hh qq => ?_)
  obtain ⟨rfl, ⟨R', x2⟩, ⟨P', x3⟩, t39', xc, hfr0⟩ := qq
  have r0' := hfr0.at (k := 0) (by omega) r0
  have hfr : Fr (fun j => j = 2 ∨ j = 3 ∨ j = 39 ∨ (41 ≤ j ∧ j ≤ 46) ∨ j = 62) h hh := hfr0.wk (fun j hj => by omega)
  have hfr1 : Fr (fun j => j = 39) hh hh := Fr.rf
  have l62' := hfr0.at (k := 62) (by omega) l62
  clear hfr0
  refine at_aload_n 70 dX11_tank_69 rfl rfl rfl ?_
  refine at_g 73 dX11_tank_70 rfl fl_X11_47 ⟨_, by assumption, ?_⟩
  refine ⟨_, rfl, ?_⟩
  refine at_iload_n 74 dX11_tank_73 rfl rfl rfl ?_
  refine at_pi 77 dX11_tank_74 rfl pl_X11_141 (rfl) (rfl) ⟨_, by assumption, ?_⟩
  refine ⟨(Nat.le_of_ble_eq_true rfl), [_, _, _, _, _, _, _, _], rfl, fun hh1 nn1 => ?_⟩
  replace r0' := nn1.o (by first | decide | omega | assumption) r0'
  replace t39' := nn1.1
  replace l62' := nn1.o (by first | decide | omega | assumption) l62'
  replace hfr := hfr.nw nn1 (by first | (dsimp only; omega) | (dsimp only; done) | simp)
  replace hfr1 := hfr1.nw nn1 (by first | (dsimp only; omega) | (dsimp only; done) | simp)
  clear nn1
  refine at_aload_n 78 dX11_tank_77 rfl rfl rfl ?_
  refine at_g 81 dX11_tank_78 rfl fl_X11_70 ⟨_, by assumption, ?_⟩
  refine ⟨_, rfl, ?_⟩
  refine at_invV (ci := 5) 84 [] _ (c_X5_clear l62') dX11_tank_81 rfl rfl (by assumption) rfl ml_X11_144 cl_X5_clear vl_X5_clear rfl (Nat.le_of_ble_eq_true rfl) ⟨by decide, by decide⟩ (by decide) (fun rr hh qq => ?_)
  obtain ⟨rfl, y62, hfr3⟩ := qq
  refine at_iconst 85 (nI 1) dX11_tank_84 rfl (by decide) ?_
  refine at_iret dX11_tank_85 rfl (by decide) (by decide) ?_
  refine rc_yes ⟨n', w', p', f', ⟨n1, n2⟩, ⟨w1, w2⟩, ⟨p1, p2⟩, hf, rfl, rfl, rfl, rfl⟩ rfl ?_ ((hfr.wk (P' := fun j => j < 106) (fun j hj => by omega)).tr hfr3 (fun j hj => by omega))
  rw [tn_nI (by omega), tn_nI (by omega), tn_nI (by omega), tn_nI (by omega)]
  have hfr4 := hfr.tr hfr3 (fun j hj => by omega)
  have hfr5 : Fr (fun j => j = 39 ∨ j = 62) hh hh := Fr.rf
  have xc' := fun c hc => ((xc c hc).fr hfr1 (by omega)).fr hfr3 (by omega)
  refine ⟨at_fr r0 hfr4 (fun j h1 h2 => by omega), ⟨at_fr s1 hfr4 (fun j h1 h2 => by omega), ⟨R', at_fr (at_fr x2 hfr1 (fun j h1 h2 => by omega)) hfr3 (fun j h1 h2 => by omega)⟩, ⟨P', at_fr (at_fr x3 hfr1 (fun j h1 h2 => by omega)) hfr3 (fun j h1 h2 => by omega)⟩⟩, rF.fr hfr4 (fun j h1 h2 => by omega), rM.fr hfr4 (fun j h1 h2 => by omega), rC.fr hfr4 (fun j h1 h2 => by omega), rS.fr hfr4 (fun j h1 h2 => by omega), ⟨⟨_, at_fr t39' hfr3 (fun j h1 h2 => by omega)⟩, at_fr tA.1 hfr4 (fun j h1 h2 => by omega), at_fr tA.2.1 hfr4 (fun j h1 h2 => by omega), fun c hc => (xc' c hc).cg (fun i hi => ?_), fun c hc => ?_⟩, r55.fr hfr4 (fun j h1 h2 => by omega), rG.fr' hfr4 (fun j h1 h2 => by omega), ⟨y62, (rL.2.1).gt hfr4 (fun j h1 h2 => by omega), (rL.2.2.1).gt hfr4 (fun j h1 h2 => by omega), (rL.2.2.2.1).gt hfr4 (fun j h1 h2 => by omega), ⟨lnm, at_fr l66 hfr4 (fun j h1 h2 => by omega), e66⟩, ⟨lws, at_fr l67 hfr4 (fun j h1 h2 => by omega), e67⟩⟩, at_fr r68 hfr4 (fun j h1 h2 => by omega), r69.fr hfr4 (fun j h1 h2 => by omega), r73.fr hfr4 (fun j h1 h2 => by omega), rY.fr hfr4 (fun j h1 h2 => by omega), rR.fr hfr4 (fun j h1 h2 => by omega)⟩
  · show fillL (s 8) wk f' w' n' (32 * c + i) = fillL (s 8) (fun t => s 7 (4 * f' + t)) f' w' n' (32 * c + i)
    unfold fillL
    split
    · split
      · exact share_congr (by decide) ek _ (by omega)
      · rfl
    · rfl
  · obtain ⟨F, a1, a2⟩ := tA.2.2.2 c hc
    exact ⟨F, at_fr a1 hfr4 (fun j h1 h2 => by omega), a2⟩
theorem c_cell {s : St} {h : List PC} (hI : Inv s) (hR : RepC s h) (c f t : Int32) : Ct mX11_cell [.ref 0, .int c, .int f, .int t] h (RC (fCell s c f t) h) := by
  obtain ⟨r0, rSh, rF, rM, rC, rS, rT, r55, rG, rL, r68, r69, r73, rY, rR⟩ := id hR; obtain ⟨⟨i0, i1, i2, i3, i4, i5, i6, i7, i8, i9, i10, i11⟩, k1, k2, k3, k4, k5, k5z, k5s, k6, k6z, k7, k7s, k8s, k8z, k9, k10, k11, k11z, k50, k15, k16⟩ := id hI; obtain ⟨f4, ⟨kd, f5, e5⟩, f6, f7, ⟨db, f15, e15⟩, ⟨pr, f16, e16⟩, ⟨st, f17, e17⟩⟩ := id rF; obtain ⟨⟨sti, t39⟩, tA⟩ := id rT
  have last : ∀ c' fi ti, c' < s 0 3 → c = nI c' → fi ≤ s 0 0 → f = nI fi - 1 → ti ≤ 4 → t = nI ti - 1 → At mX11_cell T0 48 [.ref 0, .int c, .int f, .int t] [] h 0 0 (ZM mX11_cell (RC (fCell s c f t) h)) := by
    intro c' fi ti hc ec hf ef ht et
    refine at_aload_n 49 dX11_cell_48 rfl rfl rfl ?_
    refine at_g 52 dX11_cell_49 rfl fl_X11_47 ⟨_, by assumption, ?_⟩
    refine ⟨_, rfl, ?_⟩
    refine at_g 55 dX11_cell_52 rfl fl_X11_156 ⟨_, by assumption, ?_⟩
    refine ⟨_, rfl, ?_⟩
    refine at_if_neN 61 58 dX11_cell_55 rfl rfl (by omega) (fun cc => ?_) (fun cc => ?_)
    rotate_left
    · refine at_ldc 60 (-1000000000) dX11_cell_58 rfl cn_X11_102 ?_
      refine at_iret dX11_cell_60 rfl (by decide) (by decide) ?_
      exact rc_no (fun ⟨c', fi, ti, q1, q2, q3, q4, q5, q6, q7⟩ => by omega) hR
    subst ec
    have o1 : opt1 f fi := by
      rcases Nat.eq_zero_or_pos fi with q | q
      · subst q; exact Or.inl ⟨rfl, by rw [ef]; decide⟩
      · obtain ⟨j, rfl⟩ : ∃ j, fi = j + 1 := ⟨fi - 1, by omega⟩
        exact Or.inr ⟨j, by omega, rfl, by rw [ef, nI_pred]⟩
    have o2 : opt1 t ti := by
      rcases Nat.eq_zero_or_pos ti with q | q
      · subst q; exact Or.inl ⟨rfl, by rw [et]; decide⟩
      · obtain ⟨j, rfl⟩ : ∃ j, ti = j + 1 := ⟨ti - 1, by omega⟩
        exact Or.inr ⟨j, by omega, rfl, by rw [et, nI_pred]⟩
    refine at_aload_n 62 dX11_cell_61 rfl rfl rfl ?_
    refine at_g 65 dX11_cell_62 rfl fl_X11_47 ⟨_, by assumption, ?_⟩
    refine ⟨_, rfl, ?_⟩
    refine at_iload_n 66 dX11_cell_65 rfl rfl rfl ?_
    refine at_iload_n 67 dX11_cell_66 rfl rfl rfl ?_
    refine at_iload_n 68 dX11_cell_67 rfl rfl rfl ?_
    refine at_invV (ci := 10) 71 [_, _, _] _ (c_X10_gramsIn t39 tA.1 (by omega) (tA.2.2.1 c' (by omega)) o1 o2) dX11_cell_68 rfl rfl (by assumption) rfl ml_X11_160 cl_X10_gramsIn vl_X10_gramsIn rfl (Nat.le_of_ble_eq_true rfl) ⟨by decide, by decide⟩ (by decide) (fun rr hh qq => ?_)
    obtain ⟨rfl, hq2⟩ := qq; rw [hq2]; clear hq2 hh
    refine at_iret dX11_cell_71 rfl (by decide) (by decide) ?_
    refine rc_yes ⟨c', fi, ti, hc, rfl, hf, ef, ht, et, by omega⟩ ?_ hR Fr.rf
    rw [ef, et, tn_nI (by omega), tn_nI1 (by omega), tn_nI1 (by omega)]
  have mid : ∀ c' fi, c' < s 0 3 → c = nI c' → fi ≤ s 0 0 → f = nI fi - 1 → At mX11_cell T0 36 [.ref 0, .int c, .int f, .int t] [] h 0 0 (ZM mX11_cell (RC (fCell s c f t) h)) := by
    intro c' fi hc ec hf ef
    refine at_iload_n 37 dX11_cell_36 rfl rfl rfl ?_
    refine at_iconst 38 (-1) dX11_cell_37 rfl (by decide) ?_
    refine at_icmp_eq 48 41 dX11_cell_38 rfl rfl (fun cc => ?_) (fun cc => ?_)
    · exact last c' fi 0 hc ec hf ef (by omega) (by rw [cc]; decide)
    have c1 := cc
    refine at_iload_n 42 dX11_cell_41 rfl rfl rfl ?_
    refine at_invS 45 [_] _ (c_X11_isThing t) dX11_cell_42 rfl rfl ml_X11_153 cl_X11_isThing sv_X11_isThing rfl (Nat.le_of_ble_eq_true rfl) ⟨by decide, by decide⟩ (by decide) (fun rr hh qq => ?_)
    obtain ⟨rfl, hq2⟩ := qq; rw [hq2]; clear hq2 hh
    refine at_if_eqB 58 48 dX11_cell_45 rfl rfl (fun cc => ?_) (fun cc => ?_)
    · refine at_ldc 60 (-1000000000) dX11_cell_58 rfl cn_X11_102 ?_
      refine at_iret dX11_cell_60 rfl (by decide) (by decide) ?_
      refine rc_no (fun ⟨c', fi, ti, q1, q2, q3, q4, q5, q6, q7⟩ => ?_) hR
      rcases Nat.eq_zero_or_pos ti with q | q
      · subst q; exact c1 (by rw [q6]; decide)
      · obtain ⟨j, rfl⟩ : ∃ j, ti = j + 1 := ⟨ti - 1, by omega⟩
        rw [nI_pred] at q6
        exact wi_no cc (by omega) q6 (by omega) (by omega)
    · obtain ⟨t', -, ht, e⟩ := wi_t cc (by omega) (by omega)
      exact last c' fi (t' + 1) hc ec hf ef (by omega) (by rw [nI_pred]; exact e)
  refine ct_at (L := [_, _, _, _]) (by decide +kernel) rfl rfl (Nat.le_of_ble_eq_true rfl) ?_
  refine at_iload_n 1 dX11_cell_0 rfl rfl rfl ?_
  refine at_iconst 2 (nI 0) dX11_cell_1 rfl (by decide) ?_
  refine at_aload_n 3 dX11_cell_2 rfl rfl rfl ?_
  refine at_g 6 dX11_cell_3 rfl fl_X11_47 ⟨_, by assumption, ?_⟩
  refine ⟨_, rfl, ?_⟩
  refine at_g 9 dX11_cell_6 rfl fl_X11_150 ⟨_, by assumption, ?_⟩
  refine ⟨_, rfl, ?_⟩
  refine at_iconst 10 (nI 1) dX11_cell_9 rfl (by decide) ?_
  first | refine at_isubN 11 dX11_cell_10 rfl (by omega) ?_ | refine at_isub 11 dX11_cell_10 rfl ?_
  refine at_invS 14 [_, _, _] _ (c_X11_isWithin c (nI 0) (nI (s 0 3 - 1))) dX11_cell_11 rfl rfl ml_X11_94 cl_X11_isWithin sv_X11_isWithin rfl (Nat.le_of_ble_eq_true rfl) ⟨by decide, by decide⟩ (by decide) (fun rr hh qq => ?_)
  obtain ⟨rfl, hq2⟩ := qq; rw [hq2]; clear hq2 hh
  refine at_if_eqB 33 17 dX11_cell_14 rfl rfl (fun cc => ?_) (fun cc => ?_)
  · refine at_ldc 35 (-1000000000) dX11_cell_33 rfl cn_X11_102 ?_
    refine at_iret dX11_cell_35 rfl (by decide) (by decide) ?_
    exact rc_no (fun ⟨c', fi, ti, q1, q2, q3, q4, q5, q6, q7⟩ => wi_no cc (by omega) q2 (by omega) (by omega)) hR
  obtain ⟨c', -, hc, ec⟩ := wi_t cc (by omega) (by omega)
  clear cc
  refine at_iload_n 18 dX11_cell_17 rfl rfl rfl ?_
  refine at_iconst 19 (-1) dX11_cell_18 rfl (by decide) ?_
  refine at_icmp_eq 36 22 dX11_cell_19 rfl rfl (fun cc => ?_) (fun cc => ?_)
  · exact mid c' 0 (by omega) ec (by omega) (by rw [cc]; decide)
  have c1 := cc
  refine at_aload_n 23 dX11_cell_22 rfl rfl rfl ?_
  refine at_g 26 dX11_cell_23 rfl fl_X11_15 ⟨_, by assumption, ?_⟩
  refine ⟨_, rfl, ?_⟩
  refine at_iload_n 27 dX11_cell_26 rfl rfl rfl ?_
  refine at_invV (ci := 2) 30 [_] _ (c_X2_has f f4) dX11_cell_27 rfl rfl (by assumption) rfl ml_X11_111 cl_X2_has vl_X2_has rfl (Nat.le_of_ble_eq_true rfl) ⟨by decide, by decide⟩ (by decide) (fun rr hh qq => ?_)
  obtain ⟨rfl, hq2⟩ := qq; rw [hq2]; clear hq2 hh
  refine at_if_neB 36 33 dX11_cell_30 rfl rfl (fun cc => ?_) (fun cc => ?_)
  · obtain ⟨f', hf, e⟩ := has_t cc (by omega)
    exact mid c' (f' + 1) (by omega) ec (by omega) (by rw [nI_pred]; exact e)
  · refine at_ldc 35 (-1000000000) dX11_cell_33 rfl cn_X11_102 ?_
    refine at_iret dX11_cell_35 rfl (by decide) (by decide) ?_
    refine rc_no (fun ⟨c', fi, ti, q1, q2, q3, q4, q5, q6, q7⟩ => ?_) hR
    rcases Nat.eq_zero_or_pos fi with q | q
    · subst q; exact c1 (by rw [q4]; decide)
    · obtain ⟨j, rfl⟩ : ∃ j, fi = j + 1 := ⟨fi - 1, by omega⟩
      rw [nI_pred] at q4
      exact has_f cc (by omega) ⟨j, by omega, q4⟩
theorem c_glass {s : St} {h : List PC} (hI : Inv s) (hR : RepC s h) (a w : Int32) : Ct mX11_glass [.ref 0, .int a, .int w] h (RC (fGlass s a w) h) := by
  obtain ⟨r0, rSh, rF, rM, rC, rS, rT, r55, rG, rL, r68, r69, r73, rY, rR⟩ := id hR; obtain ⟨⟨i0, i1, i2, i3, i4, i5, i6, i7, i8, i9, i10, i11⟩, k1, k2, k3, k4, k5, k5z, k5s, k6, k6z, k7, k7s, k8s, k8z, k9, k10, k11, k11z, k50, k15, k16⟩ := id hI; obtain ⟨l62, ⟨lth, l63, e63⟩, ⟨lld, l64, e64⟩, ⟨lgr, l65, e65⟩, ⟨lnm, l66, e66⟩, ⟨lws, l67, e67⟩⟩ := id rL
  refine ct_at (L := [_, _, _]) (by decide +kernel) rfl rfl (Nat.le_of_ble_eq_true rfl) ?_
  refine at_aload_n 1 dX11_glass_0 rfl rfl rfl ?_
  refine at_g 4 dX11_glass_1 rfl fl_X11_70 ⟨_, by assumption, ?_⟩
  refine ⟨_, rfl, ?_⟩
  refine at_iload_n 5 dX11_glass_4 rfl rfl rfl ?_
  refine at_invV (ci := 5) 8 [_] _ (c_X5_has a l62) dX11_glass_5 rfl rfl (by assumption) rfl ml_X11_220 cl_X5_has vl_X5_has rfl (Nat.le_of_ble_eq_true rfl) ⟨by decide, by decide⟩ (by decide) (fun rr hh qq => ?_)
  obtain ⟨rfl, hq2⟩ := qq; rw [hq2]; clear hq2 hh
  refine at_if_neB 14 11 dX11_glass_8 rfl rfl (fun cc => ?_) (fun cc => ?_)
  rotate_left
  · refine at_ldc 13 (-1000000000) dX11_glass_11 rfl cn_X11_102 ?_
    refine at_iret dX11_glass_13 rfl (by decide) (by decide) ?_
    exact rc_no (fun ⟨i, j, q1, q2, _⟩ => has_f cc (by omega) ⟨i, q1, q2⟩) hR
  obtain ⟨i, hi, rfl⟩ := has_t cc (by omega)
  clear cc
  refine at_iload_n 15 dX11_glass_14 rfl rfl rfl ?_
  by_cases hw : ∃ j, j < 7 ∧ w = nI j
  · obtain ⟨j, hj, rfl⟩ := hw
    have hti : (nI j).toInt = (j : Int) := nI_toInt (by omega)
    have fin : ∀ v, v = glV s i j → RC (fGlass s (nI i) (nI j)) h (some (.int v)) h := fun v hv => rc_yes ⟨i, j, hi, rfl, hj, rfl⟩ (by rw [tn_nI (by omega), tn_nI (by omega), hv]) hR Fr.rf
    rcases (by omega : j < 4 ∨ j = 4 ∨ j = 5 ∨ j = 6) with q | rfl | rfl | rfl
    · refine at_tabIn (off := 41) 56 dX11_glass_15 (by omega) (by omega) (by rw [hti]; rcases (by omega : j = 0 ∨ j = 1 ∨ j = 2 ∨ j = 3) with rfl | rfl | rfl | rfl <;> rfl) rfl ?_
      refine at_aload_n 57 dX11_glass_56 rfl rfl rfl ?_
      refine at_g 60 dX11_glass_57 rfl fl_X11_70 ⟨_, by assumption, ?_⟩
      refine ⟨_, rfl, ?_⟩
      refine at_g 63 dX11_glass_60 rfl fl_X11_221 ⟨_, by assumption, ?_⟩
      refine ⟨_, rfl, ?_⟩
      refine at_iload_n 64 dX11_glass_63 rfl rfl rfl ?_
      refine at_iconst 65 (nI 4) dX11_glass_64 rfl (by decide) ?_
      first | refine at_imulN 66 dX11_glass_65 rfl ?_ | refine at_imul 66 dX11_glass_65 rfl ?_
      refine at_iload_n 67 dX11_glass_66 rfl rfl rfl ?_
      first | refine at_iaddN 68 dX11_glass_67 rfl ?_ | refine at_iadd 68 dX11_glass_67 rfl ?_
      first | refine at_ia 69 dX11_glass_68 rfl ⟨_, _, by assumption, by omega, by first | decide | omega, ?_⟩ | refine at_iaG 69 dX11_glass_68 rfl ⟨_, _, by assumption, by omega, by first | decide | omega, ?_⟩
      refine at_iret dX11_glass_69 rfl (by decide) (by decide) ?_
      exact fin _ (by unfold glV; rw [if_pos q, e63 _ (by omega), show i * 4 + j = 4 * i + j by omega])
    · refine at_tabIn (off := 55) 70 dX11_glass_15 (by decide) (by decide) rfl rfl ?_
      refine at_aload_n 71 dX11_glass_70 rfl rfl rfl ?_
      refine at_g 74 dX11_glass_71 rfl fl_X11_70 ⟨_, by assumption, ?_⟩
      refine ⟨_, rfl, ?_⟩
      refine at_g 77 dX11_glass_74 rfl fl_X11_224 ⟨_, by assumption, ?_⟩
      refine ⟨_, rfl, ?_⟩
      refine at_iload_n 78 dX11_glass_77 rfl rfl rfl ?_
      first | refine at_ia 79 dX11_glass_78 rfl ⟨_, _, by assumption, by omega, by first | decide | omega, ?_⟩ | refine at_iaG 79 dX11_glass_78 rfl ⟨_, _, by assumption, by omega, by first | decide | omega, ?_⟩
      refine at_iret dX11_glass_79 rfl (by decide) (by decide) ?_
      exact fin _ (e66 i (by omega))
    · refine at_tabIn (off := 65) 80 dX11_glass_15 (by decide) (by decide) rfl rfl ?_
      have hws := e67 i (by omega)
      have hwb := k16 i (by omega)
      refine at_aload_n 81 dX11_glass_80 rfl rfl rfl ?_
      refine at_g 84 dX11_glass_81 rfl fl_X11_70 ⟨_, by assumption, ?_⟩
      refine ⟨_, rfl, ?_⟩
      refine at_g 87 dX11_glass_84 rfl fl_X11_227 ⟨_, by assumption, ?_⟩
      refine ⟨_, rfl, ?_⟩
      refine at_iload_n 88 dX11_glass_87 rfl rfl rfl ?_
      refine at_za 89 dX11_glass_88 rfl ⟨_, _, by assumption, by omega, by first | decide | omega, ?_⟩
      refine at_if_eqN 96 92 dX11_glass_89 rfl rfl (by omega) (fun cc => ?_) (fun cc => ?_)
      · refine at_iconst 97 (nI 0) dX11_glass_96 rfl (by decide) ?_
        refine at_iret dX11_glass_97 rfl (by decide) (by decide) ?_
        exact fin _ (by show _ = nI (s 16 i); rw [← hws, cc])
      · refine at_iconst 93 (nI 1) dX11_glass_92 rfl (by decide) ?_
        refine at_goto 97 dX11_glass_93 rfl ?_
        refine at_iret dX11_glass_97 rfl (by decide) (by decide) ?_
        exact fin _ (by show _ = nI (s 16 i); rw [show s 16 i = 1 by omega])
    · refine at_tabIn (off := 83) 98 dX11_glass_15 (by decide) (by decide) rfl rfl ?_
      refine at_aload_n 99 dX11_glass_98 rfl rfl rfl ?_
      refine at_g 102 dX11_glass_99 rfl fl_X11_70 ⟨_, by assumption, ?_⟩
      refine ⟨_, rfl, ?_⟩
      refine at_g 105 dX11_glass_102 rfl fl_X11_231 ⟨_, by assumption, ?_⟩
      refine ⟨_, rfl, ?_⟩
      refine at_iload_n 106 dX11_glass_105 rfl rfl rfl ?_
      first | refine at_ia 107 dX11_glass_106 rfl ⟨_, _, by assumption, by omega, by first | decide | omega, ?_⟩ | refine at_iaG 107 dX11_glass_106 rfl ⟨_, _, by assumption, by omega, by first | decide | omega, ?_⟩
      refine at_iret dX11_glass_107 rfl (by decide) (by decide) ?_
      exact fin _ (by rw [e65 i (by omega)]; rfl)
  · have hout : w.toInt < 0 ∨ 6 < w.toInt := by
      apply Classical.byContradiction
      intro hc
      obtain ⟨j, hj, rfl⟩ := nI_of (x := w) (by rw [Int32.lt_iff_toInt_lt]; show ¬ w.toInt < 0; omega)
      rw [nI_toInt hj] at hc
      exact hw ⟨j, by omega, rfl⟩
    refine at_tabOut 108 dX11_glass_15 hout rfl ?_
    refine at_ldc 110 (-1000000000) dX11_glass_108 rfl cn_X11_102 ?_
    refine at_iret dX11_glass_110 rfl (by decide) (by decide) ?_
    exact rc_no (fun ⟨i, j, q1, q2, q3, q4⟩ => hw ⟨j, q3, q4⟩) hR
theorem c_lead {s : St} {h : List PC} (hI : Inv s) (hR : RepC s h) (a f : Int32) : Ct mX11_lead [.ref 0, .int a, .int f] h (RC (fLead s a f) h) := by
  obtain ⟨r0, rSh, rF, rM, rC, rS, rT, r55, rG, rL, r68, r69, r73, rY, rR⟩ := id hR; obtain ⟨⟨i0, i1, i2, i3, i4, i5, i6, i7, i8, i9, i10, i11⟩, k1, k2, k3, k4, k5, k5z, k5s, k6, k6z, k7, k7s, k8s, k8z, k9, k10, k11, k11z, k50, k15, k16⟩ := id hI; obtain ⟨l62, ⟨lth, l63, e63⟩, ⟨lld, l64, e64⟩, ⟨lgr, l65, e65⟩, ⟨lnm, l66, e66⟩, ⟨lws, l67, e67⟩⟩ := id rL; obtain ⟨f4, ⟨kd, f5, e5⟩, f6, f7, ⟨db, f15, e15⟩, ⟨pr, f16, e16⟩, ⟨st, f17, e17⟩⟩ := id rF
  refine ct_at (L := [_, _, _]) (by decide +kernel) rfl rfl (Nat.le_of_ble_eq_true rfl) ?_
  refine at_aload_n 1 dX11_lead_0 rfl rfl rfl ?_
  refine at_g 4 dX11_lead_1 rfl fl_X11_70 ⟨_, by assumption, ?_⟩
  refine ⟨_, rfl, ?_⟩
  refine at_iload_n 5 dX11_lead_4 rfl rfl rfl ?_
  refine at_invV (ci := 5) 8 [_] _ (c_X5_has a l62) dX11_lead_5 rfl rfl (by assumption) rfl ml_X11_220 cl_X5_has vl_X5_has rfl (Nat.le_of_ble_eq_true rfl) ⟨by decide, by decide⟩ (by decide) (fun rr hh qq => ?_)
  obtain ⟨rfl, hq2⟩ := qq; rw [hq2]; clear hq2 hh
  refine at_if_eqB 22 11 dX11_lead_8 rfl rfl (fun cc => ?_) (fun cc => ?_)
  · refine at_ldc 24 (-1000000000) dX11_lead_22 rfl cn_X11_102 ?_
    refine at_iret dX11_lead_24 rfl (by decide) (by decide) ?_
    exact rc_no (fun ⟨i, j, q1, q2, _⟩ => has_f cc (by omega) ⟨i, q1, q2⟩) hR
  obtain ⟨i, hi, rfl⟩ := has_t cc (by omega)
  clear cc
  refine at_aload_n 12 dX11_lead_11 rfl rfl rfl ?_
  refine at_g 15 dX11_lead_12 rfl fl_X11_15 ⟨_, by assumption, ?_⟩
  refine ⟨_, rfl, ?_⟩
  refine at_iload_n 16 dX11_lead_15 rfl rfl rfl ?_
  refine at_invV (ci := 2) 19 [_] _ (c_X2_has f f4) dX11_lead_16 rfl rfl (by assumption) rfl ml_X11_111 cl_X2_has vl_X2_has rfl (Nat.le_of_ble_eq_true rfl) ⟨by decide, by decide⟩ (by decide) (fun rr hh qq => ?_)
  obtain ⟨rfl, hq2⟩ := qq; rw [hq2]; clear hq2 hh
  refine at_if_neB 25 22 dX11_lead_19 rfl rfl (fun cc => ?_) (fun cc => ?_)
  rotate_left
  · refine at_ldc 24 (-1000000000) dX11_lead_22 rfl cn_X11_102 ?_
    refine at_iret dX11_lead_24 rfl (by decide) (by decide) ?_
    exact rc_no (fun ⟨i, j, q1, q2, q3, q4⟩ => has_f cc (by omega) ⟨j, q3, q4⟩) hR
  obtain ⟨j, hj, rfl⟩ := has_t cc (by omega)
  clear cc
  refine at_aload_n 26 dX11_lead_25 rfl rfl rfl ?_
  refine at_g 29 dX11_lead_26 rfl fl_X11_70 ⟨_, by assumption, ?_⟩
  refine ⟨_, rfl, ?_⟩
  refine at_g 32 dX11_lead_29 rfl fl_X11_234 ⟨_, by assumption, ?_⟩
  refine ⟨_, rfl, ?_⟩
  refine at_iload_n 33 dX11_lead_32 rfl rfl rfl ?_
  refine at_bipush 35 (nI 8) dX11_lead_33 rfl (by decide) ?_
  first | refine at_imulN 36 dX11_lead_35 rfl ?_ | refine at_imul 36 dX11_lead_35 rfl ?_
  refine at_iload_n 37 dX11_lead_36 rfl rfl rfl ?_
  first | refine at_iaddN 38 dX11_lead_37 rfl ?_ | refine at_iadd 38 dX11_lead_37 rfl ?_
  first | refine at_ia 39 dX11_lead_38 rfl ⟨_, _, by assumption, by omega, by first | decide | omega, ?_⟩ | refine at_iaG 39 dX11_lead_38 rfl ⟨_, _, by assumption, by omega, by first | decide | omega, ?_⟩
  refine at_iret dX11_lead_39 rfl (by decide) (by decide) ?_
  exact rc_yes ⟨i, j, hi, rfl, hj, rfl⟩ (by rw [tn_nI (by omega), tn_nI (by omega), e64 _ (by omega), show i * 8 + j = 8 * i + j by omega]) hR Fr.rf
theorem c_change {s : St} {h : List PC} (hI : Inv s) (hR : RepC s h) (a b n : Int32) : Ct mX11_change [.ref 0, .int a, .int b, .int n] h (RC (fChange s a b n) h) := by
  obtain ⟨r0, rSh, rF, rM, rC, rS, rT, r55, rG, rL, r68, r69, r73, rY, rR⟩ := id hR; obtain ⟨⟨i0, i1, i2, i3, i4, i5, i6, i7, i8, i9, i10, i11⟩, k1, k2, k3, k4, k5, k5z, k5s, k6, k6z, k7, k7s, k8s, k8z, k9, k10, k11, k11z, k50, k15, k16⟩ := id hI; obtain ⟨c21, c22, c29, c23, c30⟩ := id rC; obtain ⟨g96, g97, g98, ⟨glt, g104, e104⟩, ⟨go, g105, e105⟩⟩ := id rR
  refine ct_at (L := [_, _, _, _, _]) (by decide +kernel) rfl rfl (Nat.le_of_ble_eq_true rfl) ?_
  refine at_aload_n 1 dX11_change_0 rfl rfl rfl ?_
  refine at_g 4 dX11_change_1 rfl fl_X11_29 ⟨_, by assumption, ?_⟩
  refine ⟨_, rfl, ?_⟩
  refine at_iload_n 5 dX11_change_4 rfl rfl rfl ?_
  refine at_invV (ci := 1) 8 [_] _ (c_X1_has a c21) dX11_change_5 rfl rfl (by assumption) rfl ml_X11_178 cl_X1_has vl_X1_has rfl (Nat.le_of_ble_eq_true rfl) ⟨by decide, by decide⟩ (by decide) (fun rr hh qq => ?_)
  obtain ⟨rfl, hq2⟩ := qq; rw [hq2]; clear hq2 hh
  refine at_if_eqB 27 11 dX11_change_8 rfl rfl (fun cc => ?_) (fun cc => ?_)
  · refine at_ldc 29 (-1000000000) dX11_change_27 rfl cn_X11_102 ?_
    refine at_iret dX11_change_29 rfl (by decide) (by decide) ?_
    exact rc_no (fun ⟨a', b', v, q1, q2, q3, q4, z1, z2, z3⟩ => has_f cc (by omega) ⟨a', q1, z1⟩) hR
  obtain ⟨a', ha, rfl⟩ := has_t cc (by omega)
  clear cc
  refine at_aload_n 12 dX11_change_11 rfl rfl rfl ?_
  refine at_g 15 dX11_change_12 rfl fl_X11_29 ⟨_, by assumption, ?_⟩
  refine ⟨_, rfl, ?_⟩
  refine at_iload_n 16 dX11_change_15 rfl rfl rfl ?_
  refine at_invV (ci := 1) 19 [_] _ (c_X1_has b c21) dX11_change_16 rfl rfl (by assumption) rfl ml_X11_178 cl_X1_has vl_X1_has rfl (Nat.le_of_ble_eq_true rfl) ⟨by decide, by decide⟩ (by decide) (fun rr hh qq => ?_)
  obtain ⟨rfl, hq2⟩ := qq; rw [hq2]; clear hq2 hh
  refine at_if_eqB 27 22 dX11_change_19 rfl rfl (fun cc => ?_) (fun cc => ?_)
  · refine at_ldc 29 (-1000000000) dX11_change_27 rfl cn_X11_102 ?_
    refine at_iret dX11_change_29 rfl (by decide) (by decide) ?_
    exact rc_no (fun ⟨a', b', v, q1, q2, q3, q4, z1, z2, z3⟩ => has_f cc (by omega) ⟨b', q2, z2⟩) hR
  obtain ⟨b', hb, rfl⟩ := has_t cc (by omega)
  clear cc
  refine at_iload_n 23 dX11_change_22 rfl rfl rfl ?_
  refine at_iload_n 24 dX11_change_23 rfl rfl rfl ?_
  refine at_icmp_neN 30 27 dX11_change_24 rfl rfl (by omega) (by omega) (fun cc => ?_) (fun cc => ?_)
  rotate_left
  · refine at_ldc 29 (-1000000000) dX11_change_27 rfl cn_X11_102 ?_
    refine at_iret dX11_change_29 rfl (by decide) (by decide) ?_
    exact rc_no (fun ⟨a2, b2, v, q1, q2, q3, q4, z1, z2, z3⟩ => by
      have e1 := nI_inj z1 (by omega) (by omega)
      have e2 := nI_inj z2 (by omega) (by omega)
      omega) hR
  have hab := cc
  clear cc
  refine at_iload_n 31 dX11_change_30 rfl rfl rfl ?_
  refine at_iconst 32 (nI 0) dX11_change_31 rfl (by decide) ?_
  refine at_sipush 35 (nI 1000) dX11_change_32 rfl (by decide) ?_
  refine at_invS 38 [_, _, _] _ (c_X11_isWithin n (nI 0) (nI 1000)) dX11_change_35 rfl rfl ml_X11_94 cl_X11_isWithin sv_X11_isWithin rfl (Nat.le_of_ble_eq_true rfl) ⟨by decide, by decide⟩ (by decide) (fun rr hh qq => ?_)
  obtain ⟨rfl, hq2⟩ := qq; rw [hq2]; clear hq2 hh
  refine at_if_neB 44 41 dX11_change_38 rfl rfl (fun cc => ?_) (fun cc => ?_)
  rotate_left
  · refine at_ldc 43 (-1000000000) dX11_change_41 rfl cn_X11_102 ?_
    refine at_iret dX11_change_43 rfl (by decide) (by decide) ?_
    exact rc_no (fun ⟨a', b', v, q1, q2, q3, q4, z1, z2, z3⟩ => wi_no cc (by omega) z3 (by omega) q4) hR
  obtain ⟨v, -, hv, rfl⟩ := wi_t cc (by omega) (by omega)
  clear cc
  obtain ⟨wr, gr, er⟩ := g98 a' (by omega)
  have hfr : Fr (fun j => j = 97 + 1 + a') h h := Fr.rf
  refine at_aload_n 45 dX11_change_44 rfl rfl rfl ?_
  refine at_g 48 dX11_change_45 rfl fl_X11_86 ⟨_, by assumption, ?_⟩
  refine ⟨_, rfl, ?_⟩
  refine at_g 51 dX11_change_48 rfl fl_X11_247 ⟨_, by assumption, ?_⟩
  refine ⟨_, rfl, ?_⟩
  refine at_iload_n 52 dX11_change_51 rfl rfl rfl ?_
  refine at_aa 53 dX11_change_52 rfl ⟨_, _, by assumption, by omega, by first | decide | omega, ?_⟩
  refine ⟨_, rowsAt_in (by omega), ?_⟩
  refine at_iload_n 54 dX11_change_53 rfl rfl rfl ?_
  first | refine at_ia 55 dX11_change_54 rfl ⟨_, _, by assumption, by omega, by first | decide | omega, ?_⟩ | refine at_iaG 55 dX11_change_54 rfl ⟨_, _, by assumption, by omega, by first | decide | omega, ?_⟩
  refine at_istore (L' := [_, _, _, _, _]) 57 dX11_change_55 rfl (by decide) rfl rfl ?_
  refine at_aload_n 58 dX11_change_57 rfl rfl rfl ?_
  refine at_g 61 dX11_change_58 rfl fl_X11_86 ⟨_, by assumption, ?_⟩
  refine ⟨_, rfl, ?_⟩
  refine at_g 64 dX11_change_61 rfl fl_X11_247 ⟨_, by assumption, ?_⟩
  refine ⟨_, rfl, ?_⟩
  refine at_iload_n 65 dX11_change_64 rfl rfl rfl ?_
  refine at_aa 66 dX11_change_65 rfl ⟨_, _, by assumption, by omega, by first | decide | omega, ?_⟩
  refine ⟨_, rowsAt_in (by omega), ?_⟩
  refine at_iload_n 67 dX11_change_66 rfl rfl rfl ?_
  refine at_iload_n 68 dX11_change_67 rfl rfl rfl ?_
  first | refine at_is 69 dX11_change_68 rfl ⟨_, _, by assumption, by omega, by first | decide | omega, fun hh2 nn2 => ?_⟩ | refine at_isG 69 dX11_change_68 rfl ⟨_, _, by assumption, by omega, by first | decide | omega, fun hh2 nn2 => ?_⟩
  replace r0 := nn2.o (by first | decide | omega | assumption) r0
  replace g96 := nn2.o (by first | decide | omega | assumption) g96
  replace g97 := nn2.o (by first | decide | omega | assumption) g97
  replace gr := nn2.1
  replace hfr := hfr.nw nn2 (by first | (dsimp only; omega) | (dsimp only; done) | simp)
  clear nn2
  refine at_iload 71 dX11_change_69 rfl rfl ?_
  refine at_iret dX11_change_71 rfl (by decide) (by decide) ?_
  refine rc_yes ⟨a', b', v, ha, hb, hab, hv, rfl, rfl, rfl⟩ (by rw [tn_nI (by omega), tn_nI (by omega), er b' (by omega)]) ?_ (hfr.wk (fun j hj => by omega))
  rw [tn_nI (by omega), tn_nI (by omega), tn_nI (by omega)]
  refine ⟨r0, rSh.fr' hfr (fun j h1 h2 => by omega), rF.fr hfr (fun j h1 h2 => by omega), rM.fr hfr (fun j h1 h2 => by omega), rC.fr hfr (fun j h1 h2 => by omega), rS.fr hfr (fun j h1 h2 => by omega), rT.fr hfr (fun j h1 h2 => by omega), r55.fr hfr (fun j h1 h2 => by omega), rG.fr' hfr (fun j h1 h2 => by omega), rL.fr hfr (fun j h1 h2 => by omega), at_fr r68 hfr (fun j h1 h2 => by omega), r69.fr hfr (fun j h1 h2 => by omega), r73.fr hfr (fun j h1 h2 => by omega), rY.fr hfr (fun j h1 h2 => by omega), ⟨g96, g97, fun c hc => ?_, (rR.2.2.2.1).gt hfr (fun j h1 h2 => by omega), ⟨go, at_fr g105 hfr (fun j h1 h2 => by omega), e105⟩⟩⟩
  by_cases e : c = a'
  · subst e; exact row_up gr er (by omega)
  · exact ((g98 c hc).fr hfr (by omega)).cg (row_no e (by omega))
theorem c_next {s : St} {h : List PC} (hI : Inv s) (hR : RepC s h) (k : Int32) : Ct mX11_next [.ref 0, .int k] h (RC (fNext s k) h) := by
  obtain ⟨r0, rSh, rF, rM, rC, rS, rT, r55, rG, rL, r68, r69, r73, rY, rR⟩ := id hR; obtain ⟨⟨i0, i1, i2, i3, i4, i5, i6, i7, i8, i9, i10, i11⟩, k1, k2, k3, k4, k5, k5z, k5s, k6, k6z, k7, k7s, k8s, k8z, k9, k10, k11, k11z, k50, k15, k16⟩ := id hI; obtain ⟨g96, g97, g98, ⟨glt, g104, e104⟩, ⟨go, g105, e105⟩⟩ := id rR
  refine ct_at (L := [_, _]) (by decide +kernel) rfl rfl (Nat.le_of_ble_eq_true rfl) ?_
  refine at_iload_n 1 dX11_next_0 rfl rfl rfl ?_
  refine at_iconst 2 (nI 0) dX11_next_1 rfl (by decide) ?_
  refine at_aload_n 3 dX11_next_2 rfl rfl rfl ?_
  refine at_g 6 dX11_next_3 rfl fl_X11_86 ⟨_, by assumption, ?_⟩
  refine ⟨_, rfl, ?_⟩
  refine at_g 9 dX11_next_6 rfl fl_X11_254 ⟨_, by assumption, ?_⟩
  refine ⟨_, rfl, ?_⟩
  refine at_iconst 10 (nI 1) dX11_next_9 rfl (by decide) ?_
  first | refine at_isubN 11 dX11_next_10 rfl (by omega) ?_ | refine at_isub 11 dX11_next_10 rfl ?_
  refine at_invS 14 [_, _, _] _ (c_X11_isWithin k (nI 0) (nI (s 0 10) - nI 1)) dX11_next_11 rfl rfl ml_X11_94 cl_X11_isWithin sv_X11_isWithin rfl (Nat.le_of_ble_eq_true rfl) ⟨by decide, by decide⟩ (by decide) (fun rr hh qq => ?_)
  obtain ⟨rfl, hq2⟩ := qq; rw [hq2, wi_pred (by omega)]; clear hq2 hh
  refine at_if_neB 19 17 dX11_next_14 rfl rfl (fun cc => ?_) (fun cc => ?_)
  · obtain ⟨j, hj, rfl⟩ := has_t cc (by omega)
    refine at_aload_n 20 dX11_next_19 rfl rfl rfl ?_
    refine at_g 23 dX11_next_20 rfl fl_X11_86 ⟨_, by assumption, ?_⟩
    refine ⟨_, rfl, ?_⟩
    refine at_g 26 dX11_next_23 rfl fl_X11_257 ⟨_, by assumption, ?_⟩
    refine ⟨_, rfl, ?_⟩
    refine at_iload_n 27 dX11_next_26 rfl rfl rfl ?_
    first | refine at_ia 28 dX11_next_27 rfl ⟨_, _, by assumption, by omega, by first | decide | omega, ?_⟩ | refine at_iaG 28 dX11_next_27 rfl ⟨_, _, by assumption, by omega, by first | decide | omega, ?_⟩
    refine at_iret dX11_next_28 rfl (by decide) (by decide) ?_
    exact rc_yes ⟨j, hj, rfl⟩ (by rw [tn_nI (by omega), e104 j (by omega)]) hR Fr.rf
  · refine at_iconst 18 (-1) dX11_next_17 rfl (by decide) ?_
    refine at_iret dX11_next_18 rfl (by decide) (by decide) ?_
    show RC (gx _ _ (-1, s)) h _ h
    rw [gx_f (fun ⟨i, q1, q2⟩ => has_f cc (by omega) ⟨i, q1, q2⟩)]
    exact ⟨rfl, hR, Fr.rf⟩
theorem c_told {s : St} {h : List PC} (hI : Inv s) (hR : RepC s h) (w : Int32) : Ct mX11_told [.ref 0, .int w] h (RC (fTold s w) h) := by
  obtain ⟨r0, rSh, rF, rM, rC, rS, rT, r55, rG, rL, r68, r69, r73, rY, rR⟩ := id hR; obtain ⟨⟨i0, i1, i2, i3, i4, i5, i6, i7, i8, i9, i10, i11⟩, k1, k2, k3, k4, k5, k5z, k5s, k6, k6z, k7, k7s, k8s, k8z, k9, k10, k11, k11z, k50, k15, k16⟩ := id hI; obtain ⟨l62, ⟨lth, l63, e63⟩, ⟨lld, l64, e64⟩, ⟨lgr, l65, e65⟩, ⟨lnm, l66, e66⟩, ⟨lws, l67, e67⟩⟩ := id rL; obtain ⟨f4, ⟨kd, f5, e5⟩, f6, f7, ⟨db, f15, e15⟩, ⟨pr, f16, e16⟩, ⟨st, f17, e17⟩⟩ := id rF; obtain ⟨⟨sti, t39⟩, tA⟩ := id rT; obtain ⟨c21, c22, c29, c23, c30⟩ := id rC
  refine ct_at (L := [_, _]) (by decide +kernel) rfl rfl (Nat.le_of_ble_eq_true rfl) ?_
  refine at_iload_n 1 dX11_told_0 rfl rfl rfl ?_
  by_cases hw : ∃ j, j < 7 ∧ w = nI j
  · obtain ⟨j, hj, rfl⟩ := hw
    have fin : ∀ v, v = toldV s j → RC (fTold s (nI j)) h (some (.int (nI v))) h := fun v hv => rc_yes ⟨j, hj, rfl⟩ (by rw [tn_nI (by omega), hv]) hR Fr.rf
    rcases (by omega : j = 0 ∨ j = 1 ∨ j = 2 ∨ j = 3 ∨ j = 4 ∨ j = 5 ∨ j = 6) with rfl | rfl | rfl | rfl | rfl | rfl | rfl
    · refine at_tabIn (off := 43) 44 dX11_told_1 (by decide) (by decide) rfl rfl ?_
      refine at_aload_n 45 dX11_told_44 rfl rfl rfl ?_
      refine at_g 48 dX11_told_45 rfl fl_X11_15 ⟨_, by assumption, ?_⟩
      refine ⟨_, rfl, ?_⟩
      refine at_g 51 dX11_told_48 rfl fl_X11_260 ⟨_, by assumption, ?_⟩
      refine ⟨_, rfl, ?_⟩
      refine at_iret dX11_told_51 rfl (by decide) (by decide) ?_
      exact fin _ rfl
    · refine at_tabIn (off := 51) 52 dX11_told_1 (by decide) (by decide) rfl rfl ?_
      refine at_aload_n 53 dX11_told_52 rfl rfl rfl ?_
      refine at_g 56 dX11_told_53 rfl fl_X11_47 ⟨_, by assumption, ?_⟩
      refine ⟨_, rfl, ?_⟩
      refine at_g 59 dX11_told_56 rfl fl_X11_150 ⟨_, by assumption, ?_⟩
      refine ⟨_, rfl, ?_⟩
      refine at_iret dX11_told_59 rfl (by decide) (by decide) ?_
      exact fin _ rfl
    · refine at_tabIn (off := 59) 60 dX11_told_1 (by decide) (by decide) rfl rfl ?_
      refine at_aload_n 61 dX11_told_60 rfl rfl rfl ?_
      refine at_g 64 dX11_told_61 rfl fl_X11_29 ⟨_, by assumption, ?_⟩
      refine ⟨_, rfl, ?_⟩
      refine at_g 67 dX11_told_64 rfl fl_X11_250 ⟨_, by assumption, ?_⟩
      refine ⟨_, rfl, ?_⟩
      refine at_iret dX11_told_67 rfl (by decide) (by decide) ?_
      exact fin _ rfl
    · refine at_tabIn (off := 67) 68 dX11_told_1 (by decide) (by decide) rfl rfl ?_
      refine at_aload_n 69 dX11_told_68 rfl rfl rfl ?_
      refine at_g 72 dX11_told_69 rfl fl_X11_70 ⟨_, by assumption, ?_⟩
      refine ⟨_, rfl, ?_⟩
      refine at_g 75 dX11_told_72 rfl fl_X11_203 ⟨_, by assumption, ?_⟩
      refine ⟨_, rfl, ?_⟩
      refine at_iret dX11_told_75 rfl (by decide) (by decide) ?_
      exact fin _ rfl
    · refine at_tabIn (off := 75) 76 dX11_told_1 (by decide) (by decide) rfl rfl ?_
      refine at_aload_n 77 dX11_told_76 rfl rfl rfl ?_
      refine at_g 80 dX11_told_77 rfl fl_X11_70 ⟨_, by assumption, ?_⟩
      refine ⟨_, rfl, ?_⟩
      refine at_g 83 dX11_told_80 rfl fl_X11_261 ⟨_, by assumption, ?_⟩
      refine ⟨_, rfl, ?_⟩
      refine at_iret dX11_told_83 rfl (by decide) (by decide) ?_
      exact fin _ rfl
    · refine at_tabIn (off := 83) 84 dX11_told_1 (by decide) (by decide) rfl rfl ?_
      refine at_aload_n 85 dX11_told_84 rfl rfl rfl ?_
      refine at_g 88 dX11_told_85 rfl fl_X11_70 ⟨_, by assumption, ?_⟩
      refine ⟨_, rfl, ?_⟩
      refine at_g 91 dX11_told_88 rfl fl_X11_264 ⟨_, by assumption, ?_⟩
      refine ⟨_, rfl, ?_⟩
      refine at_iret dX11_told_91 rfl (by decide) (by decide) ?_
      exact fin _ rfl
    · refine at_tabIn (off := 91) 92 dX11_told_1 (by decide) (by decide) rfl rfl ?_
      refine at_aload_n 93 dX11_told_92 rfl rfl rfl ?_
      refine at_g 96 dX11_told_93 rfl fl_X11_47 ⟨_, by assumption, ?_⟩
      refine ⟨_, rfl, ?_⟩
      refine at_invV (ci := 10) 99 [] _ (c_X10_allGrams t39 i2) dX11_told_96 rfl rfl (by assumption) rfl ml_X11_267 cl_X10_allGrams vl_X10_allGrams rfl (Nat.le_of_ble_eq_true rfl) ⟨by decide, by decide⟩ (by decide) (fun rr hh qq => ?_)
      obtain ⟨rfl, hq2⟩ := qq; rw [hq2]; clear hq2 hh
      refine at_iret dX11_told_99 rfl (by decide) (by decide) ?_
      exact fin _ rfl
  · have hout : w.toInt < 0 ∨ 6 < w.toInt := by
      apply Classical.byContradiction
      intro hc
      obtain ⟨j, hj, rfl⟩ := nI_of (x := w) (by rw [Int32.lt_iff_toInt_lt]; show ¬ w.toInt < 0; omega)
      rw [nI_toInt hj] at hc
      exact hw ⟨j, by omega, rfl⟩
    refine at_tabOut 100 dX11_told_1 hout rfl ?_
    refine at_ldc 102 (-1000000000) dX11_told_100 rfl cn_X11_102 ?_
    refine at_iret dX11_told_102 rfl (by decide) (by decide) ?_
    exact rc_no (fun ⟨j, q3, q4⟩ => hw ⟨j, q3, q4⟩) hR

