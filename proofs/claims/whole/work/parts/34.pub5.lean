
theorem nIs_inj {a b : Nat} (ha : a < 2 ^ 31) (hb : b < 2 ^ 31) : nI a - 1 = nI b - 1 ↔ a = b := by
  refine ⟨fun e => ?_, fun e => by rw [e]⟩
  have h1 : nI a - 1 + 1 = nI b - 1 + 1 := by rw [e]
  rw [Int32.sub_add_cancel, Int32.sub_add_cancel] at h1
  exact nI_inj h1 ha hb
theorem tkP_le {sh : Nat → Nat} {p : Nat} (h : sm sh 8 = 1000) {f : Nat} (hf : f < 8) : tkP sh p f ≤ p := share_le_g (by omega) hf
theorem hBad_le (s : St) : hBad s ≤ 1 := by unfold hBad; split <;> decide
theorem hStk_le {s : St} (h4 : ∀ f, f < 8 → s 4 f ≤ 10000000) : ∀ f, f < 8 → hStk s f ≤ 10000000 := fun f hf => by
  have h1 : hSt s f ≤ 10000000 := by have := h4 f hf; unfold hSt; omega
  unfold hStk
  split
  · exact h1
  · unfold backS
    split
    · unfold updN
      split
      · split <;> omega
      · exact h1
    · exact h1
theorem inv_step {s : St} (hI : Inv s) (hm : s 0 2 = 1) (hx : s 0 1 = 1) (h7 : s 0 7 < 400) : Inv (stepH s) := by
  have hP := (inv_p hI hm).pass (lo_ok (p := s 0 5) (inv_f hI hx))
  obtain ⟨⟨i0, i1, i2, i3, i4, i5, i6, i7, i8, i9, i10, i11⟩, k1, k2, k3, k4, k5, k5z, k5s, k6, k6z, k7, k7s, k8s, k8z, k9, k10, k11, k11z, k50, k15, k16⟩ := id hI
  have hnm : hNm s ≤ 6 := by have := nameC_le (fun c => fitB (s 9) (s 10) c (thF (hOut s)) (s 0 5)) (s 0 6); unfold hNm; omega
  have hb := hBad_le s
  have hg : (if hBad s = 0 then 0 else s 0 5) ≤ s 0 5 := by split <;> omega
  refine ⟨⟨i0, i1, i2, i3, i4, i5, i6, ?_, ?_, ?_, i10, i11⟩, k1, k2, k3, hStk_le k4, k5, k5z, k5s, k6, k6z, k7, k7s, fun _ => hP.2.2.2.1, fun _ => hP.2.2.2.2, k9, k10, k11, k11z, k50, ?_, ?_⟩
  · show s 0 7 + 1 ≤ 400
    omega
  · show s 0 8 + (if hBad s = 0 then 0 else s 0 5) ≤ s 0 9 + s 0 5
    omega
  · show s 0 9 + s 0 5 ≤ 100000 * (s 0 7 + 1)
    omega
  · intro i hi
    show updN (s 15) (s 0 7) (hNm s) i ≤ 6
    unfold updN
    split
    · exact hnm
    · exact k15 i hi
  · intro i hi
    show updN (s 16) (s 0 7) (hBad s) i ≤ 1
    unfold updN
    split
    · exact hb
    · exact k16 i hi
theorem c_passHour {s : St} {h : List PC} (hI : Inv s) (hR : RepC s h) (hm : s 0 2 = 1) (hx : s 0 1 = 1) (hq : h[55]? = some (oCharge 55 (s 0 0 * 4))) (ht : Ar h 57 8 (hTk s)) (hl : Ar h 58 32 (hLo s)) (hc : canH s = true) (h7 : s 0 7 < 400) : Ct mX11_passHour [.ref 0] h (fun r h' => r = none ∧ RepC (stepH s) h' ∧ h'[55]? = some (oCharge 55 (s 0 0 * 4)) ∧ Ar h' 57 8 (hTk s) ∧ Ar h' 58 32 (hLo s) ∧ Fr (fun j => j < 106) h h') := by
  have hP := inv_p hI hm
  have hO := inv_f hI hx
  have hlo : LoOk (hLo s) (s 0 5) (s 0 0 * 4) := lo_ok hO
  obtain ⟨r0, rSh, rF, rM, rC, rS, rT, r55, rG, rL, r68, r69, r73, rY, rR⟩ := id hR; obtain ⟨⟨i0, i1, i2, i3, i4, i5, i6, i7, i8, i9, i10, i11⟩, k1, k2, k3, k4, k5, k5z, k5s, k6, k6z, k7, k7s, k8s, k8z, k9, k10, k11, k11z, k50, k15, k16⟩ := id hI; obtain ⟨f4, ⟨kd, f5, e5⟩, f6, f7, ⟨db, f15, e15⟩, ⟨pr, f16, e16⟩, ⟨st, f17, e17⟩⟩ := id rF; obtain ⟨c21, c22, c29, c23, c30⟩ := id rC; obtain ⟨⟨sti, t39⟩, tA⟩ := id rT; obtain ⟨l62, ⟨lth, l63, e63⟩, ⟨lld, l64, e64⟩, ⟨lgr, l65, e65⟩, ⟨lnm, l66, e66⟩, ⟨lws, l67, e67⟩⟩ := id rL
  obtain ⟨tk, t57, e57⟩ := id ht
  have hcan := allB_iff.mp hc
  have hst : ∀ i, i < 8 → tk i ≤ st i := fun i hi => by
    rw [e57 i hi, e17 i hi]
    exact of_decide_eq_true (hcan i hi)
  refine ct_at (L := [_, _, _]) (by decide +kernel) rfl rfl (Nat.le_of_ble_eq_true rfl) ?_
  refine at_aload_n 1 dX11_passHour_0 rfl rfl rfl ?_
  refine at_g 4 dX11_passHour_1 rfl fl_X11_15 ⟨_, by assumption, ?_⟩
  refine ⟨_, rfl, ?_⟩
  refine at_aload_n 5 dX11_passHour_4 rfl rfl rfl ?_
  refine at_g 8 dX11_passHour_5 rfl fl_X11_56 ⟨_, by assumption, ?_⟩
  refine ⟨_, rfl, ?_⟩
  refine at_g 11 dX11_passHour_8 rfl fl_X11_210 ⟨_, by assumption, ?_⟩
  refine ⟨_, rfl, ?_⟩
  refine at_invV (ci := 2) 14 [_] _ (c_X2_takeAll f4 f17 t57 (by decide) hst) dX11_passHour_11 rfl rfl (by assumption) rfl ml_X11_272 cl_X2_takeAll vl_X2_takeAll rfl (Nat.le_of_ble_eq_true rfl) ⟨by decide, by decide⟩ (by decide) (fun rr hh qq => ?_)
  obtain ⟨rfl, a17, afr⟩ := qq
  have a0 := afr.at (k := 0) (by omega) r0
  have a39 := afr.at (k := 39) (by omega) t39
  have a55 := afr.at (k := 55) (by omega) hq
  obtain ⟨s1, ⟨R, s2⟩, ⟨P, s3⟩⟩ := id rSh
  have aTA := TankA.fr tA afr (fun j h1 h2 => by omega)
  refine at_aload_n 15 dX11_passHour_14 rfl rfl rfl ?_
  refine at_g 18 dX11_passHour_15 rfl fl_X11_47 ⟨_, by assumption, ?_⟩
  refine ⟨_, rfl, ?_⟩
  refine at_aload_n 19 dX11_passHour_18 rfl rfl rfl ?_
  refine at_g 22 dX11_passHour_19 rfl fl_X11_56 ⟨_, by assumption, ?_⟩
  refine ⟨_, rfl, ?_⟩
  refine at_invV (ci := 10) 25 [_] _ (c_X10_pass (t := 39) (q := 55) (lo := hLo s) (by omega) (by decide) (afr.at (by omega) s1) (afr.at (by omega) s2) (afr.at (by omega) s3) a39 aTA a55 (hl.fr afr (by omega)) (by omega) (by omega) hlo.1 (fun i hi => by have := hlo.lt i hi; omega) (k8s hm) (k8z hm) (by omega) (by omega) (by omega)) dX11_passHour_22 rfl rfl (by assumption) rfl ml_X11_275 cl_X10_pass vl_X10_pass rfl (Nat.le_of_ble_eq_true rfl) ⟨by decide, by decide⟩ (by decide) (fun rr hh qq => ?_)
  obtain ⟨rfl, ⟨R', b2⟩, ⟨P', b3⟩, b39, bTA, bOut, bfr0⟩ := qq
  have bfr : Fr (fun j => j = 2 ∨ j = 3 ∨ j = 17 ∨ (39 ≤ j ∧ j ≤ 54)) h hh := (afr.wk (P' := fun j => j = 2 ∨ j = 3 ∨ j = 17 ∨ (39 ≤ j ∧ j ≤ 54)) (fun j hj => by omega)).tr bfr0 (fun j hj => by omega)
  have b0 := bfr.at (k := 0) (by omega) r0
  have b17 := bfr0.at (k := 17) (by omega) a17
  obtain ⟨⟨g0, g59⟩, ⟨gw, g60⟩, ⟨gv, g61⟩⟩ := id rG
  have b59 := bfr.at (k := 59) (by omega) g59
  have bO : Ar hh (39 + 8 + 1 + s 0 3) 32 (hOut s) := by
    have := bOut (s 0 3 - 1) (by omega)
    rw [show s 0 3 - 1 + 1 = s 0 3 by omega] at this
    exact this
  clear afr a17 a0 a39 a55 aTA
  refine at_aload_n 26 dX11_passHour_25 rfl rfl rfl ?_
  refine at_g 29 dX11_passHour_26 rfl fl_X11_63 ⟨_, by assumption, ?_⟩
  refine ⟨_, rfl, ?_⟩
  refine at_aload_n 30 dX11_passHour_29 rfl rfl rfl ?_
  refine at_g 33 dX11_passHour_30 rfl fl_X11_47 ⟨_, by assumption, ?_⟩
  refine ⟨_, rfl, ?_⟩
  refine at_invV (ci := 4) 36 [_] _ (c_X4_read (g := 59) (t := 39) (Or.inl (by decide)) b59 (bfr.at (by omega) g60) (bfr.at (by omega) g61) b39 bTA.2.1 bO (by omega)) dX11_passHour_33 rfl rfl (by assumption) rfl ml_X11_279 cl_X4_read vl_X4_read rfl (Nat.le_of_ble_eq_true rfl) ⟨by decide, by decide⟩ (by decide) (fun rr hh qq => ?_)
  obtain ⟨rfl, d59, dth, dld, dfr0⟩ := qq
  have dfr : Fr (fun j => j = 2 ∨ j = 3 ∨ j = 17 ∨ (39 ≤ j ∧ j ≤ 54) ∨ (59 ≤ j ∧ j ≤ 61)) h hh := (bfr.wk (P' := fun j => j = 2 ∨ j = 3 ∨ j = 17 ∨ (39 ≤ j ∧ j ≤ 54) ∨ (59 ≤ j ∧ j ≤ 61)) (fun j hj => by omega)).tr dfr0 (fun j hj => by omega)
  have d0 := dfr.at (k := 0) (by omega) r0
  have d2 := dfr0.at (k := 2) (by omega) b2
  have d3 := dfr0.at (k := 3) (by omega) b3
  have d17 := dfr0.at (k := 17) (by omega) b17
  have d39 := dfr0.at (k := 39) (by omega) b39
  have dTA := TankA.fr bTA dfr0 (fun j h1 h2 => by omega)
  have d21 := dfr.at (k := 21) (by omega) c21
  obtain ⟨thw, d60, eth⟩ := dth
  obtain ⟨ldw, d61, eld⟩ := dld
  have hthb : ∀ t, t < 4 → thw t ≤ 100000 := fun t ht => by
    rw [eth t ht]
    have := thF_le (t := t) hP (c := s 0 3 - 1) (by omega) ht
    unfold hOut
    omega
  clear bfr0 dfr0 b2 b3 b17 b39 bTA b0 b59 bO bOut bfr
  refine at_aload_n 37 dX11_passHour_36 rfl rfl rfl ?_
  refine at_g 40 dX11_passHour_37 rfl fl_X11_29 ⟨_, by assumption, ?_⟩
  refine ⟨_, rfl, ?_⟩
  refine at_aload_n 41 dX11_passHour_40 rfl rfl rfl ?_
  refine at_g 44 dX11_passHour_41 rfl fl_X11_63 ⟨_, by assumption, ?_⟩
  refine ⟨_, rfl, ?_⟩
  refine at_invV (ci := 1) 47 [_] _ (c_X1_nameOf d21 (dfr.at (by omega) c22) (dfr.at (by omega) c29) (rows_fr c23 dfr (fun j h1 h2 => by omega)) (rows_fr c30 dfr (fun j h1 h2 => by omega)) d59 d60 i6 (by omega) hthb k9 k10) dX11_passHour_44 rfl rfl (by assumption) rfl ml_X11_283 cl_X1_nameOf vl_X1_nameOf rfl (Nat.le_of_ble_eq_true rfl) ⟨by decide, by decide⟩ (by decide) (fun rr hh qq => ?_)
  obtain ⟨rfl, hq2⟩ := qq; rw [hq2]; clear hq2 hh
  rename List PC => h5
  rw [nameC_cg (F' := fun c => fitB (s 9) (s 10) c (thF (hOut s)) (s 0 5)) (fun c _ => fitB_cg eth)]
  rw [show nameC (fun c => fitB (s 9) (s 10) c (thF (hOut s)) (s 0 5)) (s 0 6) = hNm s from rfl]
  have hnm : hNm s ≤ 6 := by have := nameC_le (fun c => fitB (s 9) (s 10) c (thF (hOut s)) (s 0 5)) (s 0 6); unfold hNm; omega
  have tail : ∀ wb, wb = hBad s → At mX11_passHour T0 69 [.ref 0, .int (nI (hNm s) - 1), .null] [.int (nI wb)] h5 0 0 (ZM mX11_passHour (fun r h' => r = none ∧ RepC (stepH s) h' ∧ h'[55]? = some (oCharge 55 (s 0 0 * 4)) ∧ Ar h' 57 8 (hTk s) ∧ Ar h' 58 32 (hLo s) ∧ Fr (fun j => j < 106) h h')) := by
    intro wb hwb
    have hwb1 := hBad_le s
    have d62 := dfr.at (k := 62) (by omega) l62
    refine at_istore_n (L' := [_, _, _]) 70 dX11_passHour_69 rfl rfl (by decide) rfl rfl ?_
    refine at_aload_n 71 dX11_passHour_70 rfl rfl rfl ?_
    refine at_g 74 dX11_passHour_71 rfl fl_X11_70 ⟨_, by assumption, ?_⟩
    refine ⟨_, rfl, ?_⟩
    refine at_aload_n 75 dX11_passHour_74 rfl rfl rfl ?_
    refine at_g 78 dX11_passHour_75 rfl fl_X11_63 ⟨_, by assumption, ?_⟩
    refine ⟨_, rfl, ?_⟩
    refine at_iload_n 79 dX11_passHour_78 rfl rfl rfl ?_
    refine at_iload_n 80 dX11_passHour_79 rfl rfl rfl ?_
    refine at_invV (ci := 5) 83 [_, _, _] _ (c_X5_add (k := 59) (wb := wb) (Or.inr (by decide)) d62 (dfr.at (by omega) l63) (dfr.at (by omega) l64) (dfr.at (by omega) l65) (dfr.at (by omega) l66) (dfr.at (by omega) l67) d59 d60 d61 h7 (by omega)) dX11_passHour_80 rfl rfl (by assumption) rfl ml_X11_287 cl_X5_add vl_X5_add rfl (Nat.le_of_ble_eq_true rfl) ⟨by decide, by decide⟩ (by decide) (fun rr hh qq => ?_)
    obtain ⟨rfl, x62, x63, x64, x65, x66, x67, xfr⟩ := qq
    rename List PC => h3
    have xfr2 : Fr (fun j => j = 2 ∨ j = 3 ∨ j = 17 ∨ (39 ≤ j ∧ j ≤ 54) ∨ (59 ≤ j ∧ j ≤ 67)) h h3 := (dfr.wk (P' := fun j => j = 2 ∨ j = 3 ∨ j = 17 ∨ (39 ≤ j ∧ j ≤ 54) ∨ (59 ≤ j ∧ j ≤ 67)) (fun j hj => by omega)).tr xfr (fun j hj => by omega)
    have x0 := xfr.at (k := 0) (by omega) d0
    have x59 := xfr.at (k := 59) (by omega) d59
    have x60 := xfr.at (k := 60) (by omega) d60
    have x61 := xfr.at (k := 61) (by omega) d61
    have x4 := xfr2.at (k := 4) (by omega) f4
    have x17 := xfr.at (k := 17) (by omega) d17
    have xL : RLog h3 (s 0 7 + 1) (s 0 8 + (if hBad s = 0 then 0 else s 0 5)) (s 0 9 + s 0 5) (shr (s 0 7 * 4) 4 (thF (hOut s)) (s 12)) (shr (s 0 7 * 8) 8 (ldF (hOut s)) (s 13)) (updN (s 14) (s 0 7) (s 0 5)) (updN (s 15) (s 0 7) (hNm s)) (updN (s 16) (s 0 7) (hBad s)) := by
      rw [hwb] at x62 x67
      refine ⟨x62, ⟨_, x63, fun i hi => ?_⟩, ⟨_, x64, fun i hi => ?_⟩, Ar.up x65 e65 rfl, ⟨_, x66, fun i hi => ?_⟩, ⟨_, x67, fun i hi => ?_⟩⟩
      · unfold shr
        split
        · exact eth _ (by omega)
        · exact e63 i hi
      · unfold shr
        split
        · exact eld _ (by omega)
        · exact e64 i hi
      · show (if i = s 0 7 then nI (hNm s) - 1 else lnm i) = nI (if i = s 0 7 then hNm s else s 15 i) - 1
        split
        · rfl
        · exact e66 i hi
      · unfold updN
        split
        · rfl
        · exact e67 i hi
    have fin : ∀ (h4 : List PC), Ar h4 17 8 (hStk s) → Fr (fun j => j = 17) h3 h4 → ((fun r h' => r = none ∧ RepC (stepH s) h' ∧ h'[55]? = some (oCharge 55 (s 0 0 * 4)) ∧ Ar h' 57 8 (hTk s) ∧ Ar h' 58 32 (hLo s) ∧ Fr (fun j => j < 106) h h') : Option Value → List PC → Prop) none h4 := by
      intro h4 y17 yfr
      have yfr2 : Fr (fun j => j = 2 ∨ j = 3 ∨ j = 17 ∨ (39 ≤ j ∧ j ≤ 54) ∨ (59 ≤ j ∧ j ≤ 67)) h h4 := xfr2.tr yfr (fun j hj => by omega)
      refine ⟨rfl, ?_, at_fr hq yfr2 (fun j h1 h2 => by omega), ht.gt yfr2 (fun j h1 h2 => by omega), hl.gt yfr2 (fun j h1 h2 => by omega), yfr2.wk (fun j hj => by omega)⟩
      refine ⟨at_fr r0 yfr2 (fun j h1 h2 => by omega), ⟨at_fr s1 yfr2 (fun j h1 h2 => by omega), ⟨R', at_fr (xfr.at (by omega) d2) yfr (fun j h1 h2 => by omega)⟩, ⟨P', at_fr (xfr.at (by omega) d3) yfr (fun j h1 h2 => by omega)⟩⟩, ⟨at_fr f4 yfr2 (fun j h1 h2 => by omega), (rF.2.1).gt yfr2 (fun j h1 h2 => by omega), at_fr f6 yfr2 (fun j h1 h2 => by omega), rows_fr f7 yfr2 (fun j h1 h2 => by omega), (rF.2.2.2.2.1).gt yfr2 (fun j h1 h2 => by omega), (rF.2.2.2.2.2.1).gt yfr2 (fun j h1 h2 => by omega), y17⟩, rM.fr yfr2 (fun j h1 h2 => by omega), rC.fr yfr2 (fun j h1 h2 => by omega), rS.fr yfr2 (fun j h1 h2 => by omega), ⟨⟨_, at_fr (xfr.at (by omega) d39) yfr (fun j h1 h2 => by omega)⟩, TankA.fr (TankA.fr dTA xfr (fun j h1 h2 => by omega)) yfr (fun j h1 h2 => by omega)⟩, r55.fr yfr2 (fun j h1 h2 => by omega), ⟨⟨_, at_fr x59 yfr (fun j h1 h2 => by omega)⟩, ⟨_, at_fr x60 yfr (fun j h1 h2 => by omega)⟩, ⟨_, at_fr x61 yfr (fun j h1 h2 => by omega)⟩⟩, RLog.fr xL yfr (fun j h1 h2 => by omega), at_fr r68 yfr2 (fun j h1 h2 => by omega), r69.fr yfr2 (fun j h1 h2 => by omega), r73.fr yfr2 (fun j h1 h2 => by omega), rY.fr yfr2 (fun j h1 h2 => by omega), rR.fr yfr2 (fun j h1 h2 => by omega)⟩
    have hst17 : ∀ i, i < 8 → (if i < 8 then st i - tk i else st i) = hSt s i := fun i hi => by
      rw [if_pos hi, e17 i hi, e57 i hi]; rfl
    refine at_iload_n 84 dX11_passHour_83 rfl rfl rfl ?_
    refine at_if_eqN 101 87 dX11_passHour_84 rfl rfl (by omega) (fun cc => ?_) (fun cc => ?_)
    · refine at_vret dX11_passHour_101 rfl (by decide) (by decide) ?_
      refine fin _ ⟨_, x17, fun i hi => ?_⟩ Fr.rf
      have hz : hStk s = hSt s := by unfold hStk; rw [if_pos (by omega)]
      rw [hz]
      exact hst17 i hi
    · refine at_aload_n 88 dX11_passHour_87 rfl rfl rfl ?_
      refine at_g 91 dX11_passHour_88 rfl fl_X11_15 ⟨_, by assumption, ?_⟩
      refine ⟨_, rfl, ?_⟩
      refine at_aload_n 92 dX11_passHour_91 rfl rfl rfl ?_
      refine at_g 95 dX11_passHour_92 rfl fl_X11_63 ⟨_, by assumption, ?_⟩
      refine ⟨_, rfl, ?_⟩
      refine at_g 98 dX11_passHour_95 rfl fl_X11_290 ⟨_, by assumption, ?_⟩
      refine ⟨_, rfl, ?_⟩
      refine at_invV (ci := 2) 101 [_] _ (c_X2_takeBack x4 (xfr2.at (by omega) f5) x17 i0 (fun i hi => by rw [e5 i hi]; exact k1 i hi) (fun i hi => by rw [hst17 i hi]; have := k4 i hi; unfold hSt; omega) (by omega)) dX11_passHour_98 rfl rfl (by assumption) rfl ml_X11_292 cl_X2_takeBack vl_X2_takeBack rfl (Nat.le_of_ble_eq_true rfl) ⟨by decide, by decide⟩ (by decide) (fun rr hh qq => ?_)
      obtain ⟨rfl, y17, yfr⟩ := qq
      refine at_vret dX11_passHour_101 rfl (by decide) (by decide) ?_
      refine fin _ ⟨_, y17, fun i hi => ?_⟩ yfr
      have ho : ∀ d i, i + d ≤ 8 → ownF kd (s 0 0) d i = ownF (s 1) (s 0 0) d i := by
        intro d
        induction d with
        | zero => intro i _; rfl
        | succ d ih =>
          intro i hi
          show (if kd i = 3 then i else ownF kd (s 0 0) d (i + 1)) = if s 1 i = 3 then i else ownF (s 1) (s 0 0) d (i + 1)
          rw [e5 i (by omega), ih (i + 1) (by omega)]
      have hz : hStk s = backS (s 1) (hSt s) (s 0 0) (s 0 5) := by unfold hStk; rw [if_neg (by omega)]
      rw [hz]
      unfold backS
      rw [ho (s 0 0) 0 (by omega)]
      split
      · rename_i hlt
        unfold updN
        split
        · dsimp only; simp only [hst17 _ (show ownF (s 1) (s 0 0) (s 0 0) 0 < 8 by omega)]
        · exact hst17 i hi
      · exact hst17 i hi
  have hw := nm_m1 (k := s 0 11) (by omega)
  have hnI := nIs_inj (a := hNm s) (b := s 0 11) (by omega) (by omega)
  refine at_istore_n (L' := [_, _, _]) 48 dX11_passHour_47 rfl rfl (by decide) rfl rfl ?_
  refine at_aload_n 49 dX11_passHour_48 rfl rfl rfl ?_
  refine at_g 52 dX11_passHour_49 rfl fl_X11_90 ⟨_, by assumption, ?_⟩
  refine ⟨_, rfl, ?_⟩
  refine at_iconst 53 (-1) dX11_passHour_52 rfl (by decide) ?_
  refine at_icmp_eq 64 56 dX11_passHour_53 rfl rfl (fun cc => ?_) (fun cc => ?_)
  · refine at_iconst 65 (nI 1) dX11_passHour_64 rfl (by decide) ?_
    refine at_goto 69 dX11_passHour_65 rfl ?_
    exact tail 1 (by unfold hBad; rw [if_pos (Or.inl (hw.mp cc))])
  have c1 := cc
  refine at_iload_n 57 dX11_passHour_56 rfl rfl rfl ?_
  refine at_aload_n 58 dX11_passHour_57 rfl rfl rfl ?_
  refine at_g 61 dX11_passHour_58 rfl fl_X11_90 ⟨_, by assumption, ?_⟩
  refine ⟨_, rfl, ?_⟩
  refine at_icmp_eq 68 64 dX11_passHour_61 rfl rfl (fun cc => ?_) (fun cc => ?_)
  · refine at_iconst 69 (nI 0) dX11_passHour_68 rfl (by decide) ?_
    exact tail 0 (by unfold hBad; rw [if_neg (fun q => q.elim (fun q => c1 (hw.mpr q)) (fun q => q (hnI.mp cc)))])
  · refine at_iconst 65 (nI 1) dX11_passHour_64 rfl (by decide) ?_
    refine at_goto 69 dX11_passHour_65 rfl ?_
    exact tail 1 (by unfold hBad; rw [if_pos (Or.inr (fun q => cc (hnI.mpr q)))])
theorem c_hours {s : St} {h : List PC} (hI : Inv s) (hR : RepC s h) (n : Int32) : Ct mX11_hours [.ref 0, .int n] h (RC (fHours s n) h) := by
  obtain ⟨r0, rSh, rF, rM, rC, rS, rT, r55, rG, rL, r68, r69, r73, rY, rR⟩ := id hR; obtain ⟨⟨i0, i1, i2, i3, i4, i5, i6, i7, i8, i9, i10, i11⟩, k1, k2, k3, k4, k5, k5z, k5s, k6, k6z, k7, k7s, k8s, k8z, k9, k10, k11, k11z, k50, k15, k16⟩ := id hI; obtain ⟨f4, ⟨kd, f5, e5⟩, f6, f7, ⟨db, f15, e15⟩, ⟨pr, f16, e16⟩, ⟨st, f17, e17⟩⟩ := id rF; obtain ⟨c21, c22, c29, c23, c30⟩ := id rC; obtain ⟨⟨sti, t39⟩, tA⟩ := id rT; obtain ⟨l62, ⟨lth, l63, e63⟩, ⟨lld, l64, e64⟩, ⟨lgr, l65, e65⟩, ⟨lnm, l66, e66⟩, ⟨lws, l67, e67⟩⟩ := id rL; obtain ⟨m18, ⟨sh, m19, e19⟩, ⟨tc, m20, e20⟩⟩ := id rM
  refine ct_at (L := [_, _, _]) (by decide +kernel) rfl rfl (Nat.le_of_ble_eq_true rfl) ?_
  refine at_iload_n 1 dX11_hours_0 rfl rfl rfl ?_
  refine at_iconst 2 (nI 1) dX11_hours_1 rfl (by decide) ?_
  refine at_bipush 4 (nI 50) dX11_hours_2 rfl (by decide) ?_
  refine at_invS 7 [_, _, _] _ (c_X11_isWithin n (nI 1) (nI 50)) dX11_hours_4 rfl rfl ml_X11_94 cl_X11_isWithin sv_X11_isWithin rfl (Nat.le_of_ble_eq_true rfl) ⟨by decide, by decide⟩ (by decide) (fun rr hh qq => ?_)
  obtain ⟨rfl, hq2⟩ := qq; rw [hq2]; clear hq2 hh
  refine at_if_eqB 32 10 dX11_hours_7 rfl rfl (fun cc => ?_) (fun cc => ?_)
  · refine at_ldc 34 (-1000000000) dX11_hours_32 rfl cn_X11_102 ?_
    refine at_iret dX11_hours_34 rfl (by decide) (by decide) ?_
    exact rc_no (fun ⟨n', q1, q2, q3, _⟩ => wi_no cc (by omega) q3 q1 q2) hR
  obtain ⟨n', n1, n2, rfl⟩ := wi_t cc (by omega) (by omega)
  clear cc
  refine at_aload_n 11 dX11_hours_10 rfl rfl rfl ?_
  refine at_invV (ci := 11) 14 [] _ (c_X11_canRun r0 t39 m18 i2 i1) dX11_hours_11 rfl rfl (by assumption) rfl ml_X11_199 cl_X11_canRun vl_X11_canRun rfl (Nat.le_of_ble_eq_true rfl) ⟨by decide, by decide⟩ (by decide) (fun rr hh qq => ?_)
  obtain ⟨rfl, hq2⟩ := qq; rw [hq2]; clear hq2 hh
  refine at_if_eqB 32 17 dX11_hours_14 rfl rfl (fun cc => ?_) (fun cc => ?_)
  · refine at_ldc 34 (-1000000000) dX11_hours_32 rfl cn_X11_102 ?_
    refine at_iret dX11_hours_34 rfl (by decide) (by decide) ?_
    exact rc_no (fun ⟨n', q1, q2, q3, q4, q5, q6⟩ => of_decide_eq_false cc ⟨q4, q5⟩) hR
  obtain ⟨hm, hx⟩ := of_decide_eq_true cc
  clear cc
  refine at_aload_n 18 dX11_hours_17 rfl rfl rfl ?_
  refine at_g 21 dX11_hours_18 rfl fl_X11_70 ⟨_, by assumption, ?_⟩
  refine ⟨_, rfl, ?_⟩
  refine at_g 24 dX11_hours_21 rfl fl_X11_203 ⟨_, by assumption, ?_⟩
  refine ⟨_, rfl, ?_⟩
  refine at_iload_n 25 dX11_hours_24 rfl rfl rfl ?_
  first | refine at_iaddN 26 dX11_hours_25 rfl ?_ | refine at_iadd 26 dX11_hours_25 rfl ?_
  refine at_sipush 29 (nI 400) dX11_hours_26 rfl (by decide) ?_
  refine at_icmp_leN 35 32 dX11_hours_29 rfl rfl (by omega) (by omega) (fun cc => ?_) (fun cc => ?_)
  rotate_left
  · refine at_ldc 34 (-1000000000) dX11_hours_32 rfl cn_X11_102 ?_
    refine at_iret dX11_hours_34 rfl (by decide) (by decide) ?_
    exact rc_no (fun ⟨n2, q1, q2, q3, q4, q5, q6⟩ => by
      have e1 := nI_inj q3 (by omega) (by omega)
      omega) hR
  have h400 := cc
  clear cc
  obtain ⟨⟨s0, k55⟩, -⟩ := id r55
  refine at_aload_n 36 dX11_hours_35 rfl rfl rfl ?_
  refine at_g 39 dX11_hours_36 rfl fl_X11_56 ⟨_, by assumption, ?_⟩
  refine ⟨_, rfl, ?_⟩
  refine at_aload_n 40 dX11_hours_39 rfl rfl rfl ?_
  refine at_g 43 dX11_hours_40 rfl fl_X11_47 ⟨_, by assumption, ?_⟩
  refine ⟨_, rfl, ?_⟩
  refine at_g 46 dX11_hours_43 rfl fl_X11_141 ⟨_, by assumption, ?_⟩
  refine ⟨_, rfl, ?_⟩
  refine at_iconst 47 (-1) dX11_hours_46 rfl (by decide) ?_
  refine at_iconst 48 (nI 0) dX11_hours_47 rfl (by decide) ?_
  refine at_invV (ci := 0) 51 [_, _, _] _ (c_meas (q := 55) (s := 0) (ti := 0) (by decide) (Or.inl ⟨rfl, rfl⟩) (by decide) (fun _ => rfl) ⟨⟨f4, f6, f7⟩, ⟨m18, rM.2.1⟩⟩ rSh r55 (inv_f hI hx) (by omega)) dX11_hours_48 rfl rfl (by assumption) rfl ml_X11_206 cl_X0_measure vl_X0_measure rfl (Nat.le_of_ble_eq_true rfl) ⟨by decide, by decide⟩ (by decide) (fun rr hh qq => ?_)
  obtain ⟨rfl, dSh, dq, dw, dt, dl, dfr⟩ := qq
  rw [share_doseW_0] at dt dl
  have dR : RepC s hh := by
    obtain ⟨w1, dw⟩ := dw
    obtain ⟨w2, dt2, -⟩ := dt
    refine ⟨at_fr r0 dfr (fun j h1 h2 => by omega), dSh, rF.fr dfr (fun j h1 h2 => by omega), rM.fr dfr (fun j h1 h2 => by omega), rC.fr dfr (fun j h1 h2 => by omega), rS.fr dfr (fun j h1 h2 => by omega), rT.fr dfr (fun j h1 h2 => by omega), ChS.of dq ⟨w1, dw⟩ ⟨w2, dt2⟩ dl (lo_ok (inv_f hI hx)), rG.fr' dfr (fun j h1 h2 => by omega), rL.fr dfr (fun j h1 h2 => by omega), at_fr r68 dfr (fun j h1 h2 => by omega), r69.fr dfr (fun j h1 h2 => by omega), r73.fr dfr (fun j h1 h2 => by omega), rY.fr dfr (fun j h1 h2 => by omega), rR.fr dfr (fun j h1 h2 => by omega)⟩
  refine at_iconst 52 (nI 0) dX11_hours_51 rfl (by decide) ?_
  refine at_istore_n (L' := [_, _, _]) 53 dX11_hours_52 rfl rfl (by decide) rfl rfl ?_
  have loop : ∀ (d g : Nat) (s' : St) (h' : List PC), g + d = n' → hrsN d g s' = hrsN n' 0 s → Inv s' → RepC s' h' → s' 0 2 = 1 → s' 0 1 = 1 → s' 0 7 + d ≤ 400 → h'[55]? = some (oCharge 55 (s' 0 0 * 4)) → Ar h' 57 8 (hTk s') → Ar h' 58 32 (hLo s') → Fr (fun j => j < 106) h h' → At mX11_hours T0 53 [.ref 0, .int (nI n'), .int (nI g)] [] h' 0 0 (ZM mX11_hours (RC (fHours s (nI n')) h)) := by
    intro d
    induction d with
    | zero =>
      intro g s' h' hd he hI' hR' hm' hx' h7 a55 a57 a58 afr
      refine at_iload_n 54 dX11_hours_53 rfl rfl rfl ?_
      refine at_iload_n 55 dX11_hours_54 rfl rfl rfl ?_
      refine at_icmp_geN 85 58 dX11_hours_55 rfl rfl (by omega) (by omega) (fun cc => ?_) (fun cc => ?_)
      rotate_left
      · omega
      refine at_iload_n 86 dX11_hours_85 rfl rfl rfl ?_
      refine at_iret dX11_hours_86 rfl (by decide) (by decide) ?_
      refine rc_yes ⟨n', n1, n2, rfl, hm, hx, by omega⟩ ?_ ?_ afr
      · rw [tn_nI (by omega), ← he]; rfl
      · rw [tn_nI (by omega), ← he]; exact hR'
    | succ d ih =>
      intro g s' h' hd he hI' hR' hm' hx' h7 a55 a57 a58 afr
      have b0 := hR'.1
      have b4 := hR'.2.2.1.1
      obtain ⟨st', b17, eb17⟩ := hR'.2.2.1.2.2.2.2.2.2
      obtain ⟨tk, b57, eb57⟩ := id a57
      have hk4 := hI'.2.2.2.2.1
      have hk5 : ∀ f, f < 8 → hTk s' f ≤ 100000 := fun f hf => by
        have := tkP_le (p := s' 0 5) ((inv_f hI' hx').2.2.1) hf
        have h5 := hI'.1.2.2.2.2.1
        have h6 := hI'.1.2.2.2.2.2.1
        unfold hTk
        omega
      refine at_iload_n 54 dX11_hours_53 rfl rfl rfl ?_
      refine at_iload_n 55 dX11_hours_54 rfl rfl rfl ?_
      refine at_icmp_geN 85 58 dX11_hours_55 rfl rfl (by omega) (by omega) (fun cc => ?_) (fun cc => ?_)
      · omega
      refine at_aload_n 59 dX11_hours_58 rfl rfl rfl ?_
      refine at_g 62 dX11_hours_59 rfl fl_X11_15 ⟨_, by assumption, ?_⟩
      refine ⟨_, rfl, ?_⟩
      refine at_aload_n 63 dX11_hours_62 rfl rfl rfl ?_
      refine at_g 66 dX11_hours_63 rfl fl_X11_56 ⟨_, by assumption, ?_⟩
      refine ⟨_, rfl, ?_⟩
      refine at_g 69 dX11_hours_66 rfl fl_X11_210 ⟨_, by assumption, ?_⟩
      refine ⟨_, rfl, ?_⟩
      refine at_invV (ci := 2) 72 [_] _ (c_X2_haveAll b4 b17 b57 (fun i hi => by rw [eb17 i hi]; have := hk4 i hi; omega) (fun i hi => by rw [eb57 i hi]; have := hk5 i hi; omega)) dX11_hours_69 rfl rfl (by assumption) rfl ml_X11_213 cl_X2_haveAll vl_X2_haveAll rfl (Nat.le_of_ble_eq_true rfl) ⟨by decide, by decide⟩ (by decide) (fun rr hh qq => ?_)
      obtain ⟨rfl, hq2⟩ := qq; rw [hq2]; clear hq2 hh
      have e9 : allB (fun i => decide (tk i ≤ st' i)) 8 = canH s' := allB_congr (fun i hi => by rw [eb17 i hi, eb57 i hi])
      rw [e9]
      have hstep : hrsN (d + 1) g s' = if canH s' = true then hrsN d (g + 1) (stepH s') else (g, s') := rfl
      rw [hstep] at he
      refine at_if_eqB 85 75 dX11_hours_72 rfl rfl (fun cc => ?_) (fun cc => ?_)
      · rw [if_neg (by rw [cc]; decide)] at he
        refine at_iload_n 86 dX11_hours_85 rfl rfl rfl ?_
        refine at_iret dX11_hours_86 rfl (by decide) (by decide) ?_
        refine rc_yes ⟨n', n1, n2, rfl, hm, hx, by omega⟩ ?_ ?_ afr
        · rw [tn_nI (by omega), ← he]
        · rw [tn_nI (by omega), ← he]; exact hR'
      · rw [if_pos cc] at he
        refine at_aload_n 76 dX11_hours_75 rfl rfl rfl ?_
        refine at_invV (ci := 11) 79 [] _ (c_passHour hI' hR' hm' hx' a55 a57 a58 cc (by omega)) dX11_hours_76 rfl rfl (by assumption) rfl ml_X11_217 cl_X11_passHour vl_X11_passHour rfl (Nat.le_of_ble_eq_true rfl) ⟨by decide, by decide⟩ (by decide) (fun rr hh qq => ?_)
        obtain ⟨rfl, xR, x55, x57, x58, xfr⟩ := qq
        refine at_iincN (q := 1) (L' := [_, _, _]) 82 dX11_hours_79 rfl (by decide) rfl (by decide) rfl rfl ?_
        refine at_goto 53 dX11_hours_82 rfl ?_
        exact ih (g + 1) (stepH s') _ (by omega) he (inv_step hI' hm' hx' (by omega)) xR hm' hx' (by show s' 0 7 + 1 + d ≤ 400; omega) x55 x57 x58 (afr.tr xfr (fun j hj => hj))
  exact loop n' 0 s hh (by omega) rfl hI dR hm hx h400 dq dt dl (dfr.wk (fun j hj => by omega))

