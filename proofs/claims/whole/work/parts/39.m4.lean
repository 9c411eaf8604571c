theorem loN_cgm {tk tk' mk mk' : Nat → Nat} {n : Nat} (hn : n ≤ 8) (ht : ∀ f, f < 8 → tk f = tk' f) (hm : ∀ i, i < 32 → mk i = mk' i) : ∀ i, i < 32 → loN tk mk n i = loN tk' mk' n i := fun i hi => by
  unfold loN lotN
  by_cases q : i < 4 * n
  · rw [if_pos q, if_pos q, ht _ (by omega)]
    exact share_congr (by decide) (fun t ht => hm _ (by omega)) _ (by omega)
  · rw [if_neg q, if_neg q]
theorem wgtN_cg {a b : Nat → Nat} {sd ti : Nat} (h : ∀ f, f < 8 → a f = b f) : ∀ f, f < 8 → wgtN a sd ti f = wgtN b sd ti f := fun f hf => by
  unfold wgtN
  split
  · exact h f hf
  · exact doseW_cg h f hf
def tkW (s : St) (sd ti : Nat) : Nat → Nat := share (s 0 5) (wgtN (s 5) sd ti) 8
def loW (s : St) (sd ti : Nat) : Nat → Nat := loN (tkW s sd ti) (s 7) (s 0 0)
theorem loW_ok {s : St} {sd ti : Nat} {ti0 : Int32} (hI : Inv s) (hx : s 0 1 = 1) (hti : ((ti = 0 ∧ ti0 = -1) ∨ (∃ f, f < s 0 0 ∧ ti = f + 1 ∧ ti0 = nI f))) (hsd : sd ≤ 1000) : LoOk (loW s sd ti) (s 0 5) (s 0 0 * 4) := by
  have hO := inv_f hI hx
  rcases hti with ⟨rfl, -⟩ | ⟨f, hf, rfl, -⟩
  · exact lo_ok hO
  · exact loD_ok hO hf hsd
theorem c_comesR {s : St} {h : List PC} (hI : Inv s) (hR : RepM s h) {sd ti : Nat} {ti0 : Int32} (hx : s 0 1 = 1) (hti : ((ti = 0 ∧ ti0 = -1) ∨ (∃ f, f < s 0 0 ∧ ti = f + 1 ∧ ti0 = nI f))) (hsd : sd ≤ 1000) : Ct mX12_comes [.ref 106, .int ti0, .int (nI sd)] h (fun r h' => r = none ∧ RepM s h' ∧ Ar h' 132 8 (tkW s sd ti) ∧ Ar h' 117 32 (loW s sd ti) ∧ Fr (fun j => j = 117 ∨ j = 132 ∨ (127 ≤ j ∧ j ≤ 129)) h h') := by
  have hO := inv_f hI hx
  obtain ⟨m0, mF, mL, mC, mH, mR, mS⟩ := id hR; obtain ⟨⟨i0, i1, i2, i3, i4, i5, i6, i7, i8, i9, i10, i11⟩, k1, k2, k3, k4, k5, k5z, k5s, k6, k6z, k7, k7s, k8s, k8z, k9, k10, k11, k11z, k50, k15, k16⟩ := id hI; obtain ⟨⟨mk, f107, e107⟩, ⟨kd, f108, e108⟩, ⟨db, f109, e109⟩, ⟨pr, f110, e110⟩, ⟨st, f111, e111⟩, ⟨tc, f112, e112⟩, ⟨sh, f113, e113⟩⟩ := id mF
  obtain ⟨x115, x116, x117, x118, hSH, x130, x131, x132, x133⟩ := id mS
  refine (c_comes hti hsd m0 f107 f113 hSH x117 x132 (hO.cg e107 e113) (by omega)).mono (fun r h' hQ => ?_)
  obtain ⟨rfl, aS, aT, aL, hfr⟩ := hQ
  have hT : ∀ f, f < 8 → share (s 0 5) (wgtN sh sd ti) 8 f = tkW s sd ti f := fun f hf => share_congr (by decide) (wgtN_cg e113) f hf
  refine ⟨rfl, ?_, aT.cg hT, aL.cg (loN_cgm i0 hT e107), hfr⟩
  refine ⟨at_fr m0 hfr (fun j h1 h2 => by omega), mF.fr hfr (fun j h1 h2 => by omega), mL.fr hfr (fun j h1 h2 => by omega), mC.fr hfr (fun j h1 h2 => by omega), mH.fr hfr (fun j h1 h2 => by omega), mR.gt hfr (fun j h1 h2 => by omega), ⟨?_, ?_, ?_, ?_, aS, ?_, ?_, ?_, ?_⟩⟩
  · obtain ⟨v, hv⟩ := x115; exact ⟨v, at_fr hv hfr (fun j h1 h2 => by omega)⟩
  · obtain ⟨v, hv⟩ := x116; exact ⟨v, at_fr hv hfr (fun j h1 h2 => by omega)⟩
  · obtain ⟨v, hv, -⟩ := aL; exact ⟨v, hv⟩
  · obtain ⟨v, hv⟩ := x118; exact ⟨v, at_fr hv hfr (fun j h1 h2 => by omega)⟩
  · obtain ⟨v, hv⟩ := x130; exact ⟨v, at_fr hv hfr (fun j h1 h2 => by omega)⟩
  · obtain ⟨v, hv⟩ := x131; exact ⟨v, at_fr hv hfr (fun j h1 h2 => by omega)⟩
  · obtain ⟨v, hv, -⟩ := aT; exact ⟨v, hv⟩
  · obtain ⟨v, hv⟩ := x133; exact ⟨v, at_fr hv hfr (fun j h1 h2 => by omega)⟩
theorem c_goesR {s : St} {h : List PC} (hI : Inv s) (hR : RepM s h) {R lo : Nat → Nat} (hrw : h[115]? = some (aI 192 R)) (h117 : Ar h 117 32 lo) (hP : POk R (s 0 4) (s 0 5) (s 0 3) (s 0 0 * 4)) (hl : LoOk lo (s 0 5) (s 0 0 * 4)) : Ct mX12_goes [.ref 106, .ref 115] h (fun r h' => r = none ∧ RepM s h' ∧ Ar h' 115 192 (passL R lo (s 0 5) (s 0 3)) ∧ Ar h' 118 32 (outF R (s 0 5) (s 0 3 - 1)) ∧ Fr (fun j => j = 115 ∨ j = 116 ∨ j = 118 ∨ (127 ≤ j ∧ j ≤ 129)) h h') := by
  obtain ⟨m0, mF, mL, mC, mH, mR, mS⟩ := id hR; obtain ⟨⟨i0, i1, i2, i3, i4, i5, i6, i7, i8, i9, i10, i11⟩, k1, k2, k3, k4, k5, k5z, k5s, k6, k6z, k7, k7s, k8s, k8z, k9, k10, k11, k11z, k50, k15, k16⟩ := id hI
  obtain ⟨x115, x116, x117, x118, hSH, x130, x131, x132, x133⟩ := id mS
  refine (c_goes (Or.inr rfl) m0 hSH hrw x116 h117 x118 hP hl (by omega)).mono (fun r h' hQ => ?_)
  obtain ⟨rfl, aS, aR, a116, aG, hfr⟩ := hQ
  refine ⟨rfl, ?_, aR, aG, hfr⟩
  refine ⟨at_fr m0 hfr (fun j h1 h2 => by omega), mF.fr hfr (fun j h1 h2 => by omega), mL.fr hfr (fun j h1 h2 => by omega), mC.fr hfr (fun j h1 h2 => by omega), mH.fr hfr (fun j h1 h2 => by omega), mR.gt hfr (fun j h1 h2 => by omega), ⟨?_, a116, ?_, ?_, aS, ?_, ?_, ?_, ?_⟩⟩
  · obtain ⟨v, hv, -⟩ := aR; exact ⟨v, hv⟩
  · obtain ⟨v, hv⟩ := x117; exact ⟨v, at_fr hv hfr (fun j h1 h2 => by omega)⟩
  · obtain ⟨v, hv, -⟩ := aG; exact ⟨v, hv⟩
  · obtain ⟨v, hv⟩ := x130; exact ⟨v, at_fr hv hfr (fun j h1 h2 => by omega)⟩
  · obtain ⟨v, hv⟩ := x131; exact ⟨v, at_fr hv hfr (fun j h1 h2 => by omega)⟩
  · obtain ⟨v, hv⟩ := x132; exact ⟨v, at_fr hv hfr (fun j h1 h2 => by omega)⟩
  · obtain ⟨v, hv⟩ := x133; exact ⟨v, at_fr hv hfr (fun j h1 h2 => by omega)⟩
theorem fitB_cgl {le le' mo mo' th th' : Nat → Nat} {c g : Nat} (hc : c < 6) (h1 : ∀ i, i < 24 → le i = le' i) (h2 : ∀ i, i < 24 → mo i = mo' i) (h3 : ∀ t, t < 4 → th t = th' t) : fitB le mo c th g = fitB le' mo' c th' g := allB_congr (fun t ht => by rw [h1 _ (by omega), h2 _ (by omega), h3 t ht])
theorem c_isOfR {s : St} {h : List PC} (hI : Inv s) (hR : RepM s h) {c : Nat} {R : Nat → Nat} (h118 : Ar h 118 32 (outF R (s 0 5) (s 0 3 - 1))) (hP : POk R (s 0 4) (s 0 5) (s 0 3) (s 0 0 * 4)) (hc : c < 6) : Ct mX12_isOf [.ref 106, .int (nI c)] h (fun r h' => r = some (.int (bI (fitS s c (thF (outF R (s 0 5) (s 0 3 - 1)))))) ∧ h' = h) := by
  obtain ⟨m0, mF, mL, mC, mH, mR, mS⟩ := id hR; obtain ⟨⟨i0, i1, i2, i3, i4, i5, i6, i7, i8, i9, i10, i11⟩, k1, k2, k3, k4, k5, k5z, k5s, k6, k6z, k7, k7s, k8s, k8z, k9, k10, k11, k11z, k50, k15, k16⟩ := id hI; obtain ⟨⟨le, f119, e119⟩, ⟨mo, f120, e120⟩, ⟨ch, f121, e121⟩⟩ := id mC
  obtain ⟨G, f118, e118⟩ := h118
  have hth : ∀ t, t < 4 → thF G t = thF (outF R (s 0 5) (s 0 3 - 1)) t := fun t ht => thF_cg e118 ht
  refine (c_isOf (c := c) m0 f118 f119 f120 hc (by omega) (fun t ht => by rw [hth t ht]; have := thF_le hP (c := s 0 3 - 1) (by omega) ht; omega) (fun i hi => by rw [e119 i hi]; exact k9 i hi) (fun i hi => by rw [e120 i hi]; exact k10 i hi)).mono (fun r h' hQ => ?_)
  rw [fitB_cgl hc e119 e120 hth] at hQ
  exact hQ
theorem c_nameR {s : St} {h : List PC} (hI : Inv s) (hR : RepM s h) {R : Nat → Nat} (h118 : Ar h 118 32 (outF R (s 0 5) (s 0 3 - 1))) (hP : POk R (s 0 4) (s 0 5) (s 0 3) (s 0 0 * 4)) : Ct mX12_nameOf [.ref 106] h (fun r h' => r = some (.int (nI (nameC (fun c => fitB (s 9) (s 10) c (thF (outF R (s 0 5) (s 0 3 - 1))) (s 0 5)) (s 0 6)) - 1)) ∧ h' = h) := by
  obtain ⟨m0, mF, mL, mC, mH, mR, mS⟩ := id hR; obtain ⟨⟨i0, i1, i2, i3, i4, i5, i6, i7, i8, i9, i10, i11⟩, k1, k2, k3, k4, k5, k5z, k5s, k6, k6z, k7, k7s, k8s, k8z, k9, k10, k11, k11z, k50, k15, k16⟩ := id hI; obtain ⟨⟨le, f119, e119⟩, ⟨mo, f120, e120⟩, ⟨ch, f121, e121⟩⟩ := id mC
  obtain ⟨G, f118, e118⟩ := h118
  have hth : ∀ t, t < 4 → thF G t = thF (outF R (s 0 5) (s 0 3 - 1)) t := fun t ht => thF_cg e118 ht
  refine (c_nameOfM m0 f118 f119 f120 i6 (by omega) (fun t ht => by rw [hth t ht]; have := thF_le hP (c := s 0 3 - 1) (by omega) ht; omega) (fun i hi => by rw [e119 i hi]; exact k9 i hi) (fun i hi => by rw [e120 i hi]; exact k10 i hi)).mono (fun r h' hQ => ?_)
  rw [nameC_cg (F' := fun c => fitB (s 9) (s 10) c (thF (outF R (s 0 5) (s 0 3 - 1))) (s 0 5)) (fun c hc => fitB_cgl (by omega) e119 e120 hth)] at hQ
  exact hQ
theorem c_first {s : St} {h : List PC} (hI : Inv s) (hR : RepM s h) {c sd ti many : Nat} {ti0 : Int32} (hm : s 0 2 = 1) (hx : s 0 1 = 1) (hc : c < 6) (hti : ((ti = 0 ∧ ti0 = -1) ∨ (∃ f, f < s 0 0 ∧ ti = f + 1 ∧ ti0 = nI f))) (hsd : sd ≤ 1000) (hmany : many ≤ 1000) : Ct mX12_first [.ref 106, .int (nI c), .int ti0, .int (nI sd), .int (nI many)] h (fun r h' => r = some (.int (nI (tellN (fitS s c) (s 0 5) (s 0 3) (loW s sd ti) (hLo s) many 100 1 (s 8)))) ∧ RepM s h' ∧ Fr (fun j => (115 ≤ j ∧ j ≤ 118) ∨ (127 ≤ j ∧ j ≤ 129) ∨ j = 132) h h') := by
  have hPs := inv_p hI hm
  have hFx : Fx (fitS s c) := Fx_fit _ _ _ _
  have hloD := loW_ok hI hx hti hsd
  have hloP : LoOk (hLo s) (s 0 5) (s 0 0 * 4) := lo_ok (inv_f hI hx)
  obtain ⟨m0, mF, mL, mC, mH, mR, mS⟩ := id hR; obtain ⟨⟨i0, i1, i2, i3, i4, i5, i6, i7, i8, i9, i10, i11⟩, k1, k2, k3, k4, k5, k5z, k5s, k6, k6z, k7, k7s, k8s, k8z, k9, k10, k11, k11z, k50, k15, k16⟩ := id hI
  obtain ⟨lw, f114, e114⟩ := id mL
  obtain ⟨w15, f115⟩ := mS.1
  refine ct_at (L := [_, _, _, _, _, _]) (by decide +kernel) rfl rfl (Nat.le_of_ble_eq_true rfl) ?_
  refine at_iconst 1 (nI 0) dX12_first_0 rfl (by decide) ?_
  refine at_istore (L' := [_, _, _, _, _, _]) 3 dX12_first_1 rfl (by decide) rfl rfl ?_
  have loopB : ∀ (d hr : Nat) (R : Nat → Nat) (h' : List PC), hr + d = 101 → 1 ≤ hr → RepM s h' → h'[115]? = some (aI 192 R) → POk R (s 0 4) (s 0 5) (s 0 3) (s 0 0 * 4) → tellN (fitS s c) (s 0 5) (s 0 3) (loW s sd ti) (hLo s) many d hr R = (tellN (fitS s c) (s 0 5) (s 0 3) (loW s sd ti) (hLo s) many 100 1 (s 8)) → Fr (fun j => (115 ≤ j ∧ j ≤ 118) ∨ (127 ≤ j ∧ j ≤ 129) ∨ j = 132) h h' → At mX12_first T0 34 [.ref 106, .int (nI c), .int ti0, .int (nI sd), .int (nI many), .int (nI hr)] [] h' 0 0 (ZM mX12_first (fun r h' => r = some (.int (nI (tellN (fitS s c) (s 0 5) (s 0 3) (loW s sd ti) (hLo s) many 100 1 (s 8)))) ∧ RepM s h' ∧ Fr (fun j => (115 ≤ j ∧ j ≤ 118) ∨ (127 ≤ j ∧ j ≤ 129) ∨ j = 132) h h')) := by
    intro d
    induction d with
    | zero =>
      intro hr R h' hd h1 aR a115 hP he hfr
      refine at_iload 36 dX12_first_34 rfl rfl ?_
      refine at_bipush 38 (nI 100) dX12_first_36 rfl (by decide) ?_
      refine at_icmp_gtN 83 41 dX12_first_38 rfl rfl (by omega) (by omega) (fun cc => ?_) (fun cc => ?_)
      rotate_left
      · omega
      refine at_iconst 84 (nI 0) dX12_first_83 rfl (by decide) ?_
      refine at_iret dX12_first_84 rfl (by decide) (by decide) ?_
      rw [← he]
      exact ⟨rfl, aR, hfr⟩
    | succ d ih =>
      intro hr R h' hd h1 aR a115 hP he hfr
      have a0 := aR.1
      have main : ∀ (tj : Nat) (tj0 : Int32), ((tj = 0 ∧ tj0 = -1) ∨ (∃ f, f < s 0 0 ∧ tj = f + 1 ∧ tj0 = nI f)) → loW s sd tj = (if hr ≤ many then loW s sd ti else hLo s) → At mX12_first T0 54 [.ref 106, .int (nI c), .int ti0, .int (nI sd), .int (nI many), .int (nI hr)] [.int tj0, .ref 106] h' 0 0 (ZM mX12_first (fun r h' => r = some (.int (nI (tellN (fitS s c) (s 0 5) (s 0 3) (loW s sd ti) (hLo s) many 100 1 (s 8)))) ∧ RepM s h' ∧ Fr (fun j => (115 ≤ j ∧ j ≤ 118) ∨ (127 ≤ j ∧ j ≤ 129) ∨ j = 132) h h')) := by
        intro tj tj0 htj hlo
        refine at_iload_n 55 dX12_first_54 rfl rfl rfl ?_
        refine at_invV (ci := 12) 58 [_, _] _ (c_comesR hI aR (sd := sd) (ti := tj) hx htj hsd) dX12_first_55 rfl rfl (by assumption) rfl ml_X12_168 cl_X12_comes vl_X12_comes rfl (Nat.le_of_ble_eq_true rfl) ⟨by decide, by decide⟩ (by decide) (fun rr hh qq => ?_)
        obtain ⟨rfl, bR, -, b117, bfr⟩ := qq
        have b0 := bR.1
        have b115 := bfr.at (k := 115) (by omega) a115
        refine at_aload_n 59 dX12_first_58 rfl rfl rfl ?_
        refine at_aload_n 60 dX12_first_59 rfl rfl rfl ?_
        refine at_g 63 dX12_first_60 rfl fl_X12_47 ⟨_, by assumption, ?_⟩
        refine ⟨_, rfl, ?_⟩
        refine at_invV (ci := 12) 66 [_] _ (c_goesR hI bR b115 b117 hP (loW_ok hI hx htj hsd)) dX12_first_63 rfl rfl (by assumption) rfl ml_X12_171 cl_X12_goes vl_X12_goes rfl (Nat.le_of_ble_eq_true rfl) ⟨by decide, by decide⟩ (by decide) (fun rr hh qq => ?_)
        obtain ⟨rfl, dR, ⟨R2, d115, eR2⟩, d118, dfr⟩ := qq
        have d0 := dR.1
        have dfr2 : Fr (fun j => (115 ≤ j ∧ j ≤ 118) ∨ (127 ≤ j ∧ j ≤ 129) ∨ j = 132) h hh := (hfr.tr bfr (fun j hj => by omega)).tr dfr (fun j hj => by omega)
        refine at_aload_n 67 dX12_first_66 rfl rfl rfl ?_
        refine at_iload_n 68 dX12_first_67 rfl rfl rfl ?_
        refine at_invV (ci := 12) 71 [_] _ (c_isOfR hI dR d118 hP hc) dX12_first_68 rfl rfl (by assumption) rfl ml_X12_165 cl_X12_isOf vl_X12_isOf rfl (Nat.le_of_ble_eq_true rfl) ⟨by decide, by decide⟩ (by decide) (fun rr hh qq => ?_)
        obtain ⟨rfl, hq2⟩ := qq; rw [hq2]; clear hq2 hh
        rename List PC => h5
        have hst : tellN (fitS s c) (s 0 5) (s 0 3) (loW s sd ti) (hLo s) many (d + 1) hr R = if fitS s c (thF (outF R (s 0 5) (s 0 3 - 1))) then hr else tellN (fitS s c) (s 0 5) (s 0 3) (loW s sd ti) (hLo s) many d (hr + 1) (passL R (if hr ≤ many then loW s sd ti else hLo s) (s 0 5) (s 0 3)) := rfl
        rw [hst] at he
        refine at_if_eqB 77 74 dX12_first_71 rfl rfl (fun cc => ?_) (fun cc => ?_)
        · rw [cc, if_neg (by decide)] at he
          refine at_iincN (q := 1) (L' := [_, _, _, _, _, _]) 80 dX12_first_77 rfl (by decide) rfl (by decide) rfl rfl ?_
          refine at_goto 34 dX12_first_80 rfl ?_
          refine ih (hr + 1) R2 h5 (by omega) (by omega) dR d115 ?_ ?_ dfr2
          · exact (hP.pass (loW_ok hI hx htj hsd)).cg (fun x hx => eR2 x (by omega))
          · rw [← he]
            refine tellN_cg hFx (by omega) _ _ _ _ (fun x hx => ?_)
            rw [eR2 x (by omega), hlo]
        · rw [cc, if_pos rfl] at he
          refine at_iload 76 dX12_first_74 rfl rfl ?_
          refine at_iret dX12_first_76 rfl (by decide) (by decide) ?_
          rw [← he]
          exact ⟨rfl, dR, dfr2⟩
      refine at_iload 36 dX12_first_34 rfl rfl ?_
      refine at_bipush 38 (nI 100) dX12_first_36 rfl (by decide) ?_
      refine at_icmp_gtN 83 41 dX12_first_38 rfl rfl (by omega) (by omega) (fun cc => ?_) (fun cc => ?_)
      · omega
      refine at_aload_n 42 dX12_first_41 rfl rfl rfl ?_
      refine at_iload 44 dX12_first_42 rfl rfl ?_
      refine at_iload 46 dX12_first_44 rfl rfl ?_
      refine at_icmp_gtN 53 49 dX12_first_46 rfl rfl (by omega) (by omega) (fun cc => ?_) (fun cc => ?_)
      · refine at_iconst 54 (-1) dX12_first_53 rfl (by decide) ?_
        exact main 0 (-1) (Or.inl ⟨rfl, rfl⟩) (by rw [if_neg (by omega)]; rfl)
      · refine at_iload_n 50 dX12_first_49 rfl rfl rfl ?_
        refine at_goto 54 dX12_first_50 rfl ?_
        exact main ti ti0 hti (by rw [if_pos cc])
  have loopA : ∀ (d i : Nat) (w : Nat → Nat) (h' : List PC), i + d = 192 → h'[115]? = some (aI 192 w) → (∀ x, x < i → w x = lw x) → Fr (fun j => j = 115) h h' → At mX12_first T0 3 [.ref 106, .int (nI c), .int ti0, .int (nI sd), .int (nI many), .int (nI i)] [] h' 0 0 (ZM mX12_first (fun r h' => r = some (.int (nI (tellN (fitS s c) (s 0 5) (s 0 3) (loW s sd ti) (hLo s) many 100 1 (s 8)))) ∧ RepM s h' ∧ Fr (fun j => (115 ≤ j ∧ j ≤ 118) ∨ (127 ≤ j ∧ j ≤ 129) ∨ j = 132) h h')) := by
    intro d
    induction d with
    | zero =>
      intro i w h' hi a115 hw hfr
      have hagree : ∀ x, x < 32 * s 0 3 → w x = s 8 x := fun x hx => by rw [hw x (by omega), e114 x hx]
      refine at_iload 5 dX12_first_3 rfl rfl ?_
      refine at_sipush 8 (nI 192) dX12_first_5 rfl (by decide) ?_
      refine at_icmp_geN 31 11 dX12_first_8 rfl rfl (by omega) (by omega) (fun cc => ?_) (fun cc => ?_)
      rotate_left
      · omega
      refine at_iconst 32 (nI 1) dX12_first_31 rfl (by decide) ?_
      refine at_istore (L' := [_, _, _, _, _, _]) 34 dX12_first_32 rfl (by decide) rfl rfl ?_
      refine loopB 100 1 w h' (by omega) (by omega) ?_ a115 (hPs.cg hagree) (tellN_cg hFx (by omega) _ _ _ _ hagree) (hfr.wk (fun j hj => by omega))
      obtain ⟨x115, x116, x117, x118, hSH, x130, x131, x132, x133⟩ := id mS
      refine ⟨at_fr m0 hfr (fun j h1 h2 => by omega), mF.fr hfr (fun j h1 h2 => by omega), mL.fr hfr (fun j h1 h2 => by omega), mC.fr hfr (fun j h1 h2 => by omega), mH.fr hfr (fun j h1 h2 => by omega), mR.gt hfr (fun j h1 h2 => by omega), ⟨⟨w, a115⟩, ?_, ?_, ?_, hSH.fr hfr (fun j h1 h2 => by omega), ?_, ?_, ?_, ?_⟩⟩
      · obtain ⟨v, hv⟩ := x116; exact ⟨v, at_fr hv hfr (fun j h1 h2 => by omega)⟩
      · obtain ⟨v, hv⟩ := x117; exact ⟨v, at_fr hv hfr (fun j h1 h2 => by omega)⟩
      · obtain ⟨v, hv⟩ := x118; exact ⟨v, at_fr hv hfr (fun j h1 h2 => by omega)⟩
      · obtain ⟨v, hv⟩ := x130; exact ⟨v, at_fr hv hfr (fun j h1 h2 => by omega)⟩
      · obtain ⟨v, hv⟩ := x131; exact ⟨v, at_fr hv hfr (fun j h1 h2 => by omega)⟩
      · obtain ⟨v, hv⟩ := x132; exact ⟨v, at_fr hv hfr (fun j h1 h2 => by omega)⟩
      · obtain ⟨v, hv⟩ := x133; exact ⟨v, at_fr hv hfr (fun j h1 h2 => by omega)⟩
    | succ d ih =>
      intro i w h' hi a115 hw hfr
      have a0 := hfr.at (k := 106) (by omega) m0
      have a114 := hfr.at (k := 114) (by omega) f114
      refine at_iload 5 dX12_first_3 rfl rfl ?_
      refine at_sipush 8 (nI 192) dX12_first_5 rfl (by decide) ?_
      refine at_icmp_geN 31 11 dX12_first_8 rfl rfl (by omega) (by omega) (fun cc => ?_) (fun cc => ?_)
      · omega
      refine at_aload_n 12 dX12_first_11 rfl rfl rfl ?_
      refine at_g 15 dX12_first_12 rfl fl_X12_47 ⟨_, by assumption, ?_⟩
      refine ⟨_, rfl, ?_⟩
      refine at_iload 17 dX12_first_15 rfl rfl ?_
      refine at_aload_n 18 dX12_first_17 rfl rfl rfl ?_
      refine at_g 21 dX12_first_18 rfl fl_X12_44 ⟨_, by assumption, ?_⟩
      refine ⟨_, rfl, ?_⟩
      refine at_iload 23 dX12_first_21 rfl rfl ?_
      first | refine at_ia 24 dX12_first_23 rfl ⟨_, _, by assumption, by omega, by first | decide | omega, ?_⟩ | refine at_iaG 24 dX12_first_23 rfl ⟨_, _, by assumption, by omega, by first | decide | omega, ?_⟩
      first | refine at_is 25 dX12_first_24 rfl ⟨_, _, by assumption, by omega, by first | decide | omega, fun hh1 nn1 => ?_⟩ | refine at_isG 25 dX12_first_24 rfl ⟨_, _, by assumption, by omega, by first | decide | omega, fun hh1 nn1 => ?_⟩
      replace a0 := nn1.o (by first | decide | omega | assumption) a0
      replace a114 := nn1.o (by first | decide | omega | assumption) a114
      replace a115 := nn1.1
      replace hfr := hfr.nw nn1 (by first | (dsimp only; omega) | (dsimp only; done) | simp)
      clear nn1
      refine at_iincN (q := 1) (L' := [_, _, _, _, _, _]) 28 dX12_first_25 rfl (by decide) rfl (by decide) rfl rfl ?_
      refine at_goto 3 dX12_first_28 rfl ?_
      refine ih (i + 1) _ _ (by omega) a115 (fun x hx => ?_) hfr
      by_cases q : x = i
      · rw [q, updN_s]
      · rw [updN_n _ _ q]; exact hw x (by omega)
  exact loopA 192 0 w15 h (by omega) f115 (fun x hx => by omega) Fr.rf
theorem m_when {s : St} {h : List PC} (hI : Inv s) (hR : RepM s h) (c : Int32) : Ct mX12_when [.ref 106, .int c] h (RM (fWhen s c) h) := by
  obtain ⟨m0, mF, mL, mC, mH, mR, mS⟩ := id hR; obtain ⟨⟨i0, i1, i2, i3, i4, i5, i6, i7, i8, i9, i10, i11⟩, k1, k2, k3, k4, k5, k5z, k5s, k6, k6z, k7, k7s, k8s, k8z, k9, k10, k11, k11z, k50, k15, k16⟩ := id hI
  refine ct_at (L := [_, _]) (by decide +kernel) rfl rfl (Nat.le_of_ble_eq_true rfl) ?_
  refine at_aload_n 1 dX12_when_0 rfl rfl rfl ?_
  refine at_iload_n 2 dX12_when_1 rfl rfl rfl ?_
  refine at_invV (ci := 12) 5 [_] _ (c_isColour c m0 (by omega)) dX12_when_2 rfl rfl (by assumption) rfl ml_X12_152 cl_X12_isColour vl_X12_isColour rfl (Nat.le_of_ble_eq_true rfl) ⟨by decide, by decide⟩ (by decide) (fun rr hh qq => ?_)
  obtain ⟨rfl, hq2⟩ := qq; rw [hq2]; clear hq2 hh
  refine at_if_eqB 33 8 dX12_when_5 rfl rfl (fun cc => ?_) (fun cc => ?_)
  · refine at_ldc 35 (-1000000000) dX12_when_33 rfl cn_X12_118 ?_
    refine at_iret dX12_when_35 rfl (by decide) (by decide) ?_
    exact rm_no (fun ⟨c', q1, q2, q3⟩ => has_f cc (by omega) ⟨c', q1, q2⟩) hR
  obtain ⟨c', hc, rfl⟩ := has_t cc (by omega)
  clear cc
  refine at_aload_n 9 dX12_when_8 rfl rfl rfl ?_
  refine at_g 12 dX12_when_9 rfl fl_X12_135 ⟨_, by assumption, ?_⟩
  refine ⟨_, rfl, ?_⟩
  refine at_if_eqN 33 15 dX12_when_12 rfl rfl (by omega) (fun cc => ?_) (fun cc => ?_)
  · refine at_ldc 35 (-1000000000) dX12_when_33 rfl cn_X12_118 ?_
    refine at_iret dX12_when_35 rfl (by decide) (by decide) ?_
    exact rm_no (fun ⟨c', q1, q2, q3, q4⟩ => by omega) hR
  have hm := cc
  clear cc
  refine at_aload_n 16 dX12_when_15 rfl rfl rfl ?_
  refine at_g 19 dX12_when_16 rfl fl_X12_124 ⟨_, by assumption, ?_⟩
  refine ⟨_, rfl, ?_⟩
  refine at_if_eqN 33 22 dX12_when_19 rfl rfl (by omega) (fun cc => ?_) (fun cc => ?_)
  · refine at_ldc 35 (-1000000000) dX12_when_33 rfl cn_X12_118 ?_
    refine at_iret dX12_when_35 rfl (by decide) (by decide) ?_
    exact rm_no (fun ⟨c', q1, q2, q3, q4⟩ => by omega) hR
  have hx := cc
  clear cc
  refine at_aload_n 23 dX12_when_22 rfl rfl rfl ?_
  refine at_iload_n 24 dX12_when_23 rfl rfl rfl ?_
  refine at_iconst 25 (-1) dX12_when_24 rfl (by decide) ?_
  refine at_iconst 26 (nI 0) dX12_when_25 rfl (by decide) ?_
  refine at_iconst 27 (nI 0) dX12_when_26 rfl (by decide) ?_
  refine at_invV (ci := 12) 30 [_, _, _, _] _ (c_first hI hR (c := c') (sd := 0) (ti := 0) (many := 0) (by omega) (by omega) (by omega) (Or.inl ⟨rfl, rfl⟩) (by decide) (by decide)) dX12_when_27 rfl rfl (by assumption) rfl ml_X12_186 cl_X12_first vl_X12_first rfl (Nat.le_of_ble_eq_true rfl) ⟨by decide, by decide⟩ (by decide) (fun rr hh qq => ?_)
  obtain ⟨rfl, aR, hfr⟩ := qq
  refine at_goto 35 dX12_when_30 rfl ?_
  refine at_iret dX12_when_35 rfl (by decide) (by decide) ?_
  exact rm_yes ⟨c', hc, rfl, by omega, by omega⟩ (by rw [tn_nI (by omega)]; rfl) aR (hfr.wk (fun j hj => by omega))
theorem m_between {s : St} {h : List PC} (hI : Inv s) (hR : RepM s h) : Ct mX12_between [.ref 106] h (RM (fBetween s) h) := by
  obtain ⟨m0, mF, mL, mC, mH, mR, mS⟩ := id hR; obtain ⟨⟨i0, i1, i2, i3, i4, i5, i6, i7, i8, i9, i10, i11⟩, k1, k2, k3, k4, k5, k5z, k5s, k6, k6z, k7, k7s, k8s, k8z, k9, k10, k11, k11z, k50, k15, k16⟩ := id hI
  refine ct_at (L := [_, _, _]) (by decide +kernel) rfl rfl (Nat.le_of_ble_eq_true rfl) ?_
  refine at_aload_n 1 dX12_between_0 rfl rfl rfl ?_
  refine at_g 4 dX12_between_1 rfl fl_X12_135 ⟨_, by assumption, ?_⟩
  refine ⟨_, rfl, ?_⟩
  refine at_if_eqN 14 7 dX12_between_4 rfl rfl (by omega) (fun cc => ?_) (fun cc => ?_)
  · refine at_ldc 16 (-1000000000) dX12_between_14 rfl cn_X12_118 ?_
    refine at_iret dX12_between_16 rfl (by decide) (by decide) ?_
    exact rm_no (fun ⟨q3, q4⟩ => by omega) hR
  have hm0 := cc
  clear cc
  refine at_aload_n 8 dX12_between_7 rfl rfl rfl ?_
  refine at_g 11 dX12_between_8 rfl fl_X12_124 ⟨_, by assumption, ?_⟩
  refine ⟨_, rfl, ?_⟩
  refine at_if_neN 17 14 dX12_between_11 rfl rfl (by omega) (fun cc => ?_) (fun cc => ?_)
  rotate_left
  · refine at_ldc 16 (-1000000000) dX12_between_14 rfl cn_X12_118 ?_
    refine at_iret dX12_between_16 rfl (by decide) (by decide) ?_
    exact rm_no (fun ⟨q3, q4⟩ => by omega) hR
  have hx0 := cc
  clear cc
  have hm : s 0 2 = 1 := by omega
  have hx : s 0 1 = 1 := by omega
  have hPs := inv_p hI hm
  have hlo : LoOk (loW s 0 0) (s 0 5) (s 0 0 * 4) := loW_ok (ti0 := -1) hI hx (Or.inl ⟨rfl, rfl⟩) (by decide)
  obtain ⟨lw, f114, e114⟩ := id mL
  obtain ⟨w15, f115⟩ := mS.1
  have hFc : ∀ a b : Nat → Nat, (∀ t, t < 4 → a t = b t) → (fun th => nameC (fun c => fitB (s 9) (s 10) c th (s 0 5)) (s 0 6)) a = (fun th => nameC (fun c => fitB (s 9) (s 10) c th (s 0 5)) (s 0 6)) b := fun a b hab => nameC_cg (fun c _ => fitB_cg hab)
  refine at_iconst 18 (nI 0) dX12_between_17 rfl (by decide) ?_
  refine at_istore_n (L' := [_, _, _]) 19 dX12_between_18 rfl rfl (by decide) rfl rfl ?_
  refine at_iconst 20 (nI 0) dX12_between_19 rfl (by decide) ?_
  refine at_istore_n (L' := [_, _, _]) 21 dX12_between_20 rfl rfl (by decide) rfl rfl ?_
  have loopB : ∀ (d hr acc : Nat) (R : Nat → Nat) (h' : List PC), hr + d = 101 → 1 ≤ hr → RepM s h' → h'[115]? = some (aI 192 R) → POk R (s 0 4) (s 0 5) (s 0 3) (s 0 0 * 4) → acc + noneN (fun th => nameC (fun c => fitB (s 9) (s 10) c th (s 0 5)) (s 0 6)) (s 0 5) (s 0 3) (hLo s) d R = (noneN (fun th => nameC (fun c => fitB (s 9) (s 10) c th (s 0 5)) (s 0 6)) (s 0 5) (s 0 3) (hLo s) 100 (s 8)) → Fr (fun j => 106 ≤ j) h h' → At mX12_between T0 48 [.ref 106, .int (nI acc), .int (nI hr)] [] h' 0 0 (ZM mX12_between (RM (fBetween s) h)) := by
    intro d
    induction d with
    | zero =>
      intro hr acc R h' hd h1 aR a115 hP he hfr
      refine at_iload_n 49 dX12_between_48 rfl rfl rfl ?_
      refine at_bipush 51 (nI 100) dX12_between_49 rfl (by decide) ?_
      refine at_icmp_gtN 89 54 dX12_between_51 rfl rfl (by omega) (by omega) (fun cc => ?_) (fun cc => ?_)
      rotate_left
      · omega
      refine at_iload_n 90 dX12_between_89 rfl rfl rfl ?_
      refine at_iret dX12_between_90 rfl (by decide) (by decide) ?_
      have he2 : acc = (noneN (fun th => nameC (fun c => fitB (s 9) (s 10) c th (s 0 5)) (s 0 6)) (s 0 5) (s 0 3) (hLo s) 100 (s 8)) := he
      rw [he2]
      exact rm_yes ⟨hm, hx⟩ rfl aR hfr
    | succ d ih =>
      intro hr acc R h' hd h1 aR a115 hP he hfr
      have a0 := aR.1
      refine at_iload_n 49 dX12_between_48 rfl rfl rfl ?_
      refine at_bipush 51 (nI 100) dX12_between_49 rfl (by decide) ?_
      refine at_icmp_gtN 89 54 dX12_between_51 rfl rfl (by omega) (by omega) (fun cc => ?_) (fun cc => ?_)
      · omega
      refine at_aload_n 55 dX12_between_54 rfl rfl rfl ?_
      refine at_iconst 56 (-1) dX12_between_55 rfl (by decide) ?_
      refine at_iconst 57 (nI 0) dX12_between_56 rfl (by decide) ?_
      refine at_invV (ci := 12) 60 [_, _] _ (c_comesR hI aR (sd := 0) (ti := 0) hx (Or.inl ⟨rfl, rfl⟩) (by decide)) dX12_between_57 rfl rfl (by assumption) rfl ml_X12_168 cl_X12_comes vl_X12_comes rfl (Nat.le_of_ble_eq_true rfl) ⟨by decide, by decide⟩ (by decide) (fun rr hh qq => ?_)
      obtain ⟨rfl, bR, -, b117, bfr⟩ := qq
      have b0 := bR.1
      have b115 := bfr.at (k := 115) (by omega) a115
      refine at_aload_n 61 dX12_between_60 rfl rfl rfl ?_
      refine at_aload_n 62 dX12_between_61 rfl rfl rfl ?_
      refine at_g 65 dX12_between_62 rfl fl_X12_47 ⟨_, by assumption, ?_⟩
      refine ⟨_, rfl, ?_⟩
      refine at_invV (ci := 12) 68 [_] _ (c_goesR hI bR b115 b117 hP hlo) dX12_between_65 rfl rfl (by assumption) rfl ml_X12_171 cl_X12_goes vl_X12_goes rfl (Nat.le_of_ble_eq_true rfl) ⟨by decide, by decide⟩ (by decide) (fun rr hh qq => ?_)
      obtain ⟨rfl, dR, ⟨R2, d115, eR2⟩, d118, dfr⟩ := qq
      have d0 := dR.1
      have dfr2 : Fr (fun j => 106 ≤ j) h hh := (hfr.tr bfr (fun j hj => by omega)).tr dfr (fun j hj => by omega)
      refine at_iload_n 69 dX12_between_68 rfl rfl rfl ?_
      refine at_aload_n 70 dX12_between_69 rfl rfl rfl ?_
      refine at_invV (ci := 12) 73 [] _ (c_nameR hI dR d118 hP) dX12_between_70 rfl rfl (by assumption) rfl ml_X12_175 cl_X12_nameOf vl_X12_nameOf rfl (Nat.le_of_ble_eq_true rfl) ⟨by decide, by decide⟩ (by decide) (fun rr hh qq => ?_)
      obtain ⟨rfl, hq2⟩ := qq; rw [hq2]; clear hq2 hh
      rename List PC => h5
      have hst : noneN (fun th => nameC (fun c => fitB (s 9) (s 10) c th (s 0 5)) (s 0 6)) (s 0 5) (s 0 3) (hLo s) (d + 1) R = (if (fun th => nameC (fun c => fitB (s 9) (s 10) c th (s 0 5)) (s 0 6)) (thF (outF R (s 0 5) (s 0 3 - 1))) = 0 then 1 else 0) + noneN (fun th => nameC (fun c => fitB (s 9) (s 10) c th (s 0 5)) (s 0 6)) (s 0 5) (s 0 3) (hLo s) d (passL R (hLo s) (s 0 5) (s 0 3)) := rfl
      have hcg : noneN (fun th => nameC (fun c => fitB (s 9) (s 10) c th (s 0 5)) (s 0 6)) (s 0 5) (s 0 3) (hLo s) d R2 = noneN (fun th => nameC (fun c => fitB (s 9) (s 10) c th (s 0 5)) (s 0 6)) (s 0 5) (s 0 3) (hLo s) d (passL R (hLo s) (s 0 5) (s 0 3)) := noneN_cg hFc (by omega) d _ _ (fun x hx => eR2 x (by omega))
      have hnl := nameC_le (fun c => fitB (s 9) (s 10) c (thF (outF R (s 0 5) (s 0 3 - 1))) (s 0 5)) (s 0 6)
      have hP2 : POk R2 (s 0 4) (s 0 5) (s 0 3) (s 0 0 * 4) := (hP.pass hlo).cg (fun x hx => eR2 x (by omega))
      have hneg := nIp_neg (nameC (fun c => fitB (s 9) (s 10) c (thF (outF R (s 0 5) (s 0 3 - 1))) (s 0 5)) (s 0 6)) (by omega)
      refine at_if_ge 80 76 dX12_between_73 rfl rfl (fun cc => ?_) (fun cc => ?_)
      · have hne : ¬ (fun th => nameC (fun c => fitB (s 9) (s 10) c th (s 0 5)) (s 0 6)) (thF (outF R (s 0 5) (s 0 3 - 1))) = 0 := fun q => absurd (hneg.mpr q) (Int32.not_lt.mpr cc)
        rw [if_neg hne] at hst
        refine at_iconst 81 (nI 0) dX12_between_80 rfl (by decide) ?_
        first | refine at_iaddN 82 dX12_between_81 rfl ?_ | refine at_iadd 82 dX12_between_81 rfl ?_
        refine at_istore_n (L' := [_, _, _]) 83 dX12_between_82 rfl rfl (by decide) rfl rfl ?_
        refine at_iincN (q := 1) (L' := [_, _, _]) 86 dX12_between_83 rfl (by decide) rfl (by decide) rfl rfl ?_
        refine at_goto 48 dX12_between_86 rfl ?_
        exact ih (hr + 1) (acc + 0) R2 h5 (by omega) (by omega) dR d115 hP2 (by omega) dfr2
      · have he0 : (fun th => nameC (fun c => fitB (s 9) (s 10) c th (s 0 5)) (s 0 6)) (thF (outF R (s 0 5) (s 0 3 - 1))) = 0 := hneg.mp (i_nle cc)
        rw [if_pos he0] at hst
        refine at_iconst 77 (nI 1) dX12_between_76 rfl (by decide) ?_
        refine at_goto 81 dX12_between_77 rfl ?_
        first | refine at_iaddN 82 dX12_between_81 rfl ?_ | refine at_iadd 82 dX12_between_81 rfl ?_
        refine at_istore_n (L' := [_, _, _]) 83 dX12_between_82 rfl rfl (by decide) rfl rfl ?_
        refine at_iincN (q := 1) (L' := [_, _, _]) 86 dX12_between_83 rfl (by decide) rfl (by decide) rfl rfl ?_
        refine at_goto 48 dX12_between_86 rfl ?_
        exact ih (hr + 1) (acc + 1) R2 h5 (by omega) (by omega) dR d115 hP2 (by omega) dfr2
  have loopA : ∀ (d i : Nat) (w : Nat → Nat) (h' : List PC), i + d = 192 → h'[115]? = some (aI 192 w) → (∀ x, x < i → w x = lw x) → Fr (fun j => j = 115) h h' → At mX12_between T0 21 [.ref 106, .int (nI 0), .int (nI i)] [] h' 0 0 (ZM mX12_between (RM (fBetween s) h)) := by
    intro d
    induction d with
    | zero =>
      intro i w h' hi a115 hw hfr
      have hagree : ∀ x, x < 32 * s 0 3 → w x = s 8 x := fun x hx => by rw [hw x (by omega), e114 x hx]
      refine at_iload_n 22 dX12_between_21 rfl rfl rfl ?_
      refine at_sipush 25 (nI 192) dX12_between_22 rfl (by decide) ?_
      refine at_icmp_geN 46 28 dX12_between_25 rfl rfl (by omega) (by omega) (fun cc => ?_) (fun cc => ?_)
      rotate_left
      · omega
      refine at_iconst 47 (nI 1) dX12_between_46 rfl (by decide) ?_
      refine at_istore_n (L' := [_, _, _]) 48 dX12_between_47 rfl rfl (by decide) rfl rfl ?_
      refine loopB 100 1 0 w h' (by omega) (by omega) ?_ a115 (hPs.cg hagree) ?_ (hfr.wk (fun j hj => by omega))
      · obtain ⟨x115, x116, x117, x118, hSH, x130, x131, x132, x133⟩ := id mS
        refine ⟨at_fr m0 hfr (fun j h1 h2 => by omega), mF.fr hfr (fun j h1 h2 => by omega), mL.fr hfr (fun j h1 h2 => by omega), mC.fr hfr (fun j h1 h2 => by omega), mH.fr hfr (fun j h1 h2 => by omega), mR.gt hfr (fun j h1 h2 => by omega), ⟨⟨w, a115⟩, ?_, ?_, ?_, hSH.fr hfr (fun j h1 h2 => by omega), ?_, ?_, ?_, ?_⟩⟩
        · obtain ⟨v, hv⟩ := x116; exact ⟨v, at_fr hv hfr (fun j h1 h2 => by omega)⟩
        · obtain ⟨v, hv⟩ := x117; exact ⟨v, at_fr hv hfr (fun j h1 h2 => by omega)⟩
        · obtain ⟨v, hv⟩ := x118; exact ⟨v, at_fr hv hfr (fun j h1 h2 => by omega)⟩
        · obtain ⟨v, hv⟩ := x130; exact ⟨v, at_fr hv hfr (fun j h1 h2 => by omega)⟩
        · obtain ⟨v, hv⟩ := x131; exact ⟨v, at_fr hv hfr (fun j h1 h2 => by omega)⟩
        · obtain ⟨v, hv⟩ := x132; exact ⟨v, at_fr hv hfr (fun j h1 h2 => by omega)⟩
        · obtain ⟨v, hv⟩ := x133; exact ⟨v, at_fr hv hfr (fun j h1 h2 => by omega)⟩
      · have hz : ∀ x : Nat, 0 + x = x := Nat.zero_add
        rw [hz]
        exact noneN_cg hFc (by omega) 100 w (s 8) hagree
    | succ d ih =>
      intro i w h' hi a115 hw hfr
      have a0 := hfr.at (k := 106) (by omega) m0
      have a114 := hfr.at (k := 114) (by omega) f114
      refine at_iload_n 22 dX12_between_21 rfl rfl rfl ?_
      refine at_sipush 25 (nI 192) dX12_between_22 rfl (by decide) ?_
      refine at_icmp_geN 46 28 dX12_between_25 rfl rfl (by omega) (by omega) (fun cc => ?_) (fun cc => ?_)
      · omega
      refine at_aload_n 29 dX12_between_28 rfl rfl rfl ?_
      refine at_g 32 dX12_between_29 rfl fl_X12_47 ⟨_, by assumption, ?_⟩
      refine ⟨_, rfl, ?_⟩
      refine at_iload_n 33 dX12_between_32 rfl rfl rfl ?_
      refine at_aload_n 34 dX12_between_33 rfl rfl rfl ?_
      refine at_g 37 dX12_between_34 rfl fl_X12_44 ⟨_, by assumption, ?_⟩
      refine ⟨_, rfl, ?_⟩
      refine at_iload_n 38 dX12_between_37 rfl rfl rfl ?_
      first | refine at_ia 39 dX12_between_38 rfl ⟨_, _, by assumption, by omega, by first | decide | omega, ?_⟩ | refine at_iaG 39 dX12_between_38 rfl ⟨_, _, by assumption, by omega, by first | decide | omega, ?_⟩
      first | refine at_is 40 dX12_between_39 rfl ⟨_, _, by assumption, by omega, by first | decide | omega, fun hh2 nn2 => ?_⟩ | refine at_isG 40 dX12_between_39 rfl ⟨_, _, by assumption, by omega, by first | decide | omega, fun hh2 nn2 => ?_⟩
      replace a0 := nn2.o (by first | decide | omega | assumption) a0
      replace a114 := nn2.o (by first | decide | omega | assumption) a114
      replace a115 := nn2.1
      replace hfr := hfr.nw nn2 (by first | (dsimp only; omega) | (dsimp only; done) | simp)
      clear nn2
      refine at_iincN (q := 1) (L' := [_, _, _]) 43 dX12_between_40 rfl (by decide) rfl (by decide) rfl rfl ?_
      refine at_goto 21 dX12_between_43 rfl ?_
      refine ih (i + 1) _ _ (by omega) a115 (fun x hx => ?_) hfr
      by_cases q : x = i
      · rw [q, updN_s]
      · rw [updN_n _ _ q]; exact hw x (by omega)
  exact loopA 192 0 w15 h (by omega) f115 (fun x hx => by omega) Fr.rf
theorem m_dose {s : St} {h : List PC} (hI : Inv s) (hR : RepM s h) (c f : Int32) : Ct mX12_dose [.ref 106, .int c, .int f] h (RM (fDose s c f) h) := by
  obtain ⟨m0, mF, mL, mC, mH, mR, mS⟩ := id hR; obtain ⟨⟨i0, i1, i2, i3, i4, i5, i6, i7, i8, i9, i10, i11⟩, k1, k2, k3, k4, k5, k5z, k5s, k6, k6z, k7, k7s, k8s, k8z, k9, k10, k11, k11z, k50, k15, k16⟩ := id hI; obtain ⟨⟨mk, f107, e107⟩, ⟨kd, f108, e108⟩, ⟨db, f109, e109⟩, ⟨pr, f110, e110⟩, ⟨st, f111, e111⟩, ⟨tc, f112, e112⟩, ⟨sh, f113, e113⟩⟩ := id mF
  refine ct_at (L := [_, _, _, _, _, _, _, _]) (by decide +kernel) rfl rfl (Nat.le_of_ble_eq_true rfl) ?_
  refine at_aload_n 1 dX12_dose_0 rfl rfl rfl ?_
  refine at_iload_n 2 dX12_dose_1 rfl rfl rfl ?_
  refine at_invV (ci := 12) 5 [_] _ (c_isColour c m0 (by omega)) dX12_dose_2 rfl rfl (by assumption) rfl ml_X12_152 cl_X12_isColour vl_X12_isColour rfl (Nat.le_of_ble_eq_true rfl) ⟨by decide, by decide⟩ (by decide) (fun rr hh qq => ?_)
  obtain ⟨rfl, hq2⟩ := qq; rw [hq2]; clear hq2 hh
  refine at_if_eqB 40 8 dX12_dose_5 rfl rfl (fun cc => ?_) (fun cc => ?_)
  · refine at_ldc 42 (-1000000000) dX12_dose_40 rfl cn_X12_118 ?_
    refine at_iret dX12_dose_42 rfl (by decide) (by decide) ?_
    exact rm_no (fun ⟨c', f', q1, q2, q3⟩ => has_f cc (by omega) ⟨c', q1, q2⟩) hR
  obtain ⟨c', hc, rfl⟩ := has_t cc (by omega)
  clear cc
  refine at_aload_n 9 dX12_dose_8 rfl rfl rfl ?_
  refine at_iload_n 10 dX12_dose_9 rfl rfl rfl ?_
  refine at_invV (ci := 12) 13 [_] _ (c_isFeed f m0 (by omega)) dX12_dose_10 rfl rfl (by assumption) rfl ml_X12_119 cl_X12_isFeed vl_X12_isFeed rfl (Nat.le_of_ble_eq_true rfl) ⟨by decide, by decide⟩ (by decide) (fun rr hh qq => ?_)
  obtain ⟨rfl, hq2⟩ := qq; rw [hq2]; clear hq2 hh
  refine at_if_eqB 40 16 dX12_dose_13 rfl rfl (fun cc => ?_) (fun cc => ?_)
  · refine at_ldc 42 (-1000000000) dX12_dose_40 rfl cn_X12_118 ?_
    refine at_iret dX12_dose_42 rfl (by decide) (by decide) ?_
    exact rm_no (fun ⟨c', f', q1, q2, q3, q4, _⟩ => has_f cc (by omega) ⟨f', q3, q4⟩) hR
  obtain ⟨f', hf, rfl⟩ := has_t cc (by omega)
  clear cc
  have hkd : kd f' = s 1 f' := e108 f' (by omega)
  have hkb := k1 f' (by omega)
  refine at_aload_n 17 dX12_dose_16 rfl rfl rfl ?_
  refine at_g 20 dX12_dose_17 rfl fl_X12_13 ⟨_, by assumption, ?_⟩
  refine ⟨_, rfl, ?_⟩
  refine at_iload_n 21 dX12_dose_20 rfl rfl rfl ?_
  first | refine at_ia 22 dX12_dose_21 rfl ⟨_, _, by assumption, by omega, by first | decide | omega, ?_⟩ | refine at_iaG 22 dX12_dose_21 rfl ⟨_, _, by assumption, by omega, by first | decide | omega, ?_⟩
  refine at_iconst 23 (nI 2) dX12_dose_22 rfl (by decide) ?_
  refine at_icmp_neN 40 26 dX12_dose_23 rfl rfl (by omega) (by omega) (fun cc => ?_) (fun cc => ?_)
  · refine at_ldc 42 (-1000000000) dX12_dose_40 rfl cn_X12_118 ?_
    refine at_iret dX12_dose_42 rfl (by decide) (by decide) ?_
    exact rm_no (fun ⟨c', f2, q1, q2, q3, q4, q5, _⟩ => by
      have e1 := nI_inj q4 (by omega) (by omega)
      subst e1
      omega) hR
  have hk2 := cc
  clear cc
  refine at_aload_n 27 dX12_dose_26 rfl rfl rfl ?_
  refine at_g 30 dX12_dose_27 rfl fl_X12_135 ⟨_, by assumption, ?_⟩
  refine ⟨_, rfl, ?_⟩
  refine at_if_eqN 40 33 dX12_dose_30 rfl rfl (by omega) (fun cc => ?_) (fun cc => ?_)
  · refine at_ldc 42 (-1000000000) dX12_dose_40 rfl cn_X12_118 ?_
    refine at_iret dX12_dose_42 rfl (by decide) (by decide) ?_
    exact rm_no (fun ⟨c', f', q1, q2, q3, q4, q5, q6, q7⟩ => by omega) hR
  have hm0 := cc
  clear cc
  refine at_aload_n 34 dX12_dose_33 rfl rfl rfl ?_
  refine at_g 37 dX12_dose_34 rfl fl_X12_124 ⟨_, by assumption, ?_⟩
  refine ⟨_, rfl, ?_⟩
  refine at_if_neN 43 40 dX12_dose_37 rfl rfl (by omega) (fun cc => ?_) (fun cc => ?_)
  rotate_left
  · refine at_ldc 42 (-1000000000) dX12_dose_40 rfl cn_X12_118 ?_
    refine at_iret dX12_dose_42 rfl (by decide) (by decide) ?_
    exact rm_no (fun ⟨c', f', q1, q2, q3, q4, q5, q6, q7⟩ => by omega) hR
  have hx0 := cc
  clear cc
  have hm : s 0 2 = 1 := by omega
  have hx : s 0 1 = 1 := by omega
  have hT : ∀ a k, (doseT s c' f') a k ≤ 100 := fun a k => by have := tellN_rng (fitS s c') (s 0 5) (s 0 3) k (loN (tkD (s 5) (s 0 5) a f') (s 7) (s 0 0)) (hLo s) 100 1 (s 8); unfold doseT; omega
  have hW : whenN s c' ≤ 100 := by have := tellN_rng (fitS s c') (s 0 5) (s 0 3) 0 (hLo s) (hLo s) 100 1 (s 8); unfold whenN; omega
  refine at_aload_n 44 dX12_dose_43 rfl rfl rfl ?_
  refine at_iload_n 45 dX12_dose_44 rfl rfl rfl ?_
  refine at_iconst 46 (-1) dX12_dose_45 rfl (by decide) ?_
  refine at_iconst 47 (nI 0) dX12_dose_46 rfl (by decide) ?_
  refine at_iconst 48 (nI 0) dX12_dose_47 rfl (by decide) ?_
  refine at_invV (ci := 12) 51 [_, _, _, _] _ (c_first hI hR (c := c') (sd := 0) (ti := 0) (many := 0) hm hx (by omega) (Or.inl ⟨rfl, rfl⟩) (by decide) (by decide)) dX12_dose_48 rfl rfl (by assumption) rfl ml_X12_186 cl_X12_first vl_X12_first rfl (Nat.le_of_ble_eq_true rfl) ⟨by decide, by decide⟩ (by decide) (fun rr hh qq => ?_)
  obtain ⟨rfl, aR, hfr⟩ := qq
  rw [show tellN (fitS s c') (s 0 5) (s 0 3) (loW s 0 0) (hLo s) 0 100 1 (s 8) = whenN s c' from rfl]
  rename List PC => h1
  refine at_istore_n (L' := [_, _, _, _, _, _, _, _]) 52 dX12_dose_51 rfl rfl (by decide) rfl rfl ?_
  refine at_ldc 54 (nI 100000) dX12_dose_52 rfl cn_X12_134 ?_
  refine at_iload_n 55 dX12_dose_54 rfl rfl rfl ?_
  first | refine at_imulN 56 dX12_dose_55 rfl ?_ | refine at_imul 56 dX12_dose_55 rfl ?_
  refine at_istore (L' := [_, _, _, _, _, _, _, _]) 58 dX12_dose_56 rfl (by decide) rfl rfl ?_
  refine at_bipush 60 (nI 100) dX12_dose_58 rfl (by decide) ?_
  refine at_istore (L' := [_, _, _, _, _, _, _, _]) 62 dX12_dose_60 rfl (by decide) rfl rfl ?_
  have outer : ∀ (d sd : Nat) (S : Nat × Nat) (h' : List PC), sd + 100 * d = 600 → S.1 ≤ 100 → (S.1 = 0 → S.2 = 0) → outerD (doseT s c' f') d sd S = outerD (doseT s c' f') 5 100 (whenN s c', 100000 * whenN s c') → RepM s h' → Fr (fun j => 106 ≤ j) h h' → At mX12_dose T0 62 [.ref 106, .int (nI c'), .int (nI f'), .int (nI S.1), .int (nI S.2), .int (nI sd), .null, .null] [] h' 0 0 (ZM mX12_dose (RM (fDose s (nI c') (nI f')) h)) := by
    intro d
    induction d with
    | zero =>
      intro sd S h' hd hS hS0 he bR bfr
      have he2 : S = outerD (doseT s c' f') 5 100 (whenN s c', 100000 * whenN s c') := he
      have yes : ∃ c2 f2, c2 < s 0 6 ∧ nI c' = nI c2 ∧ f2 < s 0 0 ∧ nI f' = nI f2 ∧ s 1 f2 = 2 ∧ s 0 2 = 1 ∧ s 0 1 = 1 := ⟨c', f', hc, rfl, hf, rfl, by omega, hm, hx⟩
      refine at_iload 64 dX12_dose_62 rfl rfl ?_
      refine at_sipush 67 (nI 500) dX12_dose_64 rfl (by decide) ?_
      refine at_icmp_gtN 141 70 dX12_dose_67 rfl rfl (by omega) (by omega) (fun cc => ?_) (fun cc => ?_)
      rotate_left
      · omega
      refine at_iload_n 142 dX12_dose_141 rfl rfl rfl ?_
      refine at_if_neN 149 145 dX12_dose_142 rfl rfl (by omega) (fun cc => ?_) (fun cc => ?_)
      · refine at_iload 151 dX12_dose_149 rfl rfl ?_
        refine at_iret dX12_dose_151 rfl (by decide) (by decide) ?_
        exact rm_yes yes (by rw [tn_nI (by omega), tn_nI (by omega), ← he2]) bR bfr
      · refine at_iconst 146 (nI 0) dX12_dose_145 rfl (by decide) ?_
        refine at_goto 151 dX12_dose_146 rfl ?_
        refine at_iret dX12_dose_151 rfl (by decide) (by decide) ?_
        exact rm_yes yes (by rw [tn_nI (by omega), tn_nI (by omega), ← he2, hS0 cc]) bR bfr
    | succ d ih =>
      intro sd S h' hd hS hS0 he bR bfr
      refine at_iload 64 dX12_dose_62 rfl rfl ?_
      refine at_sipush 67 (nI 500) dX12_dose_64 rfl (by decide) ?_
      refine at_icmp_gtN 141 70 dX12_dose_67 rfl rfl (by omega) (by omega) (fun cc => ?_) (fun cc => ?_)
      · omega
      refine at_iconst 71 (nI 1) dX12_dose_70 rfl (by decide) ?_
      refine at_istore (L' := [_, _, _, _, _, _, _, _]) 73 dX12_dose_71 rfl (by decide) rfl rfl ?_
      have inner : ∀ (e k : Nat) (S2 : Nat × Nat) (h' : List PC), k + e = 11 → 1 ≤ k → S2.1 ≤ 100 → (S2.1 = 0 → S2.2 = 0) → innerD (doseT s c' f') sd e k S2 = innerD (doseT s c' f') sd 10 1 S → RepM s h' → Fr (fun j => 106 ≤ j) h h' → At mX12_dose T0 73 [.ref 106, .int (nI c'), .int (nI f'), .int (nI S2.1), .int (nI S2.2), .int (nI sd), .int (nI k), .null] [] h' 0 0 (ZM mX12_dose (RM (fDose s (nI c') (nI f')) h)) := by
        intro e
        induction e with
        | zero =>
          intro k S2 h' hk h1 hS2 hS20 he2 bR bfr
          have he3 : S2 = innerD (doseT s c' f') sd 10 1 S := he2
          refine at_iload 75 dX12_dose_73 rfl rfl ?_
          refine at_bipush 77 (nI 10) dX12_dose_75 rfl (by decide) ?_
          refine at_icmp_gtN 135 80 dX12_dose_77 rfl rfl (by omega) (by omega) (fun cc => ?_) (fun cc => ?_)
          rotate_left
          · omega
          refine at_iincN (q := 100) (L' := [_, _, _, _, _, _, _, _]) 138 dX12_dose_135 rfl (by decide) rfl (by decide) rfl rfl ?_
          refine at_goto 62 dX12_dose_138 rfl ?_
          refine at_drop (L' := [_, _, _, _, _, _, _, _]) 6 rfl ?_
          refine ih (sd + 100) S2 h' (by omega) hS2 hS20 ?_ bR bfr
          rw [← he, he3]; rfl
        | succ e ih2 =>
          intro k S2 h' hk h1 hS2 hS20 he2 bR bfr
          have b0 := bR.1
          have hTk := hT sd k
          refine at_iload 75 dX12_dose_73 rfl rfl ?_
          refine at_bipush 77 (nI 10) dX12_dose_75 rfl (by decide) ?_
          refine at_icmp_gtN 135 80 dX12_dose_77 rfl rfl (by omega) (by omega) (fun cc => ?_) (fun cc => ?_)
          · omega
          refine at_aload_n 81 dX12_dose_80 rfl rfl rfl ?_
          refine at_iload_n 82 dX12_dose_81 rfl rfl rfl ?_
          refine at_iload_n 83 dX12_dose_82 rfl rfl rfl ?_
          refine at_iload 85 dX12_dose_83 rfl rfl ?_
          refine at_iload 87 dX12_dose_85 rfl rfl ?_
          refine at_invV (ci := 12) 90 [_, _, _, _] _ (c_first hI bR (c := c') (sd := sd) (ti := f' + 1) (many := k) hm hx (by omega) (Or.inr ⟨f', hf, rfl, rfl⟩) (by omega) (by omega)) dX12_dose_87 rfl rfl (by assumption) rfl ml_X12_186 cl_X12_first vl_X12_first rfl (Nat.le_of_ble_eq_true rfl) ⟨by decide, by decide⟩ (by decide) (fun rr hh qq => ?_)
          obtain ⟨rfl, dR, dfr⟩ := qq
          rw [show tellN (fitS s c') (s 0 5) (s 0 3) (loW s sd (f' + 1)) (hLo s) k 100 1 (s 8) = (doseT s c' f') sd k from rfl]
          have dfr2 : Fr (fun j => 106 ≤ j) h hh := bfr.tr dfr (fun j hj => by omega)
          have hst : innerD (doseT s c' f') sd (e + 1) k S2 = innerD (doseT s c' f') sd e (k + 1) (stepD (doseT s c' f') S2 sd k) := rfl
          rw [hst] at he2
          have keep : ¬ ((doseT s c' f') sd k ≠ 0 ∧ (S2.1 = 0 ∨ (doseT s c' f') sd k < S2.1)) → At mX12_dose T0 129 [.ref 106, .int (nI c'), .int (nI f'), .int (nI S2.1), .int (nI S2.2), .int (nI sd), .int (nI k), .int (nI ((doseT s c' f') sd k))] [] hh 0 0 (ZM mX12_dose (RM (fDose s (nI c') (nI f')) h)) := by
            intro hno
            have hs : stepD (doseT s c' f') S2 sd k = S2 := by unfold stepD; rw [if_neg hno]
            rw [hs] at he2
            refine at_iincN (q := 1) (L' := [_, _, _, _, _, _, _, _]) 132 dX12_dose_129 rfl (by decide) rfl (by decide) rfl rfl ?_
            refine at_goto 73 dX12_dose_132 rfl ?_
            refine at_drop (L' := [_, _, _, _, _, _, _, _]) 7 rfl ?_
            exact ih2 (k + 1) S2 hh (by omega) (by omega) hS2 hS20 he2 dR dfr2
          have take : ((doseT s c' f') sd k ≠ 0 ∧ (S2.1 = 0 ∨ (doseT s c' f') sd k < S2.1)) → At mX12_dose T0 110 [.ref 106, .int (nI c'), .int (nI f'), .int (nI S2.1), .int (nI S2.2), .int (nI sd), .int (nI k), .int (nI ((doseT s c' f') sd k))] [] hh 0 0 (ZM mX12_dose (RM (fDose s (nI c') (nI f')) h)) := by
            intro hyes
            have hs : stepD (doseT s c' f') S2 sd k = ((doseT s c' f') sd k, 100000 * (doseT s c' f') sd k + 100 * sd + k) := by unfold stepD; rw [if_pos hyes]
            rw [hs] at he2
            refine at_iload 112 dX12_dose_110 rfl rfl ?_
            refine at_istore_n (L' := [_, _, _, _, _, _, _, _]) 113 dX12_dose_112 rfl rfl (by decide) rfl rfl ?_
            refine at_ldc 115 (nI 100000) dX12_dose_113 rfl cn_X12_134 ?_
            refine at_iload 117 dX12_dose_115 rfl rfl ?_
            first | refine at_imulN 118 dX12_dose_117 rfl ?_ | refine at_imul 118 dX12_dose_117 rfl ?_
            refine at_bipush 120 (nI 100) dX12_dose_118 rfl (by decide) ?_
            refine at_iload 122 dX12_dose_120 rfl rfl ?_
            first | refine at_imulN 123 dX12_dose_122 rfl ?_ | refine at_imul 123 dX12_dose_122 rfl ?_
            first | refine at_iaddN 124 dX12_dose_123 rfl ?_ | refine at_iadd 124 dX12_dose_123 rfl ?_
            refine at_iload 126 dX12_dose_124 rfl rfl ?_
            first | refine at_iaddN 127 dX12_dose_126 rfl ?_ | refine at_iadd 127 dX12_dose_126 rfl ?_
            refine at_istore (L' := [_, _, _, _, _, _, _, _]) 129 dX12_dose_127 rfl (by decide) rfl rfl ?_
            refine at_iincN (q := 1) (L' := [_, _, _, _, _, _, _, _]) 132 dX12_dose_129 rfl (by decide) rfl (by decide) rfl rfl ?_
            refine at_goto 73 dX12_dose_132 rfl ?_
            refine at_drop (L' := [_, _, _, _, _, _, _, _]) 7 rfl ?_
            exact ih2 (k + 1) ((doseT s c' f') sd k, 100000 * (doseT s c' f') sd k + 100 * sd + k) hh (by omega) (by omega) hTk (fun q => absurd q hyes.1) he2 dR dfr2
          refine at_istore (L' := [_, _, _, _, _, _, _, _]) 92 dX12_dose_90 rfl (by decide) rfl rfl ?_
          refine at_iload 94 dX12_dose_92 rfl rfl ?_
          refine at_if_eqN 129 97 dX12_dose_94 rfl rfl (by omega) (fun cc => ?_) (fun cc => ?_)
          · exact keep (fun q => q.1 cc)
          have c1 := cc
          refine at_iload_n 98 dX12_dose_97 rfl rfl rfl ?_
          refine at_if_eqN 110 101 dX12_dose_98 rfl rfl (by omega) (fun cc => ?_) (fun cc => ?_)
          · exact take ⟨c1, Or.inl cc⟩
          have c2 := cc
          refine at_iload 103 dX12_dose_101 rfl rfl ?_
          refine at_iload_n 104 dX12_dose_103 rfl rfl rfl ?_
          refine at_icmp_ltN 110 107 dX12_dose_104 rfl rfl (by omega) (by omega) (fun cc => ?_) (fun cc => ?_)
          · exact take ⟨c1, Or.inr cc⟩
          · refine at_goto 129 dX12_dose_107 rfl ?_
            exact keep (fun q => q.2.elim c2 (fun q => by omega))
      exact inner 10 1 S h' (by omega) (by omega) hS hS0 rfl bR bfr
  exact outer 5 100 (whenN s c', 100000 * whenN s c') h1 (by omega) hW (fun q => by dsimp only at q; rw [q]) rfl aR (hfr.wk (fun j hj => by omega))

