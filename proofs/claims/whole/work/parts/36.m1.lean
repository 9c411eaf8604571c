theorem c_in {h : List PC} (x lo hi : Int32) : Ct mX12_in [.int x, .int lo, .int hi] h (fun r h' => r = some (.int (bI (wi x lo hi))) ∧ h' = h) := by
  refine ct_at (L := [_, _, _]) (by decide +kernel) rfl rfl (Nat.le_of_ble_eq_true rfl) ?_
  refine at_iload_n 1 dX12_in_0 rfl rfl rfl ?_
  refine at_iload_n 2 dX12_in_1 rfl rfl rfl ?_
  refine at_icmp_lt 14 5 dX12_in_2 rfl rfl (fun cc => ?_) (fun cc => ?_)
  · refine at_iconst 15 (nI 0) dX12_in_14 rfl (by decide) ?_
    refine at_zret dX12_in_15 rfl (by first | rfl | decide) (by decide) (by decide) ?_
    exact ⟨bI_f (fun q => absurd cc (Int32.not_lt.mpr q.1)), rfl⟩
  refine at_iload_n 6 dX12_in_5 rfl rfl rfl ?_
  refine at_iload_n 7 dX12_in_6 rfl rfl rfl ?_
  refine at_icmp_gt 14 10 dX12_in_7 rfl rfl (fun cc => ?_) (fun cc => ?_)
  · refine at_iconst 15 (nI 0) dX12_in_14 rfl (by decide) ?_
    refine at_zret dX12_in_15 rfl (by first | rfl | decide) (by decide) (by decide) ?_
    exact ⟨bI_f (fun q => absurd cc (Int32.not_lt.mpr q.2)), rfl⟩
  refine at_iconst 11 (nI 1) dX12_in_10 rfl (by decide) ?_
  refine at_goto 15 dX12_in_11 rfl ?_
  refine at_zret dX12_in_15 rfl (by first | rfl | decide) (by decide) (by decide) ?_
  exact ⟨bI_t ⟨i_nlt (by assumption), i_nlt cc⟩, rfl⟩
theorem nbI (b : Bool) : narrow .boolean (.int (bI b)) = .int (bI b) := by cases b <;> rfl
theorem c_isFeed {s : St} {h : List PC} (f : Int32) (m0 : h[106]? = some (oM s)) (hb : s 0 0 < 2 ^ 31) : Ct mX12_isFeed [.ref 106, .int f] h (fun r h' => r = some (.int (bI (decide (0 ≤ f ∧ f < nI (s 0 0))))) ∧ h' = h) := by
  refine ct_at (L := [_, _]) (by decide +kernel) rfl rfl (Nat.le_of_ble_eq_true rfl) ?_
  refine at_iload_n 1 dX12_isFeed_0 rfl rfl rfl ?_
  refine at_iconst 2 (nI 0) dX12_isFeed_1 rfl (by decide) ?_
  refine at_aload_n 3 dX12_isFeed_2 rfl rfl rfl ?_
  refine at_g 6 dX12_isFeed_3 rfl fl_X12_108 ⟨_, by assumption, ?_⟩
  refine ⟨_, rfl, ?_⟩
  refine at_iconst 7 (nI 1) dX12_isFeed_6 rfl (by decide) ?_
  first | refine at_isubN 8 dX12_isFeed_7 rfl (by omega) ?_ | refine at_isub 8 dX12_isFeed_7 rfl ?_
  rw [show nI (s 0 0) - nI 1 = nI (s 0 0) - nI 1 from rfl]
  refine at_invS 11 [_, _, _] _ (c_in f (nI 0) (nI (s 0 0) - nI 1)) dX12_isFeed_8 rfl rfl ml_X12_111 cl_X12_in sv_X12_in rfl (Nat.le_of_ble_eq_true rfl) ⟨by decide, by decide⟩ (by decide) (fun rr hh qq => ?_)
  obtain ⟨rfl, hq2⟩ := qq; rw [hq2]; clear hq2 hh
  rw [wi_pred hb]
  exact at_zret dX12_isFeed_11 rfl (nbI _) (by decide) (by decide) ⟨rfl, rfl⟩
theorem c_isColour {s : St} {h : List PC} (f : Int32) (m0 : h[106]? = some (oM s)) (hb : s 0 6 < 2 ^ 31) : Ct mX12_isColour [.ref 106, .int f] h (fun r h' => r = some (.int (bI (decide (0 ≤ f ∧ f < nI (s 0 6))))) ∧ h' = h) := by
  refine ct_at (L := [_, _]) (by decide +kernel) rfl rfl (Nat.le_of_ble_eq_true rfl) ?_
  refine at_iload_n 1 dX12_isColour_0 rfl rfl rfl ?_
  refine at_iconst 2 (nI 0) dX12_isColour_1 rfl (by decide) ?_
  refine at_aload_n 3 dX12_isColour_2 rfl rfl rfl ?_
  refine at_g 6 dX12_isColour_3 rfl fl_X12_115 ⟨_, by assumption, ?_⟩
  refine ⟨_, rfl, ?_⟩
  refine at_iconst 7 (nI 1) dX12_isColour_6 rfl (by decide) ?_
  first | refine at_isubN 8 dX12_isColour_7 rfl (by omega) ?_ | refine at_isub 8 dX12_isColour_7 rfl ?_
  refine at_invS 11 [_, _, _] _ (c_in f (nI 0) (nI (s 0 6) - nI 1)) dX12_isColour_8 rfl rfl ml_X12_111 cl_X12_in sv_X12_in rfl (Nat.le_of_ble_eq_true rfl) ⟨by decide, by decide⟩ (by decide) (fun rr hh qq => ?_)
  obtain ⟨rfl, hq2⟩ := qq; rw [hq2]; clear hq2 hh
  rw [wi_pred hb]
  exact at_zret dX12_isColour_11 rfl (nbI _) (by decide) (by decide) ⟨rfl, rfl⟩
theorem c_isHour {s : St} {h : List PC} (f : Int32) (m0 : h[106]? = some (oM s)) (hb : s 0 7 < 2 ^ 31) : Ct mX12_isHour [.ref 106, .int f] h (fun r h' => r = some (.int (bI (decide (0 ≤ f ∧ f < nI (s 0 7))))) ∧ h' = h) := by
  refine ct_at (L := [_, _]) (by decide +kernel) rfl rfl (Nat.le_of_ble_eq_true rfl) ?_
  refine at_iload_n 1 dX12_isHour_0 rfl rfl rfl ?_
  refine at_iconst 2 (nI 0) dX12_isHour_1 rfl (by decide) ?_
  refine at_aload_n 3 dX12_isHour_2 rfl rfl rfl ?_
  refine at_g 6 dX12_isHour_3 rfl fl_X12_138 ⟨_, by assumption, ?_⟩
  refine ⟨_, rfl, ?_⟩
  refine at_iconst 7 (nI 1) dX12_isHour_6 rfl (by decide) ?_
  first | refine at_isubN 8 dX12_isHour_7 rfl (by omega) ?_ | refine at_isub 8 dX12_isHour_7 rfl ?_
  refine at_invS 11 [_, _, _] _ (c_in f (nI 0) (nI (s 0 7) - nI 1)) dX12_isHour_8 rfl rfl ml_X12_111 cl_X12_in sv_X12_in rfl (Nat.le_of_ble_eq_true rfl) ⟨by decide, by decide⟩ (by decide) (fun rr hh qq => ?_)
  obtain ⟨rfl, hq2⟩ := qq; rw [hq2]; clear hq2 hh
  rw [wi_pred hb]
  exact at_zret dX12_isHour_11 rfl (nbI _) (by decide) (by decide) ⟨rfl, rfl⟩
theorem m_stock {s : St} {h : List PC} (hI : Inv s) (hR : RepM s h) (f g : Int32) : Ct mX12_stock [.ref 106, .int f, .int g] h (RM (fStock s f g) h) := by
  obtain ⟨m0, mF, mL, mC, mH, mR, mS⟩ := id hR; obtain ⟨⟨i0, i1, i2, i3, i4, i5, i6, i7, i8, i9, i10, i11⟩, k1, k2, k3, k4, k5, k5z, k5s, k6, k6z, k7, k7s, k8s, k8z, k9, k10, k11, k11z, k50, k15, k16⟩ := id hI; obtain ⟨⟨mk, f107, e107⟩, ⟨kd, f108, e108⟩, ⟨db, f109, e109⟩, ⟨pr, f110, e110⟩, ⟨st, f111, e111⟩, ⟨tc, f112, e112⟩, ⟨sh, f113, e113⟩⟩ := id mF
  refine ct_at (L := [_, _, _]) (by decide +kernel) rfl rfl (Nat.le_of_ble_eq_true rfl) ?_
  refine at_aload_n 1 dX12_stock_0 rfl rfl rfl ?_
  refine at_iload_n 2 dX12_stock_1 rfl rfl rfl ?_
  refine at_invV (ci := 12) 5 [_] _ (c_isFeed f m0 (by omega)) dX12_stock_2 rfl rfl (by assumption) rfl ml_X12_119 cl_X12_isFeed vl_X12_isFeed rfl (Nat.le_of_ble_eq_true rfl) ⟨by decide, by decide⟩ (by decide) (fun rr hh qq => ?_)
  obtain ⟨rfl, hq2⟩ := qq; rw [hq2]; clear hq2 hh
  refine at_if_eqB 25 8 dX12_stock_5 rfl rfl (fun cc => ?_) (fun cc => ?_)
  · refine at_ldc 27 (-1000000000) dX12_stock_25 rfl cn_X12_118 ?_
    refine at_iret dX12_stock_27 rfl (by decide) (by decide) ?_
    exact rm_no (fun ⟨i, j, q1, q2, _⟩ => has_f cc (by omega) ⟨i, q1, q2⟩) hR
  obtain ⟨i, hi, rfl⟩ := has_t cc (by omega)
  clear cc
  refine at_iload_n 9 dX12_stock_8 rfl rfl rfl ?_
  refine at_if_lt 25 12 dX12_stock_9 rfl rfl (fun cc => ?_) (fun cc => ?_)
  · refine at_ldc 27 (-1000000000) dX12_stock_25 rfl cn_X12_118 ?_
    refine at_iret dX12_stock_27 rfl (by decide) (by decide) ?_
    exact rm_no (fun ⟨i, j, q1, q2, q3, q4⟩ => by rw [q4] at cc; exact nI_pos (by omega) cc) hR
  obtain ⟨j, hj, rfl⟩ := nI_of cc
  have hsi : st i = s 4 i := e111 i (by omega)
  have hsb := k4 i (by omega)
  refine at_iload_n 13 dX12_stock_12 rfl rfl rfl ?_
  refine at_ldc 15 (nI 10000000) dX12_stock_13 rfl cn_X12_123 ?_
  refine at_aload_n 16 dX12_stock_15 rfl rfl rfl ?_
  refine at_g 19 dX12_stock_16 rfl fl_X12_22 ⟨_, by assumption, ?_⟩
  refine ⟨_, rfl, ?_⟩
  refine at_iload_n 20 dX12_stock_19 rfl rfl rfl ?_
  first | refine at_ia 21 dX12_stock_20 rfl ⟨_, _, by assumption, by omega, by first | decide | omega, ?_⟩ | refine at_iaG 21 dX12_stock_20 rfl ⟨_, _, by assumption, by omega, by first | decide | omega, ?_⟩
  first | refine at_isubN 22 dX12_stock_21 rfl (by omega) ?_ | refine at_isub 22 dX12_stock_21 rfl ?_
  refine at_icmp_leN 28 25 dX12_stock_22 rfl rfl (by omega) (by omega) (fun cc => ?_) (fun cc => ?_)
  rotate_left
  · refine at_ldc 27 (-1000000000) dX12_stock_25 rfl cn_X12_118 ?_
    refine at_iret dX12_stock_27 rfl (by decide) (by decide) ?_
    exact rm_no (fun ⟨i2, j2, q1, q2, q3, q4⟩ => by
      have e1 := nI_inj q2 (by omega) (by omega)
      subst e1
      have e2 := nI_inj q4 hj (by omega)
      omega) hR
  have hfr : Fr (fun j => j = 111) h h := Fr.rf
  refine at_aload_n 29 dX12_stock_28 rfl rfl rfl ?_
  refine at_g 32 dX12_stock_29 rfl fl_X12_22 ⟨_, by assumption, ?_⟩
  refine ⟨_, rfl, ?_⟩
  refine at_iload_n 33 dX12_stock_32 rfl rfl rfl ?_
  refine at_dup2 34 dX12_stock_33 rfl rfl rfl ?_
  first | refine at_ia 35 dX12_stock_34 rfl ⟨_, _, by assumption, by omega, by first | decide | omega, ?_⟩ | refine at_iaG 35 dX12_stock_34 rfl ⟨_, _, by assumption, by omega, by first | decide | omega, ?_⟩
  refine at_iload_n 36 dX12_stock_35 rfl rfl rfl ?_
  first | refine at_iaddN 37 dX12_stock_36 rfl ?_ | refine at_iadd 37 dX12_stock_36 rfl ?_
  first | refine at_is 38 dX12_stock_37 rfl ⟨_, _, by assumption, by omega, by first | decide | omega, fun hh1 nn1 => ?_⟩ | refine at_isG 38 dX12_stock_37 rfl ⟨_, _, by assumption, by omega, by first | decide | omega, fun hh1 nn1 => ?_⟩
  replace m0 := nn1.o (by first | decide | omega | assumption) m0
  replace f111 := nn1.1
  replace hfr := hfr.nw nn1 (by first | (dsimp only; omega) | (dsimp only; done) | simp)
  clear nn1
  refine at_aload_n 39 dX12_stock_38 rfl rfl rfl ?_
  refine at_g 42 dX12_stock_39 rfl fl_X12_22 ⟨_, by assumption, ?_⟩
  refine ⟨_, rfl, ?_⟩
  refine at_iload_n 43 dX12_stock_42 rfl rfl rfl ?_
  first | refine at_ia 44 dX12_stock_43 rfl ⟨_, _, by assumption, by omega, by first | decide | omega, ?_⟩ | refine at_iaG 44 dX12_stock_43 rfl ⟨_, _, by assumption, by omega, by first | decide | omega, ?_⟩
  refine at_iret dX12_stock_44 rfl (by decide) (by decide) ?_
  rw [updN_s]
  refine rm_yes ⟨i, j, hi, rfl, by omega, rfl⟩ ?_ ?_ (hfr.wk (fun j hj => by omega))
  · rw [tn_nI (by omega), tn_nI (by omega), hsi]
  · rw [tn_nI (by omega), tn_nI (by omega)]
    refine ⟨m0, ⟨mF.1.gt hfr (fun j h1 h2 => by omega), mF.2.1.gt hfr (fun j h1 h2 => by omega), mF.2.2.1.gt hfr (fun j h1 h2 => by omega), mF.2.2.2.1.gt hfr (fun j h1 h2 => by omega), Ar.up f111 e111 (by rw [hsi]), mF.2.2.2.2.2.1.gt hfr (fun j h1 h2 => by omega), mF.2.2.2.2.2.2.gt hfr (fun j h1 h2 => by omega)⟩, mL.fr hfr (fun j h1 h2 => by omega), mC.fr hfr (fun j h1 h2 => by omega), mH.fr hfr (fun j h1 h2 => by omega), mR.gt hfr (fun j h1 h2 => by omega), mS.fr hfr (fun j h1 => by omega)⟩
theorem m_feed {s : St} {h : List PC} (hI : Inv s) (hR : RepM s h) (k a b c d q r : Int32) : Ct mX12_feed [.ref 106, .int k, .int a, .int b, .int c, .int d, .int q, .int r] h (RM (fFeed s k a b c d q r) h) := by
  obtain ⟨m0, mF, mL, mC, mH, mR, mS⟩ := id hR; obtain ⟨⟨i0, i1, i2, i3, i4, i5, i6, i7, i8, i9, i10, i11⟩, k1, k2, k3, k4, k5, k5z, k5s, k6, k6z, k7, k7s, k8s, k8z, k9, k10, k11, k11z, k50, k15, k16⟩ := id hI; obtain ⟨⟨mk, f107, e107⟩, ⟨kd, f108, e108⟩, ⟨db, f109, e109⟩, ⟨pr, f110, e110⟩, ⟨st, f111, e111⟩, ⟨tc, f112, e112⟩, ⟨sh, f113, e113⟩⟩ := id mF
  have aft : ∀ my : Nat, my ≤ 1 → (my = 1 ↔ (k = nI 1 ∨ k = nI 3)) → At mX12_feed T0 17 [.ref 106, .int k, .int a, .int b, .int c, .int d, .int q, .int r, .int (nI my), .null] [] h 0 0 (ZM mX12_feed (RM (fFeed s k a b c d q r) h)) := by
    intro my hmy hiff
    refine at_iload_n 18 dX12_feed_17 rfl rfl rfl ?_
    refine at_iconst 19 (nI 0) dX12_feed_18 rfl (by decide) ?_
    refine at_iconst 20 (nI 3) dX12_feed_19 rfl (by decide) ?_
    refine at_invS 23 [_, _, _] _ (c_in k (nI 0) (nI 3)) dX12_feed_20 rfl rfl ml_X12_111 cl_X12_in sv_X12_in rfl (Nat.le_of_ble_eq_true rfl) ⟨by decide, by decide⟩ (by decide) (fun rr hh qq => ?_)
    obtain ⟨rfl, hq2⟩ := qq; rw [hq2]; clear hq2 hh
    refine at_if_eqB 87 26 dX12_feed_23 rfl rfl (fun cc => ?_) (fun cc => ?_)
    · refine at_ldc 89 (-1000000000) dX12_feed_87 rfl cn_X12_118 ?_
      refine at_iret dX12_feed_89 rfl (by decide) (by decide) ?_
      exact rm_no (fun ⟨k', a', b', c', d', q', r', p1, p2, p3, p4, p5, z1, z2, z3, z4, z5, z6, z7⟩ => wi_no cc (by omega) z1 (by omega) (by omega)) hR
    obtain ⟨k', -, hk, rfl⟩ := wi_t cc (by omega) (by omega)
    clear cc
    rw [nI_eq (by omega) (by omega), nI_eq (by omega) (by omega)] at hiff
    refine at_iload_n 27 dX12_feed_26 rfl rfl rfl ?_
    refine at_iconst 28 (nI 0) dX12_feed_27 rfl (by decide) ?_
    refine at_sipush 31 (nI 1000) dX12_feed_28 rfl (by decide) ?_
    refine at_invS 34 [_, _, _] _ (c_in a (nI 0) (nI 1000)) dX12_feed_31 rfl rfl ml_X12_111 cl_X12_in sv_X12_in rfl (Nat.le_of_ble_eq_true rfl) ⟨by decide, by decide⟩ (by decide) (fun rr hh qq => ?_)
    obtain ⟨rfl, hq2⟩ := qq; rw [hq2]; clear hq2 hh
    refine at_if_eqB 87 37 dX12_feed_34 rfl rfl (fun cc => ?_) (fun cc => ?_)
    · refine at_ldc 89 (-1000000000) dX12_feed_87 rfl cn_X12_118 ?_
      refine at_iret dX12_feed_89 rfl (by decide) (by decide) ?_
      exact rm_no (fun ⟨k', a', b', c', d', q', r', p1, p2, p3, p4, p5, z1, z2, z3, z4, z5, z6, z7⟩ => wi_no cc (by omega) z2 (by omega) (by omega)) hR
    obtain ⟨a', -, ha, rfl⟩ := wi_t cc (by omega) (by omega)
    clear cc
    refine at_iload_n 38 dX12_feed_37 rfl rfl rfl ?_
    refine at_iconst 39 (nI 0) dX12_feed_38 rfl (by decide) ?_
    refine at_sipush 42 (nI 1000) dX12_feed_39 rfl (by decide) ?_
    refine at_invS 45 [_, _, _] _ (c_in b (nI 0) (nI 1000)) dX12_feed_42 rfl rfl ml_X12_111 cl_X12_in sv_X12_in rfl (Nat.le_of_ble_eq_true rfl) ⟨by decide, by decide⟩ (by decide) (fun rr hh qq => ?_)
    obtain ⟨rfl, hq2⟩ := qq; rw [hq2]; clear hq2 hh
    refine at_if_eqB 87 48 dX12_feed_45 rfl rfl (fun cc => ?_) (fun cc => ?_)
    · refine at_ldc 89 (-1000000000) dX12_feed_87 rfl cn_X12_118 ?_
      refine at_iret dX12_feed_89 rfl (by decide) (by decide) ?_
      exact rm_no (fun ⟨k', a', b', c', d', q', r', p1, p2, p3, p4, p5, z1, z2, z3, z4, z5, z6, z7⟩ => wi_no cc (by omega) z3 (by omega) (by omega)) hR
    obtain ⟨b', -, hb, rfl⟩ := wi_t cc (by omega) (by omega)
    clear cc
    refine at_iload 50 dX12_feed_48 rfl rfl ?_
    refine at_iconst 51 (nI 0) dX12_feed_50 rfl (by decide) ?_
    refine at_sipush 54 (nI 1000) dX12_feed_51 rfl (by decide) ?_
    refine at_invS 57 [_, _, _] _ (c_in c (nI 0) (nI 1000)) dX12_feed_54 rfl rfl ml_X12_111 cl_X12_in sv_X12_in rfl (Nat.le_of_ble_eq_true rfl) ⟨by decide, by decide⟩ (by decide) (fun rr hh qq => ?_)
    obtain ⟨rfl, hq2⟩ := qq; rw [hq2]; clear hq2 hh
    refine at_if_eqB 87 60 dX12_feed_57 rfl rfl (fun cc => ?_) (fun cc => ?_)
    · refine at_ldc 89 (-1000000000) dX12_feed_87 rfl cn_X12_118 ?_
      refine at_iret dX12_feed_89 rfl (by decide) (by decide) ?_
      exact rm_no (fun ⟨k', a', b', c', d', q', r', p1, p2, p3, p4, p5, z1, z2, z3, z4, z5, z6, z7⟩ => wi_no cc (by omega) z4 (by omega) (by omega)) hR
    obtain ⟨c', -, hc, rfl⟩ := wi_t cc (by omega) (by omega)
    clear cc
    refine at_iload 62 dX12_feed_60 rfl rfl ?_
    refine at_iconst 63 (nI 0) dX12_feed_62 rfl (by decide) ?_
    refine at_sipush 66 (nI 1000) dX12_feed_63 rfl (by decide) ?_
    refine at_invS 69 [_, _, _] _ (c_in d (nI 0) (nI 1000)) dX12_feed_66 rfl rfl ml_X12_111 cl_X12_in sv_X12_in rfl (Nat.le_of_ble_eq_true rfl) ⟨by decide, by decide⟩ (by decide) (fun rr hh qq => ?_)
    obtain ⟨rfl, hq2⟩ := qq; rw [hq2]; clear hq2 hh
    refine at_if_eqB 87 72 dX12_feed_69 rfl rfl (fun cc => ?_) (fun cc => ?_)
    · refine at_ldc 89 (-1000000000) dX12_feed_87 rfl cn_X12_118 ?_
      refine at_iret dX12_feed_89 rfl (by decide) (by decide) ?_
      exact rm_no (fun ⟨k', a', b', c', d', q', r', p1, p2, p3, p4, p5, z1, z2, z3, z4, z5, z6, z7⟩ => wi_no cc (by omega) z5 (by omega) (by omega)) hR
    obtain ⟨d', -, hd, rfl⟩ := wi_t cc (by omega) (by omega)
    clear cc
    refine at_iload_n 73 dX12_feed_72 rfl rfl rfl ?_
    refine at_iload_n 74 dX12_feed_73 rfl rfl rfl ?_
    first | refine at_iaddN 75 dX12_feed_74 rfl ?_ | refine at_iadd 75 dX12_feed_74 rfl ?_
    refine at_iload 77 dX12_feed_75 rfl rfl ?_
    first | refine at_iaddN 78 dX12_feed_77 rfl ?_ | refine at_iadd 78 dX12_feed_77 rfl ?_
    refine at_iload 80 dX12_feed_78 rfl rfl ?_
    first | refine at_iaddN 81 dX12_feed_80 rfl ?_ | refine at_iadd 81 dX12_feed_80 rfl ?_
    refine at_sipush 84 (nI 1000) dX12_feed_81 rfl (by decide) ?_
    refine at_icmp_eqN 90 87 dX12_feed_84 rfl rfl (by omega) (by omega) (fun cc => ?_) (fun cc => ?_)
    rotate_left
    · refine at_ldc 89 (-1000000000) dX12_feed_87 rfl cn_X12_118 ?_
      refine at_iret dX12_feed_89 rfl (by decide) (by decide) ?_
      exact rm_no (fun ⟨k2, a2, b2, c2, d2, q2, r2, p1, p2, p3, p4, p5, z1, z2, z3, z4, z5, z6, z7⟩ => by
        have e1 := nI_inj z2 (by omega) (by omega)
        have e2 := nI_inj z3 (by omega) (by omega)
        have e3 := nI_inj z4 (by omega) (by omega)
        have e4 := nI_inj z5 (by omega) (by omega)
        omega) hR
    have hsum := cc
    clear cc
    have aft2 : ∀ lim, lim = (if k' = 0 ∨ k' = 2 then 0 else 100) → At mX12_feed T0 104 [.ref 106, .int (nI k'), .int (nI a'), .int (nI b'), .int (nI c'), .int (nI d'), .int q, .int r, .int (nI my), .null] [.int (nI lim), .int (nI 0), .int q] h 0 0 (ZM mX12_feed (RM (fFeed s (nI k') (nI a') (nI b') (nI c') (nI d') q r) h)) := by
      intro lim hlim
      have hl100 : lim ≤ 100 := by rw [hlim]; split <;> omega
      refine at_invS 107 [_, _, _] _ (c_in q (nI 0) (nI lim)) dX12_feed_104 rfl rfl ml_X12_111 cl_X12_in sv_X12_in rfl (Nat.le_of_ble_eq_true rfl) ⟨by decide, by decide⟩ (by decide) (fun rr hh qq => ?_)
      obtain ⟨rfl, hq2⟩ := qq; rw [hq2]; clear hq2 hh
      refine at_if_eqB 131 110 dX12_feed_107 rfl rfl (fun cc => ?_) (fun cc => ?_)
      · refine at_ldc 133 (-1000000000) dX12_feed_131 rfl cn_X12_118 ?_
        refine at_iret dX12_feed_133 rfl (by decide) (by decide) ?_
        refine rm_no (fun ⟨k2, a2, b2, c2, d2, q2, r2, p1, p2, p3, p4, p5, z1, z2, z3, z4, z5, z6, z7⟩ => ?_) hR
        have e1 := nI_inj z1 (by omega) (by omega)
        subst e1
        exact wi_no cc (by omega) z6 (by omega) (by rw [hlim]; exact p3)
      obtain ⟨q', -, hq, rfl⟩ := wi_t cc (by omega) (by omega)
      clear cc
      refine at_iload 112 dX12_feed_110 rfl rfl ?_
      refine at_iconst 113 (nI 0) dX12_feed_112 rfl (by decide) ?_
      refine at_sipush 116 (nI 10000) dX12_feed_113 rfl (by decide) ?_
      refine at_invS 119 [_, _, _] _ (c_in r (nI 0) (nI 10000)) dX12_feed_116 rfl rfl ml_X12_111 cl_X12_in sv_X12_in rfl (Nat.le_of_ble_eq_true rfl) ⟨by decide, by decide⟩ (by decide) (fun rr hh qq => ?_)
      obtain ⟨rfl, hq2⟩ := qq; rw [hq2]; clear hq2 hh
      refine at_if_eqB 131 122 dX12_feed_119 rfl rfl (fun cc => ?_) (fun cc => ?_)
      · refine at_ldc 133 (-1000000000) dX12_feed_131 rfl cn_X12_118 ?_
        refine at_iret dX12_feed_133 rfl (by decide) (by decide) ?_
        refine rm_no (fun ⟨k2, a2, b2, c2, d2, q2, r2, p1, p2, p3, p4, p5, z1, z2, z3, z4, z5, z6, z7⟩ => ?_) hR
        exact wi_no cc (by omega) z7 (by omega) p4
      obtain ⟨r', -, hr, rfl⟩ := wi_t cc (by omega) (by omega)
      clear cc
      refine at_aload_n 123 dX12_feed_122 rfl rfl rfl ?_
      refine at_g 126 dX12_feed_123 rfl fl_X12_108 ⟨_, by assumption, ?_⟩
      refine ⟨_, rfl, ?_⟩
      refine at_bipush 128 (nI 8) dX12_feed_126 rfl (by decide) ?_
      refine at_icmp_neN 134 131 dX12_feed_128 rfl rfl (by omega) (by omega) (fun cc => ?_) (fun cc => ?_)
      rotate_left
      · refine at_ldc 133 (-1000000000) dX12_feed_131 rfl cn_X12_118 ?_
        refine at_iret dX12_feed_133 rfl (by decide) (by decide) ?_
        exact rm_no (fun ⟨k2, a2, b2, c2, d2, q2, r2, p1, p2, p3, p4, p5, z1, z2, z3, z4, z5, z6, z7⟩ => by omega) hR
      have hfr : Fr (fun j => 106 ≤ j ∧ j ≤ 110) h h := Fr.rf
      refine at_aload_n 135 dX12_feed_134 rfl rfl rfl ?_
      refine at_g 138 dX12_feed_135 rfl fl_X12_108 ⟨_, by assumption, ?_⟩
      refine ⟨_, rfl, ?_⟩
      refine at_istore (L' := [_, _, _, _, _, _, _, _, _, _]) 140 dX12_feed_138 rfl (by decide) rfl rfl ?_
      refine at_aload_n 141 dX12_feed_140 rfl rfl rfl ?_
      refine at_g 144 dX12_feed_141 rfl fl_X12_7 ⟨_, by assumption, ?_⟩
      refine ⟨_, rfl, ?_⟩
      refine at_iconst 145 (nI 4) dX12_feed_144 rfl (by decide) ?_
      refine at_iload 147 dX12_feed_145 rfl rfl ?_
      first | refine at_imulN 148 dX12_feed_147 rfl ?_ | refine at_imul 148 dX12_feed_147 rfl ?_
      refine at_iload_n 149 dX12_feed_148 rfl rfl rfl ?_
      first | refine at_is 150 dX12_feed_149 rfl ⟨_, _, by assumption, by omega, by first | decide | omega, fun hh2 nn2 => ?_⟩ | refine at_isG 150 dX12_feed_149 rfl ⟨_, _, by assumption, by omega, by first | decide | omega, fun hh2 nn2 => ?_⟩
      replace m0 := nn2.o (by first | decide | omega | assumption) m0
      replace f107 := nn2.1
      replace f108 := nn2.o (by first | decide | omega | assumption) f108
      replace f109 := nn2.o (by first | decide | omega | assumption) f109
      replace f110 := nn2.o (by first | decide | omega | assumption) f110
      replace hfr := hfr.nw nn2 (by first | (dsimp only; omega) | (dsimp only; done) | simp)
      clear nn2
      refine at_aload_n 151 dX12_feed_150 rfl rfl rfl ?_
      refine at_g 154 dX12_feed_151 rfl fl_X12_7 ⟨_, by assumption, ?_⟩
      refine ⟨_, rfl, ?_⟩
      refine at_iconst 155 (nI 4) dX12_feed_154 rfl (by decide) ?_
      refine at_iload 157 dX12_feed_155 rfl rfl ?_
      first | refine at_imulN 158 dX12_feed_157 rfl ?_ | refine at_imul 158 dX12_feed_157 rfl ?_
      refine at_iconst 159 (nI 1) dX12_feed_158 rfl (by decide) ?_
      first | refine at_iaddN 160 dX12_feed_159 rfl ?_ | refine at_iadd 160 dX12_feed_159 rfl ?_
      refine at_iload_n 161 dX12_feed_160 rfl rfl rfl ?_
      first | refine at_is 162 dX12_feed_161 rfl ⟨_, _, by assumption, by omega, by first | decide | omega, fun hh3 nn3 => ?_⟩ | refine at_isG 162 dX12_feed_161 rfl ⟨_, _, by assumption, by omega, by first | decide | omega, fun hh3 nn3 => ?_⟩
      replace m0 := nn3.o (by first | decide | omega | assumption) m0
      replace f107 := nn3.1
      replace f108 := nn3.o (by first | decide | omega | assumption) f108
      replace f109 := nn3.o (by first | decide | omega | assumption) f109
      replace f110 := nn3.o (by first | decide | omega | assumption) f110
      replace hfr := hfr.nw nn3 (by first | (dsimp only; omega) | (dsimp only; done) | simp)
      clear nn3
      refine at_aload_n 163 dX12_feed_162 rfl rfl rfl ?_
      refine at_g 166 dX12_feed_163 rfl fl_X12_7 ⟨_, by assumption, ?_⟩
      refine ⟨_, rfl, ?_⟩
      refine at_iconst 167 (nI 4) dX12_feed_166 rfl (by decide) ?_
      refine at_iload 169 dX12_feed_167 rfl rfl ?_
      first | refine at_imulN 170 dX12_feed_169 rfl ?_ | refine at_imul 170 dX12_feed_169 rfl ?_
      refine at_iconst 171 (nI 2) dX12_feed_170 rfl (by decide) ?_
      first | refine at_iaddN 172 dX12_feed_171 rfl ?_ | refine at_iadd 172 dX12_feed_171 rfl ?_
      refine at_iload 174 dX12_feed_172 rfl rfl ?_
      first | refine at_is 175 dX12_feed_174 rfl ⟨_, _, by assumption, by omega, by first | decide | omega, fun hh4 nn4 => ?_⟩ | refine at_isG 175 dX12_feed_174 rfl ⟨_, _, by assumption, by omega, by first | decide | omega, fun hh4 nn4 => ?_⟩
      replace m0 := nn4.o (by first | decide | omega | assumption) m0
      replace f107 := nn4.1
      replace f108 := nn4.o (by first | decide | omega | assumption) f108
      replace f109 := nn4.o (by first | decide | omega | assumption) f109
      replace f110 := nn4.o (by first | decide | omega | assumption) f110
      replace hfr := hfr.nw nn4 (by first | (dsimp only; omega) | (dsimp only; done) | simp)
      clear nn4
      refine at_aload_n 176 dX12_feed_175 rfl rfl rfl ?_
      refine at_g 179 dX12_feed_176 rfl fl_X12_7 ⟨_, by assumption, ?_⟩
      refine ⟨_, rfl, ?_⟩
      refine at_iconst 180 (nI 4) dX12_feed_179 rfl (by decide) ?_
      refine at_iload 182 dX12_feed_180 rfl rfl ?_
      first | refine at_imulN 183 dX12_feed_182 rfl ?_ | refine at_imul 183 dX12_feed_182 rfl ?_
      refine at_iconst 184 (nI 3) dX12_feed_183 rfl (by decide) ?_
      first | refine at_iaddN 185 dX12_feed_184 rfl ?_ | refine at_iadd 185 dX12_feed_184 rfl ?_
      refine at_iload 187 dX12_feed_185 rfl rfl ?_
      first | refine at_is 188 dX12_feed_187 rfl ⟨_, _, by assumption, by omega, by first | decide | omega, fun hh5 nn5 => ?_⟩ | refine at_isG 188 dX12_feed_187 rfl ⟨_, _, by assumption, by omega, by first | decide | omega, fun hh5 nn5 => ?_⟩
      replace m0 := nn5.o (by first | decide | omega | assumption) m0
      replace f107 := nn5.1
      replace f108 := nn5.o (by first | decide | omega | assumption) f108
      replace f109 := nn5.o (by first | decide | omega | assumption) f109
      replace f110 := nn5.o (by first | decide | omega | assumption) f110
      replace hfr := hfr.nw nn5 (by first | (dsimp only; omega) | (dsimp only; done) | simp)
      clear nn5
      refine at_aload_n 189 dX12_feed_188 rfl rfl rfl ?_
      refine at_g 192 dX12_feed_189 rfl fl_X12_13 ⟨_, by assumption, ?_⟩
      refine ⟨_, rfl, ?_⟩
      refine at_iload 194 dX12_feed_192 rfl rfl ?_
      refine at_iload_n 195 dX12_feed_194 rfl rfl rfl ?_
      first | refine at_is 196 dX12_feed_195 rfl ⟨_, _, by assumption, by omega, by first | decide | omega, fun hh6 nn6 => ?_⟩ | refine at_isG 196 dX12_feed_195 rfl ⟨_, _, by assumption, by omega, by first | decide | omega, fun hh6 nn6 => ?_⟩
      replace m0 := nn6.o (by first | decide | omega | assumption) m0
      replace f107 := nn6.o (by first | decide | omega | assumption) f107
      replace f108 := nn6.1
      replace f109 := nn6.o (by first | decide | omega | assumption) f109
      replace f110 := nn6.o (by first | decide | omega | assumption) f110
      replace hfr := hfr.nw nn6 (by first | (dsimp only; omega) | (dsimp only; done) | simp)
      clear nn6
      refine at_aload_n 197 dX12_feed_196 rfl rfl rfl ?_
      refine at_g 200 dX12_feed_197 rfl fl_X12_16 ⟨_, by assumption, ?_⟩
      refine ⟨_, rfl, ?_⟩
      refine at_iload 202 dX12_feed_200 rfl rfl ?_
      refine at_iload 204 dX12_feed_202 rfl rfl ?_
      first | refine at_is 205 dX12_feed_204 rfl ⟨_, _, by assumption, by omega, by first | decide | omega, fun hh7 nn7 => ?_⟩ | refine at_isG 205 dX12_feed_204 rfl ⟨_, _, by assumption, by omega, by first | decide | omega, fun hh7 nn7 => ?_⟩
      replace m0 := nn7.o (by first | decide | omega | assumption) m0
      replace f107 := nn7.o (by first | decide | omega | assumption) f107
      replace f108 := nn7.o (by first | decide | omega | assumption) f108
      replace f109 := nn7.1
      replace f110 := nn7.o (by first | decide | omega | assumption) f110
      replace hfr := hfr.nw nn7 (by first | (dsimp only; omega) | (dsimp only; done) | simp)
      clear nn7
      refine at_aload_n 206 dX12_feed_205 rfl rfl rfl ?_
      refine at_g 209 dX12_feed_206 rfl fl_X12_19 ⟨_, by assumption, ?_⟩
      refine ⟨_, rfl, ?_⟩
      refine at_iload 211 dX12_feed_209 rfl rfl ?_
      refine at_iload 213 dX12_feed_211 rfl rfl ?_
      first | refine at_is 214 dX12_feed_213 rfl ⟨_, _, by assumption, by omega, by first | decide | omega, fun hh8 nn8 => ?_⟩ | refine at_isG 214 dX12_feed_213 rfl ⟨_, _, by assumption, by omega, by first | decide | omega, fun hh8 nn8 => ?_⟩
      replace m0 := nn8.o (by first | decide | omega | assumption) m0
      replace f107 := nn8.o (by first | decide | omega | assumption) f107
      replace f108 := nn8.o (by first | decide | omega | assumption) f108
      replace f109 := nn8.o (by first | decide | omega | assumption) f109
      replace f110 := nn8.1
      replace hfr := hfr.nw nn8 (by first | (dsimp only; omega) | (dsimp only; done) | simp)
      clear nn8
      refine at_aload_n 215 dX12_feed_214 rfl rfl rfl ?_
      refine at_dup 216 dX12_feed_215 rfl rfl ?_
      refine at_g 219 dX12_feed_216 rfl fl_X12_108 ⟨_, by assumption, ?_⟩
      refine ⟨_, rfl, ?_⟩
      refine at_iconst 220 (nI 1) dX12_feed_219 rfl (by decide) ?_
      first | refine at_iaddN 221 dX12_feed_220 rfl ?_ | refine at_iadd 221 dX12_feed_220 rfl ?_
      refine at_pi 224 dX12_feed_221 rfl pl_X12_108 (rfl) (rfl) ⟨_, by assumption, ?_⟩
      refine ⟨(Nat.le_of_ble_eq_true rfl), [_, _, _, _, _, _, _, _, _, _, _, _, _, _, _, _, _, _, _, _, _, _, _, _, _, _, _, _, _, _, _, _, _, _, _, _, _, _, _, _], rfl, fun hh9 nn9 => ?_⟩
      replace m0 := nn9.1
      replace f107 := nn9.o (by first | decide | omega | assumption) f107
      replace f108 := nn9.o (by first | decide | omega | assumption) f108
      replace f109 := nn9.o (by first | decide | omega | assumption) f109
      replace f110 := nn9.o (by first | decide | omega | assumption) f110
      replace hfr := hfr.nw nn9 (by first | (dsimp only; omega) | (dsimp only; done) | simp)
      clear nn9
      refine at_iload 226 dX12_feed_224 rfl rfl ?_
      refine at_iret dX12_feed_226 rfl (by decide) (by decide) ?_
      refine rm_yes ⟨k', a', b', c', d', q', r', by omega, by omega, by omega, hr, by omega, rfl, rfl, rfl, rfl, rfl, rfl, rfl⟩ rfl ?_ (hfr.wk (fun j hj => by omega))
      rw [tn_nI (by omega), tn_nI (by omega), tn_nI (by omega), tn_nI (by omega), tn_nI (by omega), tn_nI (by omega), tn_nI (by omega)]
      refine ⟨m0, ⟨⟨_, f107, fun t ht => ?_⟩, Ar.up f108 e108 rfl, Ar.up f109 e109 rfl, Ar.up f110 e110 rfl, mF.2.2.2.2.1.gt hfr (fun j h1 h2 => by omega), mF.2.2.2.2.2.1.gt hfr (fun j h1 h2 => by omega), mF.2.2.2.2.2.2.gt hfr (fun j h1 h2 => by omega)⟩, mL.fr hfr (fun j h1 h2 => by omega), mC.fr hfr (fun j h1 h2 => by omega), mH.fr hfr (fun j h1 h2 => by omega), mR.gt hfr (fun j h1 h2 => by omega), mS.fr hfr (fun j h1 => by omega)⟩
      show updN (updN (updN (updN mk (4 * s 0 0) a') (4 * s 0 0 + 1) b') (4 * s 0 0 + 2) c') (4 * s 0 0 + 3) d' t = updN (updN (updN (updN (s 7) (4 * s 0 0) a') (4 * s 0 0 + 1) b') (4 * s 0 0 + 2) c') (4 * s 0 0 + 3) d' t
      unfold updN
      rw [e107 t ht]
    refine at_iload 92 dX12_feed_90 rfl rfl ?_
    refine at_iconst 93 (nI 0) dX12_feed_92 rfl (by decide) ?_
    refine at_iload 95 dX12_feed_93 rfl rfl ?_
    refine at_if_eqN 103 98 dX12_feed_95 rfl rfl (by omega) (fun cc => ?_) (fun cc => ?_)
    · refine at_iconst 104 (nI 0) dX12_feed_103 rfl (by decide) ?_
      exact aft2 0 (by rw [if_pos (by omega)])
    · refine at_bipush 100 (nI 100) dX12_feed_98 rfl (by decide) ?_
      refine at_goto 104 dX12_feed_100 rfl ?_
      exact aft2 100 (by rw [if_neg (by omega)])
  refine ct_at (L := [_, _, _, _, _, _, _, _, _, _]) (by decide +kernel) rfl rfl (Nat.le_of_ble_eq_true rfl) ?_
  refine at_iload_n 1 dX12_feed_0 rfl rfl rfl ?_
  refine at_iconst 2 (nI 1) dX12_feed_1 rfl (by decide) ?_
  refine at_icmp_eq 10 5 dX12_feed_2 rfl rfl (fun cc => ?_) (fun cc => ?_)
  · refine at_iconst 11 (nI 1) dX12_feed_10 rfl (by decide) ?_
    refine at_goto 15 dX12_feed_11 rfl ?_
    refine at_istore (L' := [_, _, _, _, _, _, _, _, _, _]) 17 dX12_feed_15 rfl (by decide) rfl rfl ?_
    exact aft 1 (by decide) ⟨fun _ => Or.inl cc, fun _ => rfl⟩
  have c1 := cc
  refine at_iload_n 6 dX12_feed_5 rfl rfl rfl ?_
  refine at_iconst 7 (nI 3) dX12_feed_6 rfl (by decide) ?_
  refine at_icmp_ne 14 10 dX12_feed_7 rfl rfl (fun cc => ?_) (fun cc => ?_)
  · refine at_iconst 15 (nI 0) dX12_feed_14 rfl (by decide) ?_
    refine at_istore (L' := [_, _, _, _, _, _, _, _, _, _]) 17 dX12_feed_15 rfl (by decide) rfl rfl ?_
    exact aft 0 (by decide) ⟨fun q => by omega, fun q => q.elim (fun q => absurd q c1) (fun q => absurd q cc)⟩
  · refine at_iconst 11 (nI 1) dX12_feed_10 rfl (by decide) ?_
    refine at_goto 15 dX12_feed_11 rfl ?_
    refine at_istore (L' := [_, _, _, _, _, _, _, _, _, _]) 17 dX12_feed_15 rfl (by decide) rfl rfl ?_
    exact aft 1 (by decide) ⟨fun _ => Or.inr cc, fun _ => rfl⟩
theorem m_of {s : St} {h : List PC} (hI : Inv s) (hR : RepM s h) (f w : Int32) : Ct mX12_of [.ref 106, .int f, .int w] h (RM (fOf s f w) h) := by
  obtain ⟨m0, mF, mL, mC, mH, mR, mS⟩ := id hR; obtain ⟨⟨i0, i1, i2, i3, i4, i5, i6, i7, i8, i9, i10, i11⟩, k1, k2, k3, k4, k5, k5z, k5s, k6, k6z, k7, k7s, k8s, k8z, k9, k10, k11, k11z, k50, k15, k16⟩ := id hI; obtain ⟨⟨mk, f107, e107⟩, ⟨kd, f108, e108⟩, ⟨db, f109, e109⟩, ⟨pr, f110, e110⟩, ⟨st, f111, e111⟩, ⟨tc, f112, e112⟩, ⟨sh, f113, e113⟩⟩ := id mF
  refine ct_at (L := [_, _, _]) (by decide +kernel) rfl rfl (Nat.le_of_ble_eq_true rfl) ?_
  refine at_aload_n 1 dX12_of_0 rfl rfl rfl ?_
  refine at_iload_n 2 dX12_of_1 rfl rfl rfl ?_
  refine at_invV (ci := 12) 5 [_] _ (c_isFeed f m0 (by omega)) dX12_of_2 rfl rfl (by assumption) rfl ml_X12_119 cl_X12_isFeed vl_X12_isFeed rfl (Nat.le_of_ble_eq_true rfl) ⟨by decide, by decide⟩ (by decide) (fun rr hh qq => ?_)
  obtain ⟨rfl, hq2⟩ := qq; rw [hq2]; clear hq2 hh
  refine at_if_eqB 18 8 dX12_of_5 rfl rfl (fun cc => ?_) (fun cc => ?_)
  · refine at_ldc 20 (-1000000000) dX12_of_18 rfl cn_X12_118 ?_
    refine at_iret dX12_of_20 rfl (by decide) (by decide) ?_
    exact rm_no (fun ⟨i, j, q1, q2, _⟩ => has_f cc (by omega) ⟨i, q1, q2⟩) hR
  obtain ⟨i, hi, rfl⟩ := has_t cc (by omega)
  clear cc
  refine at_iload_n 9 dX12_of_8 rfl rfl rfl ?_
  refine at_iconst 10 (nI 0) dX12_of_9 rfl (by decide) ?_
  refine at_bipush 12 (nI 8) dX12_of_10 rfl (by decide) ?_
  refine at_invS 15 [_, _, _] _ (c_in w (nI 0) (nI 8)) dX12_of_12 rfl rfl ml_X12_111 cl_X12_in sv_X12_in rfl (Nat.le_of_ble_eq_true rfl) ⟨by decide, by decide⟩ (by decide) (fun rr hh qq => ?_)
  obtain ⟨rfl, hq2⟩ := qq; rw [hq2]; clear hq2 hh
  refine at_if_neB 21 18 dX12_of_15 rfl rfl (fun cc => ?_) (fun cc => ?_)
  rotate_left
  · refine at_ldc 20 (-1000000000) dX12_of_18 rfl cn_X12_118 ?_
    refine at_iret dX12_of_20 rfl (by decide) (by decide) ?_
    exact rm_no (fun ⟨i, j, q1, q2, q3, q4⟩ => wi_no cc (by omega) q4 (by omega) (by omega)) hR
  obtain ⟨j, -, hj, rfl⟩ := wi_t cc (by omega) (by omega)
  clear cc
  refine at_iload_n 22 dX12_of_21 rfl rfl rfl ?_
  have hti : (nI j).toInt = (j : Int) := nI_toInt (by omega)
  have fin : ∀ v, v = ofV s i j → RM (fOf s (nI i) (nI j)) h (some (.int (nI v))) h := fun v hv => rm_yes ⟨i, j, hi, rfl, by omega, rfl⟩ (by rw [tn_nI (by omega), tn_nI (by omega), hv]) hR Fr.rf
  rcases (by omega : j < 4 ∨ j = 4 ∨ j = 5 ∨ j = 6 ∨ j = 7 ∨ j = 8) with q | rfl | rfl | rfl | rfl | rfl
  · refine at_tabOut 102 dX12_of_22 (by omega) rfl ?_
    refine at_aload_n 103 dX12_of_102 rfl rfl rfl ?_
    refine at_g 106 dX12_of_103 rfl fl_X12_7 ⟨_, by assumption, ?_⟩
    refine ⟨_, rfl, ?_⟩
    refine at_iconst 107 (nI 4) dX12_of_106 rfl (by decide) ?_
    refine at_iload_n 108 dX12_of_107 rfl rfl rfl ?_
    first | refine at_imulN 109 dX12_of_108 rfl ?_ | refine at_imul 109 dX12_of_108 rfl ?_
    refine at_iload_n 110 dX12_of_109 rfl rfl rfl ?_
    first | refine at_iaddN 111 dX12_of_110 rfl ?_ | refine at_iadd 111 dX12_of_110 rfl ?_
    first | refine at_ia 112 dX12_of_111 rfl ⟨_, _, by assumption, by omega, by first | decide | omega, ?_⟩ | refine at_iaG 112 dX12_of_111 rfl ⟨_, _, by assumption, by omega, by first | decide | omega, ?_⟩
    refine at_iret dX12_of_112 rfl (by decide) (by decide) ?_
    exact fin _ (by unfold ofV; rw [if_pos q]; exact e107 _ (by omega))
  · refine at_tabIn (off := 34) 56 dX12_of_22 (by decide) (by decide) rfl rfl ?_
    refine at_aload_n 57 dX12_of_56 rfl rfl rfl ?_
    refine at_g 60 dX12_of_57 rfl fl_X12_13 ⟨_, by assumption, ?_⟩
    refine ⟨_, rfl, ?_⟩
    refine at_iload_n 61 dX12_of_60 rfl rfl rfl ?_
    first | refine at_ia 62 dX12_of_61 rfl ⟨_, _, by assumption, by omega, by first | decide | omega, ?_⟩ | refine at_iaG 62 dX12_of_61 rfl ⟨_, _, by assumption, by omega, by first | decide | omega, ?_⟩
    refine at_iret dX12_of_62 rfl (by decide) (by decide) ?_
    exact fin _ (e108 i (by omega))
  · refine at_tabIn (off := 41) 63 dX12_of_22 (by decide) (by decide) rfl rfl ?_
    refine at_aload_n 64 dX12_of_63 rfl rfl rfl ?_
    refine at_g 67 dX12_of_64 rfl fl_X12_16 ⟨_, by assumption, ?_⟩
    refine ⟨_, rfl, ?_⟩
    refine at_iload_n 68 dX12_of_67 rfl rfl rfl ?_
    first | refine at_ia 69 dX12_of_68 rfl ⟨_, _, by assumption, by omega, by first | decide | omega, ?_⟩ | refine at_iaG 69 dX12_of_68 rfl ⟨_, _, by assumption, by omega, by first | decide | omega, ?_⟩
    refine at_iret dX12_of_69 rfl (by decide) (by decide) ?_
    exact fin _ (e109 i (by omega))
  · refine at_tabIn (off := 48) 70 dX12_of_22 (by decide) (by decide) rfl rfl ?_
    refine at_aload_n 71 dX12_of_70 rfl rfl rfl ?_
    refine at_g 74 dX12_of_71 rfl fl_X12_19 ⟨_, by assumption, ?_⟩
    refine ⟨_, rfl, ?_⟩
    refine at_iload_n 75 dX12_of_74 rfl rfl rfl ?_
    first | refine at_ia 76 dX12_of_75 rfl ⟨_, _, by assumption, by omega, by first | decide | omega, ?_⟩ | refine at_iaG 76 dX12_of_75 rfl ⟨_, _, by assumption, by omega, by first | decide | omega, ?_⟩
    refine at_iret dX12_of_76 rfl (by decide) (by decide) ?_
    exact fin _ (e110 i (by omega))
  · refine at_tabIn (off := 55) 77 dX12_of_22 (by decide) (by decide) rfl rfl ?_
    refine at_aload_n 78 dX12_of_77 rfl rfl rfl ?_
    refine at_g 81 dX12_of_78 rfl fl_X12_22 ⟨_, by assumption, ?_⟩
    refine ⟨_, rfl, ?_⟩
    refine at_iload_n 82 dX12_of_81 rfl rfl rfl ?_
    first | refine at_ia 83 dX12_of_82 rfl ⟨_, _, by assumption, by omega, by first | decide | omega, ?_⟩ | refine at_iaG 83 dX12_of_82 rfl ⟨_, _, by assumption, by omega, by first | decide | omega, ?_⟩
    refine at_iret dX12_of_83 rfl (by decide) (by decide) ?_
    exact fin _ (e111 i (by omega))
  · refine at_tabIn (off := 62) 84 dX12_of_22 (by decide) (by decide) rfl rfl ?_
    refine at_aload_n 85 dX12_of_84 rfl rfl rfl ?_
    refine at_g 88 dX12_of_85 rfl fl_X12_124 ⟨_, by assumption, ?_⟩
    refine ⟨_, rfl, ?_⟩
    refine at_if_eqN 100 91 dX12_of_88 rfl rfl (by omega) (fun cc => ?_) (fun cc => ?_)
    · refine at_iconst 101 (nI 0) dX12_of_100 rfl (by decide) ?_
      refine at_iret dX12_of_101 rfl (by decide) (by decide) ?_
      exact fin _ (k50 cc i (by omega)).symm
    · refine at_aload_n 92 dX12_of_91 rfl rfl rfl ?_
      refine at_g 95 dX12_of_92 rfl fl_X12_28 ⟨_, by assumption, ?_⟩
      refine ⟨_, rfl, ?_⟩
      refine at_iload_n 96 dX12_of_95 rfl rfl rfl ?_
      first | refine at_ia 97 dX12_of_96 rfl ⟨_, _, by assumption, by omega, by first | decide | omega, ?_⟩ | refine at_iaG 97 dX12_of_96 rfl ⟨_, _, by assumption, by omega, by first | decide | omega, ?_⟩
      refine at_goto 101 dX12_of_97 rfl ?_
      refine at_iret dX12_of_101 rfl (by decide) (by decide) ?_
      exact fin _ (e113 i (by omega))
theorem m_pull {s : St} {h : List PC} (hI : Inv s) (hR : RepM s h) (p : Int32) : Ct mX12_pull [.ref 106, .int p] h (RM (fPull s p) h) := by
  obtain ⟨m0, mF, mL, mC, mH, mR, mS⟩ := id hR; obtain ⟨⟨i0, i1, i2, i3, i4, i5, i6, i7, i8, i9, i10, i11⟩, k1, k2, k3, k4, k5, k5z, k5s, k6, k6z, k7, k7s, k8s, k8z, k9, k10, k11, k11z, k50, k15, k16⟩ := id hI
  refine ct_at (L := [_, _, _]) (by decide +kernel) rfl rfl (Nat.le_of_ble_eq_true rfl) ?_
  refine at_iload_n 1 dX12_pull_0 rfl rfl rfl ?_
  refine at_iconst 2 (nI 1) dX12_pull_1 rfl (by decide) ?_
  refine at_aload_n 3 dX12_pull_2 rfl rfl rfl ?_
  refine at_g 6 dX12_pull_3 rfl fl_X12_35 ⟨_, by assumption, ?_⟩
  refine ⟨_, rfl, ?_⟩
  refine at_invS 9 [_, _, _] _ (c_in p (nI 1) (nI (s 0 4))) dX12_pull_6 rfl rfl ml_X12_111 cl_X12_in sv_X12_in rfl (Nat.le_of_ble_eq_true rfl) ⟨by decide, by decide⟩ (by decide) (fun rr hh qq => ?_)
  obtain ⟨rfl, hq2⟩ := qq; rw [hq2]; clear hq2 hh
  refine at_if_neB 15 12 dX12_pull_9 rfl rfl (fun cc => ?_) (fun cc => ?_)
  rotate_left
  · refine at_ldc 14 (-1000000000) dX12_pull_12 rfl cn_X12_118 ?_
    refine at_iret dX12_pull_14 rfl (by decide) (by decide) ?_
    exact rm_no (fun ⟨j, q1, q2, q3⟩ => wi_no cc (by omega) q3 q1 q2) hR
  obtain ⟨j, h1, h2, rfl⟩ := wi_t cc (by omega) (by omega)
  have hfr : Fr (fun j => j = 106) h h := Fr.rf
  refine at_aload_n 16 dX12_pull_15 rfl rfl rfl ?_
  refine at_g 19 dX12_pull_16 rfl fl_X12_38 ⟨_, by assumption, ?_⟩
  refine ⟨_, rfl, ?_⟩
  refine at_istore_n (L' := [_, _, _]) 20 dX12_pull_19 rfl rfl (by decide) rfl rfl ?_
  refine at_aload_n 21 dX12_pull_20 rfl rfl rfl ?_
  refine at_iload_n 22 dX12_pull_21 rfl rfl rfl ?_
  refine at_pi 25 dX12_pull_22 rfl pl_X12_38 (rfl) (rfl) ⟨_, by assumption, ?_⟩
  refine ⟨(Nat.le_of_ble_eq_true rfl), [_, _, _, _, _, _, _, _, _, _, _, _, _, _, _, _, _, _, _, _, _, _, _, _, _, _, _, _, _, _, _, _, _, _, _, _, _, _, _, _], rfl, fun hh10 nn10 => ?_⟩
  replace m0 := nn10.1
  replace hfr := hfr.nw nn10 (by first | (dsimp only; omega) | (dsimp only; done) | simp)
  clear nn10
  refine at_iload_n 26 dX12_pull_25 rfl rfl rfl ?_
  refine at_iret dX12_pull_26 rfl (by decide) (by decide) ?_
  refine rm_yes ⟨j, h1, h2, rfl⟩ rfl ?_ (hfr.wk (fun j hj => by omega))
  rw [tn_nI (by omega)]
  refine ⟨m0, mF.fr hfr (fun j h1 h2 => by omega), mL.fr hfr (fun j h1 h2 => by omega), mC.fr hfr (fun j h1 h2 => by omega), mH.fr hfr (fun j h1 h2 => by omega), mR.gt hfr (fun j h1 h2 => by omega), mS.fr hfr (fun j h1 => by omega)⟩
theorem m_share {s : St} {h : List PC} (hI : Inv s) (hR : RepM s h) (f x : Int32) : Ct mX12_share [.ref 106, .int f, .int x] h (RM (fShare s f x) h) := by
  obtain ⟨m0, mF, mL, mC, mH, mR, mS⟩ := id hR; obtain ⟨⟨i0, i1, i2, i3, i4, i5, i6, i7, i8, i9, i10, i11⟩, k1, k2, k3, k4, k5, k5z, k5s, k6, k6z, k7, k7s, k8s, k8z, k9, k10, k11, k11z, k50, k15, k16⟩ := id hI; obtain ⟨⟨mk, f107, e107⟩, ⟨kd, f108, e108⟩, ⟨db, f109, e109⟩, ⟨pr, f110, e110⟩, ⟨st, f111, e111⟩, ⟨tc, f112, e112⟩, ⟨sh, f113, e113⟩⟩ := id mF
  refine ct_at (L := [_, _, _, _]) (by decide +kernel) rfl rfl (Nat.le_of_ble_eq_true rfl) ?_
  refine at_aload_n 1 dX12_share_0 rfl rfl rfl ?_
  refine at_iload_n 2 dX12_share_1 rfl rfl rfl ?_
  refine at_invV (ci := 12) 5 [_] _ (c_isFeed f m0 (by omega)) dX12_share_2 rfl rfl (by assumption) rfl ml_X12_119 cl_X12_isFeed vl_X12_isFeed rfl (Nat.le_of_ble_eq_true rfl) ⟨by decide, by decide⟩ (by decide) (fun rr hh qq => ?_)
  obtain ⟨rfl, hq2⟩ := qq; rw [hq2]; clear hq2 hh
  refine at_if_eqB 19 8 dX12_share_5 rfl rfl (fun cc => ?_) (fun cc => ?_)
  · refine at_ldc 21 (-1000000000) dX12_share_19 rfl cn_X12_118 ?_
    refine at_iret dX12_share_21 rfl (by decide) (by decide) ?_
    exact rm_no (fun ⟨i, j, q1, q2, _⟩ => has_f cc (by omega) ⟨i, q1, q2⟩) hR
  obtain ⟨i, hi, rfl⟩ := has_t cc (by omega)
  clear cc
  refine at_iload_n 9 dX12_share_8 rfl rfl rfl ?_
  refine at_iconst 10 (nI 0) dX12_share_9 rfl (by decide) ?_
  refine at_sipush 13 (nI 1000) dX12_share_10 rfl (by decide) ?_
  refine at_invS 16 [_, _, _] _ (c_in x (nI 0) (nI 1000)) dX12_share_13 rfl rfl ml_X12_111 cl_X12_in sv_X12_in rfl (Nat.le_of_ble_eq_true rfl) ⟨by decide, by decide⟩ (by decide) (fun rr hh qq => ?_)
  obtain ⟨rfl, hq2⟩ := qq; rw [hq2]; clear hq2 hh
  refine at_if_neB 22 19 dX12_share_16 rfl rfl (fun cc => ?_) (fun cc => ?_)
  rotate_left
  · refine at_ldc 21 (-1000000000) dX12_share_19 rfl cn_X12_118 ?_
    refine at_iret dX12_share_21 rfl (by decide) (by decide) ?_
    exact rm_no (fun ⟨i, j, q1, q2, q3, q4⟩ => wi_no cc (by omega) q4 (by omega) q3) hR
  obtain ⟨j, h1, h2, rfl⟩ := wi_t cc (by omega) (by omega)
  have hfr : Fr (fun j => j = 112) h h := Fr.rf
  refine at_aload_n 23 dX12_share_22 rfl rfl rfl ?_
  refine at_g 26 dX12_share_23 rfl fl_X12_25 ⟨_, by assumption, ?_⟩
  refine ⟨_, rfl, ?_⟩
  refine at_iload_n 27 dX12_share_26 rfl rfl rfl ?_
  first | refine at_ia 28 dX12_share_27 rfl ⟨_, _, by assumption, by omega, by first | decide | omega, ?_⟩ | refine at_iaG 28 dX12_share_27 rfl ⟨_, _, by assumption, by omega, by first | decide | omega, ?_⟩
  refine at_istore_n (L' := [_, _, _, _]) 29 dX12_share_28 rfl rfl (by decide) rfl rfl ?_
  refine at_aload_n 30 dX12_share_29 rfl rfl rfl ?_
  refine at_g 33 dX12_share_30 rfl fl_X12_25 ⟨_, by assumption, ?_⟩
  refine ⟨_, rfl, ?_⟩
  refine at_iload_n 34 dX12_share_33 rfl rfl rfl ?_
  refine at_iload_n 35 dX12_share_34 rfl rfl rfl ?_
  first | refine at_is 36 dX12_share_35 rfl ⟨_, _, by assumption, by omega, by first | decide | omega, fun hh11 nn11 => ?_⟩ | refine at_isG 36 dX12_share_35 rfl ⟨_, _, by assumption, by omega, by first | decide | omega, fun hh11 nn11 => ?_⟩
  replace m0 := nn11.o (by first | decide | omega | assumption) m0
  replace f112 := nn11.1
  replace hfr := hfr.nw nn11 (by first | (dsimp only; omega) | (dsimp only; done) | simp)
  clear nn11
  refine at_iload_n 37 dX12_share_36 rfl rfl rfl ?_
  refine at_iret dX12_share_37 rfl (by decide) (by decide) ?_
  refine rm_yes ⟨i, j, hi, rfl, h2, rfl⟩ (by rw [tn_nI (by omega), e112 i (by omega)]) ?_ (hfr.wk (fun j hj => by omega))
  rw [tn_nI (by omega), tn_nI (by omega)]
  refine ⟨m0, ⟨mF.1.gt hfr (fun j h1 h2 => by omega), mF.2.1.gt hfr (fun j h1 h2 => by omega), mF.2.2.1.gt hfr (fun j h1 h2 => by omega), mF.2.2.2.1.gt hfr (fun j h1 h2 => by omega), mF.2.2.2.2.1.gt hfr (fun j h1 h2 => by omega), Ar.up f112 e112 rfl, mF.2.2.2.2.2.2.gt hfr (fun j h1 h2 => by omega)⟩, mL.fr hfr (fun j h1 h2 => by omega), mC.fr hfr (fun j h1 h2 => by omega), mH.fr hfr (fun j h1 h2 => by omega), mR.gt hfr (fun j h1 h2 => by omega), mS.fr hfr (fun j h1 => by omega)⟩
theorem m_mix {s : St} {h : List PC} (hI : Inv s) (hR : RepM s h) : Ct mX12_mix [.ref 106] h (RM (fMix s) h) := by
  obtain ⟨m0, mF, mL, mC, mH, mR, mS⟩ := id hR; obtain ⟨⟨i0, i1, i2, i3, i4, i5, i6, i7, i8, i9, i10, i11⟩, k1, k2, k3, k4, k5, k5z, k5s, k6, k6z, k7, k7s, k8s, k8z, k9, k10, k11, k11z, k50, k15, k16⟩ := id hI; obtain ⟨⟨mk, f107, e107⟩, ⟨kd, f108, e108⟩, ⟨db, f109, e109⟩, ⟨pr, f110, e110⟩, ⟨st, f111, e111⟩, ⟨tc, f112, e112⟩, ⟨sh, f113, e113⟩⟩ := id mF
  have hsm : sm tc (s 0 0) = sm (s 6) 8 := by rw [sm_ext0 (f := s 6) i0 k6z]; exact sm_congr (fun f hf => e112 f (by omega))
  have hb : sm (s 6) 8 ≤ 8 * 1000 := sm_bound k6
  refine ct_at (L := [_, _, _]) (by decide +kernel) rfl rfl (Nat.le_of_ble_eq_true rfl) ?_
  refine at_iconst 1 (nI 0) dX12_mix_0 rfl (by decide) ?_
  refine at_istore_n (L' := [_, _, _]) 2 dX12_mix_1 rfl rfl (by decide) rfl rfl ?_
  refine at_iconst 3 (nI 0) dX12_mix_2 rfl (by decide) ?_
  refine at_istore_n (L' := [_, _, _]) 4 dX12_mix_3 rfl rfl (by decide) rfl rfl ?_
  have loop2 : sm (s 6) 8 = 1000 → ∀ (d i : Nat) (w : Nat → Nat) (h' : List PC), i + d = 8 → h'[106]? = some (oM s) → h'[113]? = some (aI 8 w) → (∀ j, j < i → w j = s 6 j) → Fr (fun j => j = 113) h h' → At mX12_mix T0 39 [.ref 106, .int (nI (sm tc (s 0 0))), .int (nI i)] [] h' 0 0 (ZM mX12_mix (RM (fMix s) h)) := by
    intro h1000 d
    induction d with
    | zero =>
      intro i w h' hi a0 a113 hw hfr
      refine at_iload_n 40 dX12_mix_39 rfl rfl rfl ?_
      refine at_bipush 42 (nI 8) dX12_mix_40 rfl (by decide) ?_
      refine at_icmp_geN 75 45 dX12_mix_42 rfl rfl (by omega) (by omega) (fun cc => ?_) (fun cc => ?_)
      rotate_left
      · omega
      have hfr2 := hfr.wk (P' := fun j => j = 106 ∨ j = 113) (fun j hj => by omega)
      refine at_aload_n 76 dX12_mix_75 rfl rfl rfl ?_
      refine at_iconst 77 (nI 1) dX12_mix_76 rfl (by decide) ?_
      refine at_pi 80 dX12_mix_77 rfl pl_X12_124 (by first | rfl | decide | assumption) (by first | rfl | decide | assumption) ⟨_, by assumption, ?_⟩
      refine ⟨(Nat.le_of_ble_eq_true rfl), [_, _, _, _, _, _, _, _, _, _, _, _, _, _, _, _, _, _, _, _, _, _, _, _, _, _, _, _, _, _, _, _, _, _, _, _, _, _, _, _], rfl, fun hh12 nn12 => ?_⟩
      replace a0 := nn12.1
      replace a113 := nn12.o (by first | decide | omega | assumption) a113
      replace hfr2 := hfr2.nw nn12 (by first | (dsimp only; omega) | (dsimp only; done) | simp)
      clear nn12
      refine at_iconst 81 (nI 1) dX12_mix_80 rfl (by decide) ?_
      refine at_iret dX12_mix_81 rfl (by decide) (by decide) ?_
      refine rm_yes h1000 rfl ?_ (hfr2.wk (fun j hj => by omega))
      refine ⟨a0, ⟨mF.1.gt hfr2 (fun j h1 h2 => by omega), mF.2.1.gt hfr2 (fun j h1 h2 => by omega), mF.2.2.1.gt hfr2 (fun j h1 h2 => by omega), mF.2.2.2.1.gt hfr2 (fun j h1 h2 => by omega), mF.2.2.2.2.1.gt hfr2 (fun j h1 h2 => by omega), mF.2.2.2.2.2.1.gt hfr2 (fun j h1 h2 => by omega), ⟨_, a113, fun j hj => hw j (by omega)⟩⟩, mL.fr hfr2 (fun j h1 h2 => by omega), mC.fr hfr2 (fun j h1 h2 => by omega), mH.fr hfr2 (fun j h1 h2 => by omega), mR.gt hfr2 (fun j h1 h2 => by omega), mS.fr hfr2 (fun j h1 => by omega)⟩
    | succ d ih =>
      intro i w h' hi a0 a113 hw hfr
      have a112 := hfr.at (k := 112) (by omega) f112
      have nxt : ∀ v h2, v = s 6 i → h2[106]? = some (oM s) → h2[113]? = some (aI 8 (updN w i v)) → Fr (fun j => j = 113) h h2 → At mX12_mix T0 69 [.ref 106, .int (nI (sm tc (s 0 0))), .int (nI i)] [] h2 0 0 (ZM mX12_mix (RM (fMix s) h)) := by
        intro v h2 hv b0 b113 bfr
        refine at_iincN (q := 1) (L' := [_, _, _]) 72 dX12_mix_69 rfl (by decide) rfl (by decide) rfl rfl ?_
        refine at_goto 39 dX12_mix_72 rfl ?_
        refine ih (i + 1) _ h2 (by omega) b0 b113 (fun j hj => ?_) bfr
        by_cases e : j = i
        · rw [e, updN_s, hv]
        · rw [updN_n _ _ e]; exact hw j (by omega)
      refine at_iload_n 40 dX12_mix_39 rfl rfl rfl ?_
      refine at_bipush 42 (nI 8) dX12_mix_40 rfl (by decide) ?_
      refine at_icmp_geN 75 45 dX12_mix_42 rfl rfl (by omega) (by omega) (fun cc => ?_) (fun cc => ?_)
      · omega
      refine at_aload_n 46 dX12_mix_45 rfl rfl rfl ?_
      refine at_g 49 dX12_mix_46 rfl fl_X12_28 ⟨_, by assumption, ?_⟩
      refine ⟨_, rfl, ?_⟩
      refine at_iload_n 50 dX12_mix_49 rfl rfl rfl ?_
      refine at_iload_n 51 dX12_mix_50 rfl rfl rfl ?_
      refine at_aload_n 52 dX12_mix_51 rfl rfl rfl ?_
      refine at_g 55 dX12_mix_52 rfl fl_X12_108 ⟨_, by assumption, ?_⟩
      refine ⟨_, rfl, ?_⟩
      refine at_icmp_geN 67 58 dX12_mix_55 rfl rfl (by omega) (by omega) (fun cc => ?_) (fun cc => ?_)
      · refine at_iconst 68 (nI 0) dX12_mix_67 rfl (by decide) ?_
        first | refine at_is 69 dX12_mix_68 rfl ⟨_, _, by assumption, by omega, by first | decide | omega, fun hh13 nn13 => ?_⟩ | refine at_isG 69 dX12_mix_68 rfl ⟨_, _, by assumption, by omega, by first | decide | omega, fun hh13 nn13 => ?_⟩
        replace a0 := nn13.o (by first | decide | omega | assumption) a0
        replace a112 := nn13.o (by first | decide | omega | assumption) a112
        replace a113 := nn13.1
        replace hfr := hfr.nw nn13 (by first | (dsimp only; omega) | (dsimp only; done) | simp)
        clear nn13
        exact nxt 0 _ (k6z i cc (by omega)).symm a0 a113 hfr
      · refine at_aload_n 59 dX12_mix_58 rfl rfl rfl ?_
        refine at_g 62 dX12_mix_59 rfl fl_X12_25 ⟨_, by assumption, ?_⟩
        refine ⟨_, rfl, ?_⟩
        refine at_iload_n 63 dX12_mix_62 rfl rfl rfl ?_
        first | refine at_ia 64 dX12_mix_63 rfl ⟨_, _, by assumption, by omega, by first | decide | omega, ?_⟩ | refine at_iaG 64 dX12_mix_63 rfl ⟨_, _, by assumption, by omega, by first | decide | omega, ?_⟩
        refine at_goto 68 dX12_mix_64 rfl ?_
        first | refine at_is 69 dX12_mix_68 rfl ⟨_, _, by assumption, by omega, by first | decide | omega, fun hh14 nn14 => ?_⟩ | refine at_isG 69 dX12_mix_68 rfl ⟨_, _, by assumption, by omega, by first | decide | omega, fun hh14 nn14 => ?_⟩
        replace a0 := nn14.o (by first | decide | omega | assumption) a0
        replace a112 := nn14.o (by first | decide | omega | assumption) a112
        replace a113 := nn14.1
        replace hfr := hfr.nw nn14 (by first | (dsimp only; omega) | (dsimp only; done) | simp)
        clear nn14
        exact nxt (tc i) _ (e112 i (by omega)) a0 a113 hfr
  have loop : ∀ (d i : Nat), i + d = s 0 0 → At mX12_mix T0 4 [.ref 106, .int (nI (sm tc i)), .int (nI i)] [] h 0 0 (ZM mX12_mix (RM (fMix s) h)) := by
    intro d
    induction d with
    | zero =>
      intro i hi
      have : i = s 0 0 := by omega
      subst this
      refine at_iload_n 5 dX12_mix_4 rfl rfl rfl ?_
      refine at_aload_n 6 dX12_mix_5 rfl rfl rfl ?_
      refine at_g 9 dX12_mix_6 rfl fl_X12_108 ⟨_, by assumption, ?_⟩
      refine ⟨_, rfl, ?_⟩
      refine at_icmp_geN 27 12 dX12_mix_9 rfl rfl (by omega) (by omega) (fun cc => ?_) (fun cc => ?_)
      rotate_left
      · omega
      refine at_iload_n 28 dX12_mix_27 rfl rfl rfl ?_
      refine at_sipush 31 (nI 1000) dX12_mix_28 rfl (by decide) ?_
      refine at_icmp_eqN 37 34 dX12_mix_31 rfl rfl (by omega) (by omega) (fun cc => ?_) (fun cc => ?_)
      · refine at_iconst 38 (nI 0) dX12_mix_37 rfl (by decide) ?_
        refine at_istore_n (L' := [_, _, _]) 39 dX12_mix_38 rfl rfl (by decide) rfl rfl ?_
        exact loop2 (by omega) 8 0 sh h (by omega) m0 f113 (fun j hj => by omega) Fr.rf
      · refine at_ldc 36 (-1000000000) dX12_mix_34 rfl cn_X12_118 ?_
        refine at_iret dX12_mix_36 rfl (by decide) (by decide) ?_
        exact rm_no (by omega) hR
    | succ d ih =>
      intro i hi
      refine at_iload_n 5 dX12_mix_4 rfl rfl rfl ?_
      refine at_aload_n 6 dX12_mix_5 rfl rfl rfl ?_
      refine at_g 9 dX12_mix_6 rfl fl_X12_108 ⟨_, by assumption, ?_⟩
      refine ⟨_, rfl, ?_⟩
      refine at_icmp_geN 27 12 dX12_mix_9 rfl rfl (by omega) (by omega) (fun cc => ?_) (fun cc => ?_)
      · omega
      refine at_iload_n 13 dX12_mix_12 rfl rfl rfl ?_
      refine at_aload_n 14 dX12_mix_13 rfl rfl rfl ?_
      refine at_g 17 dX12_mix_14 rfl fl_X12_25 ⟨_, by assumption, ?_⟩
      refine ⟨_, rfl, ?_⟩
      refine at_iload_n 18 dX12_mix_17 rfl rfl rfl ?_
      first | refine at_ia 19 dX12_mix_18 rfl ⟨_, _, by assumption, by omega, by first | decide | omega, ?_⟩ | refine at_iaG 19 dX12_mix_18 rfl ⟨_, _, by assumption, by omega, by first | decide | omega, ?_⟩
      first | refine at_iaddN 20 dX12_mix_19 rfl ?_ | refine at_iadd 20 dX12_mix_19 rfl ?_
      refine at_istore_n (L' := [_, _, _]) 21 dX12_mix_20 rfl rfl (by decide) rfl rfl ?_
      refine at_iincN (q := 1) (L' := [_, _, _]) 24 dX12_mix_21 rfl (by decide) rfl (by decide) rfl rfl ?_
      refine at_goto 4 dX12_mix_24 rfl ?_
      exact ih (i + 1) (by omega)
  exact loop (s 0 0) 0 (by omega)
theorem m_colour {s : St} {h : List PC} (hI : Inv s) (hR : RepM s h) : Ct mX12_colour [.ref 106] h (RM (fColour s) h) := by
  obtain ⟨m0, mF, mL, mC, mH, mR, mS⟩ := id hR; obtain ⟨⟨i0, i1, i2, i3, i4, i5, i6, i7, i8, i9, i10, i11⟩, k1, k2, k3, k4, k5, k5z, k5s, k6, k6z, k7, k7s, k8s, k8z, k9, k10, k11, k11z, k50, k15, k16⟩ := id hI; obtain ⟨⟨le, f119, e119⟩, ⟨mo, f120, e120⟩, ⟨ch, f121, e121⟩⟩ := id mC
  refine ct_at (L := [_, _]) (by decide +kernel) rfl rfl (Nat.le_of_ble_eq_true rfl) ?_
  refine at_aload_n 1 dX12_colour_0 rfl rfl rfl ?_
  refine at_g 4 dX12_colour_1 rfl fl_X12_115 ⟨_, by assumption, ?_⟩
  refine ⟨_, rfl, ?_⟩
  refine at_bipush 6 (nI 6) dX12_colour_4 rfl (by decide) ?_
  refine at_icmp_neN 12 9 dX12_colour_6 rfl rfl (by omega) (by omega) (fun cc => ?_) (fun cc => ?_)
  rotate_left
  · refine at_ldc 11 (-1000000000) dX12_colour_9 rfl cn_X12_118 ?_
    refine at_iret dX12_colour_11 rfl (by decide) (by decide) ?_
    exact rm_no (by omega) hR
  refine at_iconst 13 (nI 0) dX12_colour_12 rfl (by decide) ?_
  refine at_istore_n (L' := [_, _]) 14 dX12_colour_13 rfl rfl (by decide) rfl rfl ?_
  have loop : ∀ (d i : Nat) (h' : List PC), i + d = 4 → h'[106]? = some (oM s) → h'[119]? = some (aI 24 (shr (4 * s 0 6) i (fun _ => 0) le)) → h'[120]? = some (aI 24 (shr (4 * s 0 6) i (fun _ => 1000) mo)) → Fr (fun j => j = 106 ∨ j = 119 ∨ j = 120) h h' → At mX12_colour T0 14 [.ref 106, .int (nI i)] [] h' 0 0 (ZM mX12_colour (RM (fColour s) h)) := by
    intro d
    induction d with
    | zero =>
      intro i h' hi a0 a1 a2 hfr
      have : i = 4 := by omega
      subst this
      refine at_iload_n 15 dX12_colour_14 rfl rfl rfl ?_
      refine at_iconst 16 (nI 4) dX12_colour_15 rfl (by decide) ?_
      refine at_icmp_geN 55 19 dX12_colour_16 rfl rfl (by omega) (by omega) (fun cc => ?_) (fun cc => ?_)
      rotate_left
      · omega
      refine at_aload_n 56 dX12_colour_55 rfl rfl rfl ?_
      refine at_dup 57 dX12_colour_56 rfl rfl ?_
      refine at_g 60 dX12_colour_57 rfl fl_X12_115 ⟨_, by assumption, ?_⟩
      refine ⟨_, rfl, ?_⟩
      refine at_iconst 61 (nI 1) dX12_colour_60 rfl (by decide) ?_
      first | refine at_iaddN 62 dX12_colour_61 rfl ?_ | refine at_iadd 62 dX12_colour_61 rfl ?_
      refine at_pi 65 dX12_colour_62 rfl pl_X12_115 (rfl) (rfl) ⟨_, by assumption, ?_⟩
      refine ⟨(Nat.le_of_ble_eq_true rfl), [_, _, _, _, _, _, _, _, _, _, _, _, _, _, _, _, _, _, _, _, _, _, _, _, _, _, _, _, _, _, _, _, _, _, _, _, _, _, _, _], rfl, fun hh15 nn15 => ?_⟩
      replace a0 := nn15.1
      replace a1 := nn15.o (by first | decide | omega | assumption) a1
      replace a2 := nn15.o (by first | decide | omega | assumption) a2
      replace hfr := hfr.nw nn15 (by first | (dsimp only; omega) | (dsimp only; done) | simp)
      clear nn15
      refine at_aload_n 66 dX12_colour_65 rfl rfl rfl ?_
      refine at_g 69 dX12_colour_66 rfl fl_X12_115 ⟨_, by assumption, ?_⟩
      refine ⟨_, rfl, ?_⟩
      refine at_iconst 70 (nI 1) dX12_colour_69 rfl (by decide) ?_
      first | refine at_isubN 71 dX12_colour_70 rfl (by omega) ?_ | refine at_isub 71 dX12_colour_70 rfl ?_
      refine at_iret dX12_colour_71 rfl (by decide) (by decide) ?_
      refine rm_yes (by omega) rfl ?_ (hfr.wk (fun j hj => by omega))
      refine ⟨a0, mF.fr hfr (fun j h1 h2 => by omega), mL.fr hfr (fun j h1 h2 => by omega), ⟨⟨_, a1, fun j hj => ?_⟩, ⟨_, a2, fun j hj => ?_⟩, mC.2.2.gt hfr (fun j h1 h2 => by omega)⟩, mH.fr hfr (fun j h1 h2 => by omega), mR.gt hfr (fun j h1 h2 => by omega), mS.fr hfr (fun j h1 => by omega)⟩
      · show shr (4 * s 0 6) 4 (fun _ => 0) le j = shr (4 * s 0 6) 4 (fun _ => 0) (s 9) j
        unfold shr; split
        · rfl
        · exact e119 j hj
      · show shr (4 * s 0 6) 4 (fun _ => 1000) mo j = shr (4 * s 0 6) 4 (fun _ => 1000) (s 10) j
        unfold shr; split
        · rfl
        · exact e120 j hj
    | succ d ih =>
      intro i h' hi a0 a1 a2 hfr
      refine at_iload_n 15 dX12_colour_14 rfl rfl rfl ?_
      refine at_iconst 16 (nI 4) dX12_colour_15 rfl (by decide) ?_
      refine at_icmp_geN 55 19 dX12_colour_16 rfl rfl (by omega) (by omega) (fun cc => ?_) (fun cc => ?_)
      · omega
      refine at_aload_n 20 dX12_colour_19 rfl rfl rfl ?_
      refine at_g 23 dX12_colour_20 rfl fl_X12_59 ⟨_, by assumption, ?_⟩
      refine ⟨_, rfl, ?_⟩
      refine at_iconst 24 (nI 4) dX12_colour_23 rfl (by decide) ?_
      refine at_aload_n 25 dX12_colour_24 rfl rfl rfl ?_
      refine at_g 28 dX12_colour_25 rfl fl_X12_115 ⟨_, by assumption, ?_⟩
      refine ⟨_, rfl, ?_⟩
      first | refine at_imulN 29 dX12_colour_28 rfl ?_ | refine at_imul 29 dX12_colour_28 rfl ?_
      refine at_iload_n 30 dX12_colour_29 rfl rfl rfl ?_
      first | refine at_iaddN 31 dX12_colour_30 rfl ?_ | refine at_iadd 31 dX12_colour_30 rfl ?_
      refine at_iconst 32 (nI 0) dX12_colour_31 rfl (by decide) ?_
      first | refine at_is 33 dX12_colour_32 rfl ⟨_, _, by assumption, by omega, by first | decide | omega, fun hh16 nn16 => ?_⟩ | refine at_isG 33 dX12_colour_32 rfl ⟨_, _, by assumption, by omega, by first | decide | omega, fun hh16 nn16 => ?_⟩
      replace a0 := nn16.o (by first | decide | omega | assumption) a0
      replace a1 := nn16.1
      replace a2 := nn16.o (by first | decide | omega | assumption) a2
      replace hfr := hfr.nw nn16 (by first | (dsimp only; omega) | (dsimp only; done) | simp)
      clear nn16
      refine at_aload_n 34 dX12_colour_33 rfl rfl rfl ?_
      refine at_g 37 dX12_colour_34 rfl fl_X12_62 ⟨_, by assumption, ?_⟩
      refine ⟨_, rfl, ?_⟩
      refine at_iconst 38 (nI 4) dX12_colour_37 rfl (by decide) ?_
      refine at_aload_n 39 dX12_colour_38 rfl rfl rfl ?_
      refine at_g 42 dX12_colour_39 rfl fl_X12_115 ⟨_, by assumption, ?_⟩
      refine ⟨_, rfl, ?_⟩
      first | refine at_imulN 43 dX12_colour_42 rfl ?_ | refine at_imul 43 dX12_colour_42 rfl ?_
      refine at_iload_n 44 dX12_colour_43 rfl rfl rfl ?_
      first | refine at_iaddN 45 dX12_colour_44 rfl ?_ | refine at_iadd 45 dX12_colour_44 rfl ?_
      refine at_sipush 48 (nI 1000) dX12_colour_45 rfl (by decide) ?_
      first | refine at_is 49 dX12_colour_48 rfl ⟨_, _, by assumption, by omega, by first | decide | omega, fun hh17 nn17 => ?_⟩ | refine at_isG 49 dX12_colour_48 rfl ⟨_, _, by assumption, by omega, by first | decide | omega, fun hh17 nn17 => ?_⟩
      replace a0 := nn17.o (by first | decide | omega | assumption) a0
      replace a1 := nn17.o (by first | decide | omega | assumption) a1
      replace a2 := nn17.1
      replace hfr := hfr.nw nn17 (by first | (dsimp only; omega) | (dsimp only; done) | simp)
      clear nn17
      refine at_iincN (q := 1) (L' := [_, _]) 52 dX12_colour_49 rfl (by decide) rfl (by decide) rfl rfl ?_
      refine at_goto 14 dX12_colour_52 rfl ?_
      have e1 := shr_s (4 * s 0 6) i (fun _ => 0) le
      have e2 := shr_s (4 * s 0 6) i (fun _ => 1000) mo
      exact ih (i + 1) _ (by omega) a0 (by rw [← e1]; exact a1) (by rw [← e2]; exact a2) hfr
  exact loop 4 0 h (by omega) m0 (by rw [shr_0]; exact f119) (by rw [shr_0]; exact f120) Fr.rf
theorem m_span {s : St} {h : List PC} (hI : Inv s) (hR : RepM s h) (c t a b : Int32) : Ct mX12_span [.ref 106, .int c, .int t, .int a, .int b] h (RM (fSpan s c t a b) h) := by
  obtain ⟨m0, mF, mL, mC, mH, mR, mS⟩ := id hR; obtain ⟨⟨i0, i1, i2, i3, i4, i5, i6, i7, i8, i9, i10, i11⟩, k1, k2, k3, k4, k5, k5z, k5s, k6, k6z, k7, k7s, k8s, k8z, k9, k10, k11, k11z, k50, k15, k16⟩ := id hI; obtain ⟨⟨le, f119, e119⟩, ⟨mo, f120, e120⟩, ⟨ch, f121, e121⟩⟩ := id mC
  refine ct_at (L := [_, _, _, _, _]) (by decide +kernel) rfl rfl (Nat.le_of_ble_eq_true rfl) ?_
  refine at_aload_n 1 dX12_span_0 rfl rfl rfl ?_
  refine at_iload_n 2 dX12_span_1 rfl rfl rfl ?_
  refine at_invV (ci := 12) 5 [_] _ (c_isColour c m0 (by omega)) dX12_span_2 rfl rfl (by assumption) rfl ml_X12_152 cl_X12_isColour vl_X12_isColour rfl (Nat.le_of_ble_eq_true rfl) ⟨by decide, by decide⟩ (by decide) (fun rr hh qq => ?_)
  obtain ⟨rfl, hq2⟩ := qq; rw [hq2]; clear hq2 hh
  refine at_if_eqB 46 8 dX12_span_5 rfl rfl (fun cc => ?_) (fun cc => ?_)
  · refine at_ldc 48 (-1000000000) dX12_span_46 rfl cn_X12_118 ?_
    refine at_iret dX12_span_48 rfl (by decide) (by decide) ?_
    exact rm_no (fun ⟨c', t', a', b', q1, q2, q3, q4, z1, z2, z3, z4⟩ => has_f cc (by omega) ⟨c', q1, z1⟩) hR
  obtain ⟨c', hc, rfl⟩ := has_t cc (by omega)
  clear cc
  refine at_iload_n 9 dX12_span_8 rfl rfl rfl ?_
  refine at_iconst 10 (nI 0) dX12_span_9 rfl (by decide) ?_
  refine at_iconst 11 (nI 3) dX12_span_10 rfl (by decide) ?_
  refine at_invS 14 [_, _, _] _ (c_in t (nI 0) (nI 3)) dX12_span_11 rfl rfl ml_X12_111 cl_X12_in sv_X12_in rfl (Nat.le_of_ble_eq_true rfl) ⟨by decide, by decide⟩ (by decide) (fun rr hh qq => ?_)
  obtain ⟨rfl, hq2⟩ := qq; rw [hq2]; clear hq2 hh
  refine at_if_eqB 46 17 dX12_span_14 rfl rfl (fun cc => ?_) (fun cc => ?_)
  · refine at_ldc 48 (-1000000000) dX12_span_46 rfl cn_X12_118 ?_
    refine at_iret dX12_span_48 rfl (by decide) (by decide) ?_
    exact rm_no (fun ⟨c', t', a', b', q1, q2, q3, q4, z1, z2, z3, z4⟩ => wi_no cc (by omega) z2 (by omega) (by omega)) hR
  obtain ⟨t', -, ht, rfl⟩ := wi_t cc (by omega) (by omega)
  clear cc
  refine at_iload_n 18 dX12_span_17 rfl rfl rfl ?_
  refine at_iconst 19 (nI 0) dX12_span_18 rfl (by decide) ?_
  refine at_sipush 22 (nI 1000) dX12_span_19 rfl (by decide) ?_
  refine at_invS 25 [_, _, _] _ (c_in a (nI 0) (nI 1000)) dX12_span_22 rfl rfl ml_X12_111 cl_X12_in sv_X12_in rfl (Nat.le_of_ble_eq_true rfl) ⟨by decide, by decide⟩ (by decide) (fun rr hh qq => ?_)
  obtain ⟨rfl, hq2⟩ := qq; rw [hq2]; clear hq2 hh
  refine at_if_eqB 46 28 dX12_span_25 rfl rfl (fun cc => ?_) (fun cc => ?_)
  · refine at_ldc 48 (-1000000000) dX12_span_46 rfl cn_X12_118 ?_
    refine at_iret dX12_span_48 rfl (by decide) (by decide) ?_
    exact rm_no (fun ⟨c', t', a', b', q1, q2, q3, q4, z1, z2, z3, z4⟩ => wi_no cc (by omega) z3 (by omega) (by omega)) hR
  obtain ⟨a', -, ha, rfl⟩ := wi_t cc (by omega) (by omega)
  clear cc
  refine at_iload 30 dX12_span_28 rfl rfl ?_
  refine at_iconst 31 (nI 0) dX12_span_30 rfl (by decide) ?_
  refine at_sipush 34 (nI 1000) dX12_span_31 rfl (by decide) ?_
  refine at_invS 37 [_, _, _] _ (c_in b (nI 0) (nI 1000)) dX12_span_34 rfl rfl ml_X12_111 cl_X12_in sv_X12_in rfl (Nat.le_of_ble_eq_true rfl) ⟨by decide, by decide⟩ (by decide) (fun rr hh qq => ?_)
  obtain ⟨rfl, hq2⟩ := qq; rw [hq2]; clear hq2 hh
  refine at_if_eqB 46 40 dX12_span_37 rfl rfl (fun cc => ?_) (fun cc => ?_)
  · refine at_ldc 48 (-1000000000) dX12_span_46 rfl cn_X12_118 ?_
    refine at_iret dX12_span_48 rfl (by decide) (by decide) ?_
    exact rm_no (fun ⟨c', t', a', b', q1, q2, q3, q4, z1, z2, z3, z4⟩ => wi_no cc (by omega) z4 (by omega) (by omega)) hR
  obtain ⟨b', -, hb, rfl⟩ := wi_t cc (by omega) (by omega)
  clear cc
  refine at_iload_n 41 dX12_span_40 rfl rfl rfl ?_
  refine at_iload 43 dX12_span_41 rfl rfl ?_
  refine at_icmp_leN 49 46 dX12_span_43 rfl rfl (by omega) (by omega) (fun cc => ?_) (fun cc => ?_)
  rotate_left
  · refine at_ldc 48 (-1000000000) dX12_span_46 rfl cn_X12_118 ?_
    refine at_iret dX12_span_48 rfl (by decide) (by decide) ?_
    exact rm_no (fun ⟨c2, t2, a2, b2, q1, q2, q3, q4, z1, z2, z3, z4⟩ => by
      have e1 := nI_inj z3 (by omega) (by omega)
      have e2 := nI_inj z4 (by omega) (by omega)
      omega) hR
  have hfr : Fr (fun j => j = 119 ∨ j = 120) h h := Fr.rf
  refine at_aload_n 50 dX12_span_49 rfl rfl rfl ?_
  refine at_g 53 dX12_span_50 rfl fl_X12_59 ⟨_, by assumption, ?_⟩
  refine ⟨_, rfl, ?_⟩
  refine at_iconst 54 (nI 4) dX12_span_53 rfl (by decide) ?_
  refine at_iload_n 55 dX12_span_54 rfl rfl rfl ?_
  first | refine at_imulN 56 dX12_span_55 rfl ?_ | refine at_imul 56 dX12_span_55 rfl ?_
  refine at_iload_n 57 dX12_span_56 rfl rfl rfl ?_
  first | refine at_iaddN 58 dX12_span_57 rfl ?_ | refine at_iadd 58 dX12_span_57 rfl ?_
  refine at_iload_n 59 dX12_span_58 rfl rfl rfl ?_
  first | refine at_is 60 dX12_span_59 rfl ⟨_, _, by assumption, by omega, by first | decide | omega, fun hh18 nn18 => ?_⟩ | refine at_isG 60 dX12_span_59 rfl ⟨_, _, by assumption, by omega, by first | decide | omega, fun hh18 nn18 => ?_⟩
  replace m0 := nn18.o (by first | decide | omega | assumption) m0
  replace f119 := nn18.1
  replace f120 := nn18.o (by first | decide | omega | assumption) f120
  replace hfr := hfr.nw nn18 (by first | (dsimp only; omega) | (dsimp only; done) | simp)
  clear nn18
  refine at_aload_n 61 dX12_span_60 rfl rfl rfl ?_
  refine at_g 64 dX12_span_61 rfl fl_X12_62 ⟨_, by assumption, ?_⟩
  refine ⟨_, rfl, ?_⟩
  refine at_iconst 65 (nI 4) dX12_span_64 rfl (by decide) ?_
  refine at_iload_n 66 dX12_span_65 rfl rfl rfl ?_
  first | refine at_imulN 67 dX12_span_66 rfl ?_ | refine at_imul 67 dX12_span_66 rfl ?_
  refine at_iload_n 68 dX12_span_67 rfl rfl rfl ?_
  first | refine at_iaddN 69 dX12_span_68 rfl ?_ | refine at_iadd 69 dX12_span_68 rfl ?_
  refine at_iload 71 dX12_span_69 rfl rfl ?_
  first | refine at_is 72 dX12_span_71 rfl ⟨_, _, by assumption, by omega, by first | decide | omega, fun hh19 nn19 => ?_⟩ | refine at_isG 72 dX12_span_71 rfl ⟨_, _, by assumption, by omega, by first | decide | omega, fun hh19 nn19 => ?_⟩
  replace m0 := nn19.o (by first | decide | omega | assumption) m0
  replace f119 := nn19.o (by first | decide | omega | assumption) f119
  replace f120 := nn19.1
  replace hfr := hfr.nw nn19 (by first | (dsimp only; omega) | (dsimp only; done) | simp)
  clear nn19
  refine at_iconst 73 (nI 1) dX12_span_72 rfl (by decide) ?_
  refine at_iret dX12_span_73 rfl (by decide) (by decide) ?_
  refine rm_yes ⟨c', t', a', b', hc, by omega, cc, hb, rfl, rfl, rfl, rfl⟩ rfl ?_ (hfr.wk (fun j hj => by omega))
  rw [tn_nI (by omega), tn_nI (by omega), tn_nI (by omega), tn_nI (by omega)]
  refine ⟨m0, mF.fr hfr (fun j h1 h2 => by omega), mL.fr hfr (fun j h1 h2 => by omega), ⟨Ar.up f119 e119 rfl, Ar.up f120 e120 rfl, mC.2.2.gt hfr (fun j h1 h2 => by omega)⟩, mH.fr hfr (fun j h1 h2 => by omega), mR.gt hfr (fun j h1 h2 => by omega), mS.fr hfr (fun j h1 => by omega)⟩
theorem m_want {s : St} {h : List PC} (hI : Inv s) (hR : RepM s h) (c : Int32) : Ct mX12_want [.ref 106, .int c] h (RM (fWant s c) h) := by
  obtain ⟨m0, mF, mL, mC, mH, mR, mS⟩ := id hR; obtain ⟨⟨i0, i1, i2, i3, i4, i5, i6, i7, i8, i9, i10, i11⟩, k1, k2, k3, k4, k5, k5z, k5s, k6, k6z, k7, k7s, k8s, k8z, k9, k10, k11, k11z, k50, k15, k16⟩ := id hI
  have fin : ∀ k, k ≤ s 0 6 → c = nI k - 1 → At mX12_want T0 16 [.ref 106, .int c, .null] [] h 0 0 (ZM mX12_want (RM (fWant s c) h)) := by
    intro k hk hc
    have hfr : Fr (fun j => j = 106) h h := Fr.rf
    refine at_aload_n 17 dX12_want_16 rfl rfl rfl ?_
    refine at_g 20 dX12_want_17 rfl fl_X12_41 ⟨_, by assumption, ?_⟩
    refine ⟨_, rfl, ?_⟩
    refine at_istore_n (L' := [_, _, _]) 21 dX12_want_20 rfl rfl (by decide) rfl rfl ?_
    refine at_aload_n 22 dX12_want_21 rfl rfl rfl ?_
    refine at_iload_n 23 dX12_want_22 rfl rfl rfl ?_
    refine at_pi 26 dX12_want_23 rfl pl_X12_41 (rfl) (rfl) ⟨_, by assumption, ?_⟩
    refine ⟨(Nat.le_of_ble_eq_true rfl), [_, _, _, _, _, _, _, _, _, _, _, _, _, _, _, _, _, _, _, _, _, _, _, _, _, _, _, _, _, _, _, _, _, _, _, _, _, _, _, _], rfl, fun hh20 nn20 => ?_⟩
    replace m0 := nn20.1
    replace hfr := hfr.nw nn20 (by first | (dsimp only; omega) | (dsimp only; done) | simp)
    clear nn20
    refine at_iload_n 27 dX12_want_26 rfl rfl rfl ?_
    refine at_iret dX12_want_27 rfl (by decide) (by decide) ?_
    refine rm_yes ⟨k, hk, hc⟩ rfl ?_ (hfr.wk (fun j hj => by omega))
    rw [hc, tn_nI1 (by omega)]
    rw [hc] at m0
    refine ⟨m0, mF.fr hfr (fun j h1 h2 => by omega), mL.fr hfr (fun j h1 h2 => by omega), mC.fr hfr (fun j h1 h2 => by omega), mH.fr hfr (fun j h1 h2 => by omega), mR.gt hfr (fun j h1 h2 => by omega), mS.fr hfr (fun j h1 => by omega)⟩
  refine ct_at (L := [_, _, _]) (by decide +kernel) rfl rfl (Nat.le_of_ble_eq_true rfl) ?_
  refine at_iload_n 1 dX12_want_0 rfl rfl rfl ?_
  refine at_iconst 2 (-1) dX12_want_1 rfl (by decide) ?_
  refine at_icmp_eq 16 5 dX12_want_2 rfl rfl (fun cc => ?_) (fun cc => ?_)
  · exact fin 0 (by omega) (by rw [cc]; decide)
  have c1 := cc
  refine at_aload_n 6 dX12_want_5 rfl rfl rfl ?_
  refine at_iload_n 7 dX12_want_6 rfl rfl rfl ?_
  refine at_invV (ci := 12) 10 [_] _ (c_isColour c m0 (by omega)) dX12_want_7 rfl rfl (by assumption) rfl ml_X12_152 cl_X12_isColour vl_X12_isColour rfl (Nat.le_of_ble_eq_true rfl) ⟨by decide, by decide⟩ (by decide) (fun rr hh qq => ?_)
  obtain ⟨rfl, hq2⟩ := qq; rw [hq2]; clear hq2 hh
  refine at_if_neB 16 13 dX12_want_10 rfl rfl (fun cc => ?_) (fun cc => ?_)
  · obtain ⟨k, hk, rfl⟩ := has_t cc (by omega)
    exact fin (k + 1) (by omega) (by rw [nI_pred])
  · refine at_ldc 15 (-1000000000) dX12_want_13 rfl cn_X12_118 ?_
    refine at_iret dX12_want_15 rfl (by decide) (by decide) ?_
    refine rm_no (fun ⟨k, q1, q2⟩ => ?_) hR
    rcases Nat.eq_zero_or_pos k with q | q
    · subst q; exact c1 (by rw [q2]; decide)
    · obtain ⟨j, rfl⟩ : ∃ j, k = j + 1 := ⟨k - 1, by omega⟩
      rw [nI_pred] at q2
      exact has_f cc (by omega) ⟨j, by omega, q2⟩
theorem m_glass {s : St} {h : List PC} (hI : Inv s) (hR : RepM s h) (a w : Int32) : Ct mX12_glass [.ref 106, .int a, .int w] h (RM (fGlass s a w) h) := by
  obtain ⟨m0, mF, mL, mC, mH, mR, mS⟩ := id hR; obtain ⟨⟨i0, i1, i2, i3, i4, i5, i6, i7, i8, i9, i10, i11⟩, k1, k2, k3, k4, k5, k5z, k5s, k6, k6z, k7, k7s, k8s, k8z, k9, k10, k11, k11z, k50, k15, k16⟩ := id hI; obtain ⟨⟨th, f122, e122⟩, ⟨ld, f123, e123⟩, ⟨gr, f126, e126⟩, ⟨nm, f124, e124⟩, ⟨ws, f125, e125⟩⟩ := id mH
  refine ct_at (L := [_, _, _]) (by decide +kernel) rfl rfl (Nat.le_of_ble_eq_true rfl) ?_
  refine at_aload_n 1 dX12_glass_0 rfl rfl rfl ?_
  refine at_iload_n 2 dX12_glass_1 rfl rfl rfl ?_
  refine at_invV (ci := 12) 5 [_] _ (c_isHour a m0 (by omega)) dX12_glass_2 rfl rfl (by assumption) rfl ml_X12_183 cl_X12_isHour vl_X12_isHour rfl (Nat.le_of_ble_eq_true rfl) ⟨by decide, by decide⟩ (by decide) (fun rr hh qq => ?_)
  obtain ⟨rfl, hq2⟩ := qq; rw [hq2]; clear hq2 hh
  refine at_if_eqB 18 8 dX12_glass_5 rfl rfl (fun cc => ?_) (fun cc => ?_)
  · refine at_ldc 20 (-1000000000) dX12_glass_18 rfl cn_X12_118 ?_
    refine at_iret dX12_glass_20 rfl (by decide) (by decide) ?_
    exact rm_no (fun ⟨i, j, q1, q2, _⟩ => has_f cc (by omega) ⟨i, q1, q2⟩) hR
  obtain ⟨i, hi, rfl⟩ := has_t cc (by omega)
  clear cc
  refine at_iload_n 9 dX12_glass_8 rfl rfl rfl ?_
  refine at_iconst 10 (nI 0) dX12_glass_9 rfl (by decide) ?_
  refine at_bipush 12 (nI 6) dX12_glass_10 rfl (by decide) ?_
  refine at_invS 15 [_, _, _] _ (c_in w (nI 0) (nI 6)) dX12_glass_12 rfl rfl ml_X12_111 cl_X12_in sv_X12_in rfl (Nat.le_of_ble_eq_true rfl) ⟨by decide, by decide⟩ (by decide) (fun rr hh qq => ?_)
  obtain ⟨rfl, hq2⟩ := qq; rw [hq2]; clear hq2 hh
  refine at_if_neB 21 18 dX12_glass_15 rfl rfl (fun cc => ?_) (fun cc => ?_)
  rotate_left
  · refine at_ldc 20 (-1000000000) dX12_glass_18 rfl cn_X12_118 ?_
    refine at_iret dX12_glass_20 rfl (by decide) (by decide) ?_
    exact rm_no (fun ⟨i, j, q1, q2, q3, q4⟩ => wi_no cc (by omega) q4 (by omega) (by omega)) hR
  obtain ⟨j, -, hj, rfl⟩ := wi_t cc (by omega) (by omega)
  clear cc
  have fin : ∀ v, v = glV s i j → RM (fGlass s (nI i) (nI j)) h (some (.int v)) h := fun v hv => rm_yes ⟨i, j, hi, rfl, by omega, rfl⟩ (by rw [tn_nI (by omega), tn_nI (by omega), hv]) hR Fr.rf
  refine at_iload_n 22 dX12_glass_21 rfl rfl rfl ?_
  refine at_iconst 23 (nI 4) dX12_glass_22 rfl (by decide) ?_
  refine at_icmp_geN 39 26 dX12_glass_23 rfl rfl (by omega) (by omega) (fun cc => ?_) (fun cc => ?_)
  rotate_left
  · refine at_aload_n 27 dX12_glass_26 rfl rfl rfl ?_
    refine at_g 30 dX12_glass_27 rfl fl_X12_68 ⟨_, by assumption, ?_⟩
    refine ⟨_, rfl, ?_⟩
    refine at_iconst 31 (nI 4) dX12_glass_30 rfl (by decide) ?_
    refine at_iload_n 32 dX12_glass_31 rfl rfl rfl ?_
    first | refine at_imulN 33 dX12_glass_32 rfl ?_ | refine at_imul 33 dX12_glass_32 rfl ?_
    refine at_iload_n 34 dX12_glass_33 rfl rfl rfl ?_
    first | refine at_iaddN 35 dX12_glass_34 rfl ?_ | refine at_iadd 35 dX12_glass_34 rfl ?_
    first | refine at_ia 36 dX12_glass_35 rfl ⟨_, _, by assumption, by omega, by first | decide | omega, ?_⟩ | refine at_iaG 36 dX12_glass_35 rfl ⟨_, _, by assumption, by omega, by first | decide | omega, ?_⟩
    refine at_goto 73 dX12_glass_36 rfl ?_
    refine at_iret dX12_glass_73 rfl (by decide) (by decide) ?_
    exact fin _ (by unfold glV; rw [if_pos cc, e122 _ (by omega)])
  have c1 := cc
  refine at_iload_n 40 dX12_glass_39 rfl rfl rfl ?_
  refine at_iconst 41 (nI 4) dX12_glass_40 rfl (by decide) ?_
  refine at_icmp_neN 53 44 dX12_glass_41 rfl rfl (by omega) (by omega) (fun cc => ?_) (fun cc => ?_)
  rotate_left
  · refine at_aload_n 45 dX12_glass_44 rfl rfl rfl ?_
    refine at_g 48 dX12_glass_45 rfl fl_X12_74 ⟨_, by assumption, ?_⟩
    refine ⟨_, rfl, ?_⟩
    refine at_iload_n 49 dX12_glass_48 rfl rfl rfl ?_
    first | refine at_ia 50 dX12_glass_49 rfl ⟨_, _, by assumption, by omega, by first | decide | omega, ?_⟩ | refine at_iaG 50 dX12_glass_49 rfl ⟨_, _, by assumption, by omega, by first | decide | omega, ?_⟩
    refine at_goto 73 dX12_glass_50 rfl ?_
    refine at_iret dX12_glass_73 rfl (by decide) (by decide) ?_
    exact fin _ (by unfold glV; rw [if_neg (by omega), if_pos cc]; exact e124 i (by omega))
  have c2 := cc
  refine at_iload_n 54 dX12_glass_53 rfl rfl rfl ?_
  refine at_iconst 55 (nI 5) dX12_glass_54 rfl (by decide) ?_
  refine at_icmp_neN 67 58 dX12_glass_55 rfl rfl (by omega) (by omega) (fun cc => ?_) (fun cc => ?_)
  rotate_left
  · refine at_aload_n 59 dX12_glass_58 rfl rfl rfl ?_
    refine at_g 62 dX12_glass_59 rfl fl_X12_77 ⟨_, by assumption, ?_⟩
    refine ⟨_, rfl, ?_⟩
    refine at_iload_n 63 dX12_glass_62 rfl rfl rfl ?_
    first | refine at_ia 64 dX12_glass_63 rfl ⟨_, _, by assumption, by omega, by first | decide | omega, ?_⟩ | refine at_iaG 64 dX12_glass_63 rfl ⟨_, _, by assumption, by omega, by first | decide | omega, ?_⟩
    refine at_goto 73 dX12_glass_64 rfl ?_
    refine at_iret dX12_glass_73 rfl (by decide) (by decide) ?_
    exact fin _ (by unfold glV; rw [if_neg (by omega), if_neg c2, if_pos cc, e125 i (by omega)])
  have c3 := cc
  refine at_aload_n 68 dX12_glass_67 rfl rfl rfl ?_
  refine at_g 71 dX12_glass_68 rfl fl_X12_80 ⟨_, by assumption, ?_⟩
  refine ⟨_, rfl, ?_⟩
  refine at_iload_n 72 dX12_glass_71 rfl rfl rfl ?_
  first | refine at_ia 73 dX12_glass_72 rfl ⟨_, _, by assumption, by omega, by first | decide | omega, ?_⟩ | refine at_iaG 73 dX12_glass_72 rfl ⟨_, _, by assumption, by omega, by first | decide | omega, ?_⟩
  refine at_iret dX12_glass_73 rfl (by decide) (by decide) ?_
  exact fin _ (by unfold glV; rw [if_neg (by omega), if_neg c2, if_neg c3, e126 i (by omega)])
theorem m_lead {s : St} {h : List PC} (hI : Inv s) (hR : RepM s h) (a f : Int32) : Ct mX12_lead [.ref 106, .int a, .int f] h (RM (fLead s a f) h) := by
  obtain ⟨m0, mF, mL, mC, mH, mR, mS⟩ := id hR; obtain ⟨⟨i0, i1, i2, i3, i4, i5, i6, i7, i8, i9, i10, i11⟩, k1, k2, k3, k4, k5, k5z, k5s, k6, k6z, k7, k7s, k8s, k8z, k9, k10, k11, k11z, k50, k15, k16⟩ := id hI; obtain ⟨⟨th, f122, e122⟩, ⟨ld, f123, e123⟩, ⟨gr, f126, e126⟩, ⟨nm, f124, e124⟩, ⟨ws, f125, e125⟩⟩ := id mH
  refine ct_at (L := [_, _, _]) (by decide +kernel) rfl rfl (Nat.le_of_ble_eq_true rfl) ?_
  refine at_aload_n 1 dX12_lead_0 rfl rfl rfl ?_
  refine at_iload_n 2 dX12_lead_1 rfl rfl rfl ?_
  refine at_invV (ci := 12) 5 [_] _ (c_isHour a m0 (by omega)) dX12_lead_2 rfl rfl (by assumption) rfl ml_X12_183 cl_X12_isHour vl_X12_isHour rfl (Nat.le_of_ble_eq_true rfl) ⟨by decide, by decide⟩ (by decide) (fun rr hh qq => ?_)
  obtain ⟨rfl, hq2⟩ := qq; rw [hq2]; clear hq2 hh
  refine at_if_eqB 30 8 dX12_lead_5 rfl rfl (fun cc => ?_) (fun cc => ?_)
  · refine at_ldc 32 (-1000000000) dX12_lead_30 rfl cn_X12_118 ?_
    refine at_iret dX12_lead_32 rfl (by decide) (by decide) ?_
    exact rm_no (fun ⟨i, j, q1, q2, _⟩ => has_f cc (by omega) ⟨i, q1, q2⟩) hR
  obtain ⟨i, hi, rfl⟩ := has_t cc (by omega)
  clear cc
  refine at_aload_n 9 dX12_lead_8 rfl rfl rfl ?_
  refine at_iload_n 10 dX12_lead_9 rfl rfl rfl ?_
  refine at_invV (ci := 12) 13 [_] _ (c_isFeed f m0 (by omega)) dX12_lead_10 rfl rfl (by assumption) rfl ml_X12_119 cl_X12_isFeed vl_X12_isFeed rfl (Nat.le_of_ble_eq_true rfl) ⟨by decide, by decide⟩ (by decide) (fun rr hh qq => ?_)
  obtain ⟨rfl, hq2⟩ := qq; rw [hq2]; clear hq2 hh
  refine at_if_eqB 30 16 dX12_lead_13 rfl rfl (fun cc => ?_) (fun cc => ?_)
  · refine at_ldc 32 (-1000000000) dX12_lead_30 rfl cn_X12_118 ?_
    refine at_iret dX12_lead_32 rfl (by decide) (by decide) ?_
    exact rm_no (fun ⟨i, j, q1, q2, q3, q4⟩ => has_f cc (by omega) ⟨j, q3, q4⟩) hR
  obtain ⟨j, hj, rfl⟩ := has_t cc (by omega)
  clear cc
  refine at_aload_n 17 dX12_lead_16 rfl rfl rfl ?_
  refine at_g 20 dX12_lead_17 rfl fl_X12_71 ⟨_, by assumption, ?_⟩
  refine ⟨_, rfl, ?_⟩
  refine at_bipush 22 (nI 8) dX12_lead_20 rfl (by decide) ?_
  refine at_iload_n 23 dX12_lead_22 rfl rfl rfl ?_
  first | refine at_imulN 24 dX12_lead_23 rfl ?_ | refine at_imul 24 dX12_lead_23 rfl ?_
  refine at_iload_n 25 dX12_lead_24 rfl rfl rfl ?_
  first | refine at_iaddN 26 dX12_lead_25 rfl ?_ | refine at_iadd 26 dX12_lead_25 rfl ?_
  first | refine at_ia 27 dX12_lead_26 rfl ⟨_, _, by assumption, by omega, by first | decide | omega, ?_⟩ | refine at_iaG 27 dX12_lead_26 rfl ⟨_, _, by assumption, by omega, by first | decide | omega, ?_⟩
  refine at_goto 32 dX12_lead_27 rfl ?_
  refine at_iret dX12_lead_32 rfl (by decide) (by decide) ?_
  exact rm_yes ⟨i, j, hi, rfl, hj, rfl⟩ (by rw [tn_nI (by omega), tn_nI (by omega), e123 _ (by omega)]) hR Fr.rf
theorem m_change {s : St} {h : List PC} (hI : Inv s) (hR : RepM s h) (a b n : Int32) : Ct mX12_change [.ref 106, .int a, .int b, .int n] h (RM (fChange s a b n) h) := by
  obtain ⟨m0, mF, mL, mC, mH, mR, mS⟩ := id hR; obtain ⟨⟨i0, i1, i2, i3, i4, i5, i6, i7, i8, i9, i10, i11⟩, k1, k2, k3, k4, k5, k5z, k5s, k6, k6z, k7, k7s, k8s, k8z, k9, k10, k11, k11z, k50, k15, k16⟩ := id hI; obtain ⟨⟨le, f119, e119⟩, ⟨mo, f120, e120⟩, ⟨ch, f121, e121⟩⟩ := id mC
  refine ct_at (L := [_, _, _, _, _]) (by decide +kernel) rfl rfl (Nat.le_of_ble_eq_true rfl) ?_
  refine at_aload_n 1 dX12_change_0 rfl rfl rfl ?_
  refine at_iload_n 2 dX12_change_1 rfl rfl rfl ?_
  refine at_invV (ci := 12) 5 [_] _ (c_isColour a m0 (by omega)) dX12_change_2 rfl rfl (by assumption) rfl ml_X12_152 cl_X12_isColour vl_X12_isColour rfl (Nat.le_of_ble_eq_true rfl) ⟨by decide, by decide⟩ (by decide) (fun rr hh qq => ?_)
  obtain ⟨rfl, hq2⟩ := qq; rw [hq2]; clear hq2 hh
  refine at_if_eqB 32 8 dX12_change_5 rfl rfl (fun cc => ?_) (fun cc => ?_)
  · refine at_ldc 34 (-1000000000) dX12_change_32 rfl cn_X12_118 ?_
    refine at_iret dX12_change_34 rfl (by decide) (by decide) ?_
    exact rm_no (fun ⟨a', b', v, q1, q2, q3, q4, z1, z2, z3⟩ => has_f cc (by omega) ⟨a', q1, z1⟩) hR
  obtain ⟨a', ha, rfl⟩ := has_t cc (by omega)
  clear cc
  refine at_aload_n 9 dX12_change_8 rfl rfl rfl ?_
  refine at_iload_n 10 dX12_change_9 rfl rfl rfl ?_
  refine at_invV (ci := 12) 13 [_] _ (c_isColour b m0 (by omega)) dX12_change_10 rfl rfl (by assumption) rfl ml_X12_152 cl_X12_isColour vl_X12_isColour rfl (Nat.le_of_ble_eq_true rfl) ⟨by decide, by decide⟩ (by decide) (fun rr hh qq => ?_)
  obtain ⟨rfl, hq2⟩ := qq; rw [hq2]; clear hq2 hh
  refine at_if_eqB 32 16 dX12_change_13 rfl rfl (fun cc => ?_) (fun cc => ?_)
  · refine at_ldc 34 (-1000000000) dX12_change_32 rfl cn_X12_118 ?_
    refine at_iret dX12_change_34 rfl (by decide) (by decide) ?_
    exact rm_no (fun ⟨a', b', v, q1, q2, q3, q4, z1, z2, z3⟩ => has_f cc (by omega) ⟨b', q2, z2⟩) hR
  obtain ⟨b', hb, rfl⟩ := has_t cc (by omega)
  clear cc
  refine at_iload_n 17 dX12_change_16 rfl rfl rfl ?_
  refine at_iload_n 18 dX12_change_17 rfl rfl rfl ?_
  refine at_icmp_eqN 32 21 dX12_change_18 rfl rfl (by omega) (by omega) (fun cc => ?_) (fun cc => ?_)
  · refine at_ldc 34 (-1000000000) dX12_change_32 rfl cn_X12_118 ?_
    refine at_iret dX12_change_34 rfl (by decide) (by decide) ?_
    exact rm_no (fun ⟨a2, b2, v, q1, q2, q3, q4, z1, z2, z3⟩ => by
      have e1 := nI_inj z1 (by omega) (by omega)
      have e2 := nI_inj z2 (by omega) (by omega)
      omega) hR
  have hab := cc
  clear cc
  refine at_iload_n 22 dX12_change_21 rfl rfl rfl ?_
  refine at_iconst 23 (nI 0) dX12_change_22 rfl (by decide) ?_
  refine at_sipush 26 (nI 1000) dX12_change_23 rfl (by decide) ?_
  refine at_invS 29 [_, _, _] _ (c_in n (nI 0) (nI 1000)) dX12_change_26 rfl rfl ml_X12_111 cl_X12_in sv_X12_in rfl (Nat.le_of_ble_eq_true rfl) ⟨by decide, by decide⟩ (by decide) (fun rr hh qq => ?_)
  obtain ⟨rfl, hq2⟩ := qq; rw [hq2]; clear hq2 hh
  refine at_if_neB 35 32 dX12_change_29 rfl rfl (fun cc => ?_) (fun cc => ?_)
  rotate_left
  · refine at_ldc 34 (-1000000000) dX12_change_32 rfl cn_X12_118 ?_
    refine at_iret dX12_change_34 rfl (by decide) (by decide) ?_
    exact rm_no (fun ⟨a', b', v, q1, q2, q3, q4, z1, z2, z3⟩ => wi_no cc (by omega) z3 (by omega) q4) hR
  obtain ⟨v, -, hv, rfl⟩ := wi_t cc (by omega) (by omega)
  clear cc
  have hfr : Fr (fun j => j = 121) h h := Fr.rf
  refine at_aload_n 36 dX12_change_35 rfl rfl rfl ?_
  refine at_g 39 dX12_change_36 rfl fl_X12_65 ⟨_, by assumption, ?_⟩
  refine ⟨_, rfl, ?_⟩
  refine at_bipush 41 (nI 6) dX12_change_39 rfl (by decide) ?_
  refine at_iload_n 42 dX12_change_41 rfl rfl rfl ?_
  first | refine at_imulN 43 dX12_change_42 rfl ?_ | refine at_imul 43 dX12_change_42 rfl ?_
  refine at_iload_n 44 dX12_change_43 rfl rfl rfl ?_
  first | refine at_iaddN 45 dX12_change_44 rfl ?_ | refine at_iadd 45 dX12_change_44 rfl ?_
  first | refine at_ia 46 dX12_change_45 rfl ⟨_, _, by assumption, by omega, by first | decide | omega, ?_⟩ | refine at_iaG 46 dX12_change_45 rfl ⟨_, _, by assumption, by omega, by first | decide | omega, ?_⟩
  refine at_istore (L' := [_, _, _, _, _]) 48 dX12_change_46 rfl (by decide) rfl rfl ?_
  refine at_aload_n 49 dX12_change_48 rfl rfl rfl ?_
  refine at_g 52 dX12_change_49 rfl fl_X12_65 ⟨_, by assumption, ?_⟩
  refine ⟨_, rfl, ?_⟩
  refine at_bipush 54 (nI 6) dX12_change_52 rfl (by decide) ?_
  refine at_iload_n 55 dX12_change_54 rfl rfl rfl ?_
  first | refine at_imulN 56 dX12_change_55 rfl ?_ | refine at_imul 56 dX12_change_55 rfl ?_
  refine at_iload_n 57 dX12_change_56 rfl rfl rfl ?_
  first | refine at_iaddN 58 dX12_change_57 rfl ?_ | refine at_iadd 58 dX12_change_57 rfl ?_
  refine at_iload_n 59 dX12_change_58 rfl rfl rfl ?_
  first | refine at_is 60 dX12_change_59 rfl ⟨_, _, by assumption, by omega, by first | decide | omega, fun hh21 nn21 => ?_⟩ | refine at_isG 60 dX12_change_59 rfl ⟨_, _, by assumption, by omega, by first | decide | omega, fun hh21 nn21 => ?_⟩
  replace m0 := nn21.o (by first | decide | omega | assumption) m0
  replace f121 := nn21.1
  replace hfr := hfr.nw nn21 (by first | (dsimp only; omega) | (dsimp only; done) | simp)
  clear nn21
  refine at_iload 62 dX12_change_60 rfl rfl ?_
  refine at_iret dX12_change_62 rfl (by decide) (by decide) ?_
  refine rm_yes ⟨a', b', v, ha, hb, hab, hv, rfl, rfl, rfl⟩ (by rw [tn_nI (by omega), tn_nI (by omega), e121 _ (by omega)]) ?_ (hfr.wk (fun j hj => by omega))
  rw [tn_nI (by omega), tn_nI (by omega), tn_nI (by omega)]
  refine ⟨m0, mF.fr hfr (fun j h1 h2 => by omega), mL.fr hfr (fun j h1 h2 => by omega), ⟨mC.1.gt hfr (fun j h1 h2 => by omega), mC.2.1.gt hfr (fun j h1 h2 => by omega), Ar.up f121 e121 rfl⟩, mH.fr hfr (fun j h1 h2 => by omega), mR.gt hfr (fun j h1 h2 => by omega), mS.fr hfr (fun j h1 => by omega)⟩
theorem m_next {s : St} {h : List PC} (hI : Inv s) (hR : RepM s h) (k : Int32) : Ct mX12_next [.ref 106, .int k] h (RM (fNext s k) h) := by
  obtain ⟨m0, mF, mL, mC, mH, mR, mS⟩ := id hR; obtain ⟨⟨i0, i1, i2, i3, i4, i5, i6, i7, i8, i9, i10, i11⟩, k1, k2, k3, k4, k5, k5z, k5s, k6, k6z, k7, k7s, k8s, k8z, k9, k10, k11, k11z, k50, k15, k16⟩ := id hI; obtain ⟨rg, f134, e134⟩ := id mR
  refine ct_at (L := [_, _]) (by decide +kernel) rfl rfl (Nat.le_of_ble_eq_true rfl) ?_
  refine at_iload_n 1 dX12_next_0 rfl rfl rfl ?_
  refine at_iconst 2 (nI 0) dX12_next_1 rfl (by decide) ?_
  refine at_aload_n 3 dX12_next_2 rfl rfl rfl ?_
  refine at_g 6 dX12_next_3 rfl fl_X12_193 ⟨_, by assumption, ?_⟩
  refine ⟨_, rfl, ?_⟩
  refine at_iconst 7 (nI 1) dX12_next_6 rfl (by decide) ?_
  first | refine at_isubN 8 dX12_next_7 rfl (by omega) ?_ | refine at_isub 8 dX12_next_7 rfl ?_
  refine at_invS 11 [_, _, _] _ (c_in k (nI 0) (nI (s 0 10) - nI 1)) dX12_next_8 rfl rfl ml_X12_111 cl_X12_in sv_X12_in rfl (Nat.le_of_ble_eq_true rfl) ⟨by decide, by decide⟩ (by decide) (fun rr hh qq => ?_)
  obtain ⟨rfl, hq2⟩ := qq; rw [hq2, wi_pred (by omega)]; clear hq2 hh
  refine at_if_eqB 23 14 dX12_next_11 rfl rfl (fun cc => ?_) (fun cc => ?_)
  · refine at_iconst 24 (-1) dX12_next_23 rfl (by decide) ?_
    refine at_iret dX12_next_24 rfl (by decide) (by decide) ?_
    show RM (gx _ _ (-1, s)) h _ h
    rw [gx_f (fun ⟨i, q1, q2⟩ => has_f cc (by omega) ⟨i, q1, q2⟩)]
    exact ⟨rfl, hR, Fr.rf⟩
  · obtain ⟨j, hj, rfl⟩ := has_t cc (by omega)
    refine at_aload_n 15 dX12_next_14 rfl rfl rfl ?_
    refine at_g 18 dX12_next_15 rfl fl_X12_105 ⟨_, by assumption, ?_⟩
    refine ⟨_, rfl, ?_⟩
    refine at_iload_n 19 dX12_next_18 rfl rfl rfl ?_
    first | refine at_ia 20 dX12_next_19 rfl ⟨_, _, by assumption, by omega, by first | decide | omega, ?_⟩ | refine at_iaG 20 dX12_next_19 rfl ⟨_, _, by assumption, by omega, by first | decide | omega, ?_⟩
    refine at_goto 24 dX12_next_20 rfl ?_
    refine at_iret dX12_next_24 rfl (by decide) (by decide) ?_
    exact rm_yes ⟨j, hj, rfl⟩ (by rw [tn_nI (by omega), e134 j (by omega)]) hR Fr.rf
theorem m_told {s : St} {h : List PC} (hI : Inv s) (hR : RepM s h) (w : Int32) : Ct mX12_told [.ref 106, .int w] h (RM (fTold s w) h) := by
  obtain ⟨m0, mF, mL, mC, mH, mR, mS⟩ := id hR; obtain ⟨⟨i0, i1, i2, i3, i4, i5, i6, i7, i8, i9, i10, i11⟩, k1, k2, k3, k4, k5, k5z, k5s, k6, k6z, k7, k7s, k8s, k8z, k9, k10, k11, k11z, k50, k15, k16⟩ := id hI
  refine ct_at (L := [_, _]) (by decide +kernel) rfl rfl (Nat.le_of_ble_eq_true rfl) ?_
  refine at_iload_n 1 dX12_told_0 rfl rfl rfl ?_
  by_cases hw : ∃ j, j < 7 ∧ w = nI j
  · obtain ⟨j, hj, rfl⟩ := hw
    have fin : ∀ v, v = toldV s j → RM (fTold s (nI j)) h (some (.int (nI v))) h := fun v hv => rm_yes ⟨j, hj, rfl⟩ (by rw [tn_nI (by omega), hv]) hR Fr.rf
    rcases (by omega : j = 0 ∨ j = 1 ∨ j = 2 ∨ j = 3 ∨ j = 4 ∨ j = 5 ∨ j = 6) with rfl | rfl | rfl | rfl | rfl | rfl | rfl
    · refine at_tabIn (off := 43) 44 dX12_told_1 (by decide) (by decide) rfl rfl ?_
      refine at_aload_n 45 dX12_told_44 rfl rfl rfl ?_
      refine at_g 48 dX12_told_45 rfl fl_X12_108 ⟨_, by assumption, ?_⟩
      refine ⟨_, rfl, ?_⟩
      refine at_iret dX12_told_48 rfl (by decide) (by decide) ?_
      exact fin _ rfl
    · refine at_tabIn (off := 48) 49 dX12_told_1 (by decide) (by decide) rfl rfl ?_
      refine at_aload_n 50 dX12_told_49 rfl rfl rfl ?_
      refine at_g 53 dX12_told_50 rfl fl_X12_31 ⟨_, by assumption, ?_⟩
      refine ⟨_, rfl, ?_⟩
      refine at_iret dX12_told_53 rfl (by decide) (by decide) ?_
      exact fin _ rfl
    · refine at_tabIn (off := 53) 54 dX12_told_1 (by decide) (by decide) rfl rfl ?_
      refine at_aload_n 55 dX12_told_54 rfl rfl rfl ?_
      refine at_g 58 dX12_told_55 rfl fl_X12_115 ⟨_, by assumption, ?_⟩
      refine ⟨_, rfl, ?_⟩
      refine at_iret dX12_told_58 rfl (by decide) (by decide) ?_
      exact fin _ rfl
    · refine at_tabIn (off := 58) 59 dX12_told_1 (by decide) (by decide) rfl rfl ?_
      refine at_aload_n 60 dX12_told_59 rfl rfl rfl ?_
      refine at_g 63 dX12_told_60 rfl fl_X12_138 ⟨_, by assumption, ?_⟩
      refine ⟨_, rfl, ?_⟩
      refine at_iret dX12_told_63 rfl (by decide) (by decide) ?_
      exact fin _ rfl
    · refine at_tabIn (off := 63) 64 dX12_told_1 (by decide) (by decide) rfl rfl ?_
      refine at_aload_n 65 dX12_told_64 rfl rfl rfl ?_
      refine at_g 68 dX12_told_65 rfl fl_X12_141 ⟨_, by assumption, ?_⟩
      refine ⟨_, rfl, ?_⟩
      first | refine at_l2iN 69 dX12_told_68 rfl ?_ | refine at_l2i 69 dX12_told_68 rfl rfl ?_
      refine at_iret dX12_told_69 rfl (by decide) (by decide) ?_
      exact fin _ rfl
    · refine at_tabIn (off := 69) 70 dX12_told_1 (by decide) (by decide) rfl rfl ?_
      refine at_aload_n 71 dX12_told_70 rfl rfl rfl ?_
      refine at_g 74 dX12_told_71 rfl fl_X12_145 ⟨_, by assumption, ?_⟩
      refine ⟨_, rfl, ?_⟩
      first | refine at_l2iN 75 dX12_told_74 rfl ?_ | refine at_l2i 75 dX12_told_74 rfl rfl ?_
      refine at_iret dX12_told_75 rfl (by decide) (by decide) ?_
      exact fin _ rfl
    · refine at_tabIn (off := 75) 76 dX12_told_1 (by decide) (by decide) rfl rfl ?_
      refine at_aload_n 77 dX12_told_76 rfl rfl rfl ?_
      refine at_g 80 dX12_told_77 rfl fl_X12_135 ⟨_, by assumption, ?_⟩
      refine ⟨_, rfl, ?_⟩
      refine at_if_eqN 95 83 dX12_told_80 rfl rfl (by omega) (fun cc => ?_) (fun cc => ?_)
      · refine at_iconst 96 (nI 0) dX12_told_95 rfl (by decide) ?_
        refine at_iret dX12_told_96 rfl (by decide) (by decide) ?_
        refine fin 0 ?_
        show 0 = if s 0 2 = 1 then s 0 3 * s 0 4 else 0
        rw [if_neg (by omega)]
      · refine at_aload_n 84 dX12_told_83 rfl rfl rfl ?_
        refine at_g 87 dX12_told_84 rfl fl_X12_31 ⟨_, by assumption, ?_⟩
        refine ⟨_, rfl, ?_⟩
        refine at_aload_n 88 dX12_told_87 rfl rfl rfl ?_
        refine at_g 91 dX12_told_88 rfl fl_X12_35 ⟨_, by assumption, ?_⟩
        refine ⟨_, rfl, ?_⟩
        first | refine at_imulN 92 dX12_told_91 rfl ?_ | refine at_imul 92 dX12_told_91 rfl ?_
        refine at_goto 96 dX12_told_92 rfl ?_
        refine at_iret dX12_told_96 rfl (by decide) (by decide) ?_
        refine fin _ ?_
        show _ = if s 0 2 = 1 then s 0 3 * s 0 4 else 0
        rw [if_pos (by omega)]
  · have hout : w.toInt < 0 ∨ 6 < w.toInt := by
      apply Classical.byContradiction
      intro hc
      obtain ⟨j, hj, rfl⟩ := nI_of (x := w) (by rw [Int32.lt_iff_toInt_lt]; show ¬ w.toInt < 0; omega)
      rw [nI_toInt hj] at hc
      exact hw ⟨j, by omega, rfl⟩
    refine at_tabOut 97 dX12_told_1 hout rfl ?_
    refine at_ldc 99 (-1000000000) dX12_told_97 rfl cn_X12_118 ?_
    refine at_iret dX12_told_99 rfl (by decide) (by decide) ?_
    exact rm_no (fun ⟨j, q3, q4⟩ => hw ⟨j, q3, q4⟩) hR

