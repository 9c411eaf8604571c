theorem c_byThings {s : St} {h : List PC} {g f ko no a : Nat} {mk o : Nat → Nat} (m0 : h[106]? = some (oM s)) (hmk : h[107]? = some (aI 32 mk)) (hSH : SH h) (hO : h[ko]? = some (aI no o)) (hko : 108 ≤ ko ∧ ko < 127) (hf : f < 8) (hs : sm (fun t => mk (4 * f + t)) 4 = 1000) (ha : a + 4 ≤ no) (hno : no < 2 ^ 30) (hg : g < 2 ^ 31) : Ct mX12_byThings [.ref 106, .int (nI g), .int (nI f), .ref ko, .int (nI a)] h (fun r h' => r = none ∧ SH h' ∧ h'[ko]? = some (aI no (shr a 4 (share g (fun t => mk (4 * f + t)) 4) o)) ∧ Fr (fun j => j = ko ∨ (127 ≤ j ∧ j ≤ 129)) h h') := by
  obtain ⟨⟨ww, s127⟩, ⟨wj, s128⟩, ⟨wg, s129⟩⟩ := id hSH
  have hmb : ∀ t, t < 4 → mk (4 * f + t) ≤ 1000 := fun t ht => by have := sm_el (fun t => mk (4 * f + t)) ht; omega
  refine ct_at (L := [_, _, _, _, _, _]) (by decide +kernel) rfl rfl (Nat.le_of_ble_eq_true rfl) ?_
  refine at_iconst 1 (nI 0) dX12_byThings_0 rfl (by decide) ?_
  refine at_istore (L' := [_, _, _, _, _, _]) 3 dX12_byThings_1 rfl (by decide) rfl rfl ?_
  have loop2 : ∀ (d i : Nat) (h' : List PC), i + d = 4 → SH h' → h'[106]? = some (oM s) → (∃ gt, h'[129]? = some (aI 32 gt) ∧ ∀ t, t < 4 → gt t = share g (fun t => mk (4 * f + t)) 4 t) → h'[ko]? = some (aI no (shr a i (share g (fun t => mk (4 * f + t)) 4) o)) → Fr (fun j => j = ko ∨ (127 ≤ j ∧ j ≤ 129)) h h' → At mX12_byThings T0 43 [.ref 106, .int (nI g), .int (nI f), .ref ko, .int (nI a), .int (nI i)] [] h' 0 0 (ZM mX12_byThings (fun r h' => r = none ∧ SH h' ∧ h'[ko]? = some (aI no (shr a 4 (share g (fun t => mk (4 * f + t)) 4) o)) ∧ Fr (fun j => j = ko ∨ (127 ≤ j ∧ j ≤ 129)) h h')) := by
    intro d
    induction d with
    | zero =>
      intro i h' hi aS a0 ⟨gt, a129, eg⟩ aO hfr
      have : i = 4 := by omega
      subst this
      refine at_iload 45 dX12_byThings_43 rfl rfl ?_
      refine at_iconst 46 (nI 4) dX12_byThings_45 rfl (by decide) ?_
      refine at_icmp_geN 69 49 dX12_byThings_46 rfl rfl (by omega) (by omega) (fun cc => ?_) (fun cc => ?_)
      rotate_left
      · omega
      refine at_vret dX12_byThings_69 rfl (by decide) (by decide) ?_
      exact ⟨rfl, aS, aO, hfr⟩
    | succ d ih =>
      intro i h' hi aS a0 ⟨gt, a129, eg⟩ aO hfr
      have hfr1 : Fr (fun j => j = ko) h' h' := Fr.rf
      refine at_iload 45 dX12_byThings_43 rfl rfl ?_
      refine at_iconst 46 (nI 4) dX12_byThings_45 rfl (by decide) ?_
      refine at_icmp_geN 69 49 dX12_byThings_46 rfl rfl (by omega) (by omega) (fun cc => ?_) (fun cc => ?_)
      · omega
      refine at_aload_n 50 dX12_byThings_49 rfl rfl rfl ?_
      refine at_iload 52 dX12_byThings_50 rfl rfl ?_
      refine at_iload 54 dX12_byThings_52 rfl rfl ?_
      first | refine at_iaddN 55 dX12_byThings_54 rfl ?_ | refine at_iadd 55 dX12_byThings_54 rfl ?_
      refine at_aload_n 56 dX12_byThings_55 rfl rfl rfl ?_
      refine at_g 59 dX12_byThings_56 rfl fl_X12_90 ⟨_, by assumption, ?_⟩
      refine ⟨_, rfl, ?_⟩
      refine at_iload 61 dX12_byThings_59 rfl rfl ?_
      first | refine at_ia 62 dX12_byThings_61 rfl ⟨_, _, by assumption, by omega, by first | decide | omega, ?_⟩ | refine at_iaG 62 dX12_byThings_61 rfl ⟨_, _, by assumption, by omega, by first | decide | omega, ?_⟩
      rw [eg i (by omega)]
      first | refine at_is 63 dX12_byThings_62 rfl ⟨_, _, by assumption, by omega, by first | decide | omega, fun hh1 nn1 => ?_⟩ | refine at_isG 63 dX12_byThings_62 rfl ⟨_, _, by assumption, by omega, by first | decide | omega, fun hh1 nn1 => ?_⟩
      replace a0 := nn1.o (by first | decide | omega | assumption) a0
      replace a129 := nn1.o (by first | decide | omega | assumption) a129
      replace aO := nn1.1
      replace hfr := hfr.nw nn1 (by first | (dsimp only; omega) | (dsimp only; done) | simp)
      replace hfr1 := hfr1.nw nn1 (by first | (dsimp only; omega) | (dsimp only; done) | simp)
      clear nn1
      refine at_iincN (q := 1) (L' := [_, _, _, _, _, _]) 66 dX12_byThings_63 rfl (by decide) rfl (by decide) rfl rfl ?_
      refine at_goto 43 dX12_byThings_66 rfl ?_
      rw [shr_s] at aO
      exact ih (i + 1) _ (by omega) (aS.fr hfr1 (fun j h1 h2 => by omega)) a0 ⟨gt, a129, eg⟩ aO hfr
  have loop1 : ∀ (d i : Nat) (w : Nat → Nat) (h' : List PC), i + d = 4 → h'[127]? = some (aL 32 w) → (∀ j, j < i → w j = mk (4 * f + j)) → Fr (fun j => j = 127) h h' → At mX12_byThings T0 3 [.ref 106, .int (nI g), .int (nI f), .ref ko, .int (nI a), .int (nI i)] [] h' 0 0 (ZM mX12_byThings (fun r h' => r = none ∧ SH h' ∧ h'[ko]? = some (aI no (shr a 4 (share g (fun t => mk (4 * f + t)) 4) o)) ∧ Fr (fun j => j = ko ∨ (127 ≤ j ∧ j ≤ 129)) h h')) := by
    intro d
    induction d with
    | zero =>
      intro i w h' hi a127 hw hfr
      have a0 := hfr.at (k := 106) (by omega) m0
      have e1 : sm w 4 = 1000 := by rw [← hs]; exact sm_congr (fun j hj => hw j (by omega))
      refine at_iload 5 dX12_byThings_3 rfl rfl ?_
      refine at_iconst 6 (nI 4) dX12_byThings_5 rfl (by decide) ?_
      refine at_icmp_geN 34 9 dX12_byThings_6 rfl rfl (by omega) (by omega) (fun cc => ?_) (fun cc => ?_)
      rotate_left
      · omega
      refine at_aload_n 35 dX12_byThings_34 rfl rfl rfl ?_
      refine at_iload_n 36 dX12_byThings_35 rfl rfl rfl ?_
      refine at_iconst 37 (nI 4) dX12_byThings_36 rfl (by decide) ?_
      refine at_invV (ci := 12) 40 [_, _] _ (c_X12_shareOut a0 a127 (hfr.at (by omega) s128) (hfr.at (by omega) s129) (by decide) (by decide) (by omega) (by omega) hg) dX12_byThings_37 rfl rfl (by assumption) rfl ml_X12_130 cl_X12_shareOut vl_X12_shareOut rfl (Nat.le_of_ble_eq_true rfl) ⟨by decide, by decide⟩ (by decide) (fun rr hh qq => ?_)
      obtain ⟨rfl, ⟨Rj, b128⟩, b129, bfr⟩ := qq
      refine at_iconst 41 (nI 0) dX12_byThings_40 rfl (by decide) ?_
      refine at_istore (L' := [_, _, _, _, _, _]) 43 dX12_byThings_41 rfl (by decide) rfl rfl ?_
      have bfr2 : Fr (fun j => j = ko ∨ (127 ≤ j ∧ j ≤ 129)) h hh := (hfr.wk (P' := fun j => j = ko ∨ (127 ≤ j ∧ j ≤ 129)) (fun j hj => by omega)).tr bfr (fun j hj => by omega)
      refine loop2 4 0 hh (by omega) ⟨⟨w, bfr.at (by omega) a127⟩, ⟨Rj, b128⟩, ⟨_, b129⟩⟩ (bfr.at (by omega) a0) ⟨_, b129, fun t ht => ?_⟩ ?_ bfr2
      · show (if 0 ≤ t ∧ t < 0 + 4 then share g w 4 (t - 0) else wg t) = _
        rw [if_pos (by omega)]
        exact share_congr (by decide) (fun j hj => hw j (by omega)) t ht
      · rw [shr_0]
        exact bfr.at (by omega) (hfr.at (by omega) hO)
    | succ d ih =>
      intro i w h' hi a127 hw hfr
      have a0 := hfr.at (k := 106) (by omega) m0
      have a107 := hfr.at (k := 107) (by omega) hmk
      have hb := hmb i (by omega)
      refine at_iload 5 dX12_byThings_3 rfl rfl ?_
      refine at_iconst 6 (nI 4) dX12_byThings_5 rfl (by decide) ?_
      refine at_icmp_geN 34 9 dX12_byThings_6 rfl rfl (by omega) (by omega) (fun cc => ?_) (fun cc => ?_)
      · omega
      refine at_aload_n 10 dX12_byThings_9 rfl rfl rfl ?_
      refine at_g 13 dX12_byThings_10 rfl fl_X12_83 ⟨_, by assumption, ?_⟩
      refine ⟨_, rfl, ?_⟩
      refine at_iload 15 dX12_byThings_13 rfl rfl ?_
      refine at_aload_n 16 dX12_byThings_15 rfl rfl rfl ?_
      refine at_g 19 dX12_byThings_16 rfl fl_X12_7 ⟨_, by assumption, ?_⟩
      refine ⟨_, rfl, ?_⟩
      refine at_iconst 20 (nI 4) dX12_byThings_19 rfl (by decide) ?_
      refine at_iload_n 21 dX12_byThings_20 rfl rfl rfl ?_
      first | refine at_imulN 22 dX12_byThings_21 rfl ?_ | refine at_imul 22 dX12_byThings_21 rfl ?_
      refine at_iload 24 dX12_byThings_22 rfl rfl ?_
      first | refine at_iaddN 25 dX12_byThings_24 rfl ?_ | refine at_iadd 25 dX12_byThings_24 rfl ?_
      first | refine at_ia 26 dX12_byThings_25 rfl ⟨_, _, by assumption, by omega, by first | decide | omega, ?_⟩ | refine at_iaG 26 dX12_byThings_25 rfl ⟨_, _, by assumption, by omega, by first | decide | omega, ?_⟩
      first | refine at_i2lN 27 dX12_byThings_26 rfl (by omega) ?_ | refine at_i2l 27 dX12_byThings_26 rfl rfl ?_
      first | refine at_ls 28 dX12_byThings_27 rfl ⟨_, _, by assumption, by omega, by first | decide | omega, fun hh2 nn2 => ?_⟩ | refine at_lsJ 28 dX12_byThings_27 rfl ⟨_, _, by assumption, by omega, by first | decide | omega, fun hh2 nn2 => ?_⟩
      replace a0 := nn2.o (by first | decide | omega | assumption) a0
      replace a107 := nn2.o (by first | decide | omega | assumption) a107
      replace a127 := nn2.1
      replace hfr := hfr.nw nn2 (by first | (dsimp only; omega) | (dsimp only; done) | simp)
      clear nn2
      refine at_iincN (q := 1) (L' := [_, _, _, _, _, _]) 31 dX12_byThings_28 rfl (by decide) rfl (by decide) rfl rfl ?_
      refine at_goto 3 dX12_byThings_31 rfl ?_
      refine ih (i + 1) _ _ (by omega) a127 (fun j hj => ?_) hfr
      by_cases e : j = i
      · rw [e, updN_s]
      · rw [updN_n _ _ e]; exact hw j (by omega)
  exact loop1 4 0 ww h (by omega) s127 (fun j hj => by omega) Fr.rf
theorem m_tank {s : St} {h : List PC} (hI : Inv s) (hR : RepM s h) (n w p f : Int32) : Ct mX12_tank [.ref 106, .int n, .int w, .int p, .int f] h (RM (fTank s n w p f) h) := by
  obtain ⟨m0, mF, mL, mC, mH, mR, mS⟩ := id hR; obtain ⟨⟨i0, i1, i2, i3, i4, i5, i6, i7, i8, i9, i10, i11⟩, k1, k2, k3, k4, k5, k5z, k5s, k6, k6z, k7, k7s, k8s, k8z, k9, k10, k11, k11z, k50, k15, k16⟩ := id hI; obtain ⟨⟨mk, f107, e107⟩, ⟨kd, f108, e108⟩, ⟨db, f109, e109⟩, ⟨pr, f110, e110⟩, ⟨st, f111, e111⟩, ⟨tc, f112, e112⟩, ⟨sh, f113, e113⟩⟩ := id mF
  refine ct_at (L := [_, _, _, _, _, _]) (by decide +kernel) rfl rfl (Nat.le_of_ble_eq_true rfl) ?_
  refine at_iload_n 1 dX12_tank_0 rfl rfl rfl ?_
  refine at_iconst 2 (nI 2) dX12_tank_1 rfl (by decide) ?_
  refine at_bipush 4 (nI 6) dX12_tank_2 rfl (by decide) ?_
  refine at_invS 7 [_, _, _] _ (c_in n (nI 2) (nI 6)) dX12_tank_4 rfl rfl ml_X12_111 cl_X12_in sv_X12_in rfl (Nat.le_of_ble_eq_true rfl) ⟨by decide, by decide⟩ (by decide) (fun rr hh qq => ?_)
  obtain ⟨rfl, hq2⟩ := qq; rw [hq2]; clear hq2 hh
  refine at_if_eqB 39 10 dX12_tank_7 rfl rfl (fun cc => ?_) (fun cc => ?_)
  · refine at_ldc 41 (-1000000000) dX12_tank_39 rfl cn_X12_118 ?_
    refine at_iret dX12_tank_41 rfl (by decide) (by decide) ?_
    exact rm_no (fun ⟨n', w', p', f', q1, q2, q3, q4, z1, z2, z3, z4⟩ => wi_no cc (by omega) z1 q1.1 q1.2) hR
  obtain ⟨n', n1, n2, rfl⟩ := wi_t cc (by omega) (by omega)
  clear cc
  refine at_iload_n 11 dX12_tank_10 rfl rfl rfl ?_
  refine at_bipush 13 (nI 100) dX12_tank_11 rfl (by decide) ?_
  refine at_ldc 15 (nI 100000) dX12_tank_13 rfl cn_X12_134 ?_
  refine at_invS 18 [_, _, _] _ (c_in w (nI 100) (nI 100000)) dX12_tank_15 rfl rfl ml_X12_111 cl_X12_in sv_X12_in rfl (Nat.le_of_ble_eq_true rfl) ⟨by decide, by decide⟩ (by decide) (fun rr hh qq => ?_)
  obtain ⟨rfl, hq2⟩ := qq; rw [hq2]; clear hq2 hh
  refine at_if_eqB 39 21 dX12_tank_18 rfl rfl (fun cc => ?_) (fun cc => ?_)
  · refine at_ldc 41 (-1000000000) dX12_tank_39 rfl cn_X12_118 ?_
    refine at_iret dX12_tank_41 rfl (by decide) (by decide) ?_
    exact rm_no (fun ⟨n', w', p', f', q1, q2, q3, q4, z1, z2, z3, z4⟩ => wi_no cc (by omega) z2 q2.1 q2.2) hR
  obtain ⟨w', w1, w2, rfl⟩ := wi_t cc (by omega) (by omega)
  clear cc
  refine at_iload_n 22 dX12_tank_21 rfl rfl rfl ?_
  refine at_iconst 23 (nI 1) dX12_tank_22 rfl (by decide) ?_
  refine at_iload_n 24 dX12_tank_23 rfl rfl rfl ?_
  refine at_invS 27 [_, _, _] _ (c_in p (nI 1) (nI w')) dX12_tank_24 rfl rfl ml_X12_111 cl_X12_in sv_X12_in rfl (Nat.le_of_ble_eq_true rfl) ⟨by decide, by decide⟩ (by decide) (fun rr hh qq => ?_)
  obtain ⟨rfl, hq2⟩ := qq; rw [hq2]; clear hq2 hh
  refine at_if_eqB 39 30 dX12_tank_27 rfl rfl (fun cc => ?_) (fun cc => ?_)
  · refine at_ldc 41 (-1000000000) dX12_tank_39 rfl cn_X12_118 ?_
    refine at_iret dX12_tank_41 rfl (by decide) (by decide) ?_
    exact rm_no (fun ⟨n2, w2, p2, f2, q1, q2, q3, q4, z1, z2, z3, z4⟩ => by
      have e1 := nI_inj z2 (by omega) (by omega)
      subst e1
      exact wi_no cc (by omega) z3 q3.1 q3.2) hR
  obtain ⟨p', p1, p2, rfl⟩ := wi_t cc (by omega) (by omega)
  clear cc
  refine at_aload_n 31 dX12_tank_30 rfl rfl rfl ?_
  refine at_iload 33 dX12_tank_31 rfl rfl ?_
  refine at_invV (ci := 12) 36 [_] _ (c_isFeed f m0 (by omega)) dX12_tank_33 rfl rfl (by assumption) rfl ml_X12_119 cl_X12_isFeed vl_X12_isFeed rfl (Nat.le_of_ble_eq_true rfl) ⟨by decide, by decide⟩ (by decide) (fun rr hh qq => ?_)
  obtain ⟨rfl, hq2⟩ := qq; rw [hq2]; clear hq2 hh
  refine at_if_neB 42 39 dX12_tank_36 rfl rfl (fun cc => ?_) (fun cc => ?_)
  rotate_left
  · refine at_ldc 41 (-1000000000) dX12_tank_39 rfl cn_X12_118 ?_
    refine at_iret dX12_tank_41 rfl (by decide) (by decide) ?_
    exact rm_no (fun ⟨n2, w2, p2, f2, q1, q2, q3, q4, z1, z2, z3, z4⟩ => has_f cc (by omega) ⟨f2, q4, z4⟩) hR
  obtain ⟨f', hf, rfl⟩ := has_t cc (by omega)
  clear cc
  obtain ⟨lw, f114, e114⟩ := id mL
  obtain ⟨x115, x116, x117, x118, hSH, x130, x131, x132, x133⟩ := id mS
  have hfr : Fr (fun j => j = 106) h h := Fr.rf
  refine at_aload_n 43 dX12_tank_42 rfl rfl rfl ?_
  refine at_iload_n 44 dX12_tank_43 rfl rfl rfl ?_
  refine at_pi 47 dX12_tank_44 rfl pl_X12_31 (rfl) (rfl) ⟨_, by assumption, ?_⟩
  refine ⟨(Nat.le_of_ble_eq_true rfl), [_, _, _, _, _, _, _, _, _, _, _, _, _, _, _, _, _, _, _, _, _, _, _, _, _, _, _, _, _, _, _, _, _, _, _, _, _, _, _, _], rfl, fun hh3 nn3 => ?_⟩
  replace m0 := nn3.1
  replace hfr := hfr.nw nn3 (by first | (dsimp only; omega) | (dsimp only; done) | simp)
  clear nn3
  refine at_aload_n 48 dX12_tank_47 rfl rfl rfl ?_
  refine at_iload_n 49 dX12_tank_48 rfl rfl rfl ?_
  refine at_pi 52 dX12_tank_49 rfl pl_X12_35 (rfl) (rfl) ⟨_, by assumption, ?_⟩
  refine ⟨(Nat.le_of_ble_eq_true rfl), [_, _, _, _, _, _, _, _, _, _, _, _, _, _, _, _, _, _, _, _, _, _, _, _, _, _, _, _, _, _, _, _, _, _, _, _, _, _, _, _], rfl, fun hh4 nn4 => ?_⟩
  replace m0 := nn4.1
  replace hfr := hfr.nw nn4 (by first | (dsimp only; omega) | (dsimp only; done) | simp)
  clear nn4
  refine at_aload_n 53 dX12_tank_52 rfl rfl rfl ?_
  refine at_iload_n 54 dX12_tank_53 rfl rfl rfl ?_
  refine at_pi 57 dX12_tank_54 rfl pl_X12_38 (rfl) (rfl) ⟨_, by assumption, ?_⟩
  refine ⟨(Nat.le_of_ble_eq_true rfl), [_, _, _, _, _, _, _, _, _, _, _, _, _, _, _, _, _, _, _, _, _, _, _, _, _, _, _, _, _, _, _, _, _, _, _, _, _, _, _, _], rfl, fun hh5 nn5 => ?_⟩
  replace m0 := nn5.1
  replace hfr := hfr.nw nn5 (by first | (dsimp only; omega) | (dsimp only; done) | simp)
  clear nn5
  refine at_aload_n 58 dX12_tank_57 rfl rfl rfl ?_
  refine at_iconst 59 (nI 1) dX12_tank_58 rfl (by decide) ?_
  refine at_pi 62 dX12_tank_59 rfl pl_X12_135 (by first | rfl | decide | assumption) (by first | rfl | decide | assumption) ⟨_, by assumption, ?_⟩
  refine ⟨(Nat.le_of_ble_eq_true rfl), [_, _, _, _, _, _, _, _, _, _, _, _, _, _, _, _, _, _, _, _, _, _, _, _, _, _, _, _, _, _, _, _, _, _, _, _, _, _, _, _], rfl, fun hh6 nn6 => ?_⟩
  replace m0 := nn6.1
  replace hfr := hfr.nw nn6 (by first | (dsimp only; omega) | (dsimp only; done) | simp)
  clear nn6
  refine at_aload_n 63 dX12_tank_62 rfl rfl rfl ?_
  refine at_iconst 64 (nI 0) dX12_tank_63 rfl (by decide) ?_
  refine at_pi 67 dX12_tank_64 rfl pl_X12_138 (rfl) (rfl) ⟨_, by assumption, ?_⟩
  refine ⟨(Nat.le_of_ble_eq_true rfl), [_, _, _, _, _, _, _, _, _, _, _, _, _, _, _, _, _, _, _, _, _, _, _, _, _, _, _, _, _, _, _, _, _, _, _, _, _, _, _, _], rfl, fun hh7 nn7 => ?_⟩
  replace m0 := nn7.1
  replace hfr := hfr.nw nn7 (by first | (dsimp only; omega) | (dsimp only; done) | simp)
  clear nn7
  refine at_aload_n 68 dX12_tank_67 rfl rfl rfl ?_
  refine at_lconst 69 (lN 0) dX12_tank_68 rfl rfl ?_
  refine at_pl 72 dX12_tank_69 rfl pl_X12_141 ⟨_, by assumption, ?_⟩
  refine ⟨(Nat.le_of_ble_eq_true rfl), [_, _, _, _, _, _, _, _, _, _, _, _, _, _, _, _, _, _, _, _, _, _, _, _, _, _, _, _, _, _, _, _, _, _, _, _, _, _, _, _], rfl, fun hh8 nn8 => ?_⟩
  replace m0 := nn8.1
  replace hfr := hfr.nw nn8 (by first | (dsimp only; omega) | (dsimp only; done) | simp)
  clear nn8
  refine at_aload_n 73 dX12_tank_72 rfl rfl rfl ?_
  refine at_lconst 74 (lN 0) dX12_tank_73 rfl rfl ?_
  refine at_pl 77 dX12_tank_74 rfl pl_X12_145 ⟨_, by assumption, ?_⟩
  refine ⟨(Nat.le_of_ble_eq_true rfl), [_, _, _, _, _, _, _, _, _, _, _, _, _, _, _, _, _, _, _, _, _, _, _, _, _, _, _, _, _, _, _, _, _, _, _, _, _, _, _, _], rfl, fun hh9 nn9 => ?_⟩
  replace m0 := nn9.1
  replace hfr := hfr.nw nn9 (by first | (dsimp only; omega) | (dsimp only; done) | simp)
  clear nn9
  refine at_iconst 78 (nI 0) dX12_tank_77 rfl (by decide) ?_
  refine at_istore (L' := [_, _, _, _, _, _]) 80 dX12_tank_78 rfl (by decide) rfl rfl ?_
  rename List PC => h1
  have m0' : h1[106]? = some (oM (up (up s 8 (fillL (s 8) (fun t => s 7 (4 * f' + t)) f' w' n')) 0 (tankS0 s n' w' p'))) := m0
  clear m0
  have hsum : sm (fun t => mk (4 * f' + t)) 4 = 1000 := by rw [← k7s f' hf]; exact sm_congr (fun t ht => e107 _ (by omega))
  have g114 := hfr.at (k := 114) (by omega) f114
  have g107 := hfr.at (k := 107) (by omega) f107
  have gSH := hSH.fr hfr (fun j h1 h2 => by omega)
  have loopB : ∀ (d i : Nat) (w : Nat → Nat) (h' : List PC), i + d = n' → SH h' → h'[114]? = some (aI 192 w) → (∀ x, x < 192 → w x = fillL (fun _ => 0) (fun t => s 7 (4 * f' + t)) f' w' i x) → Fr (fun j => j = 114 ∨ (127 ≤ j ∧ j ≤ 129)) h1 h' → At mX12_tank T0 105 [.ref 106, .int (nI n'), .int (nI w'), .int (nI p'), .int (nI f'), .int (nI i)] [] h' 0 0 (ZM mX12_tank (RM (fTank s (nI n') (nI w') (nI p') (nI f')) h)) := by
    intro d
    induction d with
    | zero =>
      intro i w h' hi aS a114 hw afr
      have : i = n' := by omega
      subst this
      refine at_iload 107 dX12_tank_105 rfl rfl ?_
      refine at_iload_n 108 dX12_tank_107 rfl rfl rfl ?_
      refine at_icmp_geN 138 111 dX12_tank_108 rfl rfl (by omega) (by omega) (fun cc => ?_) (fun cc => ?_)
      rotate_left
      · omega
      refine at_iconst 139 (nI 1) dX12_tank_138 rfl (by decide) ?_
      refine at_iret dX12_tank_139 rfl (by decide) (by decide) ?_
      have afr2 : Fr (fun j => j = 106 ∨ j = 114 ∨ (127 ≤ j ∧ j ≤ 129)) h h' := (hfr.wk (P' := fun j => j = 106 ∨ j = 114 ∨ (127 ≤ j ∧ j ≤ 129)) (fun j hj => by omega)).tr afr (fun j hj => by omega)
      refine rm_yes ⟨i, w', p', f', ⟨n1, n2⟩, ⟨w1, w2⟩, ⟨p1, p2⟩, hf, rfl, rfl, rfl, rfl⟩ rfl ?_ (afr2.wk (fun j hj => by omega))
      rw [tn_nI (by omega), tn_nI (by omega), tn_nI (by omega), tn_nI (by omega)]
      refine ⟨at_fr m0' afr (fun j h1 h2 => by omega), mF.fr afr2 (fun j h1 h2 => by omega), ⟨w, a114, fun x hx => ?_⟩, mC.fr afr2 (fun j h1 h2 => by omega), mH.fr afr2 (fun j h1 h2 => by omega), mR.gt afr2 (fun j h1 h2 => by omega), ⟨?_, ?_, ?_, ?_, aS, ?_, ?_, ?_, ?_⟩⟩
      · have hx' : x < 32 * i := hx
        rw [hw x (by omega)]
        show fillL (fun _ => 0) (fun t => s 7 (4 * f' + t)) f' w' i x = fillL (s 8) (fun t => s 7 (4 * f' + t)) f' w' i x
        unfold fillL
        rw [if_pos hx', if_pos hx']
      · obtain ⟨v, hv⟩ := x115; exact ⟨v, at_fr hv afr2 (fun j h1 h2 => by omega)⟩
      · obtain ⟨v, hv⟩ := x116; exact ⟨v, at_fr hv afr2 (fun j h1 h2 => by omega)⟩
      · obtain ⟨v, hv⟩ := x117; exact ⟨v, at_fr hv afr2 (fun j h1 h2 => by omega)⟩
      · obtain ⟨v, hv⟩ := x118; exact ⟨v, at_fr hv afr2 (fun j h1 h2 => by omega)⟩
      · obtain ⟨v, hv⟩ := x130; exact ⟨v, at_fr hv afr2 (fun j h1 h2 => by omega)⟩
      · obtain ⟨v, hv⟩ := x131; exact ⟨v, at_fr hv afr2 (fun j h1 h2 => by omega)⟩
      · obtain ⟨v, hv⟩ := x132; exact ⟨v, at_fr hv afr2 (fun j h1 h2 => by omega)⟩
      · obtain ⟨v, hv⟩ := x133; exact ⟨v, at_fr hv afr2 (fun j h1 h2 => by omega)⟩
    | succ d ih =>
      intro i w h' hi aS a114 hw afr
      have a0 := afr.at (k := 106) (by omega) m0'
      refine at_iload 107 dX12_tank_105 rfl rfl ?_
      refine at_iload_n 108 dX12_tank_107 rfl rfl rfl ?_
      refine at_icmp_geN 138 111 dX12_tank_108 rfl rfl (by omega) (by omega) (fun cc => ?_) (fun cc => ?_)
      · omega
      refine at_aload_n 112 dX12_tank_111 rfl rfl rfl ?_
      refine at_iload_n 113 dX12_tank_112 rfl rfl rfl ?_
      refine at_iload 115 dX12_tank_113 rfl rfl ?_
      refine at_aload_n 116 dX12_tank_115 rfl rfl rfl ?_
      refine at_g 119 dX12_tank_116 rfl fl_X12_44 ⟨_, by assumption, ?_⟩
      refine ⟨_, rfl, ?_⟩
      refine at_bipush 121 (nI 32) dX12_tank_119 rfl (by decide) ?_
      refine at_iload 123 dX12_tank_121 rfl rfl ?_
      first | refine at_imulN 124 dX12_tank_123 rfl ?_ | refine at_imul 124 dX12_tank_123 rfl ?_
      refine at_iconst 125 (nI 4) dX12_tank_124 rfl (by decide) ?_
      refine at_iload 127 dX12_tank_125 rfl rfl ?_
      first | refine at_imulN 128 dX12_tank_127 rfl ?_ | refine at_imul 128 dX12_tank_127 rfl ?_
      first | refine at_iaddN 129 dX12_tank_128 rfl ?_ | refine at_iadd 129 dX12_tank_128 rfl ?_
      refine at_invV (ci := 12) 132 [_, _, _, _] _ (c_byThings a0 (afr.at (by omega) g107) aS a114 (by decide) (by omega) hsum (by omega) (by decide) (by omega)) dX12_tank_129 rfl rfl (by assumption) rfl ml_X12_148 cl_X12_byThings vl_X12_byThings rfl (Nat.le_of_ble_eq_true rfl) ⟨by decide, by decide⟩ (by decide) (fun rr hh qq => ?_)
      obtain ⟨rfl, bS, b114, bfr⟩ := qq
      refine at_iincN (q := 1) (L' := [_, _, _, _, _, _]) 135 dX12_tank_132 rfl (by decide) rfl (by decide) rfl rfl ?_
      refine at_goto 105 dX12_tank_135 rfl ?_
      refine ih (i + 1) _ hh (by omega) bS b114 (fun x hx => ?_) (afr.tr bfr (fun j hj => by omega))
      show (if 32 * i + 4 * f' ≤ x ∧ x < 32 * i + 4 * f' + 4 then share w' (fun t => mk (4 * f' + t)) 4 (x - (32 * i + 4 * f')) else w x) = _
      by_cases q : 32 * i + 4 * f' ≤ x ∧ x < 32 * i + 4 * f' + 4
      · rw [if_pos q]
        unfold fillL
        have hm : x % 32 = x - 32 * i := by omega
        rw [if_pos (by omega), if_pos (by omega), hm, show x - 32 * i - 4 * f' = x - (32 * i + 4 * f') by omega]
        exact share_congr (by decide) (fun t ht => e107 _ (by omega)) _ (by omega)
      · rw [if_neg q, hw x hx]
        unfold fillL
        by_cases q2 : x < 32 * i
        · rw [if_pos q2, if_pos (show x < 32 * (i + 1) by omega)]
        · rw [if_neg q2]
          by_cases q3 : x < 32 * (i + 1)
          · rw [if_pos q3, if_neg (by omega)]
          · rw [if_neg q3]
  have loopA : ∀ (d i : Nat) (w : Nat → Nat) (h' : List PC), i + d = 192 → h'[114]? = some (aI 192 w) → (∀ x, x < i → w x = 0) → Fr (fun j => j = 114) h1 h' → At mX12_tank T0 80 [.ref 106, .int (nI n'), .int (nI w'), .int (nI p'), .int (nI f'), .int (nI i)] [] h' 0 0 (ZM mX12_tank (RM (fTank s (nI n') (nI w') (nI p') (nI f')) h)) := by
    intro d
    induction d with
    | zero =>
      intro i w h' hi a114 hw afr
      refine at_iload 82 dX12_tank_80 rfl rfl ?_
      refine at_sipush 85 (nI 192) dX12_tank_82 rfl (by decide) ?_
      refine at_icmp_geN 102 88 dX12_tank_85 rfl rfl (by omega) (by omega) (fun cc => ?_) (fun cc => ?_)
      rotate_left
      · omega
      refine at_iconst 103 (nI 0) dX12_tank_102 rfl (by decide) ?_
      refine at_istore (L' := [_, _, _, _, _, _]) 105 dX12_tank_103 rfl (by decide) rfl rfl ?_
      refine loopB n' 0 w h' (by omega) (gSH.fr afr (fun j h1 h2 => by omega)) a114 (fun x hx => ?_) (afr.wk (fun j hj => by omega))
      rw [hw x (by omega)]
      unfold fillL
      rw [if_neg (by omega)]
    | succ d ih =>
      intro i w h' hi a114 hw afr
      have a0 := afr.at (k := 106) (by omega) m0'
      refine at_iload 82 dX12_tank_80 rfl rfl ?_
      refine at_sipush 85 (nI 192) dX12_tank_82 rfl (by decide) ?_
      refine at_icmp_geN 102 88 dX12_tank_85 rfl rfl (by omega) (by omega) (fun cc => ?_) (fun cc => ?_)
      · omega
      refine at_aload_n 89 dX12_tank_88 rfl rfl rfl ?_
      refine at_g 92 dX12_tank_89 rfl fl_X12_44 ⟨_, by assumption, ?_⟩
      refine ⟨_, rfl, ?_⟩
      refine at_iload 94 dX12_tank_92 rfl rfl ?_
      refine at_iconst 95 (nI 0) dX12_tank_94 rfl (by decide) ?_
      first | refine at_is 96 dX12_tank_95 rfl ⟨_, _, by assumption, by omega, by first | decide | omega, fun hh10 nn10 => ?_⟩ | refine at_isG 96 dX12_tank_95 rfl ⟨_, _, by assumption, by omega, by first | decide | omega, fun hh10 nn10 => ?_⟩
      replace a0 := nn10.o (by first | decide | omega | assumption) a0
      replace a114 := nn10.1
      replace afr := afr.nw nn10 (by first | (dsimp only; omega) | (dsimp only; done) | simp)
      clear nn10
      refine at_iincN (q := 1) (L' := [_, _, _, _, _, _]) 99 dX12_tank_96 rfl (by decide) rfl (by decide) rfl rfl ?_
      refine at_goto 80 dX12_tank_99 rfl ?_
      refine ih (i + 1) _ _ (by omega) a114 (fun x hx => ?_) afr
      by_cases e : x = i
      · rw [e, updN_s]
      · rw [updN_n _ _ e]; exact hw x (by omega)
  exact loopA 192 0 lw h1 (by omega) g114 (fun x hx => by omega) Fr.rf
theorem m_cell {s : St} {h : List PC} (hI : Inv s) (hR : RepM s h) (c f t : Int32) : Ct mX12_cell [.ref 106, .int c, .int f, .int t] h (RM (fCell s c f t) h) := by
  obtain ⟨m0, mF, mL, mC, mH, mR, mS⟩ := id hR; obtain ⟨⟨i0, i1, i2, i3, i4, i5, i6, i7, i8, i9, i10, i11⟩, k1, k2, k3, k4, k5, k5z, k5s, k6, k6z, k7, k7s, k8s, k8z, k9, k10, k11, k11z, k50, k15, k16⟩ := id hI
  obtain ⟨lw, f114, e114⟩ := id mL
  refine ct_at (L := [_, _, _, _, _, _]) (by decide +kernel) rfl rfl (Nat.le_of_ble_eq_true rfl) ?_
  refine at_aload_n 1 dX12_cell_0 rfl rfl rfl ?_
  refine at_g 4 dX12_cell_1 rfl fl_X12_135 ⟨_, by assumption, ?_⟩
  refine ⟨_, rfl, ?_⟩
  refine at_if_eqN 43 7 dX12_cell_4 rfl rfl (by omega) (fun cc => ?_) (fun cc => ?_)
  · refine at_ldc 45 (-1000000000) dX12_cell_43 rfl cn_X12_118 ?_
    refine at_iret dX12_cell_45 rfl (by decide) (by decide) ?_
    exact rm_no (fun ⟨c', fi, ti, q1, q2, q3, q4, q5, q6, q7⟩ => by omega) hR
  have hmd := cc
  clear cc
  refine at_iload_n 8 dX12_cell_7 rfl rfl rfl ?_
  refine at_iconst 9 (nI 0) dX12_cell_8 rfl (by decide) ?_
  refine at_aload_n 10 dX12_cell_9 rfl rfl rfl ?_
  refine at_g 13 dX12_cell_10 rfl fl_X12_31 ⟨_, by assumption, ?_⟩
  refine ⟨_, rfl, ?_⟩
  refine at_iconst 14 (nI 1) dX12_cell_13 rfl (by decide) ?_
  first | refine at_isubN 15 dX12_cell_14 rfl (by omega) ?_ | refine at_isub 15 dX12_cell_14 rfl ?_
  refine at_invS 18 [_, _, _] _ (c_in c (nI 0) (nI (s 0 3 - 1))) dX12_cell_15 rfl rfl ml_X12_111 cl_X12_in sv_X12_in rfl (Nat.le_of_ble_eq_true rfl) ⟨by decide, by decide⟩ (by decide) (fun rr hh qq => ?_)
  obtain ⟨rfl, hq2⟩ := qq; rw [hq2]; clear hq2 hh
  refine at_if_eqB 43 21 dX12_cell_18 rfl rfl (fun cc => ?_) (fun cc => ?_)
  · refine at_ldc 45 (-1000000000) dX12_cell_43 rfl cn_X12_118 ?_
    refine at_iret dX12_cell_45 rfl (by decide) (by decide) ?_
    exact rm_no (fun ⟨c', fi, ti, q1, q2, q3, q4, q5, q6, q7⟩ => wi_no cc (by omega) q2 (by omega) (by omega)) hR
  obtain ⟨c', -, hc, rfl⟩ := wi_t cc (by omega) (by omega)
  clear cc
  have main : ∀ fi ti, fi ≤ s 0 0 → f = nI fi - 1 → ti ≤ 4 → t = nI ti - 1 → At mX12_cell T0 46 [.ref 106, .int (nI c'), .int f, .int t, .null, .null] [] h 0 0 (ZM mX12_cell (RM (fCell s (nI c') f t) h)) := by
    intro fi ti hf ef ht et
    have o1 : opt1 f fi := by
      rcases Nat.eq_zero_or_pos fi with q | q
      · subst q; exact Or.inl ⟨rfl, by rw [ef]; decide⟩
      · obtain ⟨j, rfl⟩ : ∃ j, fi = j + 1 := ⟨fi - 1, by omega⟩
        exact Or.inr ⟨j, by omega, rfl, by rw [ef, nI_pred]⟩
    have o2 : opt1 t ti := by
      rcases Nat.eq_zero_or_pos ti with q | q
      · subst q; exact Or.inl ⟨rfl, by rw [et]; decide⟩
      · obtain ⟨j, rfl⟩ : ∃ j, ti = j + 1 := ⟨ti - 1, by omega⟩
        exact Or.inr ⟨j, by omega, rfl, by rw [et, nI_pred]⟩
    refine at_iconst 47 (nI 0) dX12_cell_46 rfl (by decide) ?_
    refine at_istore (L' := [_, _, _, _, _, _]) 49 dX12_cell_47 rfl (by decide) rfl rfl ?_
    refine at_iconst 50 (nI 0) dX12_cell_49 rfl (by decide) ?_
    refine at_istore (L' := [_, _, _, _, _, _]) 52 dX12_cell_50 rfl (by decide) rfl rfl ?_
    have loop : ∀ (d i : Nat), i + d = 32 → At mX12_cell T0 52 [.ref 106, .int (nI c'), .int f, .int t, .int (nI (gramsN lw c' fi ti i)), .int (nI i)] [] h 0 0 (ZM mX12_cell (RM (fCell s (nI c') f t) h)) := by
      intro d
      induction d with
      | zero =>
        intro i hi
        have : i = 32 := by omega
        subst this
        refine at_iload 54 dX12_cell_52 rfl rfl ?_
        refine at_bipush 56 (nI 32) dX12_cell_54 rfl (by decide) ?_
        refine at_icmp_geN 112 59 dX12_cell_56 rfl rfl (by omega) (by omega) (fun cc => ?_) (fun cc => ?_)
        rotate_left
        · omega
        refine at_iload 114 dX12_cell_112 rfl rfl ?_
        refine at_iret dX12_cell_114 rfl (by decide) (by decide) ?_
        refine rm_yes ⟨c', fi, ti, by omega, rfl, hf, ef, ht, et, by omega⟩ ?_ hR Fr.rf
        rw [ef, et, tn_nI (by omega), tn_nI1 (by omega), tn_nI1 (by omega)]
        congr 1
        exact sm_congr (fun i hi => by rw [e114 _ (by omega)])
      | succ d ih =>
        intro i hi
        have ad : ∀ v, v = (if (fi = 0 ∨ fi = i / 4 + 1) ∧ (ti = 0 ∨ ti = i % 4 + 1) then lw (32 * c' + i) else 0) → At mX12_cell T0 103 [.ref 106, .int (nI c'), .int f, .int t, .int (nI (gramsN lw c' fi ti i)), .int (nI i)] [.int (nI v), .int (nI (gramsN lw c' fi ti i))] h 0 0 (ZM mX12_cell (RM (fCell s (nI c') f t) h)) := by
          intro v hv
          have hgs : gramsN lw c' fi ti (i + 1) = gramsN lw c' fi ti i + v := by rw [hv]; rfl
          first | refine at_iaddN 104 dX12_cell_103 rfl ?_ | refine at_iadd 104 dX12_cell_103 rfl ?_
          refine at_istore (L' := [_, _, _, _, _, _]) 106 dX12_cell_104 rfl (by decide) rfl rfl ?_
          refine at_iincN (q := 1) (L' := [_, _, _, _, _, _]) 109 dX12_cell_106 rfl (by decide) rfl (by decide) rfl rfl ?_
          refine at_goto 52 dX12_cell_109 rfl ?_
          rw [← hgs]
          exact ih (i + 1) (by omega)
        have m1 := opt1_m o1
        have m2 := opt1_m o2
        have no2 : (fi = 0 ∨ fi = i / 4 + 1) → At mX12_cell T0 74 [.ref 106, .int (nI c'), .int f, .int t, .int (nI (gramsN lw c' fi ti i)), .int (nI i)] [.int (nI (gramsN lw c' fi ti i))] h 0 0 (ZM mX12_cell (RM (fCell s (nI c') f t) h)) := by
          intro hfi
          refine at_iload_n 75 dX12_cell_74 rfl rfl rfl ?_
          refine at_iconst 76 (-1) dX12_cell_75 rfl (by decide) ?_
          refine at_icmp_eq 87 79 dX12_cell_76 rfl rfl (fun cc => ?_) (fun cc => ?_)
          · refine at_aload_n 88 dX12_cell_87 rfl rfl rfl ?_
            refine at_g 91 dX12_cell_88 rfl fl_X12_44 ⟨_, by assumption, ?_⟩
            refine ⟨_, rfl, ?_⟩
            refine at_bipush 93 (nI 32) dX12_cell_91 rfl (by decide) ?_
            refine at_iload_n 94 dX12_cell_93 rfl rfl rfl ?_
            first | refine at_imulN 95 dX12_cell_94 rfl ?_ | refine at_imul 95 dX12_cell_94 rfl ?_
            refine at_iload 97 dX12_cell_95 rfl rfl ?_
            first | refine at_iaddN 98 dX12_cell_97 rfl ?_ | refine at_iadd 98 dX12_cell_97 rfl ?_
            first | refine at_ia 99 dX12_cell_98 rfl ⟨_, _, by assumption, by omega, by first | decide | omega, ?_⟩ | refine at_iaG 99 dX12_cell_98 rfl ⟨_, _, by assumption, by omega, by first | decide | omega, ?_⟩
            refine at_goto 103 dX12_cell_99 rfl ?_
            exact ad _ (by rw [if_pos ⟨hfi, Or.inl (m2.mp cc)⟩])
          have c1 := cc
          have n2 := opt1_n o2 (j := i % 4) (by omega) c1
          refine at_iload 81 dX12_cell_79 rfl rfl ?_
          refine at_iconst 82 (nI 4) dX12_cell_81 rfl (by decide) ?_
          refine at_iremN 83 dX12_cell_82 rfl (by omega) (by omega) (by omega) ?_
          refine at_iload_n 84 dX12_cell_83 rfl rfl rfl ?_
          refine at_icmp_ne 102 87 dX12_cell_84 rfl rfl (fun cc => ?_) (fun cc => ?_)
          · refine at_iconst 103 (nI 0) dX12_cell_102 rfl (by decide) ?_
            exact ad 0 (by rw [if_neg (fun q => q.2.elim (fun q => c1 (m2.mpr q)) (fun q => cc (n2.mpr q).symm))])
          · refine at_aload_n 88 dX12_cell_87 rfl rfl rfl ?_
            refine at_g 91 dX12_cell_88 rfl fl_X12_44 ⟨_, by assumption, ?_⟩
            refine ⟨_, rfl, ?_⟩
            refine at_bipush 93 (nI 32) dX12_cell_91 rfl (by decide) ?_
            refine at_iload_n 94 dX12_cell_93 rfl rfl rfl ?_
            first | refine at_imulN 95 dX12_cell_94 rfl ?_ | refine at_imul 95 dX12_cell_94 rfl ?_
            refine at_iload 97 dX12_cell_95 rfl rfl ?_
            first | refine at_iaddN 98 dX12_cell_97 rfl ?_ | refine at_iadd 98 dX12_cell_97 rfl ?_
            first | refine at_ia 99 dX12_cell_98 rfl ⟨_, _, by assumption, by omega, by first | decide | omega, ?_⟩ | refine at_iaG 99 dX12_cell_98 rfl ⟨_, _, by assumption, by omega, by first | decide | omega, ?_⟩
            refine at_goto 103 dX12_cell_99 rfl ?_
            exact ad _ (by rw [if_pos ⟨hfi, Or.inr (n2.mp cc.symm)⟩])
        refine at_iload 54 dX12_cell_52 rfl rfl ?_
        refine at_bipush 56 (nI 32) dX12_cell_54 rfl (by decide) ?_
        refine at_icmp_geN 112 59 dX12_cell_56 rfl rfl (by omega) (by omega) (fun cc => ?_) (fun cc => ?_)
        · omega
        refine at_iload 61 dX12_cell_59 rfl rfl ?_
        refine at_iload_n 62 dX12_cell_61 rfl rfl rfl ?_
        refine at_iconst 63 (-1) dX12_cell_62 rfl (by decide) ?_
        refine at_icmp_eq 74 66 dX12_cell_63 rfl rfl (fun cc => ?_) (fun cc => ?_)
        · exact no2 (Or.inl (m1.mp cc))
        have c0 := cc
        have n1 := opt1_n o1 (j := i / 4) (by omega) c0
        refine at_iload 68 dX12_cell_66 rfl rfl ?_
        refine at_iconst 69 (nI 4) dX12_cell_68 rfl (by decide) ?_
        refine at_idivN 70 dX12_cell_69 rfl (by omega) (by omega) (by omega) ?_
        refine at_iload_n 71 dX12_cell_70 rfl rfl rfl ?_
        refine at_icmp_ne 102 74 dX12_cell_71 rfl rfl (fun cc => ?_) (fun cc => ?_)
        · refine at_iconst 103 (nI 0) dX12_cell_102 rfl (by decide) ?_
          exact ad 0 (by rw [if_neg (fun q => q.1.elim (fun q => c0 (m1.mpr q)) (fun q => cc (n1.mpr q).symm))])
        · exact no2 (Or.inr (n1.mp cc.symm))
    exact loop 32 0 (by omega)
  have mid : ∀ fi, fi ≤ s 0 0 → f = nI fi - 1 → At mX12_cell T0 34 [.ref 106, .int (nI c'), .int f, .int t, .null, .null] [] h 0 0 (ZM mX12_cell (RM (fCell s (nI c') f t) h)) := by
    intro fi hf ef
    refine at_iload_n 35 dX12_cell_34 rfl rfl rfl ?_
    refine at_iconst 36 (-1) dX12_cell_35 rfl (by decide) ?_
    refine at_iconst 37 (nI 3) dX12_cell_36 rfl (by decide) ?_
    refine at_invS 40 [_, _, _] _ (c_in t (-1) (nI 3)) dX12_cell_37 rfl rfl ml_X12_111 cl_X12_in sv_X12_in rfl (Nat.le_of_ble_eq_true rfl) ⟨by decide, by decide⟩ (by decide) (fun rr hh qq => ?_)
    obtain ⟨rfl, hq2⟩ := qq; rw [hq2]; clear hq2 hh
    have hwt : wi t (-1) (nI 3) = true ↔ ∃ ti, ti ≤ 4 ∧ t = nI ti - 1 := by
      unfold wi
      rw [decide_eq_true_iff]
      constructor
      · rintro ⟨q1, q2⟩
        by_cases ht0 : t < 0
        · refine ⟨0, by omega, ?_⟩
          rw [Int32.lt_iff_toInt_lt] at ht0
          rw [Int32.le_iff_toInt_le] at q1
          apply Int32.toInt_inj.mp
          have e1 : (-1 : Int32).toInt = -1 := by decide
          have e2 : (0 : Int32).toInt = 0 := by decide
          have e3 : (nI 0 - 1).toInt = -1 := by decide
          omega
        · obtain ⟨j, hj, rfl⟩ := nI_of ht0
          have := (nI_leI hj (by decide)).mp q2
          exact ⟨j + 1, by omega, by rw [nI_pred]⟩
      · rintro ⟨ti, h1, h2⟩
        rw [h2]
        rcases (by omega : ti = 0 ∨ ti = 1 ∨ ti = 2 ∨ ti = 3 ∨ ti = 4) with rfl | rfl | rfl | rfl | rfl <;> decide
    refine at_if_neB 46 43 dX12_cell_40 rfl rfl (fun cc => ?_) (fun cc => ?_)
    · obtain ⟨ti, h1, h2⟩ := hwt.mp cc
      exact main fi ti hf ef h1 h2
    · refine at_ldc 45 (-1000000000) dX12_cell_43 rfl cn_X12_118 ?_
      refine at_iret dX12_cell_45 rfl (by decide) (by decide) ?_
      refine rm_no (fun ⟨c', fi, ti, q1, q2, q3, q4, q5, q6, q7⟩ => ?_) hR
      rw [hwt.mpr ⟨ti, q5, q6⟩] at cc
      cases cc
  refine at_iload_n 22 dX12_cell_21 rfl rfl rfl ?_
  refine at_iconst 23 (-1) dX12_cell_22 rfl (by decide) ?_
  refine at_icmp_eq 34 26 dX12_cell_23 rfl rfl (fun cc => ?_) (fun cc => ?_)
  · exact mid 0 (by omega) (by rw [cc]; decide)
  have c1 := cc
  refine at_aload_n 27 dX12_cell_26 rfl rfl rfl ?_
  refine at_iload_n 28 dX12_cell_27 rfl rfl rfl ?_
  refine at_invV (ci := 12) 31 [_] _ (c_isFeed f m0 (by omega)) dX12_cell_28 rfl rfl (by assumption) rfl ml_X12_119 cl_X12_isFeed vl_X12_isFeed rfl (Nat.le_of_ble_eq_true rfl) ⟨by decide, by decide⟩ (by decide) (fun rr hh qq => ?_)
  obtain ⟨rfl, hq2⟩ := qq; rw [hq2]; clear hq2 hh
  refine at_if_eqB 43 34 dX12_cell_31 rfl rfl (fun cc => ?_) (fun cc => ?_)
  · refine at_ldc 45 (-1000000000) dX12_cell_43 rfl cn_X12_118 ?_
    refine at_iret dX12_cell_45 rfl (by decide) (by decide) ?_
    refine rm_no (fun ⟨c', fi, ti, q1, q2, q3, q4, q5, q6, q7⟩ => ?_) hR
    rcases Nat.eq_zero_or_pos fi with q | q
    · subst q; exact c1 (by rw [q4]; decide)
    · obtain ⟨j, rfl⟩ : ∃ j, fi = j + 1 := ⟨fi - 1, by omega⟩
      rw [nI_pred] at q4
      exact has_f cc (by omega) ⟨j, by omega, q4⟩
  · obtain ⟨f', hf, e⟩ := has_t cc (by omega)
    exact mid (f' + 1) (by omega) (by rw [nI_pred]; exact e)
theorem c_isSureM {s : St} {h : List PC} {c kb : Nat} {mk db le mo sh : Nat → Nat} (m0 : h[106]? = some (oM s)) (f107 : h[107]? = some (aI 32 mk)) (f109 : h[109]? = some (aI 8 db)) (f119 : h[119]? = some (aI 24 le)) (f120 : h[120]? = some (aI 24 mo)) (hB : h[kb]? = some (aI 8 sh)) (hc : c < 6) (hn : s 0 0 ≤ 8) (hsb : ∀ f, f < 8 → sh f ≤ 1000) (hmb : ∀ i, i < 32 → mk i ≤ 1000) (hdb : ∀ f, f < 8 → db f ≤ 100) (hlb : ∀ i, i < 24 → le i ≤ 1000) (hob : ∀ i, i < 24 → mo i ≤ 1000) : Ct mX12_isSure [.ref 106, .int (nI c), .ref kb] h (fun r h' => r = some (.int (bI (sureB le mo mk db sh (s 0 0) c))) ∧ h' = h) := by
  refine ct_at (L := [_, _, _, _, _, _, _, _]) (by decide +kernel) rfl rfl (Nat.le_of_ble_eq_true rfl) ?_
  refine at_iconst 1 (nI 0) dX12_isSure_0 rfl (by decide) ?_
  refine at_istore_n (L' := [_, _, _, _, _, _, _, _]) 2 dX12_isSure_1 rfl rfl (by decide) rfl rfl ?_
  have outer : ∀ (d t : Nat), t + d = 4 → (∀ j, j < t → le (4 * c + j) * 1000 ≤ lowS mk db sh (s 0 0) j ∧ highS mk db sh (s 0 0) j ≤ mo (4 * c + j) * 1000) → At mX12_isSure T0 2 [.ref 106, .int (nI c), .ref kb, .int (nI t), .null, .null, .null, .null] [] h 0 0 (ZM mX12_isSure (fun r h' => r = some (.int (bI (sureB le mo mk db sh (s 0 0) c))) ∧ h' = h)) := by
    intro d
    induction d with
    | zero =>
      intro t hd hok
      refine at_iload_n 3 dX12_isSure_2 rfl rfl rfl ?_
      refine at_iconst 4 (nI 4) dX12_isSure_3 rfl (by decide) ?_
      refine at_icmp_geN 168 7 dX12_isSure_4 rfl rfl (by omega) (by omega) (fun cc => ?_) (fun cc => ?_)
      rotate_left
      · omega
      refine at_iconst 169 (nI 1) dX12_isSure_168 rfl (by decide) ?_
      refine at_zret dX12_isSure_169 rfl (by first | rfl | decide) (by decide) (by decide) ?_
      exact ⟨bI_T (allB_iff.mpr (fun j hj => decide_eq_true (hok j (by omega)))), rfl⟩
    | succ d ih =>
      intro t hd hok
      have hlc := hlb (4 * c + t) (by omega)
      have hmc := hob (4 * c + t) (by omega)
      refine at_iload_n 3 dX12_isSure_2 rfl rfl rfl ?_
      refine at_iconst 4 (nI 4) dX12_isSure_3 rfl (by decide) ?_
      refine at_icmp_geN 168 7 dX12_isSure_4 rfl rfl (by omega) (by omega) (fun cc => ?_) (fun cc => ?_)
      · omega
      refine at_iconst 8 (nI 0) dX12_isSure_7 rfl (by decide) ?_
      refine at_istore (L' := [_, _, _, _, _, _, _, _]) 10 dX12_isSure_8 rfl (by decide) rfl rfl ?_
      refine at_iconst 11 (nI 0) dX12_isSure_10 rfl (by decide) ?_
      refine at_istore (L' := [_, _, _, _, _, _, _, _]) 13 dX12_isSure_11 rfl (by decide) rfl rfl ?_
      refine at_iconst 14 (nI 0) dX12_isSure_13 rfl (by decide) ?_
      refine at_istore (L' := [_, _, _, _, _, _, _, _]) 16 dX12_isSure_14 rfl (by decide) rfl rfl ?_
      have inner : ∀ (e f : Nat), f + e = s 0 0 → At mX12_isSure T0 16 [.ref 106, .int (nI c), .ref kb, .int (nI t), .int (nI (lowS mk db sh f t)), .int (nI (highS mk db sh f t)), .int (nI f), .null] [] h 0 0 (ZM mX12_isSure (fun r h' => r = some (.int (bI (sureB le mo mk db sh (s 0 0) c))) ∧ h' = h)) := by
        intro e
        induction e with
        | zero =>
          intro f hf
          have : f = s 0 0 := by omega
          subst this
          have hl1 := lowS_b (db := db) (n := s 0 0) hn hsb hmb (by omega : t < 4) (Nat.le_refl _)
          have hh1 := highS_b (mk := mk) (db := db) (n := s 0 0) (t := t) hn hsb (Nat.le_refl _)
          have no : ¬ (le (4 * c + t) * 1000 ≤ lowS mk db sh (s 0 0) t ∧ highS mk db sh (s 0 0) t ≤ mo (4 * c + t) * 1000) → At mX12_isSure T0 160 [.ref 106, .int (nI c), .ref kb, .int (nI t), .int (nI (lowS mk db sh (s 0 0) t)), .int (nI (highS mk db sh (s 0 0) t)), .int (nI (s 0 0)), .null] [] h 0 0 (ZM mX12_isSure (fun r h' => r = some (.int (bI (sureB le mo mk db sh (s 0 0) c))) ∧ h' = h)) := by
            intro hno
            refine at_iconst 161 (nI 0) dX12_isSure_160 rfl (by decide) ?_
            refine at_zret dX12_isSure_161 rfl (by first | rfl | decide) (by decide) (by decide) ?_
            exact ⟨bI_F (fun q => hno (of_decide_eq_true (allB_iff.mp q t (by omega)))), rfl⟩
          refine at_iload 18 dX12_isSure_16 rfl rfl ?_
          refine at_aload_n 19 dX12_isSure_18 rfl rfl rfl ?_
          refine at_g 22 dX12_isSure_19 rfl fl_X12_108 ⟨_, by assumption, ?_⟩
          refine ⟨_, rfl, ?_⟩
          refine at_icmp_geN 122 25 dX12_isSure_22 rfl rfl (by omega) (by omega) (fun cc => ?_) (fun cc => ?_)
          rotate_left
          · omega
          refine at_iload 124 dX12_isSure_122 rfl rfl ?_
          refine at_sipush 127 (nI 1000) dX12_isSure_124 rfl (by decide) ?_
          refine at_aload_n 128 dX12_isSure_127 rfl rfl rfl ?_
          refine at_g 131 dX12_isSure_128 rfl fl_X12_59 ⟨_, by assumption, ?_⟩
          refine ⟨_, rfl, ?_⟩
          refine at_iconst 132 (nI 4) dX12_isSure_131 rfl (by decide) ?_
          refine at_iload_n 133 dX12_isSure_132 rfl rfl rfl ?_
          first | refine at_imulN 134 dX12_isSure_133 rfl ?_ | refine at_imul 134 dX12_isSure_133 rfl ?_
          refine at_iload_n 135 dX12_isSure_134 rfl rfl rfl ?_
          first | refine at_iaddN 136 dX12_isSure_135 rfl ?_ | refine at_iadd 136 dX12_isSure_135 rfl ?_
          first | refine at_ia 137 dX12_isSure_136 rfl ⟨_, _, by assumption, by omega, by first | decide | omega, ?_⟩ | refine at_iaG 137 dX12_isSure_136 rfl ⟨_, _, by assumption, by omega, by first | decide | omega, ?_⟩
          first | refine at_imulN 138 dX12_isSure_137 rfl ?_ | refine at_imul 138 dX12_isSure_137 rfl ?_
          refine at_icmp_ltN 160 141 dX12_isSure_138 rfl rfl (by omega) (by omega) (fun cc => ?_) (fun cc => ?_)
          · exact no (by omega)
          have c1 := cc
          refine at_iload 143 dX12_isSure_141 rfl rfl ?_
          refine at_sipush 146 (nI 1000) dX12_isSure_143 rfl (by decide) ?_
          refine at_aload_n 147 dX12_isSure_146 rfl rfl rfl ?_
          refine at_g 150 dX12_isSure_147 rfl fl_X12_62 ⟨_, by assumption, ?_⟩
          refine ⟨_, rfl, ?_⟩
          refine at_iconst 151 (nI 4) dX12_isSure_150 rfl (by decide) ?_
          refine at_iload_n 152 dX12_isSure_151 rfl rfl rfl ?_
          first | refine at_imulN 153 dX12_isSure_152 rfl ?_ | refine at_imul 153 dX12_isSure_152 rfl ?_
          refine at_iload_n 154 dX12_isSure_153 rfl rfl rfl ?_
          first | refine at_iaddN 155 dX12_isSure_154 rfl ?_ | refine at_iadd 155 dX12_isSure_154 rfl ?_
          first | refine at_ia 156 dX12_isSure_155 rfl ⟨_, _, by assumption, by omega, by first | decide | omega, ?_⟩ | refine at_iaG 156 dX12_isSure_155 rfl ⟨_, _, by assumption, by omega, by first | decide | omega, ?_⟩
          first | refine at_imulN 157 dX12_isSure_156 rfl ?_ | refine at_imul 157 dX12_isSure_156 rfl ?_
          refine at_icmp_leN 162 160 dX12_isSure_157 rfl rfl (by omega) (by omega) (fun cc => ?_) (fun cc => ?_)
          rotate_left
          · exact no (by omega)
          refine at_iincN (q := 1) (L' := [_, _, _, _, _, _, _, _]) 165 dX12_isSure_162 rfl (by decide) rfl (by decide) rfl rfl ?_
          refine at_goto 2 dX12_isSure_165 rfl ?_
          refine at_drop (L' := [_, _, _, _, _, _, _, _]) 4 rfl ?_
          refine at_drop (L' := [_, _, _, _, _, _, _, _]) 5 rfl ?_
          refine at_drop (L' := [_, _, _, _, _, _, _, _]) 6 rfl ?_
          refine ih (t + 1) (by omega) (fun j hj => ?_)
          by_cases q : j = t
          · subst q; omega
          · exact hok j (by omega)
        | succ e ih2 =>
          intro f hf
          have hv := hmb (4 * f + t) (by omega)
          have hd1 := hdb f (by omega)
          have fin : ∀ hi, hi = capK (mk (4 * f + t) + db f) → At mX12_isSure T0 112 [.ref 106, .int (nI c), .ref kb, .int (nI t), .int (nI (lowS mk db sh (f + 1) t)), .int (nI (highS mk db sh f t)), .int (nI f), .int (nI (mk (4 * f + t)))] [.int (nI hi), .int (nI (sh f)), .int (nI (highS mk db sh f t))] h 0 0 (ZM mX12_isSure (fun r h' => r = some (.int (bI (sureB le mo mk db sh (s 0 0) c))) ∧ h' = h)) := by
            intro hi hhi
            have e2 : highS mk db sh (f + 1) t = highS mk db sh f t + sh f * hi := by rw [hhi]; rfl
            first | refine at_imulN 113 dX12_isSure_112 rfl ?_ | refine at_imul 113 dX12_isSure_112 rfl ?_
            first | refine at_iaddN 114 dX12_isSure_113 rfl ?_ | refine at_iadd 114 dX12_isSure_113 rfl ?_
            refine at_istore (L' := [_, _, _, _, _, _, _, _]) 116 dX12_isSure_114 rfl (by decide) rfl rfl ?_
            refine at_iincN (q := 1) (L' := [_, _, _, _, _, _, _, _]) 119 dX12_isSure_116 rfl (by decide) rfl (by decide) rfl rfl ?_
            refine at_goto 16 dX12_isSure_119 rfl ?_
            refine at_drop (L' := [_, _, _, _, _, _, _, _]) 7 rfl ?_
            rw [← e2]
            exact ih2 (f + 1) (by omega)
          have mid : ∀ lo, lo = mk (4 * f + t) - db f → At mX12_isSure T0 70 [.ref 106, .int (nI c), .ref kb, .int (nI t), .int (nI (lowS mk db sh f t)), .int (nI (highS mk db sh f t)), .int (nI f), .int (nI (mk (4 * f + t)))] [.int (nI lo), .int (nI (sh f)), .int (nI (lowS mk db sh f t))] h 0 0 (ZM mX12_isSure (fun r h' => r = some (.int (bI (sureB le mo mk db sh (s 0 0) c))) ∧ h' = h)) := by
            intro lo hlo
            have e2 : lowS mk db sh (f + 1) t = lowS mk db sh f t + sh f * lo := by rw [hlo]; rfl
            first | refine at_imulN 71 dX12_isSure_70 rfl ?_ | refine at_imul 71 dX12_isSure_70 rfl ?_
            first | refine at_iaddN 72 dX12_isSure_71 rfl ?_ | refine at_iadd 72 dX12_isSure_71 rfl ?_
            refine at_istore (L' := [_, _, _, _, _, _, _, _]) 74 dX12_isSure_72 rfl (by decide) rfl rfl ?_
            refine at_iload 76 dX12_isSure_74 rfl rfl ?_
            refine at_aload_n 77 dX12_isSure_76 rfl rfl rfl ?_
            refine at_iload 79 dX12_isSure_77 rfl rfl ?_
            first | refine at_ia 80 dX12_isSure_79 rfl ⟨_, _, by assumption, by omega, by first | decide | omega, ?_⟩ | refine at_iaG 80 dX12_isSure_79 rfl ⟨_, _, by assumption, by omega, by first | decide | omega, ?_⟩
            refine at_iload 82 dX12_isSure_80 rfl rfl ?_
            refine at_aload_n 83 dX12_isSure_82 rfl rfl rfl ?_
            refine at_g 86 dX12_isSure_83 rfl fl_X12_16 ⟨_, by assumption, ?_⟩
            refine ⟨_, rfl, ?_⟩
            refine at_iload 88 dX12_isSure_86 rfl rfl ?_
            first | refine at_ia 89 dX12_isSure_88 rfl ⟨_, _, by assumption, by omega, by first | decide | omega, ?_⟩ | refine at_iaG 89 dX12_isSure_88 rfl ⟨_, _, by assumption, by omega, by first | decide | omega, ?_⟩
            first | refine at_iaddN 90 dX12_isSure_89 rfl ?_ | refine at_iadd 90 dX12_isSure_89 rfl ?_
            refine at_sipush 93 (nI 1000) dX12_isSure_90 rfl (by decide) ?_
            rw [← e2]
            refine at_icmp_leN 102 96 dX12_isSure_93 rfl rfl (by omega) (by omega) (fun cc => ?_) (fun cc => ?_)
            · refine at_iload 104 dX12_isSure_102 rfl rfl ?_
              refine at_aload_n 105 dX12_isSure_104 rfl rfl rfl ?_
              refine at_g 108 dX12_isSure_105 rfl fl_X12_16 ⟨_, by assumption, ?_⟩
              refine ⟨_, rfl, ?_⟩
              refine at_iload 110 dX12_isSure_108 rfl rfl ?_
              first | refine at_ia 111 dX12_isSure_110 rfl ⟨_, _, by assumption, by omega, by first | decide | omega, ?_⟩ | refine at_iaG 111 dX12_isSure_110 rfl ⟨_, _, by assumption, by omega, by first | decide | omega, ?_⟩
              first | refine at_iaddN 112 dX12_isSure_111 rfl ?_ | refine at_iadd 112 dX12_isSure_111 rfl ?_
              exact fin _ (by unfold capK; rw [if_neg (by omega)])
            · refine at_sipush 99 (nI 1000) dX12_isSure_96 rfl (by decide) ?_
              refine at_goto 112 dX12_isSure_99 rfl ?_
              exact fin _ (by unfold capK; rw [if_pos cc])
          refine at_iload 18 dX12_isSure_16 rfl rfl ?_
          refine at_aload_n 19 dX12_isSure_18 rfl rfl rfl ?_
          refine at_g 22 dX12_isSure_19 rfl fl_X12_108 ⟨_, by assumption, ?_⟩
          refine ⟨_, rfl, ?_⟩
          refine at_icmp_geN 122 25 dX12_isSure_22 rfl rfl (by omega) (by omega) (fun cc => ?_) (fun cc => ?_)
          · omega
          refine at_aload_n 26 dX12_isSure_25 rfl rfl rfl ?_
          refine at_g 29 dX12_isSure_26 rfl fl_X12_7 ⟨_, by assumption, ?_⟩
          refine ⟨_, rfl, ?_⟩
          refine at_iconst 30 (nI 4) dX12_isSure_29 rfl (by decide) ?_
          refine at_iload 32 dX12_isSure_30 rfl rfl ?_
          first | refine at_imulN 33 dX12_isSure_32 rfl ?_ | refine at_imul 33 dX12_isSure_32 rfl ?_
          refine at_iload_n 34 dX12_isSure_33 rfl rfl rfl ?_
          first | refine at_iaddN 35 dX12_isSure_34 rfl ?_ | refine at_iadd 35 dX12_isSure_34 rfl ?_
          first | refine at_ia 36 dX12_isSure_35 rfl ⟨_, _, by assumption, by omega, by first | decide | omega, ?_⟩ | refine at_iaG 36 dX12_isSure_35 rfl ⟨_, _, by assumption, by omega, by first | decide | omega, ?_⟩
          refine at_istore (L' := [_, _, _, _, _, _, _, _]) 38 dX12_isSure_36 rfl (by decide) rfl rfl ?_
          refine at_iload 40 dX12_isSure_38 rfl rfl ?_
          refine at_aload_n 41 dX12_isSure_40 rfl rfl rfl ?_
          refine at_iload 43 dX12_isSure_41 rfl rfl ?_
          first | refine at_ia 44 dX12_isSure_43 rfl ⟨_, _, by assumption, by omega, by first | decide | omega, ?_⟩ | refine at_iaG 44 dX12_isSure_43 rfl ⟨_, _, by assumption, by omega, by first | decide | omega, ?_⟩
          refine at_iload 46 dX12_isSure_44 rfl rfl ?_
          refine at_aload_n 47 dX12_isSure_46 rfl rfl rfl ?_
          refine at_g 50 dX12_isSure_47 rfl fl_X12_16 ⟨_, by assumption, ?_⟩
          refine ⟨_, rfl, ?_⟩
          refine at_iload 52 dX12_isSure_50 rfl rfl ?_
          first | refine at_ia 53 dX12_isSure_52 rfl ⟨_, _, by assumption, by omega, by first | decide | omega, ?_⟩ | refine at_iaG 53 dX12_isSure_52 rfl ⟨_, _, by assumption, by omega, by first | decide | omega, ?_⟩
          refine at_icmp_geN 60 56 dX12_isSure_53 rfl rfl (by omega) (by omega) (fun cc => ?_) (fun cc => ?_)
          · refine at_iload 62 dX12_isSure_60 rfl rfl ?_
            refine at_aload_n 63 dX12_isSure_62 rfl rfl rfl ?_
            refine at_g 66 dX12_isSure_63 rfl fl_X12_16 ⟨_, by assumption, ?_⟩
            refine ⟨_, rfl, ?_⟩
            refine at_iload 68 dX12_isSure_66 rfl rfl ?_
            first | refine at_ia 69 dX12_isSure_68 rfl ⟨_, _, by assumption, by omega, by first | decide | omega, ?_⟩ | refine at_iaG 69 dX12_isSure_68 rfl ⟨_, _, by assumption, by omega, by first | decide | omega, ?_⟩
            first | refine at_isubN 70 dX12_isSure_69 rfl (by omega) ?_ | refine at_isub 70 dX12_isSure_69 rfl ?_
            exact mid _ rfl
          · refine at_iconst 57 (nI 0) dX12_isSure_56 rfl (by decide) ?_
            refine at_goto 70 dX12_isSure_57 rfl ?_
            exact mid 0 (by omega)
      exact inner (s 0 0) 0 (by omega)
  exact outer 4 0 (by omega) (fun j hj => by omega)
theorem sureB_cg {le le' mo mo' mk mk' db db' sh sh' : Nat → Nat} {n c : Nat} (hc : c < 6) (hn : n ≤ 8) (h1 : ∀ i, i < 24 → le i = le' i) (h2 : ∀ i, i < 24 → mo i = mo' i) (h3 : ∀ i, i < 32 → mk i = mk' i) (h4 : ∀ f, f < 8 → db f = db' f) (h5 : ∀ f, f < n → sh f = sh' f) : sureB le mo mk db sh n c = sureB le' mo' mk' db' sh' n c := by
  unfold sureB
  refine allB_congr (fun t ht => ?_)
  have e1 : lowS mk db sh n t = lowS mk' db' sh' n t := sm_congr (fun f hf => by rw [h3 _ (by omega), h4 f (by omega), h5 f hf])
  have e2 : highS mk db sh n t = highS mk' db' sh' n t := sm_congr (fun f hf => by rw [h3 _ (by omega), h4 f (by omega), h5 f hf])
  rw [e1, e2, h1 _ (by omega), h2 _ (by omega)]
theorem m_sure {s : St} {h : List PC} (hI : Inv s) (hR : RepM s h) (c : Int32) : Ct mX12_sure [.ref 106, .int c] h (RM (fSure s c) h) := by
  obtain ⟨m0, mF, mL, mC, mH, mR, mS⟩ := id hR; obtain ⟨⟨i0, i1, i2, i3, i4, i5, i6, i7, i8, i9, i10, i11⟩, k1, k2, k3, k4, k5, k5z, k5s, k6, k6z, k7, k7s, k8s, k8z, k9, k10, k11, k11z, k50, k15, k16⟩ := id hI; obtain ⟨⟨mk, f107, e107⟩, ⟨kd, f108, e108⟩, ⟨db, f109, e109⟩, ⟨pr, f110, e110⟩, ⟨st, f111, e111⟩, ⟨tc, f112, e112⟩, ⟨sh, f113, e113⟩⟩ := id mF; obtain ⟨⟨le, f119, e119⟩, ⟨mo, f120, e120⟩, ⟨ch, f121, e121⟩⟩ := id mC
  refine ct_at (L := [_, _]) (by decide +kernel) rfl rfl (Nat.le_of_ble_eq_true rfl) ?_
  refine at_aload_n 1 dX12_sure_0 rfl rfl rfl ?_
  refine at_iload_n 2 dX12_sure_1 rfl rfl rfl ?_
  refine at_invV (ci := 12) 5 [_] _ (c_isColour c m0 (by omega)) dX12_sure_2 rfl rfl (by assumption) rfl ml_X12_152 cl_X12_isColour vl_X12_isColour rfl (Nat.le_of_ble_eq_true rfl) ⟨by decide, by decide⟩ (by decide) (fun rr hh qq => ?_)
  obtain ⟨rfl, hq2⟩ := qq; rw [hq2]; clear hq2 hh
  refine at_if_eqB 35 8 dX12_sure_5 rfl rfl (fun cc => ?_) (fun cc => ?_)
  · refine at_ldc 37 (-1000000000) dX12_sure_35 rfl cn_X12_118 ?_
    refine at_iret dX12_sure_37 rfl (by decide) (by decide) ?_
    exact rm_no (fun ⟨c', q1, q2, q3⟩ => has_f cc (by omega) ⟨c', q1, q2⟩) hR
  obtain ⟨c', hc, rfl⟩ := has_t cc (by omega)
  clear cc
  refine at_aload_n 9 dX12_sure_8 rfl rfl rfl ?_
  refine at_g 12 dX12_sure_9 rfl fl_X12_124 ⟨_, by assumption, ?_⟩
  refine ⟨_, rfl, ?_⟩
  refine at_if_eqN 35 15 dX12_sure_12 rfl rfl (by omega) (fun cc => ?_) (fun cc => ?_)
  · refine at_ldc 37 (-1000000000) dX12_sure_35 rfl cn_X12_118 ?_
    refine at_iret dX12_sure_37 rfl (by decide) (by decide) ?_
    exact rm_no (fun ⟨c', q1, q2, q3⟩ => by omega) hR
  refine at_aload_n 16 dX12_sure_15 rfl rfl rfl ?_
  refine at_iload_n 17 dX12_sure_16 rfl rfl rfl ?_
  refine at_aload_n 18 dX12_sure_17 rfl rfl rfl ?_
  refine at_g 21 dX12_sure_18 rfl fl_X12_28 ⟨_, by assumption, ?_⟩
  refine ⟨_, rfl, ?_⟩
  refine at_invV (ci := 12) 24 [_, _] _ (c_isSureM (c := c') m0 f107 f109 f119 f120 f113 (by omega) i0 (fun f hf => by rw [e113 f hf]; exact k5 f hf) (fun i hi => by rw [e107 i hi]; exact k7 i hi) (fun f hf => by rw [e109 f hf]; exact k2 f hf) (fun i hi => by rw [e119 i hi]; exact k9 i hi) (fun i hi => by rw [e120 i hi]; exact k10 i hi)) dX12_sure_21 rfl rfl (by assumption) rfl ml_X12_155 cl_X12_isSure vl_X12_isSure rfl (Nat.le_of_ble_eq_true rfl) ⟨by decide, by decide⟩ (by decide) (fun rr hh qq => ?_)
  obtain ⟨rfl, hq2⟩ := qq; rw [hq2]; clear hq2 hh
  rw [sureB_cg (by omega) i0 e119 e120 e107 e109 (fun f hf => e113 f (by omega))]
  have ecc := cc
  refine at_if_eqB 31 27 dX12_sure_24 rfl rfl (fun cc => ?_) (fun cc => ?_)
  · refine at_iconst 32 (nI 0) dX12_sure_31 rfl (by decide) ?_
    refine at_goto 37 dX12_sure_32 rfl ?_
    refine at_iret dX12_sure_37 rfl (by decide) (by decide) ?_
    exact rm_yes ⟨c', hc, rfl, by omega⟩ (by rw [tn_nI (by omega), cc]; rfl) hR Fr.rf
  · refine at_iconst 28 (nI 1) dX12_sure_27 rfl (by decide) ?_
    refine at_goto 37 dX12_sure_28 rfl ?_
    refine at_iret dX12_sure_37 rfl (by decide) (by decide) ?_
    exact rm_yes ⟨c', hc, rfl, by omega⟩ (by rw [tn_nI (by omega), cc]; rfl) hR Fr.rf

