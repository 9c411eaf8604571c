/-! ===== the calls of the class: feeds, tank, mixes, colours ===== -/
def RC (f : Int32 × St) (h : List PC) : Option Value → List PC → Prop := fun r h' => r = some (.int f.1) ∧ RepC f.2 h' ∧ Fr (fun j => j < 106) h h'
theorem rc_no {p : Prop} {a : Int32 × St} {s : St} {h : List PC} (hn : ¬ p) (hr : RepC s h) : RC (gx p a (NOi, s)) h (some (.int (-1000000000))) h := by
  rw [gx_f hn]; exact ⟨rfl, hr, Fr.rf⟩
theorem rc_yes {p : Prop} {v w : Int32} {s' : St} {b : Int32 × St} {h h' : List PC} (hp : p) (hv : w = v) (hr : RepC s' h') (hf : Fr (fun j => j < 106) h h') : RC (gx p (v, s') b) h (some (.int w)) h' := by
  rw [gx_t hp, hv]; exact ⟨rfl, hr, hf⟩
theorem Ar.up {h : List PC} {k n i x y : Nat} {w f : Nat → Nat} (e : h[k]? = some (aI n (updN w i x))) (hw : ∀ j, j < n → w j = f j) (hx : x = y) : Ar h k n (updN f i y) := ⟨_, e, fun j hj => by
  unfold updN; by_cases q : j = i
  · rw [if_pos q, if_pos q, hx]
  · rw [if_neg q, if_neg q, hw j hj]⟩
theorem Ar.gt {h : List PC} {k n : Nat} {f : Nat → Nat} (a : Ar h k n f) {P : Nat → Prop} {h' : List PC} (fr : Fr P h h') (hp : ∀ j, k ≤ j → j ≤ k → ¬ P j) : Ar h' k n f := a.fr fr (hp k (Nat.le_refl _) (Nat.le_refl _))
theorem rows_fr {P : Nat → Prop} {h h' : List PC} {b m n : Nat} {F : Nat → Nat → Nat} (a : ∀ f, f < m → Ar h (b + f) n (F f)) (fr : Fr P h h') (hp : ∀ j, b ≤ j → j < b + m → ¬ P j) : ∀ f, f < m → Ar h' (b + f) n (F f) := fun f hf => (a f hf).fr fr (hp _ (by omega) (by omega))
theorem RTank.wd {h : List PC} {md n w p a b : Nat} {L : Nat → Nat} (x : RTank h md n w p L a) (hab : a ≤ b) : RTank h md n w p L b := ⟨x.1, TankA.wd x.2 hab⟩
theorem wi_no {x : Int32} {a b j : Nat} (h : wi x (nI a) (nI b) = false) (hb : b < 2 ^ 31) (e : x = nI j) (h1 : a ≤ j) (h2 : j ≤ b) : False := wi_f h hb ⟨j, h1, h2, e⟩
theorem nI_inj {a b : Nat} (e : nI a = nI b) (ha : a < 2 ^ 31) (hb : b < 2 ^ 31) : a = b := (nI_eq ha hb).mp e
theorem c_stock {s : St} {h : List PC} (hI : Inv s) (hR : RepC s h) (f g : Int32) : Ct mX11_stock [.ref 0, .int f, .int g] h (RC (fStock s f g) h) := by
  obtain ⟨r0, rSh, rF, rM, rC, rS, rT, r55, rG, rL, r68, r69, r73, rY, rR⟩ := id hR; obtain ⟨⟨i0, i1, i2, i3, i4, i5, i6, i7, i8, i9, i10, i11⟩, k1, k2, k3, k4, k5, k5z, k5s, k6, k6z, k7, k7s, k8s, k8z, k9, k10, k11, k11z, k50, k15, k16⟩ := id hI; obtain ⟨f4, ⟨kd, f5, e5⟩, f6, f7, ⟨db, f15, e15⟩, ⟨pr, f16, e16⟩, ⟨st, f17, e17⟩⟩ := id rF
  refine ct_at (L := [_, _, _]) (by decide +kernel) rfl rfl (Nat.le_of_ble_eq_true rfl) ?_
  refine at_aload_n 1 dX11_stock_0 rfl rfl rfl ?_
  refine at_g 4 dX11_stock_1 rfl fl_X11_15 ⟨_, by assumption, ?_⟩
  refine ⟨_, rfl, ?_⟩
  refine at_iload_n 5 dX11_stock_4 rfl rfl rfl ?_
  refine at_invV (ci := 2) 8 [_] _ (c_X2_has f f4) dX11_stock_5 rfl rfl (by assumption) rfl ml_X11_111 cl_X2_has vl_X2_has rfl (Nat.le_of_ble_eq_true rfl) ⟨by decide, by decide⟩ (by decide) (fun rr hh qq => ?_)
  obtain ⟨rfl, hq2⟩ := qq; rw [hq2]; clear hq2 hh
  refine at_if_eqB 31 11 dX11_stock_8 rfl rfl (fun cc => ?_) (fun cc => ?_)
  · refine at_ldc 33 (-1000000000) dX11_stock_31 rfl cn_X11_102 ?_
    refine at_iret dX11_stock_33 rfl (by decide) (by decide) ?_
    exact rc_no (fun ⟨i, j, q1, q2, _⟩ => has_f cc (by omega) ⟨i, q1, q2⟩) hR
  obtain ⟨i, hi, rfl⟩ := has_t cc (by omega)
  clear cc
  refine at_iload_n 12 dX11_stock_11 rfl rfl rfl ?_
  refine at_if_lt 31 15 dX11_stock_12 rfl rfl (fun cc => ?_) (fun cc => ?_)
  · refine at_ldc 33 (-1000000000) dX11_stock_31 rfl cn_X11_102 ?_
    refine at_iret dX11_stock_33 rfl (by decide) (by decide) ?_
    exact rc_no (fun ⟨i, j, q1, q2, q3, q4⟩ => by rw [q4] at cc; exact nI_pos (by omega) cc) hR
  obtain ⟨j, hj, rfl⟩ := nI_of cc
  have hsi : st i = s 4 i := e17 i (by omega)
  have hsb := k4 i (by omega)
  refine at_iload_n 16 dX11_stock_15 rfl rfl rfl ?_
  refine at_ldc 18 (nI 10000000) dX11_stock_16 rfl cn_X11_115 ?_
  refine at_aload_n 19 dX11_stock_18 rfl rfl rfl ?_
  refine at_g 22 dX11_stock_19 rfl fl_X11_15 ⟨_, by assumption, ?_⟩
  refine ⟨_, rfl, ?_⟩
  refine at_g 25 dX11_stock_22 rfl fl_X11_116 ⟨_, by assumption, ?_⟩
  refine ⟨_, rfl, ?_⟩
  refine at_iload_n 26 dX11_stock_25 rfl rfl rfl ?_
  first | refine at_ia 27 dX11_stock_26 rfl ⟨_, _, by assumption, by omega, by first | decide | omega, ?_⟩ | refine at_iaG 27 dX11_stock_26 rfl ⟨_, _, by assumption, by omega, by first | decide | omega, ?_⟩
  first | refine at_isubN 28 dX11_stock_27 rfl (by omega) ?_ | refine at_isub 28 dX11_stock_27 rfl ?_
  refine at_icmp_leN 34 31 dX11_stock_28 rfl rfl (by omega) (by omega) (fun cc => ?_) (fun cc => ?_)
  rotate_left
  · refine at_ldc 33 (-1000000000) dX11_stock_31 rfl cn_X11_102 ?_
    refine at_iret dX11_stock_33 rfl (by decide) (by decide) ?_
    exact rc_no (fun ⟨i2, j2, q1, q2, q3, q4⟩ => by
      have e1 := nI_inj q2 (by omega) (by omega)
      subst e1
      have e2 := nI_inj q4 hj (by omega)
      omega) hR
  have hfr : Fr (fun j => j = 17) h h := Fr.rf
  refine at_aload_n 35 dX11_stock_34 rfl rfl rfl ?_
  refine at_g 38 dX11_stock_35 rfl fl_X11_15 ⟨_, by assumption, ?_⟩
  refine ⟨_, rfl, ?_⟩
  refine at_g 41 dX11_stock_38 rfl fl_X11_116 ⟨_, by assumption, ?_⟩
  refine ⟨_, rfl, ?_⟩
  refine at_iload_n 42 dX11_stock_41 rfl rfl rfl ?_
  refine at_dup2 43 dX11_stock_42 rfl rfl rfl ?_
  first | refine at_ia 44 dX11_stock_43 rfl ⟨_, _, by assumption, by omega, by first | decide | omega, ?_⟩ | refine at_iaG 44 dX11_stock_43 rfl ⟨_, _, by assumption, by omega, by first | decide | omega, ?_⟩
  refine at_iload_n 45 dX11_stock_44 rfl rfl rfl ?_
  first | refine at_iaddN 46 dX11_stock_45 rfl ?_ | refine at_iadd 46 dX11_stock_45 rfl ?_
  first | refine at_is 47 dX11_stock_46 rfl ⟨_, _, by assumption, by omega, by first | decide | omega, fun hh1 nn1 => ?_⟩ | refine at_isG 47 dX11_stock_46 rfl ⟨_, _, by assumption, by omega, by first | decide | omega, fun hh1 nn1 => ?_⟩
  replace r0 := nn1.o (by first | decide | omega | assumption) r0
  replace f4 := nn1.o (by first | decide | omega | assumption) f4
  replace f17 := nn1.1
  replace hfr := hfr.nw nn1 (by first | (dsimp only; omega) | (dsimp only; done) | simp)
  clear nn1
  refine at_aload_n 48 dX11_stock_47 rfl rfl rfl ?_
  refine at_g 51 dX11_stock_48 rfl fl_X11_15 ⟨_, by assumption, ?_⟩
  refine ⟨_, rfl, ?_⟩
  refine at_g 54 dX11_stock_51 rfl fl_X11_116 ⟨_, by assumption, ?_⟩
  refine ⟨_, rfl, ?_⟩
  refine at_iload_n 55 dX11_stock_54 rfl rfl rfl ?_
  first | refine at_ia 56 dX11_stock_55 rfl ⟨_, _, by assumption, by omega, by first | decide | omega, ?_⟩ | refine at_iaG 56 dX11_stock_55 rfl ⟨_, _, by assumption, by omega, by first | decide | omega, ?_⟩
  refine at_iret dX11_stock_56 rfl (by decide) (by decide) ?_
  rw [updN_s]
  refine rc_yes ⟨i, j, hi, rfl, by omega, rfl⟩ ?_ ?_ (hfr.wk (fun j hj => by omega))
  · rw [tn_nI (by omega), tn_nI (by omega), hsi]
  · rw [tn_nI (by omega), tn_nI (by omega)]
    refine ⟨r0, rSh.fr' hfr (fun j h1 h2 => by omega), ⟨f4, (Ar.cg ⟨kd, f5, e5⟩ (fun _ _ => rfl)).gt hfr (fun j h1 h2 => by omega), at_fr f6 hfr (fun j h1 h2 => by omega), rows_fr f7 hfr (fun j h1 h2 => by omega), (rF.2.2.2.2.1).gt hfr (fun j h1 h2 => by omega), (rF.2.2.2.2.2.1).gt hfr (fun j h1 h2 => by omega), Ar.up f17 e17 (by rw [hsi])⟩, rM.fr hfr (fun j h1 h2 => by omega), rC.fr hfr (fun j h1 h2 => by omega), rS.fr hfr (fun j h1 h2 => by omega), rT.fr hfr (fun j h1 h2 => by omega), r55.fr hfr (fun j h1 h2 => by omega), rG.fr' hfr (fun j h1 h2 => by omega), rL.fr hfr (fun j h1 h2 => by omega), at_fr r68 hfr (fun j h1 h2 => by omega), r69.fr hfr (fun j h1 h2 => by omega), r73.fr hfr (fun j h1 h2 => by omega), rY.fr hfr (fun j h1 h2 => by omega), rR.fr hfr (fun j h1 h2 => by omega)⟩
theorem c_feed {s : St} {h : List PC} (hI : Inv s) (hR : RepC s h) (k a b c d q r : Int32) : Ct mX11_feed [.ref 0, .int k, .int a, .int b, .int c, .int d, .int q, .int r] h (RC (fFeed s k a b c d q r) h) := by
  obtain ⟨r0, rSh, rF, rM, rC, rS, rT, r55, rG, rL, r68, r69, r73, rY, rR⟩ := id hR; obtain ⟨⟨i0, i1, i2, i3, i4, i5, i6, i7, i8, i9, i10, i11⟩, k1, k2, k3, k4, k5, k5z, k5s, k6, k6z, k7, k7s, k8s, k8z, k9, k10, k11, k11z, k50, k15, k16⟩ := id hI; obtain ⟨f4, ⟨kd, f5, e5⟩, f6, f7, ⟨db, f15, e15⟩, ⟨pr, f16, e16⟩, ⟨st, f17, e17⟩⟩ := id rF
  refine ct_at (L := [_, _, _, _, _, _, _, _]) (by decide +kernel) rfl rfl (Nat.le_of_ble_eq_true rfl) ?_
  refine at_iload_n 1 dX11_feed_0 rfl rfl rfl ?_
  refine at_iconst 2 (nI 0) dX11_feed_1 rfl (by decide) ?_
  refine at_iconst 3 (nI 3) dX11_feed_2 rfl (by decide) ?_
  refine at_invS 6 [_, _, _] _ (c_X11_isWithin k (nI 0) (nI 3)) dX11_feed_3 rfl rfl ml_X11_94 cl_X11_isWithin sv_X11_isWithin rfl (Nat.le_of_ble_eq_true rfl) ⟨by decide, by decide⟩ (by decide) (fun rr hh qq => ?_)
  obtain ⟨rfl, hq2⟩ := qq; rw [hq2]; clear hq2 hh
  refine at_if_eqB 21 9 dX11_feed_6 rfl rfl (fun cc => ?_) (fun cc => ?_)
  · refine at_ldc 23 (-1000000000) dX11_feed_21 rfl cn_X11_102 ?_
    refine at_iret dX11_feed_23 rfl (by decide) (by decide) ?_
    exact rc_no (fun ⟨k', a', b', c', d', q', r', p1, p2, p3, p4, p5, z1, z2, z3, z4, z5, z6, z7⟩ => wi_no cc (by omega) z1 (by omega) (by omega)) hR
  obtain ⟨k', -, hk, rfl⟩ := wi_t cc (by omega) (by omega)
  clear cc
  refine at_iload_n 10 dX11_feed_9 rfl rfl rfl ?_
  refine at_iload_n 11 dX11_feed_10 rfl rfl rfl ?_
  refine at_iload 13 dX11_feed_11 rfl rfl ?_
  refine at_iload 15 dX11_feed_13 rfl rfl ?_
  refine at_invS 18 [_, _, _, _] _ (c_X11_isMakeUp a b c d) dX11_feed_15 rfl rfl ml_X11_98 cl_X11_isMakeUp sv_X11_isMakeUp rfl (Nat.le_of_ble_eq_true rfl) ⟨by decide, by decide⟩ (by decide) (fun rr hh qq => ?_)
  obtain ⟨rfl, hq2⟩ := qq; rw [hq2]; clear hq2 hh
  refine at_if_neB 24 21 dX11_feed_18 rfl rfl (fun cc => ?_) (fun cc => ?_)
  rotate_left
  · refine at_ldc 23 (-1000000000) dX11_feed_21 rfl cn_X11_102 ?_
    refine at_iret dX11_feed_23 rfl (by decide) (by decide) ?_
    refine rc_no (fun ⟨k', a', b', c', d', q', r', p1, p2, p3, p4, p5, z1, z2, z3, z4, z5, z6, z7⟩ => ?_) hR
    apply of_decide_eq_false cc
    rw [z2, z3, z4, z5, nI_toInt (by omega), nI_toInt (by omega), nI_toInt (by omega), nI_toInt (by omega)]
    exact ⟨nI_pos' (by omega), nI_pos' (by omega), nI_pos' (by omega), nI_pos' (by omega), by omega⟩
  obtain ⟨y1, y2, y3, y4, y5⟩ := of_decide_eq_true cc
  clear cc
  obtain ⟨a', ha, rfl⟩ := nI_of (Int32.not_lt.mpr y1)
  obtain ⟨b', hb, rfl⟩ := nI_of (Int32.not_lt.mpr y2)
  obtain ⟨c', hc, rfl⟩ := nI_of (Int32.not_lt.mpr y3)
  obtain ⟨d', hd, rfl⟩ := nI_of (Int32.not_lt.mpr y4)
  rw [nI_toInt ha, nI_toInt hb, nI_toInt hc, nI_toInt hd] at y5
  have hmd : (if k' = 0 ∨ k' = 2 then 0 else 100) ≤ 100 := by split <;> omega
  refine at_iload 26 dX11_feed_24 rfl rfl ?_
  refine at_iconst 27 (nI 0) dX11_feed_26 rfl (by decide) ?_
  refine at_iload_n 28 dX11_feed_27 rfl rfl rfl ?_
  refine at_invS 31 [_] _ (c_X11_mostDoubt (k := k') (by omega)) dX11_feed_28 rfl rfl ml_X11_103 cl_X11_mostDoubt sv_X11_mostDoubt rfl (Nat.le_of_ble_eq_true rfl) ⟨by decide, by decide⟩ (by decide) (fun rr hh qq => ?_)
  obtain ⟨rfl, hq2⟩ := qq; rw [hq2]; clear hq2 hh
  refine at_invS 34 [_, _, _] _ (c_X11_isWithin q (nI 0) (nI (if k' = 0 ∨ k' = 2 then 0 else 100))) dX11_feed_31 rfl rfl ml_X11_94 cl_X11_isWithin sv_X11_isWithin rfl (Nat.le_of_ble_eq_true rfl) ⟨by decide, by decide⟩ (by decide) (fun rr hh qq => ?_)
  obtain ⟨rfl, hq2⟩ := qq; rw [hq2]; clear hq2 hh
  refine at_if_eqB 49 37 dX11_feed_34 rfl rfl (fun cc => ?_) (fun cc => ?_)
  · refine at_ldc 51 (-1000000000) dX11_feed_49 rfl cn_X11_102 ?_
    refine at_iret dX11_feed_51 rfl (by decide) (by decide) ?_
    refine rc_no (fun ⟨k2, a2, b2, c2, d2, q2, r2, p1, p2, p3, p4, p5, z1, z2, z3, z4, z5, z6, z7⟩ => ?_) hR
    have e1 := nI_inj z1 (by omega) (by omega)
    subst e1
    exact wi_no cc (by omega) z6 (by omega) p3
  obtain ⟨q', -, hq, rfl⟩ := wi_t cc (by omega) (by omega)
  clear cc
  refine at_iload 39 dX11_feed_37 rfl rfl ?_
  refine at_iconst 40 (nI 0) dX11_feed_39 rfl (by decide) ?_
  refine at_sipush 43 (nI 10000) dX11_feed_40 rfl (by decide) ?_
  refine at_invS 46 [_, _, _] _ (c_X11_isWithin r (nI 0) (nI 10000)) dX11_feed_43 rfl rfl ml_X11_94 cl_X11_isWithin sv_X11_isWithin rfl (Nat.le_of_ble_eq_true rfl) ⟨by decide, by decide⟩ (by decide) (fun rr hh qq => ?_)
  obtain ⟨rfl, hq2⟩ := qq; rw [hq2]; clear hq2 hh
  refine at_if_neB 52 49 dX11_feed_46 rfl rfl (fun cc => ?_) (fun cc => ?_)
  rotate_left
  · refine at_ldc 51 (-1000000000) dX11_feed_49 rfl cn_X11_102 ?_
    refine at_iret dX11_feed_51 rfl (by decide) (by decide) ?_
    refine rc_no (fun ⟨k2, a2, b2, c2, d2, q2, r2, p1, p2, p3, p4, p5, z1, z2, z3, z4, z5, z6, z7⟩ => ?_) hR
    exact wi_no cc (by omega) z7 (by omega) p4
  obtain ⟨r', -, hr, rfl⟩ := wi_t cc (by omega) (by omega)
  clear cc
  refine at_aload_n 53 dX11_feed_52 rfl rfl rfl ?_
  refine at_g 56 dX11_feed_53 rfl fl_X11_15 ⟨_, by assumption, ?_⟩
  refine ⟨_, rfl, ?_⟩
  refine at_iload_n 57 dX11_feed_56 rfl rfl rfl ?_
  refine at_iload_n 58 dX11_feed_57 rfl rfl rfl ?_
  refine at_iload_n 59 dX11_feed_58 rfl rfl rfl ?_
  refine at_iload 61 dX11_feed_59 rfl rfl ?_
  refine at_iload 63 dX11_feed_61 rfl rfl ?_
  refine at_iload 65 dX11_feed_63 rfl rfl ?_
  refine at_iload 67 dX11_feed_65 rfl rfl ?_
  by_cases hn : s 0 0 < 8
  · obtain ⟨w, g7, e7⟩ := f7 (s 0 0) hn
    refine at_invV (ci := 2) 70 [_, _, _, _, _, _, _] _ (c_X2_add f4 f5 f6 g7 f15 f16 hn) dX11_feed_67 rfl rfl (by assumption) rfl ml_X11_107 cl_X2_add vl_X2_add rfl (Nat.le_of_ble_eq_true rfl) ⟨by decide, by decide⟩ (by decide) (fun rr hh qq => ?_)
    obtain ⟨rfl, x4, x5, x7, x15, x16, hfr⟩ := qq
    refine at_iret dX11_feed_70 rfl (by decide) (by decide) ?_
    refine rc_yes ⟨k', a', b', c', d', q', r', by omega, by omega, hq, hr, hn, rfl, rfl, rfl, rfl, rfl, rfl, rfl⟩ rfl ?_ (hfr.wk (fun j hj => by omega))
    rw [tn_nI (by omega), tn_nI (by omega), tn_nI (by omega), tn_nI (by omega), tn_nI (by omega), tn_nI (by omega), tn_nI (by omega)]
    refine ⟨at_fr r0 hfr (fun j h1 h2 => by omega), rSh.fr' hfr (fun j h1 h2 => by omega), ?_, rM.fr hfr (fun j h1 h2 => by omega), rC.fr hfr (fun j h1 h2 => by omega), rS.fr hfr (fun j h1 h2 => by omega), RTank.wd (rT.fr hfr (fun j h1 h2 => by omega)) ?_, (r55.fr hfr (fun j h1 h2 => by omega)).wd ?_, rG.fr' hfr (fun j h1 h2 => by omega), rL.fr hfr (fun j h1 h2 => by omega), at_fr r68 hfr (fun j h1 h2 => by omega), (r69.fr hfr (fun j h1 h2 => by omega)).wd ?_, (r73.fr hfr (fun j h1 h2 => by omega)).wd ?_, (rY.fr hfr (fun j h1 h2 => by omega)).wd ?_, rR.fr hfr (fun j h1 h2 => by omega)⟩
    · refine ⟨x4, Ar.up x5 e5 rfl, at_fr f6 hfr (fun j h1 h2 => by omega), fun f hf => ?_, Ar.up x15 e15 rfl, Ar.up x16 e16 rfl, ?_⟩
      · by_cases e : f = s 0 0
        · subst e
          refine ⟨_, x7, fun t ht => ?_⟩
          have e8 := e7 t ht
          show updN (updN (updN (updN w 0 a') 1 b') 2 c') 3 d' t = updN (updN (updN (updN (s 7) (4 * s 0 0) a') (4 * s 0 0 + 1) b') (4 * s 0 0 + 2) c') (4 * s 0 0 + 3) d' (4 * s 0 0 + t)
          unfold updN
          rcases (by omega : t = 0 ∨ t = 1 ∨ t = 2 ∨ t = 3) with rfl | rfl | rfl | rfl <;> simp
        · refine ((f7 f hf).fr hfr (by omega)).cg (fun t ht => ?_)
          show s 7 (4 * f + t) = updN (updN (updN (updN (s 7) (4 * s 0 0) a') (4 * s 0 0 + 1) b') (4 * s 0 0 + 2) c') (4 * s 0 0 + 3) d' (4 * f + t)
          rw [updN_n _ _ (by omega), updN_n _ _ (by omega), updN_n _ _ (by omega), updN_n _ _ (by omega)]
      · exact (rF.2.2.2.2.2.2).gt hfr (fun j h1 h2 => by omega)
    all_goals (show s 0 0 * 4 ≤ (s 0 0 + 1) * 4; omega)
  · refine at_invV (ci := 2) 70 [_, _, _, _, _, _, _] _ (c_X2_add_full _ _ _ _ _ _ _ f4 (by omega) (by omega)) dX11_feed_67 rfl rfl (by assumption) rfl ml_X11_107 cl_X2_add vl_X2_add rfl (Nat.le_of_ble_eq_true rfl) ⟨by decide, by decide⟩ (by decide) (fun rr hh qq => ?_)
    obtain ⟨rfl, hq2⟩ := qq; rw [hq2]; clear hq2 hh
    refine at_iret dX11_feed_70 rfl (by decide) (by decide) ?_
    exact rc_no (fun ⟨k2, a2, b2, c2, d2, q2, r2, p1, p2, p3, p4, p5, z1, z2, z3, z4, z5, z6, z7⟩ => hn p5) hR
theorem c_of {s : St} {h : List PC} (hI : Inv s) (hR : RepC s h) (f w : Int32) : Ct mX11_of [.ref 0, .int f, .int w] h (RC (fOf s f w) h) := by
  obtain ⟨r0, rSh, rF, rM, rC, rS, rT, r55, rG, rL, r68, r69, r73, rY, rR⟩ := id hR; obtain ⟨⟨i0, i1, i2, i3, i4, i5, i6, i7, i8, i9, i10, i11⟩, k1, k2, k3, k4, k5, k5z, k5s, k6, k6z, k7, k7s, k8s, k8z, k9, k10, k11, k11z, k50, k15, k16⟩ := id hI; obtain ⟨f4, ⟨kd, f5, e5⟩, f6, f7, ⟨db, f15, e15⟩, ⟨pr, f16, e16⟩, ⟨st, f17, e17⟩⟩ := id rF; obtain ⟨m18, ⟨sh, m19, e19⟩, ⟨tc, m20, e20⟩⟩ := id rM
  refine ct_at (L := [_, _, _]) (by decide +kernel) rfl rfl (Nat.le_of_ble_eq_true rfl) ?_
  refine at_aload_n 1 dX11_of_0 rfl rfl rfl ?_
  refine at_g 4 dX11_of_1 rfl fl_X11_15 ⟨_, by assumption, ?_⟩
  refine ⟨_, rfl, ?_⟩
  refine at_iload_n 5 dX11_of_4 rfl rfl rfl ?_
  refine at_invV (ci := 2) 8 [_] _ (c_X2_has f f4) dX11_of_5 rfl rfl (by assumption) rfl ml_X11_111 cl_X2_has vl_X2_has rfl (Nat.le_of_ble_eq_true rfl) ⟨by decide, by decide⟩ (by decide) (fun rr hh qq => ?_)
  obtain ⟨rfl, hq2⟩ := qq; rw [hq2]; clear hq2 hh
  refine at_if_neB 14 11 dX11_of_8 rfl rfl (fun cc => ?_) (fun cc => ?_)
  rotate_left
  · refine at_ldc 13 (-1000000000) dX11_of_11 rfl cn_X11_102 ?_
    refine at_iret dX11_of_13 rfl (by decide) (by decide) ?_
    exact rc_no (fun ⟨i, j, q1, q2, _⟩ => has_f cc (by omega) ⟨i, q1, q2⟩) hR
  obtain ⟨i, hi, rfl⟩ := has_t cc (by omega)
  clear cc
  refine at_iload_n 15 dX11_of_14 rfl rfl rfl ?_
  by_cases hw : ∃ j, j < 9 ∧ w = nI j
  · obtain ⟨j, hj, rfl⟩ := hw
    have hti : (nI j).toInt = (j : Int) := nI_toInt (by omega)
    have fin : ∀ v, v = ofV s i j → RC (fOf s (nI i) (nI j)) h (some (.int (nI v))) h := fun v hv => rc_yes ⟨i, j, hi, rfl, hj, rfl⟩ (by rw [tn_nI (by omega), tn_nI (by omega), hv]) hR Fr.rf
    obtain ⟨mk, f7i, e7i⟩ := f7 i (by omega)
    rcases (by omega : j < 4 ∨ j = 4 ∨ j = 5 ∨ j = 6 ∨ j = 7 ∨ j = 8) with q | rfl | rfl | rfl | rfl | rfl
    · refine at_tabIn (off := 49) 64 dX11_of_15 (by omega) (by omega) (by rw [hti]; rcases (by omega : j = 0 ∨ j = 1 ∨ j = 2 ∨ j = 3) with rfl | rfl | rfl | rfl <;> rfl) rfl ?_
      refine at_aload_n 65 dX11_of_64 rfl rfl rfl ?_
      refine at_g 68 dX11_of_65 rfl fl_X11_15 ⟨_, by assumption, ?_⟩
      refine ⟨_, rfl, ?_⟩
      refine at_g 71 dX11_of_68 rfl fl_X11_120 ⟨_, by assumption, ?_⟩
      refine ⟨_, rfl, ?_⟩
      refine at_iload_n 72 dX11_of_71 rfl rfl rfl ?_
      refine at_aa 73 dX11_of_72 rfl ⟨_, _, by assumption, by omega, by first | decide | omega, ?_⟩
      refine ⟨_, rowsAt_in (by omega), ?_⟩
      refine at_iload_n 74 dX11_of_73 rfl rfl rfl ?_
      first | refine at_ia 75 dX11_of_74 rfl ⟨_, _, by assumption, by omega, by first | decide | omega, ?_⟩ | refine at_iaG 75 dX11_of_74 rfl ⟨_, _, by assumption, by omega, by first | decide | omega, ?_⟩
      refine at_iret dX11_of_75 rfl (by decide) (by decide) ?_
      exact fin _ (by unfold ofV; rw [if_pos q]; exact e7i j q)
    · refine at_tabIn (off := 61) 76 dX11_of_15 (by decide) (by decide) rfl rfl ?_
      refine at_aload_n 77 dX11_of_76 rfl rfl rfl ?_
      refine at_g 80 dX11_of_77 rfl fl_X11_15 ⟨_, by assumption, ?_⟩
      refine ⟨_, rfl, ?_⟩
      refine at_g 83 dX11_of_80 rfl fl_X11_124 ⟨_, by assumption, ?_⟩
      refine ⟨_, rfl, ?_⟩
      refine at_iload_n 84 dX11_of_83 rfl rfl rfl ?_
      first | refine at_ia 85 dX11_of_84 rfl ⟨_, _, by assumption, by omega, by first | decide | omega, ?_⟩ | refine at_iaG 85 dX11_of_84 rfl ⟨_, _, by assumption, by omega, by first | decide | omega, ?_⟩
      refine at_iret dX11_of_85 rfl (by decide) (by decide) ?_
      exact fin _ (e5 i (by omega))
    · refine at_tabIn (off := 71) 86 dX11_of_15 (by decide) (by decide) rfl rfl ?_
      refine at_aload_n 87 dX11_of_86 rfl rfl rfl ?_
      refine at_g 90 dX11_of_87 rfl fl_X11_15 ⟨_, by assumption, ?_⟩
      refine ⟨_, rfl, ?_⟩
      refine at_g 93 dX11_of_90 rfl fl_X11_127 ⟨_, by assumption, ?_⟩
      refine ⟨_, rfl, ?_⟩
      refine at_iload_n 94 dX11_of_93 rfl rfl rfl ?_
      first | refine at_ia 95 dX11_of_94 rfl ⟨_, _, by assumption, by omega, by first | decide | omega, ?_⟩ | refine at_iaG 95 dX11_of_94 rfl ⟨_, _, by assumption, by omega, by first | decide | omega, ?_⟩
      refine at_iret dX11_of_95 rfl (by decide) (by decide) ?_
      exact fin _ (e15 i (by omega))
    · refine at_tabIn (off := 81) 96 dX11_of_15 (by decide) (by decide) rfl rfl ?_
      refine at_aload_n 97 dX11_of_96 rfl rfl rfl ?_
      refine at_g 100 dX11_of_97 rfl fl_X11_15 ⟨_, by assumption, ?_⟩
      refine ⟨_, rfl, ?_⟩
      refine at_g 103 dX11_of_100 rfl fl_X11_130 ⟨_, by assumption, ?_⟩
      refine ⟨_, rfl, ?_⟩
      refine at_iload_n 104 dX11_of_103 rfl rfl rfl ?_
      first | refine at_ia 105 dX11_of_104 rfl ⟨_, _, by assumption, by omega, by first | decide | omega, ?_⟩ | refine at_iaG 105 dX11_of_104 rfl ⟨_, _, by assumption, by omega, by first | decide | omega, ?_⟩
      refine at_iret dX11_of_105 rfl (by decide) (by decide) ?_
      exact fin _ (e16 i (by omega))
    · refine at_tabIn (off := 91) 106 dX11_of_15 (by decide) (by decide) rfl rfl ?_
      refine at_aload_n 107 dX11_of_106 rfl rfl rfl ?_
      refine at_g 110 dX11_of_107 rfl fl_X11_15 ⟨_, by assumption, ?_⟩
      refine ⟨_, rfl, ?_⟩
      refine at_g 113 dX11_of_110 rfl fl_X11_116 ⟨_, by assumption, ?_⟩
      refine ⟨_, rfl, ?_⟩
      refine at_iload_n 114 dX11_of_113 rfl rfl rfl ?_
      first | refine at_ia 115 dX11_of_114 rfl ⟨_, _, by assumption, by omega, by first | decide | omega, ?_⟩ | refine at_iaG 115 dX11_of_114 rfl ⟨_, _, by assumption, by omega, by first | decide | omega, ?_⟩
      refine at_iret dX11_of_115 rfl (by decide) (by decide) ?_
      exact fin _ (e17 i (by omega))
    · refine at_tabIn (off := 101) 116 dX11_of_15 (by decide) (by decide) rfl rfl ?_
      refine at_aload_n 117 dX11_of_116 rfl rfl rfl ?_
      refine at_g 120 dX11_of_117 rfl fl_X11_22 ⟨_, by assumption, ?_⟩
      refine ⟨_, rfl, ?_⟩
      refine at_g 123 dX11_of_120 rfl fl_X11_133 ⟨_, by assumption, ?_⟩
      refine ⟨_, rfl, ?_⟩
      refine at_iload_n 124 dX11_of_123 rfl rfl rfl ?_
      first | refine at_ia 125 dX11_of_124 rfl ⟨_, _, by assumption, by omega, by first | decide | omega, ?_⟩ | refine at_iaG 125 dX11_of_124 rfl ⟨_, _, by assumption, by omega, by first | decide | omega, ?_⟩
      refine at_iret dX11_of_125 rfl (by decide) (by decide) ?_
      exact fin _ (e19 i (by omega))
  · have hout : w.toInt < 0 ∨ 8 < w.toInt := by
      apply Classical.byContradiction
      intro hc
      obtain ⟨j, hj, rfl⟩ := nI_of (x := w) (by rw [Int32.lt_iff_toInt_lt]; show ¬ w.toInt < 0; omega)
      rw [nI_toInt hj] at hc
      exact hw ⟨j, by omega, rfl⟩
    refine at_tabOut 126 dX11_of_15 hout rfl ?_
    refine at_ldc 128 (-1000000000) dX11_of_126 rfl cn_X11_102 ?_
    refine at_iret dX11_of_128 rfl (by decide) (by decide) ?_
    exact rc_no (fun ⟨i, j, q1, q2, q3, q4⟩ => hw ⟨j, q3, q4⟩) hR

