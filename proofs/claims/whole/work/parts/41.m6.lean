theorem hTk_z {s : St} (hI : Inv s) (hx : s 0 1 = 1) {f : Nat} (h1 : s 0 0 ≤ f) (h2 : f < 8) : hTk s f = 0 := by
  have hO := inv_f hI hx
  exact share_zero (by have := hO.2.2.1; omega) (hO.2.2.2 f h1 h2)
theorem canH_n {s : St} (hI : Inv s) (hx : s 0 1 = 1) : canH s = allB (fun f => decide (hTk s f ≤ s 4 f)) (s 0 0) :=
  allB_ext hI.1.1 (fun i h1 h2 => decide_eq_true (by rw [hTk_z hI hx h1 h2]; omega))
theorem c_goesBy {s : St} {h : List PC} (hI : Inv s) (hR : RepM s h) (hm : s 0 2 = 1) (hx : s 0 1 = 1) (h7 : s 0 7 < 400) : Ct mX12_goesBy [.ref 106] h (fun r h' => r = some (.int (bI (canH s))) ∧ RepM (if canH s = true then stepH s else s) h' ∧ Fr (fun j => 106 ≤ j) h h') := by
  have hP := inv_p hI hm
  have hlo : LoOk (loW s 0 0) (s 0 5) (s 0 0 * 4) := loW_ok (ti0 := -1) hI hx (Or.inl ⟨rfl, rfl⟩) (by decide)
  have hcn := canH_n hI hx
  have hTb : ∀ f, f < 8 → hTk s f ≤ 100000 := fun f hf => by
    have := tkP_le (p := s 0 5) ((inv_f hI hx).2.2.1) hf
    have h5 := hI.1.2.2.2.2.1
    have h6 := hI.1.2.2.2.2.2.1
    unfold hTk
    omega
  have m0 := hR.1
  refine ct_at (L := [_, _, _, _]) (by decide +kernel) rfl rfl (Nat.le_of_ble_eq_true rfl) ?_
  refine at_aload_n 1 dX12_goesBy_0 rfl rfl rfl ?_
  refine at_iconst 2 (-1) dX12_goesBy_1 rfl (by decide) ?_
  refine at_iconst 3 (nI 0) dX12_goesBy_2 rfl (by decide) ?_
  refine at_invV (ci := 12) 6 [_, _] _ (c_comesR hI hR (sd := 0) (ti := 0) hx (Or.inl ⟨rfl, rfl⟩) (by decide)) dX12_goesBy_3 rfl rfl (by assumption) rfl ml_X12_168 cl_X12_comes vl_X12_comes rfl (Nat.le_of_ble_eq_true rfl) ⟨by decide, by decide⟩ (by decide) (fun rr hh qq => ?_)
  obtain ⟨rfl, aR, aT, aL, afr⟩ := qq
  rename List PC => h1
  obtain ⟨⟨i0, i1, i2, i3, i4, i5, i6, i7, i8, i9, i10, i11⟩, k1, k2, k3, k4, k5, k5z, k5s, k6, k6z, k7, k7s, k8s, k8z, k9, k10, k11, k11z, k50, k15, k16⟩ := id hI
  obtain ⟨tk, a132, etk⟩ := aT
  have etk' : ∀ f, f < 8 → tk f = hTk s f := etk
  clear hR m0
  obtain ⟨m0, mF, mL, mC, mH, mR, mS⟩ := id aR
  obtain ⟨⟨mk, f107, e107⟩, ⟨kd, f108, e108⟩, ⟨db, f109, e109⟩, ⟨pr, f110, e110⟩, ⟨st, f111, e111⟩, ⟨tc, f112, e112⟩, ⟨sh, f113, e113⟩⟩ := id mF
  obtain ⟨lw, f114, e114⟩ := id mL
  obtain ⟨x115, x116, x117, x118, hSH, x130, x131, x132, x133⟩ := id mS
  refine at_iconst 7 (nI 0) dX12_goesBy_6 rfl (by decide) ?_
  refine at_istore_n (L' := [_, _, _, _]) 8 dX12_goesBy_7 rfl rfl (by decide) rfl rfl ?_
  have loopS : canH s = true → ∀ (d i : Nat) (h3 : List PC), i + d = s 0 0 → h3[106]? = some (oM s) → h3[132]? = some (aI 8 tk) → h3[111]? = some (aI 8 (fun f => if f < i then st f - tk f else st f)) → Ar h3 114 192 (passL lw (loW s 0 0) (s 0 5) (s 0 3)) → Ar h3 118 32 (hOut s) → SH h3 → (∃ w, h3[116]? = some (aI 192 w)) → Fr (fun j => j = 106 ∨ j = 111 ∨ j = 114 ∨ j = 116 ∨ j = 118 ∨ (127 ≤ j ∧ j ≤ 129)) h1 h3 → At mX12_goesBy T0 49 [.ref 106, .int (nI i), .null, .null] [] h3 0 0 (ZM mX12_goesBy (fun r h' => r = some (.int (bI (canH s))) ∧ RepM (if canH s = true then stepH s else s) h' ∧ Fr (fun j => 106 ≤ j) h h')) := by
    intro hcan d
    induction d with
    | zero =>
      intro i h3 hi b0 b132 b111 b114 b118 bS b116 bfr
      have : i = s 0 0 := by omega
      subst this
      refine at_iload_n 50 dX12_goesBy_49 rfl rfl rfl ?_
      refine at_aload_n 51 dX12_goesBy_50 rfl rfl rfl ?_
      refine at_g 54 dX12_goesBy_51 rfl fl_X12_108 ⟨_, by assumption, ?_⟩
      refine ⟨_, rfl, ?_⟩
      refine at_icmp_geN 78 57 dX12_goesBy_54 rfl rfl (by omega) (by omega) (fun cc => ?_) (fun cc => ?_)
      rotate_left
      · omega
      have hfr1 : Fr (fun j => j = 106) h3 h3 := Fr.rf
      refine at_aload_n 79 dX12_goesBy_78 rfl rfl rfl ?_
      refine at_dup 80 dX12_goesBy_79 rfl rfl ?_
      refine at_g 83 dX12_goesBy_80 rfl fl_X12_145 ⟨_, by assumption, ?_⟩
      refine ⟨_, rfl, ?_⟩
      refine at_aload_n 84 dX12_goesBy_83 rfl rfl rfl ?_
      refine at_g 87 dX12_goesBy_84 rfl fl_X12_38 ⟨_, by assumption, ?_⟩
      refine ⟨_, rfl, ?_⟩
      first | refine at_i2lN 88 dX12_goesBy_87 rfl (by omega) ?_ | refine at_i2l 88 dX12_goesBy_87 rfl rfl ?_
      first | refine at_laddN 89 dX12_goesBy_88 rfl ?_ | refine at_ladd 89 dX12_goesBy_88 rfl ?_
      refine at_pl 92 dX12_goesBy_89 rfl pl_X12_145 ⟨_, by assumption, ?_⟩
      refine ⟨(Nat.le_of_ble_eq_true rfl), [_, _, _, _, _, _, _, _, _, _, _, _, _, _, _, _, _, _, _, _, _, _, _, _, _, _, _, _, _, _, _, _, _, _, _, _, _, _, _, _], rfl, fun hh1 nn1 => ?_⟩
      replace b0 := nn1.1
      replace b111 := nn1.o (by first | decide | omega | assumption) b111
      replace bfr := bfr.nw nn1 (by first | (dsimp only; omega) | (dsimp only; done) | simp)
      replace hfr1 := hfr1.nw nn1 (by first | (dsimp only; omega) | (dsimp only; done) | simp)
      clear nn1
      refine at_aload_n 93 dX12_goesBy_92 rfl rfl rfl ?_
      rename List PC => h4
      have d0 : h4[106]? = some (oM (s1H s)) := b0
      have d118 := b118.fr hfr1 (by omega)
      have dR : RepM (s1H s) h4 := by
        refine ⟨d0, ⟨mF.1.gt bfr (fun j h1 h2 => by omega), mF.2.1.gt bfr (fun j h1 h2 => by omega), mF.2.2.1.gt bfr (fun j h1 h2 => by omega), mF.2.2.2.1.gt bfr (fun j h1 h2 => by omega), ⟨_, b111, fun f hf => ?_⟩, mF.2.2.2.2.2.1.gt bfr (fun j h1 h2 => by omega), mF.2.2.2.2.2.2.gt bfr (fun j h1 h2 => by omega)⟩, ?_, mC.fr bfr (fun j h1 h2 => by omega), mH.fr bfr (fun j h1 h2 => by omega), mR.gt bfr (fun j h1 h2 => by omega), ⟨?_, ?_, ?_, ?_, bS.fr hfr1 (fun j h1 h2 => by omega), ?_, ?_, ?_, ?_⟩⟩
        · show (if f < s 0 0 then st f - tk f else st f) = s 4 f - hTk s f
          rw [e111 f hf]
          by_cases q : f < s 0 0
          · rw [if_pos q, etk' f hf]
          · rw [if_neg q, hTk_z hI hx (by omega) hf]; rfl
        · obtain ⟨w, c1, c2⟩ := b114.fr hfr1 (by omega)
          refine ⟨w, c1, fun x hx => ?_⟩
          have hx' : x < 32 * s 0 3 := hx
          rw [c2 x (by omega)]
          exact passL_cg e114 (fun _ _ => rfl) x hx'
        · obtain ⟨v, hv⟩ := x115; exact ⟨v, at_fr hv bfr (fun j h1 h2 => by omega)⟩
        · obtain ⟨v, hv⟩ := b116; exact ⟨v, at_fr hv hfr1 (fun j h1 h2 => by omega)⟩
        · obtain ⟨v, hv⟩ := x117; exact ⟨v, at_fr hv bfr (fun j h1 h2 => by omega)⟩
        · obtain ⟨v, hv, -⟩ := d118; exact ⟨v, hv⟩
        · obtain ⟨v, hv⟩ := x130; exact ⟨v, at_fr hv bfr (fun j h1 h2 => by omega)⟩
        · obtain ⟨v, hv⟩ := x131; exact ⟨v, at_fr hv bfr (fun j h1 h2 => by omega)⟩
        · obtain ⟨v, hv⟩ := x132; exact ⟨v, at_fr hv bfr (fun j h1 h2 => by omega)⟩
        · obtain ⟨v, hv⟩ := x133; exact ⟨v, at_fr hv bfr (fun j h1 h2 => by omega)⟩
      obtain ⟨G, g118, eG⟩ := id d118
      obtain ⟨⟨le, g119, e119⟩, ⟨mo, g120, e120⟩, -⟩ := id dR.2.2.2.1
      have hth : ∀ t, t < 4 → thF G t = thF (hOut s) t := fun t ht => thF_cg eG ht
      refine at_invV (ci := 12) 96 [] _ (c_nameOfM (s := s1H s) d0 g118 g119 g120 i6 (by show s 0 5 ≤ 100000; omega) (fun t ht => by rw [hth t ht]; have := thF_le hP (c := s 0 3 - 1) (by omega) ht; unfold hOut; omega) (fun i hi => by rw [e119 i hi]; exact k9 i hi) (fun i hi => by rw [e120 i hi]; exact k10 i hi)) dX12_goesBy_93 rfl rfl (by assumption) rfl ml_X12_175 cl_X12_nameOf vl_X12_nameOf rfl (Nat.le_of_ble_eq_true rfl) ⟨by decide, by decide⟩ (by decide) (fun rr hh qq => ?_)
      obtain ⟨rfl, hq2⟩ := qq; rw [hq2]; clear hq2 hh
      have hne : nameC (fun c => fitB le mo c (thF G) (s1H s 0 5)) (s1H s 0 6) = hNm s := nameC_cg (fun c hc => fitB_cgl (by have hc' : c < s 0 6 := hc; omega) e119 e120 hth)
      rw [hne]
      refine at_istore_n (L' := [_, _, _, _]) 97 dX12_goesBy_96 rfl rfl (by decide) rfl rfl ?_
      exact a_goesBy hI hm hx h7 hcan dR d118 ((afr.wk (P' := fun j => 106 ≤ j) (fun j hj => by omega)).tr bfr (fun j hj => by omega))
    | succ d ih =>
      intro i h3 hi b0 b132 b111 b114 b118 bS b116 bfr
      have hcf := of_decide_eq_true (allB_iff.mp hcan i (by omega))
      have hle : tk i ≤ st i := by rw [etk' i (by omega), e111 i (by omega)]; exact hcf
      have hfr1 : Fr (fun j => j = 111) h3 h3 := Fr.rf
      refine at_iload_n 50 dX12_goesBy_49 rfl rfl rfl ?_
      refine at_aload_n 51 dX12_goesBy_50 rfl rfl rfl ?_
      refine at_g 54 dX12_goesBy_51 rfl fl_X12_108 ⟨_, by assumption, ?_⟩
      refine ⟨_, rfl, ?_⟩
      refine at_icmp_geN 78 57 dX12_goesBy_54 rfl rfl (by omega) (by omega) (fun cc => ?_) (fun cc => ?_)
      · omega
      refine at_aload_n 58 dX12_goesBy_57 rfl rfl rfl ?_
      refine at_g 61 dX12_goesBy_58 rfl fl_X12_22 ⟨_, by assumption, ?_⟩
      refine ⟨_, rfl, ?_⟩
      refine at_iload_n 62 dX12_goesBy_61 rfl rfl rfl ?_
      refine at_dup2 63 dX12_goesBy_62 rfl rfl rfl ?_
      first | refine at_ia 64 dX12_goesBy_63 rfl ⟨_, _, by assumption, by omega, by first | decide | omega, ?_⟩ | refine at_iaG 64 dX12_goesBy_63 rfl ⟨_, _, by assumption, by omega, by first | decide | omega, ?_⟩
      refine at_aload_n 65 dX12_goesBy_64 rfl rfl rfl ?_
      refine at_g 68 dX12_goesBy_65 rfl fl_X12_99 ⟨_, by assumption, ?_⟩
      refine ⟨_, rfl, ?_⟩
      refine at_iload_n 69 dX12_goesBy_68 rfl rfl rfl ?_
      first | refine at_ia 70 dX12_goesBy_69 rfl ⟨_, _, by assumption, by omega, by first | decide | omega, ?_⟩ | refine at_iaG 70 dX12_goesBy_69 rfl ⟨_, _, by assumption, by omega, by first | decide | omega, ?_⟩
      rw [if_neg (Nat.lt_irrefl i)]
      first | refine at_isubN 71 dX12_goesBy_70 rfl (by omega) ?_ | refine at_isub 71 dX12_goesBy_70 rfl ?_
      first | refine at_is 72 dX12_goesBy_71 rfl ⟨_, _, by assumption, by omega, by first | decide | omega, fun hh2 nn2 => ?_⟩ | refine at_isG 72 dX12_goesBy_71 rfl ⟨_, _, by assumption, by omega, by first | decide | omega, fun hh2 nn2 => ?_⟩
      replace b0 := nn2.o (by first | decide | omega | assumption) b0
      replace b132 := nn2.o (by first | decide | omega | assumption) b132
      replace b111 := nn2.1
      replace bfr := bfr.nw nn2 (by first | (dsimp only; omega) | (dsimp only; done) | simp)
      replace hfr1 := hfr1.nw nn2 (by first | (dsimp only; omega) | (dsimp only; done) | simp)
      clear nn2
      refine at_iincN (q := 1) (L' := [_, _, _, _]) 75 dX12_goesBy_72 rfl (by decide) rfl (by decide) rfl rfl ?_
      refine at_goto 49 dX12_goesBy_75 rfl ?_
      refine ih (i + 1) _ (by omega) b0 b132 ?_ (b114.fr hfr1 (by omega)) (b118.fr hfr1 (by omega)) (bS.fr hfr1 (fun j h1 h2 => by omega)) ?_ bfr
      · rw [b111]
        congr 2
        funext f
        unfold updN
        by_cases e : f = i
        · subst e; simp
        · by_cases e2 : f < i
          · simp [e, e2, show f < i + 1 by omega]
          · simp [e, e2, show ¬ f < i + 1 by omega]
      · obtain ⟨v, hv⟩ := b116; exact ⟨v, at_fr hv hfr1 (fun j h1 h2 => by omega)⟩
  have loop : ∀ (d i : Nat), i + d = s 0 0 → (∀ j, j < i → hTk s j ≤ s 4 j) → At mX12_goesBy T0 8 [.ref 106, .int (nI i), .null, .null] [] h1 0 0 (ZM mX12_goesBy (fun r h' => r = some (.int (bI (canH s))) ∧ RepM (if canH s = true then stepH s else s) h' ∧ Fr (fun j => 106 ≤ j) h h')) := by
    intro d
    induction d with
    | zero =>
      intro i hi hj
      have hcan : canH s = true := by rw [hcn]; exact allB_iff.mpr (fun j hj2 => decide_eq_true (hj j (by omega)))
      have hPl : POk lw (s 0 4) (s 0 5) (s 0 3) (s 0 0 * 4) := hP.cg e114
      refine at_iload_n 9 dX12_goesBy_8 rfl rfl rfl ?_
      refine at_aload_n 10 dX12_goesBy_9 rfl rfl rfl ?_
      refine at_g 13 dX12_goesBy_10 rfl fl_X12_108 ⟨_, by assumption, ?_⟩
      refine ⟨_, rfl, ?_⟩
      refine at_icmp_geN 39 16 dX12_goesBy_13 rfl rfl (by omega) (by omega) (fun cc => ?_) (fun cc => ?_)
      rotate_left
      · omega
      refine at_aload_n 40 dX12_goesBy_39 rfl rfl rfl ?_
      refine at_aload_n 41 dX12_goesBy_40 rfl rfl rfl ?_
      refine at_g 44 dX12_goesBy_41 rfl fl_X12_44 ⟨_, by assumption, ?_⟩
      refine ⟨_, rfl, ?_⟩
      refine at_invV (ci := 12) 47 [_] _ (c_goes (s := s) (kr := 114) (Or.inl rfl) m0 hSH f114 x116 aL x118 hPl hlo (by omega)) dX12_goesBy_44 rfl rfl (by assumption) rfl ml_X12_171 cl_X12_goes vl_X12_goes rfl (Nat.le_of_ble_eq_true rfl) ⟨by decide, by decide⟩ (by decide) (fun rr hh qq => ?_)
      obtain ⟨rfl, bS, b114, b116, b118, bfr⟩ := qq
      refine at_iconst 48 (nI 0) dX12_goesBy_47 rfl (by decide) ?_
      refine at_istore_n (L' := [_, _, _, _]) 49 dX12_goesBy_48 rfl rfl (by decide) rfl rfl ?_
      refine loopS hcan (s 0 0) 0 hh (by omega) (bfr.at (by omega) m0) (bfr.at (by omega) a132) ?_ b114 (b118.cg (outF_cg e114 (by omega))) bS b116 (bfr.wk (fun j hj => by omega))
      have := bfr.at (k := 111) (by omega) f111
      simpa using this
    | succ d ih =>
      intro i hi hj
      have e1 := etk' i (by omega)
      have e2 := e111 i (by omega)
      have b1 := hTb i (by omega)
      have b2 := k4 i (by omega)
      refine at_iload_n 9 dX12_goesBy_8 rfl rfl rfl ?_
      refine at_aload_n 10 dX12_goesBy_9 rfl rfl rfl ?_
      refine at_g 13 dX12_goesBy_10 rfl fl_X12_108 ⟨_, by assumption, ?_⟩
      refine ⟨_, rfl, ?_⟩
      refine at_icmp_geN 39 16 dX12_goesBy_13 rfl rfl (by omega) (by omega) (fun cc => ?_) (fun cc => ?_)
      · omega
      refine at_aload_n 17 dX12_goesBy_16 rfl rfl rfl ?_
      refine at_g 20 dX12_goesBy_17 rfl fl_X12_99 ⟨_, by assumption, ?_⟩
      refine ⟨_, rfl, ?_⟩
      refine at_iload_n 21 dX12_goesBy_20 rfl rfl rfl ?_
      first | refine at_ia 22 dX12_goesBy_21 rfl ⟨_, _, by assumption, by omega, by first | decide | omega, ?_⟩ | refine at_iaG 22 dX12_goesBy_21 rfl ⟨_, _, by assumption, by omega, by first | decide | omega, ?_⟩
      refine at_aload_n 23 dX12_goesBy_22 rfl rfl rfl ?_
      refine at_g 26 dX12_goesBy_23 rfl fl_X12_22 ⟨_, by assumption, ?_⟩
      refine ⟨_, rfl, ?_⟩
      refine at_iload_n 27 dX12_goesBy_26 rfl rfl rfl ?_
      first | refine at_ia 28 dX12_goesBy_27 rfl ⟨_, _, by assumption, by omega, by first | decide | omega, ?_⟩ | refine at_iaG 28 dX12_goesBy_27 rfl ⟨_, _, by assumption, by omega, by first | decide | omega, ?_⟩
      refine at_icmp_leN 33 31 dX12_goesBy_28 rfl rfl (by omega) (by omega) (fun cc => ?_) (fun cc => ?_)
      · refine at_iincN (q := 1) (L' := [_, _, _, _]) 36 dX12_goesBy_33 rfl (by decide) rfl (by decide) rfl rfl ?_
        refine at_goto 8 dX12_goesBy_36 rfl ?_
        refine ih (i + 1) (by omega) (fun j hj2 => ?_)
        by_cases e : j = i
        · rw [e]; omega
        · exact hj j (by omega)
      · refine at_iconst 32 (nI 0) dX12_goesBy_31 rfl (by decide) ?_
        refine at_zret dX12_goesBy_32 rfl (by first | rfl | decide) (by decide) (by decide) ?_
        have hcan : canH s = false := by
          rw [hcn]
          apply Bool.eq_false_iff.mpr
          intro q
          have := of_decide_eq_true (allB_iff.mp q i (by omega))
          omega
        rw [hcan]
        refine ⟨rfl, ?_, afr.wk (fun j hj => by omega)⟩
        rw [if_neg (by decide)]
        exact aR
  exact loop (s 0 0) 0 (by omega) (fun j hj => by omega)
theorem m_hours {s : St} {h : List PC} (hI : Inv s) (hR : RepM s h) (n : Int32) : Ct mX12_hours [.ref 106, .int n] h (RM (fHours s n) h) := by
  obtain ⟨m0, mF, mL, mC, mH, mR, mS⟩ := id hR; obtain ⟨⟨i0, i1, i2, i3, i4, i5, i6, i7, i8, i9, i10, i11⟩, k1, k2, k3, k4, k5, k5z, k5s, k6, k6z, k7, k7s, k8s, k8z, k9, k10, k11, k11z, k50, k15, k16⟩ := id hI
  refine ct_at (L := [_, _, _]) (by decide +kernel) rfl rfl (Nat.le_of_ble_eq_true rfl) ?_
  refine at_iload_n 1 dX12_hours_0 rfl rfl rfl ?_
  refine at_iconst 2 (nI 1) dX12_hours_1 rfl (by decide) ?_
  refine at_bipush 4 (nI 50) dX12_hours_2 rfl (by decide) ?_
  refine at_invS 7 [_, _, _] _ (c_in n (nI 1) (nI 50)) dX12_hours_4 rfl rfl ml_X12_111 cl_X12_in sv_X12_in rfl (Nat.le_of_ble_eq_true rfl) ⟨by decide, by decide⟩ (by decide) (fun rr hh qq => ?_)
  obtain ⟨rfl, hq2⟩ := qq; rw [hq2]; clear hq2 hh
  refine at_if_eqB 36 10 dX12_hours_7 rfl rfl (fun cc => ?_) (fun cc => ?_)
  · refine at_ldc 38 (-1000000000) dX12_hours_36 rfl cn_X12_118 ?_
    refine at_iret dX12_hours_38 rfl (by decide) (by decide) ?_
    exact rm_no (fun ⟨n', q1, q2, q3, _⟩ => wi_no cc (by omega) q3 q1 q2) hR
  obtain ⟨n', n1, n2, rfl⟩ := wi_t cc (by omega) (by omega)
  clear cc
  refine at_aload_n 11 dX12_hours_10 rfl rfl rfl ?_
  refine at_g 14 dX12_hours_11 rfl fl_X12_135 ⟨_, by assumption, ?_⟩
  refine ⟨_, rfl, ?_⟩
  refine at_if_eqN 36 17 dX12_hours_14 rfl rfl (by omega) (fun cc => ?_) (fun cc => ?_)
  · refine at_ldc 38 (-1000000000) dX12_hours_36 rfl cn_X12_118 ?_
    refine at_iret dX12_hours_38 rfl (by decide) (by decide) ?_
    exact rm_no (fun ⟨n', q1, q2, q3, q4, q5, q6⟩ => by omega) hR
  have hm0 := cc
  clear cc
  refine at_aload_n 18 dX12_hours_17 rfl rfl rfl ?_
  refine at_g 21 dX12_hours_18 rfl fl_X12_124 ⟨_, by assumption, ?_⟩
  refine ⟨_, rfl, ?_⟩
  refine at_if_eqN 36 24 dX12_hours_21 rfl rfl (by omega) (fun cc => ?_) (fun cc => ?_)
  · refine at_ldc 38 (-1000000000) dX12_hours_36 rfl cn_X12_118 ?_
    refine at_iret dX12_hours_38 rfl (by decide) (by decide) ?_
    exact rm_no (fun ⟨n', q1, q2, q3, q4, q5, q6⟩ => by omega) hR
  have hx0 := cc
  clear cc
  refine at_aload_n 25 dX12_hours_24 rfl rfl rfl ?_
  refine at_g 28 dX12_hours_25 rfl fl_X12_138 ⟨_, by assumption, ?_⟩
  refine ⟨_, rfl, ?_⟩
  refine at_iload_n 29 dX12_hours_28 rfl rfl rfl ?_
  first | refine at_iaddN 30 dX12_hours_29 rfl ?_ | refine at_iadd 30 dX12_hours_29 rfl ?_
  refine at_sipush 33 (nI 400) dX12_hours_30 rfl (by decide) ?_
  refine at_icmp_leN 39 36 dX12_hours_33 rfl rfl (by omega) (by omega) (fun cc => ?_) (fun cc => ?_)
  rotate_left
  · refine at_ldc 38 (-1000000000) dX12_hours_36 rfl cn_X12_118 ?_
    refine at_iret dX12_hours_38 rfl (by decide) (by decide) ?_
    exact rm_no (fun ⟨n2, q1, q2, q3, q4, q5, q6⟩ => by
      have e1 := nI_inj q3 (by omega) (by omega)
      omega) hR
  have h400 := cc
  clear cc
  have hm : s 0 2 = 1 := by omega
  have hx : s 0 1 = 1 := by omega
  refine at_iconst 40 (nI 0) dX12_hours_39 rfl (by decide) ?_
  refine at_istore_n (L' := [_, _, _]) 41 dX12_hours_40 rfl rfl (by decide) rfl rfl ?_
  have loop : ∀ (d g : Nat) (s' : St) (h' : List PC), g + d = n' → hrsN d g s' = hrsN n' 0 s → Inv s' → RepM s' h' → s' 0 2 = 1 → s' 0 1 = 1 → s' 0 7 + d ≤ 400 → Fr (fun j => 106 ≤ j) h h' → At mX12_hours T0 41 [.ref 106, .int (nI n'), .int (nI g)] [] h' 0 0 (ZM mX12_hours (RM (fHours s (nI n')) h)) := by
    intro d
    induction d with
    | zero =>
      intro g s' h' hd he hI' hR' hm' hx' h7 afr
      refine at_iload_n 42 dX12_hours_41 rfl rfl rfl ?_
      refine at_iload_n 43 dX12_hours_42 rfl rfl rfl ?_
      refine at_icmp_geN 59 46 dX12_hours_43 rfl rfl (by omega) (by omega) (fun cc => ?_) (fun cc => ?_)
      rotate_left
      · omega
      refine at_iload_n 60 dX12_hours_59 rfl rfl rfl ?_
      refine at_iret dX12_hours_60 rfl (by decide) (by decide) ?_
      refine rm_yes ⟨n', n1, n2, rfl, hm, hx, by omega⟩ ?_ ?_ afr
      · rw [tn_nI (by omega), ← he]; rfl
      · rw [tn_nI (by omega), ← he]; exact hR'
    | succ d ih =>
      intro g s' h' hd he hI' hR' hm' hx' h7 afr
      have b0 := hR'.1
      have hstep : hrsN (d + 1) g s' = if canH s' = true then hrsN d (g + 1) (stepH s') else (g, s') := rfl
      rw [hstep] at he
      refine at_iload_n 42 dX12_hours_41 rfl rfl rfl ?_
      refine at_iload_n 43 dX12_hours_42 rfl rfl rfl ?_
      refine at_icmp_geN 59 46 dX12_hours_43 rfl rfl (by omega) (by omega) (fun cc => ?_) (fun cc => ?_)
      · omega
      refine at_aload_n 47 dX12_hours_46 rfl rfl rfl ?_
      refine at_invV (ci := 12) 50 [] _ (c_goesBy hI' hR' hm' hx' (by omega)) dX12_hours_47 rfl rfl (by assumption) rfl ml_X12_179 cl_X12_goesBy vl_X12_goesBy rfl (Nat.le_of_ble_eq_true rfl) ⟨by decide, by decide⟩ (by decide) (fun rr hh qq => ?_)
      obtain ⟨rfl, xR, xfr⟩ := qq
      have xfr2 := afr.tr xfr (fun j hj => hj)
      refine at_if_eqB 59 53 dX12_hours_50 rfl rfl (fun cc => ?_) (fun cc => ?_)
      · rw [cc, if_neg (by decide)] at he xR
        refine at_iload_n 60 dX12_hours_59 rfl rfl rfl ?_
        refine at_iret dX12_hours_60 rfl (by decide) (by decide) ?_
        refine rm_yes ⟨n', n1, n2, rfl, hm, hx, by omega⟩ ?_ ?_ xfr2
        · rw [tn_nI (by omega), ← he]
        · rw [tn_nI (by omega), ← he]; exact xR
      · rw [if_pos cc] at he xR
        refine at_iincN (q := 1) (L' := [_, _, _]) 56 dX12_hours_53 rfl (by decide) rfl (by decide) rfl rfl ?_
        refine at_goto 41 dX12_hours_56 rfl ?_
        exact ih (g + 1) (stepH s') _ (by omega) he (inv_step hI' hm' hx' (by omega)) xR hm' hx' (by show s' 0 7 + 1 + d ≤ 400; omega) xfr2
  exact loop n' 0 s h (by omega) rfl hI hR hm hx h400 Fr.rf

