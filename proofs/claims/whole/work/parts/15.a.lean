theorem c_X11_isWithin {h : List PC} (x lo hi : Int32) : Ct mX11_isWithin [.int x, .int lo, .int hi] h (fun r h' => r = some (.int (bI (wi x lo hi))) ∧ h' = h) := by
  refine ct_at (L := [_, _, _]) (by decide +kernel) rfl rfl (Nat.le_of_ble_eq_true rfl) ?_
  refine at_iload_n 1 dX11_isWithin_0 rfl rfl rfl ?_
  refine at_iload_n 2 dX11_isWithin_1 rfl rfl rfl ?_
  refine at_icmp_lt 14 5 dX11_isWithin_2 rfl rfl (fun cc => ?_) (fun cc => ?_)
  · refine at_iconst 15 (nI 0) dX11_isWithin_14 rfl (by decide) ?_
    refine at_zret dX11_isWithin_15 rfl (by first | rfl | decide) (by decide) (by decide) ?_
    exact ⟨bI_f (fun q => absurd cc (Int32.not_lt.mpr q.1)), rfl⟩
  refine at_iload_n 6 dX11_isWithin_5 rfl rfl rfl ?_
  refine at_iload_n 7 dX11_isWithin_6 rfl rfl rfl ?_
  refine at_icmp_gt 14 10 dX11_isWithin_7 rfl rfl (fun cc => ?_) (fun cc => ?_)
  · refine at_iconst 15 (nI 0) dX11_isWithin_14 rfl (by decide) ?_
    refine at_zret dX11_isWithin_15 rfl (by first | rfl | decide) (by decide) (by decide) ?_
    exact ⟨bI_f (fun q => absurd cc (Int32.not_lt.mpr q.2)), rfl⟩
  refine at_iconst 11 (nI 1) dX11_isWithin_10 rfl (by decide) ?_
  refine at_goto 15 dX11_isWithin_11 rfl ?_
  refine at_zret dX11_isWithin_15 rfl (by first | rfl | decide) (by decide) (by decide) ?_
  exact ⟨bI_t ⟨i_nlt (by assumption), i_nlt cc⟩, rfl⟩
theorem c_X11_isThing {h : List PC} (x : Int32) : Ct mX11_isThing [.int x] h (fun r h' => r = some (.int (bI (wi x (nI 0) (nI 3)))) ∧ h' = h) := by
  refine ct_at (L := [_]) (by decide +kernel) rfl rfl (Nat.le_of_ble_eq_true rfl) ?_
  refine at_iload_n 1 dX11_isThing_0 rfl rfl rfl ?_
  refine at_iconst 2 (nI 0) dX11_isThing_1 rfl (by decide) ?_
  refine at_iconst 3 (nI 3) dX11_isThing_2 rfl (by decide) ?_
  refine at_invS 6 [_, _, _] _ (c_X11_isWithin x (nI 0) (nI 3)) dX11_isThing_3 rfl rfl ml_X11_94 cl_X11_isWithin sv_X11_isWithin rfl (Nat.le_of_ble_eq_true rfl) ⟨by decide, by decide⟩ (by decide) (fun rr hh qq => ?_)
  obtain ⟨rfl, rfl⟩ := qq
  refine at_zret dX11_isThing_6 rfl ?_ (by decide) (by decide) ⟨rfl, rfl⟩
  cases wi x (nI 0) (nI 3) <;> rfl
theorem i2l_nn {a : Int32} (h : ¬ a < 0) : ∃ j : Nat, j < 2 ^ 31 ∧ a = nI j := nI_of h
theorem c_X11_isMakeUp {h : List PC} (a b c d : Int32) : Ct mX11_isMakeUp [.int a, .int b, .int c, .int d] h (fun r h' => r = some (.int (bI (decide (0 ≤ a ∧ 0 ≤ b ∧ 0 ≤ c ∧ 0 ≤ d ∧ a.toInt + b.toInt + c.toInt + d.toInt = 1000)))) ∧ h' = h) := by
  refine ct_at (L := [_, _, _, _]) (by decide +kernel) rfl rfl (Nat.le_of_ble_eq_true rfl) ?_
  refine at_iload_n 1 dX11_isMakeUp_0 rfl rfl rfl ?_
  refine at_if_lt 38 4 dX11_isMakeUp_1 rfl rfl (fun cc => ?_) (fun cc => ?_)
  · refine at_iconst 39 (nI 0) dX11_isMakeUp_38 rfl (by decide) ?_
    refine at_zret dX11_isMakeUp_39 rfl (by first | rfl | decide) (by decide) (by decide) ?_
    exact ⟨bI_f (fun q => absurd cc (Int32.not_lt.mpr q.1)), rfl⟩
  have ca := cc
  refine at_iload_n 5 dX11_isMakeUp_4 rfl rfl rfl ?_
  refine at_if_lt 38 8 dX11_isMakeUp_5 rfl rfl (fun cc => ?_) (fun cc => ?_)
  · refine at_iconst 39 (nI 0) dX11_isMakeUp_38 rfl (by decide) ?_
    refine at_zret dX11_isMakeUp_39 rfl (by first | rfl | decide) (by decide) (by decide) ?_
    exact ⟨bI_f (fun q => absurd cc (Int32.not_lt.mpr q.2.1)), rfl⟩
  have cb := cc
  refine at_iload_n 9 dX11_isMakeUp_8 rfl rfl rfl ?_
  refine at_if_lt 38 12 dX11_isMakeUp_9 rfl rfl (fun cc => ?_) (fun cc => ?_)
  · refine at_iconst 39 (nI 0) dX11_isMakeUp_38 rfl (by decide) ?_
    refine at_zret dX11_isMakeUp_39 rfl (by first | rfl | decide) (by decide) (by decide) ?_
    exact ⟨bI_f (fun q => absurd cc (Int32.not_lt.mpr q.2.2.1)), rfl⟩
  have ccc := cc
  refine at_iload_n 13 dX11_isMakeUp_12 rfl rfl rfl ?_
  refine at_if_lt 38 16 dX11_isMakeUp_13 rfl rfl (fun cc => ?_) (fun cc => ?_)
  · refine at_iconst 39 (nI 0) dX11_isMakeUp_38 rfl (by decide) ?_
    refine at_zret dX11_isMakeUp_39 rfl (by first | rfl | decide) (by decide) (by decide) ?_
    exact ⟨bI_f (fun q => absurd cc (Int32.not_lt.mpr q.2.2.2.1)), rfl⟩
  have cdd := cc
  clear cc
  obtain ⟨x, hx, rfl⟩ := nI_of ca
  obtain ⟨y, hy, rfl⟩ := nI_of cb
  obtain ⟨z, hz, rfl⟩ := nI_of ccc
  obtain ⟨u, hu, rfl⟩ := nI_of cdd
  rw [nI_toInt hx, nI_toInt hy, nI_toInt hz, nI_toInt hu]
  refine at_iload_n 17 dX11_isMakeUp_16 rfl rfl rfl ?_
  first | refine at_i2lN 18 dX11_isMakeUp_17 rfl (by omega) ?_ | refine at_i2l 18 dX11_isMakeUp_17 rfl rfl ?_
  refine at_iload_n 19 dX11_isMakeUp_18 rfl rfl rfl ?_
  first | refine at_i2lN 20 dX11_isMakeUp_19 rfl (by omega) ?_ | refine at_i2l 20 dX11_isMakeUp_19 rfl rfl ?_
  first | refine at_laddN 21 dX11_isMakeUp_20 rfl ?_ | refine at_ladd 21 dX11_isMakeUp_20 rfl ?_
  refine at_iload_n 22 dX11_isMakeUp_21 rfl rfl rfl ?_
  first | refine at_i2lN 23 dX11_isMakeUp_22 rfl (by omega) ?_ | refine at_i2l 23 dX11_isMakeUp_22 rfl rfl ?_
  first | refine at_laddN 24 dX11_isMakeUp_23 rfl ?_ | refine at_ladd 24 dX11_isMakeUp_23 rfl ?_
  refine at_iload_n 25 dX11_isMakeUp_24 rfl rfl rfl ?_
  first | refine at_i2lN 26 dX11_isMakeUp_25 rfl (by omega) ?_ | refine at_i2l 26 dX11_isMakeUp_25 rfl rfl ?_
  first | refine at_laddN 27 dX11_isMakeUp_26 rfl ?_ | refine at_ladd 27 dX11_isMakeUp_26 rfl ?_
  refine at_ldc2 30 (lN 1000) dX11_isMakeUp_27 rfl cj_X11_270 ?_
  refine at_lcmp_neN 31 38 34 dX11_isMakeUp_30 rfl dX11_isMakeUp_31 rfl rfl (by omega) (by omega) (fun cc => ?_) (fun cc => ?_)
  · refine at_iconst 39 (nI 0) dX11_isMakeUp_38 rfl (by decide) ?_
    refine at_zret dX11_isMakeUp_39 rfl (by first | rfl | decide) (by decide) (by decide) ?_
    exact ⟨bI_f (fun q => by omega), rfl⟩
  · refine at_iconst 35 (nI 1) dX11_isMakeUp_34 rfl (by decide) ?_
    refine at_goto 39 dX11_isMakeUp_35 rfl ?_
    refine at_zret dX11_isMakeUp_39 rfl (by first | rfl | decide) (by decide) (by decide) ?_
    exact ⟨bI_t ⟨nI_pos' hx, nI_pos' hy, nI_pos' hz, nI_pos' hu, by omega⟩, rfl⟩
theorem c_X11_mostDoubt {h : List PC} {k : Nat} (hk : k < 4) : Ct mX11_mostDoubt [.int (nI k)] h (fun r h' => r = some (.int (nI (if k = 0 ∨ k = 2 then 0 else 100))) ∧ h' = h) := by
  refine ct_at (L := [_]) (by decide +kernel) rfl rfl (Nat.le_of_ble_eq_true rfl) ?_
  refine at_iload_n 1 dX11_mostDoubt_0 rfl rfl rfl ?_
  refine at_if_eqN 9 4 dX11_mostDoubt_1 rfl rfl (by omega) (fun cc => ?_) (fun cc => ?_)
  · refine at_iconst 10 (nI 0) dX11_mostDoubt_9 rfl (by decide) ?_
    refine at_goto 15 dX11_mostDoubt_10 rfl ?_
    refine at_iret dX11_mostDoubt_15 rfl (by decide) (by decide) ?_
    rw [if_pos (Or.inl cc)]
    exact ⟨rfl, rfl⟩
  have c0 := cc
  refine at_iload_n 5 dX11_mostDoubt_4 rfl rfl rfl ?_
  refine at_iconst 6 (nI 2) dX11_mostDoubt_5 rfl (by decide) ?_
  refine at_icmp_neN 13 9 dX11_mostDoubt_6 rfl rfl (by omega) (by omega) (fun cc => ?_) (fun cc => ?_)
  · refine at_bipush 15 (nI 100) dX11_mostDoubt_13 rfl (by decide) ?_
    refine at_iret dX11_mostDoubt_15 rfl (by decide) (by decide) ?_
    rw [if_neg (by omega)]
    exact ⟨rfl, rfl⟩
  · refine at_iconst 10 (nI 0) dX11_mostDoubt_9 rfl (by decide) ?_
    refine at_goto 15 dX11_mostDoubt_10 rfl ?_
    refine at_iret dX11_mostDoubt_15 rfl (by decide) (by decide) ?_
    rw [if_pos (Or.inr cc)]
    exact ⟨rfl, rfl⟩
theorem c_X11_sumOf {h : List PC} {w : Nat → Nat} {k : Nat} (hk : h[k]? = some (aI 8 w)) : Ct mX11_sumOf [.ref k] h (fun r h' => r = some (.int (nI (sm w 8))) ∧ h' = h) := by
  refine ct_at (L := [_, _, _, _, _, _]) (by decide +kernel) rfl rfl (Nat.le_of_ble_eq_true rfl) ?_
  refine at_iconst 1 (nI 0) dX11_sumOf_0 rfl (by decide) ?_
  refine at_istore_n (L' := [_, _, _, _, _, _]) 2 dX11_sumOf_1 rfl rfl (by decide) rfl rfl ?_
  refine at_aload_n 3 dX11_sumOf_2 rfl rfl rfl ?_
  refine at_astore_n (L' := [_, _, _, _, _, _]) 4 dX11_sumOf_3 rfl rfl (by decide) rfl rfl ?_
  refine at_aload_n 5 dX11_sumOf_4 rfl rfl rfl ?_
  refine at_alen 6 .int dX11_sumOf_5 rfl (hk) (fun _ => rfl) rfl ?_
  rw [show Int32.ofNat 8 = nI 8 from rfl]
  refine at_istore_n (L' := [_, _, _, _, _, _]) 7 dX11_sumOf_6 rfl rfl (by decide) rfl rfl ?_
  refine at_iconst 8 (nI 0) dX11_sumOf_7 rfl (by decide) ?_
  refine at_istore (L' := [_, _, _, _, _, _]) 10 dX11_sumOf_8 rfl (by decide) rfl rfl ?_
  have loop : ∀ (d i : Nat), i + d = 8 → At mX11_sumOf T0 10 [.ref k, .int (nI (sm w i)), .ref k, .int (nI 8), .int (nI i), .null] [] h 0 0 (ZM mX11_sumOf (fun r h' => r = some (.int (nI (sm w 8))) ∧ h' = h)) := by
    intro d
    induction d with
    | zero =>
      intro i hi
      have : i = 8 := by omega
      subst this
      refine at_iload 12 dX11_sumOf_10 rfl rfl ?_
      refine at_iload_n 13 dX11_sumOf_12 rfl rfl rfl ?_
      refine at_icmp_geN 33 16 dX11_sumOf_13 rfl rfl (by omega) (by omega) (fun cc => ?_) (fun cc => ?_)
      · refine at_iload_n 34 dX11_sumOf_33 rfl rfl rfl ?_
        refine at_iret dX11_sumOf_34 rfl (by decide) (by decide) ?_
        exact ⟨rfl, rfl⟩
      · omega
    | succ d ih =>
      intro i hi
      refine at_iload 12 dX11_sumOf_10 rfl rfl ?_
      refine at_iload_n 13 dX11_sumOf_12 rfl rfl rfl ?_
      refine at_icmp_geN 33 16 dX11_sumOf_13 rfl rfl (by omega) (by omega) (fun cc => ?_) (fun cc => ?_)
      · omega
      refine at_aload_n 17 dX11_sumOf_16 rfl rfl rfl ?_
      refine at_iload 19 dX11_sumOf_17 rfl rfl ?_
      first | refine at_ia 20 dX11_sumOf_19 rfl ⟨_, _, by assumption, by omega, by first | decide | omega, ?_⟩ | refine at_iaG 20 dX11_sumOf_19 rfl ⟨_, _, by assumption, by omega, by first | decide | omega, ?_⟩
      refine at_istore (L' := [_, _, _, _, _, _]) 22 dX11_sumOf_20 rfl (by decide) rfl rfl ?_
      refine at_iload_n 23 dX11_sumOf_22 rfl rfl rfl ?_
      refine at_iload 25 dX11_sumOf_23 rfl rfl ?_
      first | refine at_iaddN 26 dX11_sumOf_25 rfl ?_ | refine at_iadd 26 dX11_sumOf_25 rfl ?_
      refine at_istore_n (L' := [_, _, _, _, _, _]) 27 dX11_sumOf_26 rfl rfl (by decide) rfl rfl ?_
      refine at_iincN (q := 1) (L' := [_, _, _, _, _, _]) 30 dX11_sumOf_27 rfl (by decide) rfl (by decide) rfl rfl ?_
      refine at_goto 10 dX11_sumOf_30 rfl ?_
      refine at_drop (L' := [_, _, _, _, _, _]) 5 rfl ?_
      exact ih (i + 1) (by omega)
  exact loop 8 0 (by omega)
theorem c_X11_canRun {h : List PC} {wn : Int32} {md mx cc0 w p st : Nat} (h0 : h[0]? = some (oTankObj wn)) (ht : h[39]? = some (oTank 39 md cc0 w p st)) (hm : h[18]? = some (oMix mx)) (h1 : md ≤ 1) (h2 : mx ≤ 1) : Ct mX11_canRun [.ref 0] h (fun r h' => r = some (.int (bI (decide (md = 1 ∧ mx = 1)))) ∧ h' = h) := by
  refine ct_at (L := [_]) (by decide +kernel) rfl rfl (Nat.le_of_ble_eq_true rfl) ?_
  refine at_aload_n 1 dX11_canRun_0 rfl rfl rfl ?_
  refine at_g 4 dX11_canRun_1 rfl fl_X11_47 ⟨_, by assumption, ?_⟩
  refine ⟨_, rfl, ?_⟩
  refine at_g 7 dX11_canRun_4 rfl fl_X11_156 ⟨_, by assumption, ?_⟩
  refine ⟨_, rfl, ?_⟩
  refine at_if_eqN 24 10 dX11_canRun_7 rfl rfl (by omega) (fun cc => ?_) (fun cc => ?_)
  · refine at_iconst 25 (nI 0) dX11_canRun_24 rfl (by decide) ?_
    refine at_zret dX11_canRun_25 rfl (by first | rfl | decide) (by decide) (by decide) ?_
    exact ⟨bI_f (by omega), rfl⟩
  have c1 := cc
  refine at_aload_n 11 dX11_canRun_10 rfl rfl rfl ?_
  refine at_g 14 dX11_canRun_11 rfl fl_X11_22 ⟨_, by assumption, ?_⟩
  refine ⟨_, rfl, ?_⟩
  refine at_g 17 dX11_canRun_14 rfl fl_X11_185 ⟨_, by assumption, ?_⟩
  refine ⟨_, rfl, ?_⟩
  refine at_if_eqN 24 20 dX11_canRun_17 rfl rfl (by omega) (fun cc => ?_) (fun cc => ?_)
  · refine at_iconst 25 (nI 0) dX11_canRun_24 rfl (by decide) ?_
    refine at_zret dX11_canRun_25 rfl (by first | rfl | decide) (by decide) (by decide) ?_
    exact ⟨bI_f (by omega), rfl⟩
  refine at_iconst 21 (nI 1) dX11_canRun_20 rfl (by decide) ?_
  refine at_goto 25 dX11_canRun_21 rfl ?_
  refine at_zret dX11_canRun_25 rfl (by first | rfl | decide) (by decide) (by decide) ?_
  exact ⟨bI_t (by omega), rfl⟩
theorem c_X2_has {h : List PC} {cnt : Nat} (f : Int32) (hF : h[4]? = some (oFeeds cnt)) : Ct mX2_has [.ref 4, .int f] h (fun r h' => r = some (.int (bI (decide (0 ≤ f ∧ f < nI cnt)))) ∧ h' = h) := by
  refine ct_at (L := [_, _]) (by decide +kernel) rfl rfl (Nat.le_of_ble_eq_true rfl) ?_
  refine at_iload_n 1 dX2_has_0 rfl rfl rfl ?_
  refine at_if_lt 16 4 dX2_has_1 rfl rfl (fun cc => ?_) (fun cc => ?_)
  · refine at_iconst 17 (nI 0) dX2_has_16 rfl (by decide) ?_
    refine at_zret dX2_has_17 rfl (by first | rfl | decide) (by decide) (by decide) ?_
    exact ⟨bI_f (fun q => absurd cc (Int32.not_lt.mpr q.1)), rfl⟩
  refine at_iload_n 5 dX2_has_4 rfl rfl rfl ?_
  refine at_aload_n 6 dX2_has_5 rfl rfl rfl ?_
  refine at_g 9 dX2_has_6 rfl fl_X2_29 ⟨_, by assumption, ?_⟩
  refine ⟨_, rfl, ?_⟩
  refine at_icmp_ge 16 12 dX2_has_9 rfl rfl (fun cc => ?_) (fun cc => ?_)
  · refine at_iconst 17 (nI 0) dX2_has_16 rfl (by decide) ?_
    refine at_zret dX2_has_17 rfl (by first | rfl | decide) (by decide) (by decide) ?_
    exact ⟨bI_f (fun q => absurd q.2 (Int32.not_lt.mpr cc)), rfl⟩
  refine at_iconst 13 (nI 1) dX2_has_12 rfl (by decide) ?_
  refine at_goto 17 dX2_has_13 rfl ?_
  refine at_zret dX2_has_17 rfl (by first | rfl | decide) (by decide) (by decide) ?_
  exact ⟨bI_t ⟨i_nlt (by assumption), i_nle cc⟩, rfl⟩
theorem c_X1_has {h : List PC} {cnt : Nat} (f : Int32) (hF : h[21]? = some (oColours cnt)) : Ct mX1_has [.ref 21, .int f] h (fun r h' => r = some (.int (bI (decide (0 ≤ f ∧ f < nI cnt)))) ∧ h' = h) := by
  refine ct_at (L := [_, _]) (by decide +kernel) rfl rfl (Nat.le_of_ble_eq_true rfl) ?_
  refine at_iload_n 1 dX1_has_0 rfl rfl rfl ?_
  refine at_if_lt 16 4 dX1_has_1 rfl rfl (fun cc => ?_) (fun cc => ?_)
  · refine at_iconst 17 (nI 0) dX1_has_16 rfl (by decide) ?_
    refine at_zret dX1_has_17 rfl (by first | rfl | decide) (by decide) (by decide) ?_
    exact ⟨bI_f (fun q => absurd cc (Int32.not_lt.mpr q.1)), rfl⟩
  refine at_iload_n 5 dX1_has_4 rfl rfl rfl ?_
  refine at_aload_n 6 dX1_has_5 rfl rfl rfl ?_
  refine at_g 9 dX1_has_6 rfl fl_X1_19 ⟨_, by assumption, ?_⟩
  refine ⟨_, rfl, ?_⟩
  refine at_icmp_ge 16 12 dX1_has_9 rfl rfl (fun cc => ?_) (fun cc => ?_)
  · refine at_iconst 17 (nI 0) dX1_has_16 rfl (by decide) ?_
    refine at_zret dX1_has_17 rfl (by first | rfl | decide) (by decide) (by decide) ?_
    exact ⟨bI_f (fun q => absurd q.2 (Int32.not_lt.mpr cc)), rfl⟩
  refine at_iconst 13 (nI 1) dX1_has_12 rfl (by decide) ?_
  refine at_goto 17 dX1_has_13 rfl ?_
  refine at_zret dX1_has_17 rfl (by first | rfl | decide) (by decide) (by decide) ?_
  exact ⟨bI_t ⟨i_nlt (by assumption), i_nle cc⟩, rfl⟩
theorem c_X5_has {h : List PC} {cnt wa pu : Nat} (f : Int32) (hF : h[62]? = some (oLog cnt wa pu)) : Ct mX5_has [.ref 62, .int f] h (fun r h' => r = some (.int (bI (decide (0 ≤ f ∧ f < nI cnt)))) ∧ h' = h) := by
  refine ct_at (L := [_, _]) (by decide +kernel) rfl rfl (Nat.le_of_ble_eq_true rfl) ?_
  refine at_iload_n 1 dX5_has_0 rfl rfl rfl ?_
  refine at_if_lt 16 4 dX5_has_1 rfl rfl (fun cc => ?_) (fun cc => ?_)
  · refine at_iconst 17 (nI 0) dX5_has_16 rfl (by decide) ?_
    refine at_zret dX5_has_17 rfl (by first | rfl | decide) (by decide) (by decide) ?_
    exact ⟨bI_f (fun q => absurd cc (Int32.not_lt.mpr q.1)), rfl⟩
  refine at_iload_n 5 dX5_has_4 rfl rfl rfl ?_
  refine at_aload_n 6 dX5_has_5 rfl rfl rfl ?_
  refine at_g 9 dX5_has_6 rfl fl_X5_28 ⟨_, by assumption, ?_⟩
  refine ⟨_, rfl, ?_⟩
  refine at_icmp_ge 16 12 dX5_has_9 rfl rfl (fun cc => ?_) (fun cc => ?_)
  · refine at_iconst 17 (nI 0) dX5_has_16 rfl (by decide) ?_
    refine at_zret dX5_has_17 rfl (by first | rfl | decide) (by decide) (by decide) ?_
    exact ⟨bI_f (fun q => absurd q.2 (Int32.not_lt.mpr cc)), rfl⟩
  refine at_iconst 13 (nI 1) dX5_has_12 rfl (by decide) ?_
  refine at_goto 17 dX5_has_13 rfl ?_
  refine at_zret dX5_has_17 rfl (by first | rfl | decide) (by decide) (by decide) ?_
  exact ⟨bI_t ⟨i_nlt (by assumption), i_nle cc⟩, rfl⟩
theorem c_X5_clear {h : List PC} {cnt wa pu : Nat} (hF : h[62]? = some (oLog cnt wa pu)) : Ct mX5_clear [.ref 62] h (fun r h' => r = none ∧ h'[62]? = some (oLog 0 0 0) ∧ Fr (fun j => j = 62) h h') := by
  refine ct_at (L := [_]) (by decide +kernel) rfl rfl (Nat.le_of_ble_eq_true rfl) ?_
  have hfr : Fr (fun j => j = 62) h h := Fr.rf
  refine at_aload_n 1 dX5_clear_0 rfl rfl rfl ?_
  refine at_iconst 2 (nI 0) dX5_clear_1 rfl (by decide) ?_
  refine at_pi 5 dX5_clear_2 rfl pl_X5_28 (rfl) (rfl) ⟨_, by assumption, ?_⟩
  refine ⟨(Nat.le_of_ble_eq_true rfl), [_, _, _, _, _, _, _, _], rfl, fun hh1 nn1 => ?_⟩
  replace hF := nn1.1
  replace hfr := hfr.nw nn1 (by first | (dsimp only; omega) | (dsimp only; done) | simp)
  clear nn1
  refine at_aload_n 6 dX5_clear_5 rfl rfl rfl ?_
  refine at_iconst 7 (nI 0) dX5_clear_6 rfl (by decide) ?_
  refine at_pi 10 dX5_clear_7 rfl pl_X5_32 (rfl) (rfl) ⟨_, by assumption, ?_⟩
  refine ⟨(Nat.le_of_ble_eq_true rfl), [_, _, _, _, _, _, _, _], rfl, fun hh2 nn2 => ?_⟩
  replace hF := nn2.1
  replace hfr := hfr.nw nn2 (by first | (dsimp only; omega) | (dsimp only; done) | simp)
  clear nn2
  refine at_aload_n 11 dX5_clear_10 rfl rfl rfl ?_
  refine at_iconst 12 (nI 0) dX5_clear_11 rfl (by decide) ?_
  refine at_pi 15 dX5_clear_12 rfl pl_X5_35 (rfl) (rfl) ⟨_, by assumption, ?_⟩
  refine ⟨(Nat.le_of_ble_eq_true rfl), [_, _, _, _, _, _, _, _], rfl, fun hh3 nn3 => ?_⟩
  replace hF := nn3.1
  replace hfr := hfr.nw nn3 (by first | (dsimp only; omega) | (dsimp only; done) | simp)
  clear nn3
  refine at_vret dX5_clear_15 rfl (by decide) (by decide) ?_
  exact ⟨rfl, hF, hfr⟩
theorem c_X10_outOfLast {h : List PC} {t md n w p st : Nat} (hT : h[t]? = some (oTank t md n w p st)) (hf : h[t + 8]? = some (aR 7 (rowsAt (t + 8) 7))) (hn : n < 7) : Ct mX10_outOfLast [.ref t] h (fun r h' => r = some (.ref (t + 9 + n)) ∧ h' = h) := by
  refine ct_at (L := [_]) (by decide +kernel) rfl rfl (Nat.le_of_ble_eq_true rfl) ?_
  refine at_aload_n 1 dX10_outOfLast_0 rfl rfl rfl ?_
  refine at_g 4 dX10_outOfLast_1 rfl fl_X10_16 ⟨_, by assumption, ?_⟩
  refine ⟨_, rfl, ?_⟩
  refine at_aload_n 5 dX10_outOfLast_4 rfl rfl rfl ?_
  refine at_g 8 dX10_outOfLast_5 rfl fl_X10_19 ⟨_, by assumption, ?_⟩
  refine ⟨_, rfl, ?_⟩
  refine at_aa 9 dX10_outOfLast_8 rfl ⟨_, _, by assumption, by omega, by first | decide | omega, ?_⟩
  refine ⟨_, rowsAt_in (by omega), ?_⟩
  refine at_aret dX10_outOfLast_9 rfl (by decide) (by decide) ?_
  exact ⟨rfl, rfl⟩
theorem c_X10_allGrams {h : List PC} {t md n w p st : Nat} (hT : h[t]? = some (oTank t md n w p st)) (hm : md ≤ 1) : Ct mX10_allGrams [.ref t] h (fun r h' => r = some (.int (nI (if md = 1 then n * w else 0))) ∧ h' = h) := by
  refine ct_at (L := [_]) (by decide +kernel) rfl rfl (Nat.le_of_ble_eq_true rfl) ?_
  refine at_aload_n 1 dX10_allGrams_0 rfl rfl rfl ?_
  refine at_g 4 dX10_allGrams_1 rfl fl_X10_33 ⟨_, by assumption, ?_⟩
  refine ⟨_, rfl, ?_⟩
  refine at_if_eqN 19 7 dX10_allGrams_4 rfl rfl (by omega) (fun cc => ?_) (fun cc => ?_)
  · refine at_iconst 20 (nI 0) dX10_allGrams_19 rfl (by decide) ?_
    refine at_iret dX10_allGrams_20 rfl (by decide) (by decide) ?_
    rw [if_neg (by omega)]
    exact ⟨rfl, rfl⟩
  · refine at_aload_n 8 dX10_allGrams_7 rfl rfl rfl ?_
    refine at_g 11 dX10_allGrams_8 rfl fl_X10_19 ⟨_, by assumption, ?_⟩
    refine ⟨_, rfl, ?_⟩
    refine at_aload_n 12 dX10_allGrams_11 rfl rfl rfl ?_
    refine at_g 15 dX10_allGrams_12 rfl fl_X10_23 ⟨_, by assumption, ?_⟩
    refine ⟨_, rfl, ?_⟩
    first | refine at_imulN 16 dX10_allGrams_15 rfl ?_ | refine at_imul 16 dX10_allGrams_15 rfl ?_
    refine at_goto 20 dX10_allGrams_16 rfl ?_
    refine at_iret dX10_allGrams_20 rfl (by decide) (by decide) ?_
    rw [if_pos (by omega)]
    exact ⟨rfl, rfl⟩

