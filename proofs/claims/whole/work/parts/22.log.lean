theorem cpy_shr (a b : Nat → Nat) (dp n : Nat) : va_cpy (fun i => nI (a i)) (fun i => nI (b i)) 0 dp n = fun i => nI (shr dp n a b i) := by
  funext i
  unfold va_cpy shr
  by_cases e : dp ≤ i ∧ i < dp + n
  · rw [if_pos e, if_pos e, Nat.zero_add]
  · rw [if_neg e, if_neg e]
theorem c_X5_add {h : List PC} {k cnt wa pu g wb : Nat} {nm : Int32} {T Ld Gr ws th ld : Nat → Nat} {nmf : Nat → Int32} (hk : 67 < k ∨ k + 2 < 62) (hL : h[62]? = some (oLog cnt wa pu)) (h63 : h[63]? = some (aI 1600 T)) (h64 : h[64]? = some (aI 3200 Ld)) (h65 : h[65]? = some (aI 400 Gr)) (h66 : h[66]? = some (aG 400 nmf)) (h67 : h[67]? = some (aZ 400 (fun i => nI (ws i)))) (hG : h[k]? = some (oGlass k g)) (hth : h[k + 1]? = some (aI 4 th)) (hld : h[k + 2]? = some (aI 8 ld)) (hc : cnt < 400) (hwb : wb ≤ 1) : Ct mX5_add [.ref 62, .ref k, .int nm, .int (nI wb)] h (fun r h' => r = none ∧ h'[62]? = some (oLog (cnt + 1) (wa + (if wb = 0 then 0 else g)) (pu + g)) ∧ h'[63]? = some (aI 1600 (shr (cnt * 4) 4 th T)) ∧ h'[64]? = some (aI 3200 (shr (cnt * 8) 8 ld Ld)) ∧ h'[65]? = some (aI 400 (updN Gr cnt g)) ∧ h'[66]? = some (aG 400 (upd nmf cnt nm)) ∧ h'[67]? = some (aZ 400 (fun i => nI (updN ws cnt wb i))) ∧ Fr (fun j => 62 ≤ j ∧ j ≤ 67) h h') := by
  refine ct_at (L := [_, _, _, _]) (by decide +kernel) rfl rfl (Nat.le_of_ble_eq_true rfl) ?_
  have hfr : Fr (fun j => 62 ≤ j ∧ j ≤ 67) h h := Fr.rf
  refine at_aload_n 1 dX5_add_0 rfl rfl rfl ?_
  refine at_g 4 dX5_add_1 rfl fl_X5_28 ⟨_, by assumption, ?_⟩
  refine ⟨_, rfl, ?_⟩
  refine at_sipush 7 (nI 400) dX5_add_4 rfl (by decide) ?_
  refine at_icmp_ltN 11 10 dX5_add_7 rfl rfl (by omega) (by omega) (fun cc => ?_) (fun cc => ?_)
  rotate_left
  · omega
  refine at_aload_n 12 dX5_add_11 rfl rfl rfl ?_
  refine at_g 15 dX5_add_12 rfl fl_X5_38 ⟨_, by assumption, ?_⟩
  refine ⟨_, rfl, ?_⟩
  refine at_iconst 16 (nI 0) dX5_add_15 rfl (by decide) ?_
  refine at_aload_n 17 dX5_add_16 rfl rfl rfl ?_
  refine at_g 20 dX5_add_17 rfl fl_X5_9 ⟨_, by assumption, ?_⟩
  refine ⟨_, rfl, ?_⟩
  refine at_aload_n 21 dX5_add_20 rfl rfl rfl ?_
  refine at_g 24 dX5_add_21 rfl fl_X5_28 ⟨_, by assumption, ?_⟩
  refine ⟨_, rfl, ?_⟩
  refine at_iconst 25 (nI 4) dX5_add_24 rfl (by decide) ?_
  first | refine at_imulN 26 dX5_add_25 rfl ?_ | refine at_imul 26 dX5_add_25 rfl ?_
  refine at_iconst 27 (nI 4) dX5_add_26 rfl (by decide) ?_
  refine at_copy 30 dX5_add_27 rfl ml_X5_41 jw_copy hth h63 (by decide) (by decide) (by omega) (Nat.le_of_ble_eq_true rfl) (by decide) (fun hh1 nn1 => ?_)
  rw [cpy_shr] at nn1
  replace hL := nn1.o (by decide) hL
  replace h63 := nn1.1
  replace h64 := nn1.o (by decide) h64
  replace h65 := nn1.o (by decide) h65
  replace h66 := nn1.o (by decide) h66
  replace h67 := nn1.o (by decide) h67
  replace hG := nn1.o (by omega) hG
  replace hth := nn1.o (by omega) hth
  replace hld := nn1.o (by omega) hld
  replace hfr := hfr.nw nn1 (by omega)
  clear nn1
  refine at_aload_n 31 dX5_add_30 rfl rfl rfl ?_
  refine at_g 34 dX5_add_31 rfl fl_X5_47 ⟨_, by assumption, ?_⟩
  refine ⟨_, rfl, ?_⟩
  refine at_iconst 35 (nI 0) dX5_add_34 rfl (by decide) ?_
  refine at_aload_n 36 dX5_add_35 rfl rfl rfl ?_
  refine at_g 39 dX5_add_36 rfl fl_X5_15 ⟨_, by assumption, ?_⟩
  refine ⟨_, rfl, ?_⟩
  refine at_aload_n 40 dX5_add_39 rfl rfl rfl ?_
  refine at_g 43 dX5_add_40 rfl fl_X5_28 ⟨_, by assumption, ?_⟩
  refine ⟨_, rfl, ?_⟩
  refine at_bipush 45 (nI 8) dX5_add_43 rfl (by decide) ?_
  first | refine at_imulN 46 dX5_add_45 rfl ?_ | refine at_imul 46 dX5_add_45 rfl ?_
  refine at_bipush 48 (nI 8) dX5_add_46 rfl (by decide) ?_
  refine at_copy 51 dX5_add_48 rfl ml_X5_41 jw_copy hld h64 (by decide) (by decide) (by omega) (Nat.le_of_ble_eq_true rfl) (by decide) (fun hh2 nn2 => ?_)
  rw [cpy_shr] at nn2
  replace hL := nn2.o (by decide) hL
  replace h63 := nn2.o (by decide) h63
  replace h64 := nn2.1
  replace h65 := nn2.o (by decide) h65
  replace h66 := nn2.o (by decide) h66
  replace h67 := nn2.o (by decide) h67
  replace hG := nn2.o (by omega) hG
  replace hth := nn2.o (by omega) hth
  replace hld := nn2.o (by omega) hld
  replace hfr := hfr.nw nn2 (by omega)
  clear nn2
  refine at_aload_n 52 dX5_add_51 rfl rfl rfl ?_
  refine at_g 55 dX5_add_52 rfl fl_X5_18 ⟨_, by assumption, ?_⟩
  refine ⟨_, rfl, ?_⟩
  refine at_aload_n 56 dX5_add_55 rfl rfl rfl ?_
  refine at_g 59 dX5_add_56 rfl fl_X5_28 ⟨_, by assumption, ?_⟩
  refine ⟨_, rfl, ?_⟩
  refine at_aload_n 60 dX5_add_59 rfl rfl rfl ?_
  refine at_g 63 dX5_add_60 rfl fl_X5_48 ⟨_, by assumption, ?_⟩
  refine ⟨_, rfl, ?_⟩
  first | refine at_is 64 dX5_add_63 rfl ⟨_, _, by assumption, by omega, by first | decide | omega, fun hh1 nn1 => ?_⟩ | refine at_isG 64 dX5_add_63 rfl ⟨_, _, by assumption, by omega, by first | decide | omega, fun hh1 nn1 => ?_⟩
  replace hL := nn1.o (by first | decide | omega | assumption) hL
  replace h63 := nn1.o (by first | decide | omega | assumption) h63
  replace h64 := nn1.o (by first | decide | omega | assumption) h64
  replace h65 := nn1.1
  replace h66 := nn1.o (by first | decide | omega | assumption) h66
  replace h67 := nn1.o (by first | decide | omega | assumption) h67
  replace hG := nn1.o (by first | decide | omega | assumption) hG
  replace hth := nn1.o (by first | decide | omega | assumption) hth
  replace hld := nn1.o (by first | decide | omega | assumption) hld
  replace hfr := hfr.nw nn1 (by first | (dsimp only; omega) | (dsimp only; done) | simp)
  clear nn1
  refine at_aload_n 65 dX5_add_64 rfl rfl rfl ?_
  refine at_g 68 dX5_add_65 rfl fl_X5_21 ⟨_, by assumption, ?_⟩
  refine ⟨_, rfl, ?_⟩
  refine at_aload_n 69 dX5_add_68 rfl rfl rfl ?_
  refine at_g 72 dX5_add_69 rfl fl_X5_28 ⟨_, by assumption, ?_⟩
  refine ⟨_, rfl, ?_⟩
  refine at_iload_n 73 dX5_add_72 rfl rfl rfl ?_
  refine at_isG 74 dX5_add_73 rfl ⟨_, _, by assumption, by omega, by first | decide | omega, fun hh2 nn2 => ?_⟩
  replace hL := nn2.o (by first | decide | omega | assumption) hL
  replace h63 := nn2.o (by first | decide | omega | assumption) h63
  replace h64 := nn2.o (by first | decide | omega | assumption) h64
  replace h65 := nn2.o (by first | decide | omega | assumption) h65
  replace h66 := nn2.1
  replace h67 := nn2.o (by first | decide | omega | assumption) h67
  replace hG := nn2.o (by first | decide | omega | assumption) hG
  replace hth := nn2.o (by first | decide | omega | assumption) hth
  replace hld := nn2.o (by first | decide | omega | assumption) hld
  replace hfr := hfr.nw nn2 (by first | (dsimp only; omega) | (dsimp only; done) | simp)
  clear nn2
  refine at_aload_n 75 dX5_add_74 rfl rfl rfl ?_
  refine at_g 78 dX5_add_75 rfl fl_X5_24 ⟨_, by assumption, ?_⟩
  refine ⟨_, rfl, ?_⟩
  refine at_aload_n 79 dX5_add_78 rfl rfl rfl ?_
  refine at_g 82 dX5_add_79 rfl fl_X5_28 ⟨_, by assumption, ?_⟩
  refine ⟨_, rfl, ?_⟩
  refine at_iload_n 83 dX5_add_82 rfl rfl rfl ?_
  refine at_zsN 84 dX5_add_83 rfl hwb ⟨_, _, by assumption, by omega, by decide, fun hh3 nn3 => ?_⟩
  replace hL := nn3.o (by decide) hL
  replace h63 := nn3.o (by decide) h63
  replace h64 := nn3.o (by decide) h64
  replace h65 := nn3.o (by decide) h65
  replace h66 := nn3.o (by decide) h66
  replace h67 := nn3.1
  replace hG := nn3.o (by omega) hG
  replace hfr := hfr.nw nn3 (by omega)
  clear nn3
  refine at_aload_n 85 dX5_add_84 rfl rfl rfl ?_
  refine at_dup 86 dX5_add_85 rfl rfl ?_
  refine at_g 89 dX5_add_86 rfl fl_X5_28 ⟨_, by assumption, ?_⟩
  refine ⟨_, rfl, ?_⟩
  refine at_iconst 90 (nI 1) dX5_add_89 rfl (by decide) ?_
  first | refine at_iaddN 91 dX5_add_90 rfl ?_ | refine at_iadd 91 dX5_add_90 rfl ?_
  refine at_pi 94 dX5_add_91 rfl pl_X5_28 (rfl) (rfl) ⟨_, by assumption, ?_⟩
  refine ⟨(Nat.le_of_ble_eq_true rfl), [_, _, _, _, _, _, _, _], rfl, fun hh3 nn3 => ?_⟩
  replace hL := nn3.1
  replace h63 := nn3.o (by first | decide | omega | assumption) h63
  replace h64 := nn3.o (by first | decide | omega | assumption) h64
  replace h65 := nn3.o (by first | decide | omega | assumption) h65
  replace h66 := nn3.o (by first | decide | omega | assumption) h66
  replace h67 := nn3.o (by first | decide | omega | assumption) h67
  replace hG := nn3.o (by first | decide | omega | assumption) hG
  replace hfr := hfr.nw nn3 (by first | (dsimp only; omega) | (dsimp only; done) | simp)
  clear nn3
  refine at_aload_n 95 dX5_add_94 rfl rfl rfl ?_
  refine at_dup 96 dX5_add_95 rfl rfl ?_
  refine at_g 99 dX5_add_96 rfl fl_X5_35 ⟨_, by assumption, ?_⟩
  refine ⟨_, rfl, ?_⟩
  refine at_aload_n 100 dX5_add_99 rfl rfl rfl ?_
  refine at_g 103 dX5_add_100 rfl fl_X5_48 ⟨_, by assumption, ?_⟩
  refine ⟨_, rfl, ?_⟩
  first | refine at_iaddN 104 dX5_add_103 rfl ?_ | refine at_iadd 104 dX5_add_103 rfl ?_
  refine at_pi 107 dX5_add_104 rfl pl_X5_35 (rfl) (rfl) ⟨_, by assumption, ?_⟩
  refine ⟨(Nat.le_of_ble_eq_true rfl), [_, _, _, _, _, _, _, _], rfl, fun hh4 nn4 => ?_⟩
  replace hL := nn4.1
  replace h63 := nn4.o (by first | decide | omega | assumption) h63
  replace h64 := nn4.o (by first | decide | omega | assumption) h64
  replace h65 := nn4.o (by first | decide | omega | assumption) h65
  replace h66 := nn4.o (by first | decide | omega | assumption) h66
  replace h67 := nn4.o (by first | decide | omega | assumption) h67
  replace hG := nn4.o (by first | decide | omega | assumption) hG
  replace hfr := hfr.nw nn4 (by first | (dsimp only; omega) | (dsimp only; done) | simp)
  clear nn4
  refine at_iload_n 108 dX5_add_107 rfl rfl rfl ?_
  refine at_if_eqN 124 111 dX5_add_108 rfl rfl (by omega) (fun cc => ?_) (fun cc => ?_)
  · refine at_vret dX5_add_124 rfl (by decide) (by decide) ?_
    rw [if_pos cc]
    exact ⟨rfl, hL, h63, h64, h65, h66, h67, hfr⟩
  · refine at_aload_n 112 dX5_add_111 rfl rfl rfl ?_
    refine at_dup 113 dX5_add_112 rfl rfl ?_
    refine at_g 116 dX5_add_113 rfl fl_X5_32 ⟨_, by assumption, ?_⟩
    refine ⟨_, rfl, ?_⟩
    refine at_aload_n 117 dX5_add_116 rfl rfl rfl ?_
    refine at_g 120 dX5_add_117 rfl fl_X5_48 ⟨_, by assumption, ?_⟩
    refine ⟨_, rfl, ?_⟩
    first | refine at_iaddN 121 dX5_add_120 rfl ?_ | refine at_iadd 121 dX5_add_120 rfl ?_
    refine at_pi 124 dX5_add_121 rfl pl_X5_32 (rfl) (rfl) ⟨_, by assumption, ?_⟩
    refine ⟨(Nat.le_of_ble_eq_true rfl), [_, _, _, _, _, _, _, _], rfl, fun hh5 nn5 => ?_⟩
    replace hL := nn5.1
    replace h63 := nn5.o (by first | decide | omega | assumption) h63
    replace h64 := nn5.o (by first | decide | omega | assumption) h64
    replace h65 := nn5.o (by first | decide | omega | assumption) h65
    replace h66 := nn5.o (by first | decide | omega | assumption) h66
    replace h67 := nn5.o (by first | decide | omega | assumption) h67
    replace hG := nn5.o (by first | decide | omega | assumption) hG
    replace hfr := hfr.nw nn5 (by first | (dsimp only; omega) | (dsimp only; done) | simp)
    clear nn5
    refine at_vret dX5_add_124 rfl (by decide) (by decide) ?_
    rw [if_neg cc]
    exact ⟨rfl, hL, h63, h64, h65, h66, h67, hfr⟩

