theorem c_X11_init {h : List PC} (hl : h.length = 1) (ob : h[0]? = some (.inr (11, dX11))) : Ct mX11_init [.ref 0] h (fun r h' => r = none ∧ h'.length = 106 ∧ RepC s0 h') := by
  have z : ∀ a i, a ≠ 0 → a ≠ 15 → s0 a i = 0 := fun a i h1 h2 => by unfold s0; rw [if_neg h1, if_neg h2]
  refine ct_at (L := [_, _]) (by decide +kernel) rfl rfl (Nat.le_of_ble_eq_true rfl) ?_
  refine at_aload_n 1 dX11_init_0 rfl rfl rfl ?_
  refine at_objInit 4 dX11_init_1 rfl ml_X11_3 jw_obj (Nat.le_of_ble_eq_true rfl) (by decide) ?_
  refine at_new (ci := 9) 7 dX9 tyX9 dX11_init_4 rfl rfl ck_X11_9 it_X9 ii_X9 inX9 tyX9_ok df_X9 (fun _ => rfl) hl (Nat.le_of_ble_eq_true rfl) (Nat.le_of_ble_eq_true rfl) (fun hh1 nn1 => ?_)
  replace hl := nn1.2.2
  replace ob := nn1.2.1 _ _ ob
  have o1 := nn1.1
  clear nn1
  refine at_dup 8 dX11_init_7 rfl rfl ?_
  refine at_invI 11 [] _ (c_X9_init hl (by omega) o1) dX11_init_8 rfl rfl rfl rfl (Or.inr nl_X11_11) cl_X9_init iv_X9_init rfl (Nat.le_of_ble_eq_true rfl) ⟨by decide, by decide⟩ (by decide) (fun rr hh qq => ?_)
  obtain ⟨rfl, l2, mg, x1, x2, x3⟩ := qq
  have l3 : hh.length = 4 := l2
  replace hl := l3
  replace ob := mg.at (by first | decide | omega) ob
  have rSh : ShA hh := ⟨x1, ⟨_, x2⟩, ⟨_, x3⟩⟩
  clear l2 mg x1 x2 x3
  refine at_astore_n (L' := [_, _]) 12 dX11_init_11 rfl rfl (by decide) rfl rfl ?_
  refine at_aload_n 13 dX11_init_12 rfl rfl rfl ?_
  refine at_new (ci := 2) 16 dX2 tyX2 dX11_init_13 rfl rfl ck_X11_12 it_X2 ii_X2 inX2 tyX2_ok df_X2 (fun _ => rfl) hl (Nat.le_of_ble_eq_true rfl) (Nat.le_of_ble_eq_true rfl) (fun hh2 nn2 => ?_)
  replace hl := nn2.2.2
  replace ob := nn2.2.1 _ _ ob
  replace rSh := rSh.mgx nn2.mg (fun _ _ _ q => q)
  have o1 := nn2.1
  clear nn2
  refine at_dup 17 dX11_init_16 rfl rfl ?_
  refine at_invI 20 [] _ (c_X2_init hl (by omega) o1) dX11_init_17 rfl rfl rfl rfl (Or.inr nl_X11_14) cl_X2_init iv_X2_init rfl (Nat.le_of_ble_eq_true rfl) ⟨by decide, by decide⟩ (by decide) (fun rr hh qq => ?_)
  obtain ⟨rfl, l2, mg, x1, x2, x3, x4, x5, x6, x7⟩ := qq
  have l3 : hh.length = 18 := l2
  replace hl := l3
  replace ob := mg.at (by first | decide | omega) ob
  replace rSh := rSh.mgx mg (fun j h1 h2 q => by omega)
  have rF : RFeeds hh (s0 0 0) (s0 1) (s0 7) (s0 2) (s0 3) (s0 4) := ⟨x1, ⟨_, x2, fun i _ => (z 1 i (by decide) (by decide)).symm⟩, x3, fun f hf => ⟨_, x4 f hf, fun t _ => (z 7 _ (by decide) (by decide)).symm⟩, ⟨_, x5, fun i _ => (z 2 i (by decide) (by decide)).symm⟩, ⟨_, x6, fun i _ => (z 3 i (by decide) (by decide)).symm⟩, ⟨_, x7, fun i _ => (z 4 i (by decide) (by decide)).symm⟩⟩
  clear l2 mg x1 x2 x3 x4 x5 x6 x7
  refine at_putrF (fs' := [_, _, _, _, _, _, _, _, _, _, _]) 23 dX11_init_20 rfl pl_X11_15 (by assumption) (Nat.le_of_ble_eq_true rfl) (fun _ => rfl) (fun _ => rfl) rfl (fun C T N q => by cases q; rfl) rfl (fun hh3 nn3 => ?_)
  replace hl := nn3.2.2.trans hl
  replace ob := nn3.1
  replace rSh := rSh.mgx nn3.mg (fun j h1 h2 q => by omega)
  replace rF := rF.mg nn3.mg (fun j h1 h2 q => by omega)
  clear nn3
  refine at_aload_n 24 dX11_init_23 rfl rfl rfl ?_
  refine at_new (ci := 6) 27 dX6 tyX6 dX11_init_24 rfl rfl ck_X11_19 it_X6 ii_X6 inX6 tyX6_ok df_X6 (fun _ => rfl) hl (Nat.le_of_ble_eq_true rfl) (Nat.le_of_ble_eq_true rfl) (fun hh4 nn4 => ?_)
  replace hl := nn4.2.2
  replace ob := nn4.2.1 _ _ ob
  replace rSh := rSh.mgx nn4.mg (fun _ _ _ q => q)
  replace rF := rF.mg nn4.mg (fun _ _ _ q => q)
  have o1 := nn4.1
  clear nn4
  refine at_dup 28 dX11_init_27 rfl rfl ?_
  refine at_invI 31 [] _ (c_X6_init hl (by omega) o1) dX11_init_28 rfl rfl rfl rfl (Or.inr nl_X11_21) cl_X6_init iv_X6_init rfl (Nat.le_of_ble_eq_true rfl) ⟨by decide, by decide⟩ (by decide) (fun rr hh qq => ?_)
  obtain ⟨rfl, l2, mg, x1, x2, x3⟩ := qq
  have l3 : hh.length = 21 := l2
  replace hl := l3
  replace ob := mg.at (by first | decide | omega) ob
  replace rSh := rSh.mgx mg (fun j h1 h2 q => by omega)
  replace rF := rF.mg mg (fun j h1 h2 q => by omega)
  have rM : RMix hh (s0 0 1) (s0 5) (s0 6) := ⟨x1, ⟨_, x2, fun i _ => (z 5 i (by decide) (by decide)).symm⟩, ⟨_, x3, fun i _ => (z 6 i (by decide) (by decide)).symm⟩⟩
  clear l2 mg x1 x2 x3
  refine at_putrF (fs' := [_, _, _, _, _, _, _, _, _, _, _]) 34 dX11_init_31 rfl pl_X11_22 (by assumption) (Nat.le_of_ble_eq_true rfl) (fun _ => rfl) (fun _ => rfl) rfl (fun C T N q => by cases q; rfl) rfl (fun hh5 nn5 => ?_)
  replace hl := nn5.2.2.trans hl
  replace ob := nn5.1
  replace rSh := rSh.mgx nn5.mg (fun j h1 h2 q => by omega)
  replace rF := rF.mg nn5.mg (fun j h1 h2 q => by omega)
  replace rM := rM.mg nn5.mg (fun j h1 h2 q => by omega)
  clear nn5
  refine at_aload_n 35 dX11_init_34 rfl rfl rfl ?_
  refine at_new (ci := 1) 38 dX1 tyX1 dX11_init_35 rfl rfl ck_X11_26 it_X1 ii_X1 inX1 tyX1_ok df_X1 (fun _ => rfl) hl (Nat.le_of_ble_eq_true rfl) (Nat.le_of_ble_eq_true rfl) (fun hh6 nn6 => ?_)
  replace hl := nn6.2.2
  replace ob := nn6.2.1 _ _ ob
  replace rSh := rSh.mgx nn6.mg (fun _ _ _ q => q)
  replace rF := rF.mg nn6.mg (fun _ _ _ q => q)
  replace rM := rM.mg nn6.mg (fun _ _ _ q => q)
  have o1 := nn6.1
  clear nn6
  refine at_dup 39 dX11_init_38 rfl rfl ?_
  refine at_invI 42 [] _ (c_X1_init hl (by omega) o1) dX11_init_39 rfl rfl rfl rfl (Or.inr nl_X11_28) cl_X1_init iv_X1_init rfl (Nat.le_of_ble_eq_true rfl) ⟨by decide, by decide⟩ (by decide) (fun rr hh qq => ?_)
  obtain ⟨rfl, l2, mg, x1, x2, x3, x4, x5⟩ := qq
  have l3 : hh.length = 36 := l2
  replace hl := l3
  replace ob := mg.at (by first | decide | omega) ob
  replace rSh := rSh.mgx mg (fun j h1 h2 q => by omega)
  replace rF := rF.mg mg (fun j h1 h2 q => by omega)
  replace rM := rM.mg mg (fun j h1 h2 q => by omega)
  have rC : RCol hh (s0 0 6) (s0 9) (s0 10) := ⟨x1, x2, x4, fun c hc => ⟨_, x3 c hc, fun t _ => (z 9 _ (by decide) (by decide)).symm⟩, fun c hc => ⟨_, x5 c hc, fun t _ => (z 10 _ (by decide) (by decide)).symm⟩⟩
  clear l2 mg x1 x2 x3 x4 x5
  refine at_putrF (fs' := [_, _, _, _, _, _, _, _, _, _, _]) 45 dX11_init_42 rfl pl_X11_29 (by assumption) (Nat.le_of_ble_eq_true rfl) (fun _ => rfl) (fun _ => rfl) rfl (fun C T N q => by cases q; rfl) rfl (fun hh7 nn7 => ?_)
  replace hl := nn7.2.2.trans hl
  replace ob := nn7.1
  replace rSh := rSh.mgx nn7.mg (fun j h1 h2 q => by omega)
  replace rF := rF.mg nn7.mg (fun j h1 h2 q => by omega)
  replace rM := rM.mg nn7.mg (fun j h1 h2 q => by omega)
  replace rC := rC.mg nn7.mg (fun j h1 h2 q => by omega)
  clear nn7
  refine at_aload_n 46 dX11_init_45 rfl rfl rfl ?_
  refine at_new (ci := 7) 49 dX7 tyX7 dX11_init_46 rfl rfl ck_X11_33 it_X7 ii_X7 inX7 tyX7_ok df_X7 (fun _ => rfl) hl (Nat.le_of_ble_eq_true rfl) (Nat.le_of_ble_eq_true rfl) (fun hh8 nn8 => ?_)
  replace hl := nn8.2.2
  replace ob := nn8.2.1 _ _ ob
  replace rSh := rSh.mgx nn8.mg (fun _ _ _ q => q)
  replace rF := rF.mg nn8.mg (fun _ _ _ q => q)
  replace rM := rM.mg nn8.mg (fun _ _ _ q => q)
  replace rC := rC.mg nn8.mg (fun _ _ _ q => q)
  have o1 := nn8.1
  clear nn8
  refine at_dup 50 dX11_init_49 rfl rfl ?_
  refine at_aload_n 51 dX11_init_50 rfl rfl rfl ?_
  refine at_g 54 dX11_init_51 rfl fl_X11_15 ⟨_, by assumption, ?_⟩
  refine ⟨_, rfl, ?_⟩
  refine at_aload_n 55 dX11_init_54 rfl rfl rfl ?_
  refine at_g 58 dX11_init_55 rfl fl_X11_29 ⟨_, by assumption, ?_⟩
  refine ⟨_, rfl, ?_⟩
  refine at_invI 61 [_, _] _ (c_X7_init hl (by omega) o1) dX11_init_58 rfl rfl rfl rfl (Or.inl ml_X11_35) cl_X7_init iv_X7_init rfl (Nat.le_of_ble_eq_true rfl) ⟨by decide, by decide⟩ (by decide) (fun rr hh qq => ?_)
  obtain ⟨rfl, l2, mg, x1, x2, x3⟩ := qq
  have l3 : hh.length = 39 := l2
  replace hl := l3
  replace ob := mg.at (by first | decide | omega) ob
  replace rSh := rSh.mgx mg (fun j h1 h2 q => by omega)
  replace rF := rF.mg mg (fun j h1 h2 q => by omega)
  replace rM := rM.mg mg (fun j h1 h2 q => by omega)
  replace rC := rC.mg mg (fun j h1 h2 q => by omega)
  have rS : RSrch hh := ⟨0, _, _, by decide, x1, x2, x3⟩
  clear l2 mg x1 x2 x3
  refine at_putrF (fs' := [_, _, _, _, _, _, _, _, _, _, _]) 64 dX11_init_61 rfl pl_X11_38 (by assumption) (Nat.le_of_ble_eq_true rfl) (fun _ => rfl) (fun _ => rfl) rfl (fun C T N q => by cases q; rfl) rfl (fun hh9 nn9 => ?_)
  replace hl := nn9.2.2.trans hl
  replace ob := nn9.1
  replace rSh := rSh.mgx nn9.mg (fun j h1 h2 q => by omega)
  replace rF := rF.mg nn9.mg (fun j h1 h2 q => by omega)
  replace rM := rM.mg nn9.mg (fun j h1 h2 q => by omega)
  replace rC := rC.mg nn9.mg (fun j h1 h2 q => by omega)
  replace rS := rS.mg nn9.mg (fun j h1 h2 q => by omega)
  clear nn9
  refine at_aload_n 65 dX11_init_64 rfl rfl rfl ?_
  refine at_new (ci := 10) 68 dX10 tyX10 dX11_init_65 rfl rfl ck_X11_42 it_X10 ii_X10 inX10 tyX10_ok df_X10 (fun _ => rfl) hl (Nat.le_of_ble_eq_true rfl) (Nat.le_of_ble_eq_true rfl) (fun hh10 nn10 => ?_)
  replace hl := nn10.2.2
  replace ob := nn10.2.1 _ _ ob
  replace rSh := rSh.mgx nn10.mg (fun _ _ _ q => q)
  replace rF := rF.mg nn10.mg (fun _ _ _ q => q)
  replace rM := rM.mg nn10.mg (fun _ _ _ q => q)
  replace rC := rC.mg nn10.mg (fun _ _ _ q => q)
  replace rS := rS.mg nn10.mg (fun _ _ _ q => q)
  have o1 := nn10.1
  clear nn10
  refine at_dup 69 dX11_init_68 rfl rfl ?_
  refine at_aload_n 70 dX11_init_69 rfl rfl rfl ?_
  refine at_invI 73 [_] _ (c_X10_init hl (by omega) o1) dX11_init_70 rfl rfl rfl rfl (Or.inl ml_X11_44) cl_X10_init iv_X10_init rfl (Nat.le_of_ble_eq_true rfl) ⟨by decide, by decide⟩ (by decide) (fun rr hh qq => ?_)
  obtain ⟨rfl, l2, mg, x1, x2, x3, x4, x5⟩ := qq
  have l3 : hh.length = 55 := l2
  replace hl := l3
  replace ob := mg.at (by first | decide | omega) ob
  replace rSh := rSh.mgx mg (fun j h1 h2 q => by omega)
  replace rF := rF.mg mg (fun j h1 h2 q => by omega)
  replace rM := rM.mg mg (fun j h1 h2 q => by omega)
  replace rC := rC.mg mg (fun j h1 h2 q => by omega)
  replace rS := rS.mg mg (fun j h1 h2 q => by omega)
  have rT : RTank hh (s0 0 2) (s0 0 3) (s0 0 4) (s0 0 5) (s0 8) (s0 0 0 * 4) := ⟨⟨0, x1⟩, x2, x4, fun c hc => ⟨_, x3 c hc, fun i _ => (z 8 _ (by decide) (by decide)).symm⟩, fun c hc => ⟨_, x5 c hc, fun _ _ _ => rfl⟩⟩
  clear l2 mg x1 x2 x3 x4 x5
  refine at_putrF (fs' := [_, _, _, _, _, _, _, _, _, _, _]) 76 dX11_init_73 rfl pl_X11_47 (by assumption) (Nat.le_of_ble_eq_true rfl) (fun _ => rfl) (fun _ => rfl) rfl (fun C T N q => by cases q; rfl) rfl (fun hh11 nn11 => ?_)
  replace hl := nn11.2.2.trans hl
  replace ob := nn11.1
  replace rSh := rSh.mgx nn11.mg (fun j h1 h2 q => by omega)
  replace rF := rF.mg nn11.mg (fun j h1 h2 q => by omega)
  replace rM := rM.mg nn11.mg (fun j h1 h2 q => by omega)
  replace rC := rC.mg nn11.mg (fun j h1 h2 q => by omega)
  replace rS := rS.mg nn11.mg (fun j h1 h2 q => by omega)
  replace rT := rT.mg nn11.mg (fun j h1 h2 q => by omega)
  clear nn11
  refine at_aload_n 77 dX11_init_76 rfl rfl rfl ?_
  refine at_new (ci := 0) 80 dX0 tyX0 dX11_init_77 rfl rfl ck_X11_51 it_X0 ii_X0 inX0 tyX0_ok df_X0 (fun _ => rfl) hl (Nat.le_of_ble_eq_true rfl) (Nat.le_of_ble_eq_true rfl) (fun hh12 nn12 => ?_)
  replace hl := nn12.2.2
  replace ob := nn12.2.1 _ _ ob
  replace rSh := rSh.mgx nn12.mg (fun _ _ _ q => q)
  replace rF := rF.mg nn12.mg (fun _ _ _ q => q)
  replace rM := rM.mg nn12.mg (fun _ _ _ q => q)
  replace rC := rC.mg nn12.mg (fun _ _ _ q => q)
  replace rS := rS.mg nn12.mg (fun _ _ _ q => q)
  replace rT := rT.mg nn12.mg (fun _ _ _ q => q)
  have o1 := nn12.1
  clear nn12
  refine at_dup 81 dX11_init_80 rfl rfl ?_
  refine at_aload_n 82 dX11_init_81 rfl rfl rfl ?_
  refine at_g 85 dX11_init_82 rfl fl_X11_15 ⟨_, by assumption, ?_⟩
  refine ⟨_, rfl, ?_⟩
  refine at_aload_n 86 dX11_init_85 rfl rfl rfl ?_
  refine at_g 89 dX11_init_86 rfl fl_X11_22 ⟨_, by assumption, ?_⟩
  refine ⟨_, rfl, ?_⟩
  refine at_aload_n 90 dX11_init_89 rfl rfl rfl ?_
  refine at_invI 93 [_, _, _] _ (c_X0_init hl (by omega) o1) dX11_init_90 rfl rfl rfl rfl (Or.inl ml_X11_53) cl_X0_init iv_X0_init rfl (Nat.le_of_ble_eq_true rfl) ⟨by decide, by decide⟩ (by decide) (fun rr hh qq => ?_)
  obtain ⟨rfl, l2, mg, x1, x2, x3, x4⟩ := qq
  have l3 : hh.length = 59 := l2
  replace hl := l3
  replace ob := mg.at (by first | decide | omega) ob
  replace rSh := rSh.mgx mg (fun j h1 h2 q => by omega)
  replace rF := rF.mg mg (fun j h1 h2 q => by omega)
  replace rM := rM.mg mg (fun j h1 h2 q => by omega)
  replace rC := rC.mg mg (fun j h1 h2 q => by omega)
  replace rS := rS.mg mg (fun j h1 h2 q => by omega)
  replace rT := rT.mg mg (fun j h1 h2 q => by omega)
  have r55 : ChS hh 55 (s0 0 0 * 4) := ⟨⟨0, x1⟩, ⟨_, x2⟩, ⟨_, x3⟩, ⟨_, x4, fun _ _ _ => rfl⟩⟩
  clear l2 mg x1 x2 x3 x4
  refine at_putrF (fs' := [_, _, _, _, _, _, _, _, _, _, _]) 96 dX11_init_93 rfl pl_X11_56 (by assumption) (Nat.le_of_ble_eq_true rfl) (fun _ => rfl) (fun _ => rfl) rfl (fun C T N q => by cases q; rfl) rfl (fun hh13 nn13 => ?_)
  replace hl := nn13.2.2.trans hl
  replace ob := nn13.1
  replace rSh := rSh.mgx nn13.mg (fun j h1 h2 q => by omega)
  replace rF := rF.mg nn13.mg (fun j h1 h2 q => by omega)
  replace rM := rM.mg nn13.mg (fun j h1 h2 q => by omega)
  replace rC := rC.mg nn13.mg (fun j h1 h2 q => by omega)
  replace rS := rS.mg nn13.mg (fun j h1 h2 q => by omega)
  replace rT := rT.mg nn13.mg (fun j h1 h2 q => by omega)
  replace r55 := r55.mg nn13.mg (fun j h1 h2 q => by omega)
  clear nn13
  refine at_aload_n 97 dX11_init_96 rfl rfl rfl ?_
  refine at_new (ci := 4) 100 dX4 tyX4 dX11_init_97 rfl rfl ck_X11_60 it_X4 ii_X4 inX4 tyX4_ok df_X4 (fun _ => rfl) hl (Nat.le_of_ble_eq_true rfl) (Nat.le_of_ble_eq_true rfl) (fun hh14 nn14 => ?_)
  replace hl := nn14.2.2
  replace ob := nn14.2.1 _ _ ob
  replace rSh := rSh.mgx nn14.mg (fun _ _ _ q => q)
  replace rF := rF.mg nn14.mg (fun _ _ _ q => q)
  replace rM := rM.mg nn14.mg (fun _ _ _ q => q)
  replace rC := rC.mg nn14.mg (fun _ _ _ q => q)
  replace rS := rS.mg nn14.mg (fun _ _ _ q => q)
  replace rT := rT.mg nn14.mg (fun _ _ _ q => q)
  replace r55 := r55.mg nn14.mg (fun _ _ _ q => q)
  have o1 := nn14.1
  clear nn14
  refine at_dup 101 dX11_init_100 rfl rfl ?_
  refine at_invI 104 [] _ (c_X4_init hl (by omega) o1) dX11_init_101 rfl rfl rfl rfl (Or.inr nl_X11_62) cl_X4_init iv_X4_init rfl (Nat.le_of_ble_eq_true rfl) ⟨by decide, by decide⟩ (by decide) (fun rr hh qq => ?_)
  obtain ⟨rfl, l2, mg, x1, x2, x3⟩ := qq
  have l3 : hh.length = 62 := l2
  replace hl := l3
  replace ob := mg.at (by first | decide | omega) ob
  replace rSh := rSh.mgx mg (fun j h1 h2 q => by omega)
  replace rF := rF.mg mg (fun j h1 h2 q => by omega)
  replace rM := rM.mg mg (fun j h1 h2 q => by omega)
  replace rC := rC.mg mg (fun j h1 h2 q => by omega)
  replace rS := rS.mg mg (fun j h1 h2 q => by omega)
  replace rT := rT.mg mg (fun j h1 h2 q => by omega)
  replace r55 := r55.mg mg (fun j h1 h2 q => by omega)
  have rG : GlA hh 59 := ⟨⟨0, x1⟩, ⟨_, x2⟩, ⟨_, x3⟩⟩
  clear l2 mg x1 x2 x3
  refine at_putrF (fs' := [_, _, _, _, _, _, _, _, _, _, _]) 107 dX11_init_104 rfl pl_X11_63 (by assumption) (Nat.le_of_ble_eq_true rfl) (fun _ => rfl) (fun _ => rfl) rfl (fun C T N q => by cases q; rfl) rfl (fun hh15 nn15 => ?_)
  replace hl := nn15.2.2.trans hl
  replace ob := nn15.1
  replace rSh := rSh.mgx nn15.mg (fun j h1 h2 q => by omega)
  replace rF := rF.mg nn15.mg (fun j h1 h2 q => by omega)
  replace rM := rM.mg nn15.mg (fun j h1 h2 q => by omega)
  replace rC := rC.mg nn15.mg (fun j h1 h2 q => by omega)
  replace rS := rS.mg nn15.mg (fun j h1 h2 q => by omega)
  replace rT := rT.mg nn15.mg (fun j h1 h2 q => by omega)
  replace r55 := r55.mg nn15.mg (fun j h1 h2 q => by omega)
  replace rG := rG.mgx nn15.mg (fun j h1 h2 q => by omega)
  clear nn15
  refine at_aload_n 108 dX11_init_107 rfl rfl rfl ?_
  refine at_new (ci := 5) 111 dX5 tyX5 dX11_init_108 rfl rfl ck_X11_67 it_X5 ii_X5 inX5 tyX5_ok df_X5 (fun _ => rfl) hl (Nat.le_of_ble_eq_true rfl) (Nat.le_of_ble_eq_true rfl) (fun hh16 nn16 => ?_)
  replace hl := nn16.2.2
  replace ob := nn16.2.1 _ _ ob
  replace rSh := rSh.mgx nn16.mg (fun _ _ _ q => q)
  replace rF := rF.mg nn16.mg (fun _ _ _ q => q)
  replace rM := rM.mg nn16.mg (fun _ _ _ q => q)
  replace rC := rC.mg nn16.mg (fun _ _ _ q => q)
  replace rS := rS.mg nn16.mg (fun _ _ _ q => q)
  replace rT := rT.mg nn16.mg (fun _ _ _ q => q)
  replace r55 := r55.mg nn16.mg (fun _ _ _ q => q)
  replace rG := rG.mgx nn16.mg (fun _ _ _ q => q)
  have o1 := nn16.1
  clear nn16
  refine at_dup 112 dX11_init_111 rfl rfl ?_
  refine at_invI 115 [] _ (c_X5_init hl (by omega) o1) dX11_init_112 rfl rfl rfl rfl (Or.inr nl_X11_69) cl_X5_init iv_X5_init rfl (Nat.le_of_ble_eq_true rfl) ⟨by decide, by decide⟩ (by decide) (fun rr hh qq => ?_)
  obtain ⟨rfl, l2, mg, x1, x2, x3, x4, x5, x6⟩ := qq
  have l3 : hh.length = 68 := l2
  replace hl := l3
  replace ob := mg.at (by first | decide | omega) ob
  replace rSh := rSh.mgx mg (fun j h1 h2 q => by omega)
  replace rF := rF.mg mg (fun j h1 h2 q => by omega)
  replace rM := rM.mg mg (fun j h1 h2 q => by omega)
  replace rC := rC.mg mg (fun j h1 h2 q => by omega)
  replace rS := rS.mg mg (fun j h1 h2 q => by omega)
  replace rT := rT.mg mg (fun j h1 h2 q => by omega)
  replace r55 := r55.mg mg (fun j h1 h2 q => by omega)
  replace rG := rG.mgx mg (fun j h1 h2 q => by omega)
  have rL : RLog hh (s0 0 7) (s0 0 8) (s0 0 9) (s0 12) (s0 13) (s0 14) (s0 15) (s0 16) := ⟨x1, ⟨_, x2, fun i _ => (z 12 i (by decide) (by decide)).symm⟩, ⟨_, x3, fun i _ => (z 13 i (by decide) (by decide)).symm⟩, ⟨_, x4, fun i _ => (z 14 i (by decide) (by decide)).symm⟩, ⟨_, x5, fun i _ => by show nI 0 = nI 1 - 1; decide⟩, ⟨fun _ => 0, x6, fun i _ => (z 16 i (by decide) (by decide)).symm⟩⟩
  clear l2 mg x1 x2 x3 x4 x5 x6
  refine at_putrF (fs' := [_, _, _, _, _, _, _, _, _, _, _]) 118 dX11_init_115 rfl pl_X11_70 (by assumption) (Nat.le_of_ble_eq_true rfl) (fun _ => rfl) (fun _ => rfl) rfl (fun C T N q => by cases q; rfl) rfl (fun hh17 nn17 => ?_)
  replace hl := nn17.2.2.trans hl
  replace ob := nn17.1
  replace rSh := rSh.mgx nn17.mg (fun j h1 h2 q => by omega)
  replace rF := rF.mg nn17.mg (fun j h1 h2 q => by omega)
  replace rM := rM.mg nn17.mg (fun j h1 h2 q => by omega)
  replace rC := rC.mg nn17.mg (fun j h1 h2 q => by omega)
  replace rS := rS.mg nn17.mg (fun j h1 h2 q => by omega)
  replace rT := rT.mg nn17.mg (fun j h1 h2 q => by omega)
  replace r55 := r55.mg nn17.mg (fun j h1 h2 q => by omega)
  replace rG := rG.mgx nn17.mg (fun j h1 h2 q => by omega)
  replace rL := rL.mg nn17.mg (fun j h1 h2 q => by omega)
  clear nn17
  refine at_aload_n 119 dX11_init_118 rfl rfl rfl ?_
  refine at_new (ci := 3) 122 dX3 tyX3 dX11_init_119 rfl rfl ck_X11_74 it_X3 ii_X3 inX3 tyX3_ok df_X3 (fun _ => rfl) hl (Nat.le_of_ble_eq_true rfl) (Nat.le_of_ble_eq_true rfl) (fun hh18 nn18 => ?_)
  replace hl := nn18.2.2
  replace ob := nn18.2.1 _ _ ob
  replace rSh := rSh.mgx nn18.mg (fun _ _ _ q => q)
  replace rF := rF.mg nn18.mg (fun _ _ _ q => q)
  replace rM := rM.mg nn18.mg (fun _ _ _ q => q)
  replace rC := rC.mg nn18.mg (fun _ _ _ q => q)
  replace rS := rS.mg nn18.mg (fun _ _ _ q => q)
  replace rT := rT.mg nn18.mg (fun _ _ _ q => q)
  replace r55 := r55.mg nn18.mg (fun _ _ _ q => q)
  replace rG := rG.mgx nn18.mg (fun _ _ _ q => q)
  replace rL := rL.mg nn18.mg (fun _ _ _ q => q)
  have o68 := nn18.1
  clear nn18
  refine at_dup 123 dX11_init_122 rfl rfl ?_
  refine at_aload_n 124 dX11_init_123 rfl rfl rfl ?_
  refine at_g 127 dX11_init_124 rfl fl_X11_47 ⟨_, by assumption, ?_⟩
  refine ⟨_, rfl, ?_⟩
  refine at_aload_n 128 dX11_init_127 rfl rfl rfl ?_
  refine at_g 131 dX11_init_128 rfl fl_X11_29 ⟨_, by assumption, ?_⟩
  refine ⟨_, rfl, ?_⟩
  refine at_new (ci := 0) 134 dX0 tyX0 dX11_init_131 rfl rfl ck_X11_51 it_X0 ii_X0 inX0 tyX0_ok df_X0 (fun _ => rfl) hl (Nat.le_of_ble_eq_true rfl) (Nat.le_of_ble_eq_true rfl) (fun hh19 nn19 => ?_)
  replace hl := nn19.2.2
  replace ob := nn19.2.1 _ _ ob
  replace rSh := rSh.mgx nn19.mg (fun _ _ _ q => q)
  replace rF := rF.mg nn19.mg (fun _ _ _ q => q)
  replace rM := rM.mg nn19.mg (fun _ _ _ q => q)
  replace rC := rC.mg nn19.mg (fun _ _ _ q => q)
  replace rS := rS.mg nn19.mg (fun _ _ _ q => q)
  replace rT := rT.mg nn19.mg (fun _ _ _ q => q)
  replace r55 := r55.mg nn19.mg (fun _ _ _ q => q)
  replace rG := rG.mgx nn19.mg (fun _ _ _ q => q)
  replace rL := rL.mg nn19.mg (fun _ _ _ q => q)
  replace o68 := nn19.2.1 _ _ o68
  have o1 := nn19.1
  clear nn19
  refine at_dup 135 dX11_init_134 rfl rfl ?_
  refine at_aload_n 136 dX11_init_135 rfl rfl rfl ?_
  refine at_g 139 dX11_init_136 rfl fl_X11_15 ⟨_, by assumption, ?_⟩
  refine ⟨_, rfl, ?_⟩
  refine at_aload_n 140 dX11_init_139 rfl rfl rfl ?_
  refine at_g 143 dX11_init_140 rfl fl_X11_22 ⟨_, by assumption, ?_⟩
  refine ⟨_, rfl, ?_⟩
  refine at_aload_n 144 dX11_init_143 rfl rfl rfl ?_
  refine at_invI 147 [_, _, _] _ (c_X0_init hl (by omega) o1) dX11_init_144 rfl rfl rfl rfl (Or.inl ml_X11_53) cl_X0_init iv_X0_init rfl (Nat.le_of_ble_eq_true rfl) ⟨by decide, by decide⟩ (by decide) (fun rr hh qq => ?_)
  obtain ⟨rfl, l2, mg, x1, x2, x3, x4⟩ := qq
  have l3 : hh.length = 73 := l2
  replace hl := l3
  replace ob := mg.at (by first | decide | omega) ob
  replace rSh := rSh.mgx mg (fun j h1 h2 q => by omega)
  replace rF := rF.mg mg (fun j h1 h2 q => by omega)
  replace rM := rM.mg mg (fun j h1 h2 q => by omega)
  replace rC := rC.mg mg (fun j h1 h2 q => by omega)
  replace rS := rS.mg mg (fun j h1 h2 q => by omega)
  replace rT := rT.mg mg (fun j h1 h2 q => by omega)
  replace r55 := r55.mg mg (fun j h1 h2 q => by omega)
  replace rG := rG.mgx mg (fun j h1 h2 q => by omega)
  replace rL := rL.mg mg (fun j h1 h2 q => by omega)
  replace o68 := mg.at (by first | decide | omega) o68
  have r69 : ChS hh 69 (s0 0 0 * 4) := ⟨⟨0, x1⟩, ⟨_, x2⟩, ⟨_, x3⟩, ⟨_, x4, fun _ _ _ => rfl⟩⟩
  clear l2 mg x1 x2 x3 x4
  refine at_new (ci := 0) 150 dX0 tyX0 dX11_init_147 rfl rfl ck_X11_51 it_X0 ii_X0 inX0 tyX0_ok df_X0 (fun _ => rfl) hl (Nat.le_of_ble_eq_true rfl) (Nat.le_of_ble_eq_true rfl) (fun hh20 nn20 => ?_)
  replace hl := nn20.2.2
  replace ob := nn20.2.1 _ _ ob
  replace rSh := rSh.mgx nn20.mg (fun _ _ _ q => q)
  replace rF := rF.mg nn20.mg (fun _ _ _ q => q)
  replace rM := rM.mg nn20.mg (fun _ _ _ q => q)
  replace rC := rC.mg nn20.mg (fun _ _ _ q => q)
  replace rS := rS.mg nn20.mg (fun _ _ _ q => q)
  replace rT := rT.mg nn20.mg (fun _ _ _ q => q)
  replace r55 := r55.mg nn20.mg (fun _ _ _ q => q)
  replace rG := rG.mgx nn20.mg (fun _ _ _ q => q)
  replace rL := rL.mg nn20.mg (fun _ _ _ q => q)
  replace o68 := nn20.2.1 _ _ o68
  replace r69 := r69.mg nn20.mg (fun _ _ _ q => q)
  have o1 := nn20.1
  clear nn20
  refine at_dup 151 dX11_init_150 rfl rfl ?_
  refine at_aload_n 152 dX11_init_151 rfl rfl rfl ?_
  refine at_g 155 dX11_init_152 rfl fl_X11_15 ⟨_, by assumption, ?_⟩
  refine ⟨_, rfl, ?_⟩
  refine at_aload_n 156 dX11_init_155 rfl rfl rfl ?_
  refine at_g 159 dX11_init_156 rfl fl_X11_22 ⟨_, by assumption, ?_⟩
  refine ⟨_, rfl, ?_⟩
  refine at_aload_n 160 dX11_init_159 rfl rfl rfl ?_
  refine at_invI 163 [_, _, _] _ (c_X0_init hl (by omega) o1) dX11_init_160 rfl rfl rfl rfl (Or.inl ml_X11_53) cl_X0_init iv_X0_init rfl (Nat.le_of_ble_eq_true rfl) ⟨by decide, by decide⟩ (by decide) (fun rr hh qq => ?_)
  obtain ⟨rfl, l2, mg, x1, x2, x3, x4⟩ := qq
  have l3 : hh.length = 77 := l2
  replace hl := l3
  replace ob := mg.at (by first | decide | omega) ob
  replace rSh := rSh.mgx mg (fun j h1 h2 q => by omega)
  replace rF := rF.mg mg (fun j h1 h2 q => by omega)
  replace rM := rM.mg mg (fun j h1 h2 q => by omega)
  replace rC := rC.mg mg (fun j h1 h2 q => by omega)
  replace rS := rS.mg mg (fun j h1 h2 q => by omega)
  replace rT := rT.mg mg (fun j h1 h2 q => by omega)
  replace r55 := r55.mg mg (fun j h1 h2 q => by omega)
  replace rG := rG.mgx mg (fun j h1 h2 q => by omega)
  replace rL := rL.mg mg (fun j h1 h2 q => by omega)
  replace o68 := mg.at (by first | decide | omega) o68
  replace r69 := r69.mg mg (fun j h1 h2 q => by omega)
  have r73 : ChS hh 73 (s0 0 0 * 4) := ⟨⟨0, x1⟩, ⟨_, x2⟩, ⟨_, x3⟩, ⟨_, x4, fun _ _ _ => rfl⟩⟩
  clear l2 mg x1 x2 x3 x4
  refine at_new (ci := 10) 166 dX10 tyX10 dX11_init_163 rfl rfl ck_X11_42 it_X10 ii_X10 inX10 tyX10_ok df_X10 (fun _ => rfl) hl (Nat.le_of_ble_eq_true rfl) (Nat.le_of_ble_eq_true rfl) (fun hh21 nn21 => ?_)
  replace hl := nn21.2.2
  replace ob := nn21.2.1 _ _ ob
  replace rSh := rSh.mgx nn21.mg (fun _ _ _ q => q)
  replace rF := rF.mg nn21.mg (fun _ _ _ q => q)
  replace rM := rM.mg nn21.mg (fun _ _ _ q => q)
  replace rC := rC.mg nn21.mg (fun _ _ _ q => q)
  replace rS := rS.mg nn21.mg (fun _ _ _ q => q)
  replace rT := rT.mg nn21.mg (fun _ _ _ q => q)
  replace r55 := r55.mg nn21.mg (fun _ _ _ q => q)
  replace rG := rG.mgx nn21.mg (fun _ _ _ q => q)
  replace rL := rL.mg nn21.mg (fun _ _ _ q => q)
  replace o68 := nn21.2.1 _ _ o68
  replace r69 := r69.mg nn21.mg (fun _ _ _ q => q)
  replace r73 := r73.mg nn21.mg (fun _ _ _ q => q)
  have o1 := nn21.1
  clear nn21
  refine at_dup 167 dX11_init_166 rfl rfl ?_
  refine at_aload_n 168 dX11_init_167 rfl rfl rfl ?_
  refine at_invI 171 [_] _ (c_X10_init hl (by omega) o1) dX11_init_168 rfl rfl rfl rfl (Or.inl ml_X11_44) cl_X10_init iv_X10_init rfl (Nat.le_of_ble_eq_true rfl) ⟨by decide, by decide⟩ (by decide) (fun rr hh qq => ?_)
  obtain ⟨rfl, l2, mg, x1, x2, x3, x4, x5⟩ := qq
  have l3 : hh.length = 93 := l2
  replace hl := l3
  replace ob := mg.at (by first | decide | omega) ob
  replace rSh := rSh.mgx mg (fun j h1 h2 q => by omega)
  replace rF := rF.mg mg (fun j h1 h2 q => by omega)
  replace rM := rM.mg mg (fun j h1 h2 q => by omega)
  replace rC := rC.mg mg (fun j h1 h2 q => by omega)
  replace rS := rS.mg mg (fun j h1 h2 q => by omega)
  replace rT := rT.mg mg (fun j h1 h2 q => by omega)
  replace r55 := r55.mg mg (fun j h1 h2 q => by omega)
  replace rG := rG.mgx mg (fun j h1 h2 q => by omega)
  replace rL := rL.mg mg (fun j h1 h2 q => by omega)
  replace o68 := mg.at (by first | decide | omega) o68
  replace r69 := r69.mg mg (fun j h1 h2 q => by omega)
  replace r73 := r73.mg mg (fun j h1 h2 q => by omega)
  have q77 : hh[77]? = some (oTank 77 0 3 1000 100 0) ∧ TankS hh 77 (s0 0 0 * 4) := ⟨x1, x2, x4, fun c hc => ⟨_, x3 c hc⟩, fun c hc => ⟨_, x5 c hc, fun _ _ _ => rfl⟩⟩
  clear l2 mg x1 x2 x3 x4 x5
  obtain ⟨t77, s77⟩ := q77
  refine at_invI 174 [_, _, _, _, _] _ (c_X3_init hl (by omega) o68) dX11_init_171 rfl rfl rfl rfl (Or.inl ml_X11_76) cl_X3_init iv_X3_init rfl (Nat.le_of_ble_eq_true rfl) ⟨by decide, by decide⟩ (by decide) (fun rr hh qq => ?_)
  obtain ⟨rfl, l2, mg, x1, x2, x3, x4⟩ := qq
  have l3 : hh.length = 96 := l2
  replace hl := l3
  replace ob := mg.at (by first | decide | omega) ob
  replace rSh := rSh.mgx mg (fun j h1 h2 q => by omega)
  replace rF := rF.mg mg (fun j h1 h2 q => by omega)
  replace rM := rM.mg mg (fun j h1 h2 q => by omega)
  replace rC := rC.mg mg (fun j h1 h2 q => by omega)
  replace rS := rS.mg mg (fun j h1 h2 q => by omega)
  replace rT := rT.mg mg (fun j h1 h2 q => by omega)
  replace r55 := r55.mg mg (fun j h1 h2 q => by omega)
  replace rG := rG.mgx mg (fun j h1 h2 q => by omega)
  replace rL := rL.mg mg (fun j h1 h2 q => by omega)
  replace r69 := r69.mg mg (fun j h1 h2 q => by omega)
  replace r73 := r73.mg mg (fun j h1 h2 q => by omega)
  replace t77 := mg.at (by first | decide | omega) t77
  replace s77 := s77.mg mg (fun j h1 h2 q => by omega)
  have r68 : hh[68]? = some oForecast := x1
  have rY : FcY hh (s0 0 0 * 4) := ⟨⟨0, 3, 1000, 100, 0, t77⟩, s77, ⟨⟨0, x2⟩, ⟨_, x3⟩, ⟨_, x4⟩⟩⟩
  clear l2 mg x1 x2 x3 x4 t77 s77
  refine at_putrF (fs' := [_, _, _, _, _, _, _, _, _, _, _]) 177 dX11_init_174 rfl pl_X11_79 (by assumption) (Nat.le_of_ble_eq_true rfl) (fun _ => rfl) (fun _ => rfl) rfl (fun C T N q => by cases q; rfl) rfl (fun hh22 nn22 => ?_)
  replace hl := nn22.2.2.trans hl
  replace ob := nn22.1
  replace rSh := rSh.mgx nn22.mg (fun j h1 h2 q => by omega)
  replace rF := rF.mg nn22.mg (fun j h1 h2 q => by omega)
  replace rM := rM.mg nn22.mg (fun j h1 h2 q => by omega)
  replace rC := rC.mg nn22.mg (fun j h1 h2 q => by omega)
  replace rS := rS.mg nn22.mg (fun j h1 h2 q => by omega)
  replace rT := rT.mg nn22.mg (fun j h1 h2 q => by omega)
  replace r55 := r55.mg nn22.mg (fun j h1 h2 q => by omega)
  replace rG := rG.mgx nn22.mg (fun j h1 h2 q => by omega)
  replace rL := rL.mg nn22.mg (fun j h1 h2 q => by omega)
  replace r69 := r69.mg nn22.mg (fun j h1 h2 q => by omega)
  replace r73 := r73.mg nn22.mg (fun j h1 h2 q => by omega)
  replace r68 := nn22.o (by first | decide | omega | assumption) r68
  replace rY := rY.mg nn22.mg (fun j h1 h2 q => by omega)
  clear nn22
  refine at_aload_n 178 dX11_init_177 rfl rfl rfl ?_
  refine at_new (ci := 8) 181 dX8 tyX8 dX11_init_178 rfl rfl ck_X11_83 it_X8 ii_X8 inX8 tyX8_ok df_X8 (fun _ => rfl) hl (Nat.le_of_ble_eq_true rfl) (Nat.le_of_ble_eq_true rfl) (fun hh23 nn23 => ?_)
  replace hl := nn23.2.2
  replace ob := nn23.2.1 _ _ ob
  replace rSh := rSh.mgx nn23.mg (fun _ _ _ q => q)
  replace rF := rF.mg nn23.mg (fun _ _ _ q => q)
  replace rM := rM.mg nn23.mg (fun _ _ _ q => q)
  replace rC := rC.mg nn23.mg (fun _ _ _ q => q)
  replace rS := rS.mg nn23.mg (fun _ _ _ q => q)
  replace rT := rT.mg nn23.mg (fun _ _ _ q => q)
  replace r55 := r55.mg nn23.mg (fun _ _ _ q => q)
  replace rG := rG.mgx nn23.mg (fun _ _ _ q => q)
  replace rL := rL.mg nn23.mg (fun _ _ _ q => q)
  replace r69 := r69.mg nn23.mg (fun _ _ _ q => q)
  replace r73 := r73.mg nn23.mg (fun _ _ _ q => q)
  replace r68 := nn23.2.1 _ _ r68
  replace rY := rY.mg nn23.mg (fun _ _ _ q => q)
  have o1 := nn23.1
  clear nn23
  refine at_dup 182 dX11_init_181 rfl rfl ?_
  refine at_invI 185 [] _ (c_X8_init hl (by omega) o1) dX11_init_182 rfl rfl rfl rfl (Or.inr nl_X11_85) cl_X8_init iv_X8_init rfl (Nat.le_of_ble_eq_true rfl) ⟨by decide, by decide⟩ (by decide) (fun rr hh qq => ?_)
  obtain ⟨rfl, l2, mg, x1, x2, x3, x4, x5⟩ := qq
  have l3 : hh.length = 106 := l2
  replace hl := l3
  replace ob := mg.at (by first | decide | omega) ob
  replace rSh := rSh.mgx mg (fun j h1 h2 q => by omega)
  replace rF := rF.mg mg (fun j h1 h2 q => by omega)
  replace rM := rM.mg mg (fun j h1 h2 q => by omega)
  replace rC := rC.mg mg (fun j h1 h2 q => by omega)
  replace rS := rS.mg mg (fun j h1 h2 q => by omega)
  replace rT := rT.mg mg (fun j h1 h2 q => by omega)
  replace r55 := r55.mg mg (fun j h1 h2 q => by omega)
  replace rG := rG.mgx mg (fun j h1 h2 q => by omega)
  replace rL := rL.mg mg (fun j h1 h2 q => by omega)
  replace r69 := r69.mg mg (fun j h1 h2 q => by omega)
  replace r73 := r73.mg mg (fun j h1 h2 q => by omega)
  replace r68 := mg.at (by first | decide | omega) r68
  replace rY := rY.mg mg (fun j h1 h2 q => by omega)
  have rR : RRing hh (s0 0 10) (s0 11) (s0 17) := ⟨x1, x2, fun a ha => ⟨_, x3 a ha, fun b _ => (z 11 _ (by decide) (by decide)).symm⟩, ⟨_, x4, fun i _ => (z 17 i (by decide) (by decide)).symm⟩, ⟨_, x5, fun _ _ => by decide⟩⟩
  clear l2 mg x1 x2 x3 x4 x5
  refine at_putrF (fs' := [_, _, _, _, _, _, _, _, _, _, _]) 188 dX11_init_185 rfl pl_X11_86 (by assumption) (Nat.le_of_ble_eq_true rfl) (fun _ => rfl) (fun _ => rfl) rfl (fun C T N q => by cases q; rfl) rfl (fun hh24 nn24 => ?_)
  replace hl := nn24.2.2.trans hl
  replace ob := nn24.1
  replace rSh := rSh.mgx nn24.mg (fun j h1 h2 q => by omega)
  replace rF := rF.mg nn24.mg (fun j h1 h2 q => by omega)
  replace rM := rM.mg nn24.mg (fun j h1 h2 q => by omega)
  replace rC := rC.mg nn24.mg (fun j h1 h2 q => by omega)
  replace rS := rS.mg nn24.mg (fun j h1 h2 q => by omega)
  replace rT := rT.mg nn24.mg (fun j h1 h2 q => by omega)
  replace r55 := r55.mg nn24.mg (fun j h1 h2 q => by omega)
  replace rG := rG.mgx nn24.mg (fun j h1 h2 q => by omega)
  replace rL := rL.mg nn24.mg (fun j h1 h2 q => by omega)
  replace r69 := r69.mg nn24.mg (fun j h1 h2 q => by omega)
  replace r73 := r73.mg nn24.mg (fun j h1 h2 q => by omega)
  replace r68 := nn24.o (by first | decide | omega | assumption) r68
  replace rY := rY.mg nn24.mg (fun j h1 h2 q => by omega)
  replace rR := rR.mg nn24.mg (fun j h1 h2 q => by omega)
  clear nn24
  refine at_aload_n 189 dX11_init_188 rfl rfl rfl ?_
  refine at_iconst 190 (-1) dX11_init_189 rfl (by decide) ?_
  refine at_pi 193 dX11_init_190 rfl pl_X11_90 (rfl) (rfl) ⟨_, by assumption, ?_⟩
  refine ⟨(Nat.le_of_ble_eq_true rfl), [_, _, _, _, _, _, _, _, _, _, _], rfl, fun hh25 nn25 => ?_⟩
  replace hl := nn25.2.2.trans hl
  replace ob := nn25.1
  replace rSh := rSh.mgx nn25.mg (fun j h1 h2 q => by omega)
  replace rF := rF.mg nn25.mg (fun j h1 h2 q => by omega)
  replace rM := rM.mg nn25.mg (fun j h1 h2 q => by omega)
  replace rC := rC.mg nn25.mg (fun j h1 h2 q => by omega)
  replace rS := rS.mg nn25.mg (fun j h1 h2 q => by omega)
  replace rT := rT.mg nn25.mg (fun j h1 h2 q => by omega)
  replace r55 := r55.mg nn25.mg (fun j h1 h2 q => by omega)
  replace rG := rG.mgx nn25.mg (fun j h1 h2 q => by omega)
  replace rL := rL.mg nn25.mg (fun j h1 h2 q => by omega)
  replace r69 := r69.mg nn25.mg (fun j h1 h2 q => by omega)
  replace r73 := r73.mg nn25.mg (fun j h1 h2 q => by omega)
  replace r68 := nn25.o (by first | decide | omega | assumption) r68
  replace rY := rY.mg nn25.mg (fun j h1 h2 q => by omega)
  replace rR := rR.mg nn25.mg (fun j h1 h2 q => by omega)
  clear nn25
  refine at_vret dX11_init_193 rfl (by decide) (by decide) ?_
  exact ⟨rfl, hl, ob, rSh, rF, rM, rC, rS, rT, r55, rG, rL, r68, r69, r73, rY, rR⟩
theorem c_X12_init {h : List PC} (hl : h.length = 107) (ob : h[106]? = some (.inr (12, dX12))) : Ct mX12_init [.ref 106] h (fun r h' => r = none ∧ h'.length = 135 ∧ Mg (fun j => j = 106) h h' ∧ RepM s0 h') := by
  have z : ∀ a i, a ≠ 0 → a ≠ 15 → s0 a i = 0 := fun a i h1 h2 => by unfold s0; rw [if_neg h1, if_neg h2]
  refine ct_at (L := [_]) (by decide +kernel) rfl rfl (Nat.le_of_ble_eq_true rfl) ?_
  have hm : Mg (fun j => j = 106) h h := Mg.rf
  refine at_aload_n 1 dX12_init_0 rfl rfl rfl ?_
  refine at_objInit 4 dX12_init_1 rfl ml_X12_1 jw_obj (Nat.le_of_ble_eq_true rfl) (by decide) ?_
  refine at_aload_n 5 dX12_init_4 rfl rfl rfl ?_
  refine at_bipush 7 (nI 32) dX12_init_5 rfl (by decide) ?_
  refine at_newa (t := 0) 9 (32, .inl (fun _ => nI 0)) dX12_init_7 rfl ac_int (fun _ => rfl) (fun _ _ q => q) (fun _ => rfl) (fun _ => rfl) (by decide) (by decide) hl (Nat.le_of_ble_eq_true rfl) (Nat.le_of_ble_eq_true rfl) (fun hh26 nn26 => ?_)
  replace hl := nn26.2.2
  replace ob := nn26.2.1 _ _ ob
  replace hm := hm.ap nn26
  have a107 : hh26[_]? = some (aI 32 (fun _ => 0)) := nn26.1
  clear nn26
  refine at_putrF (fs' := [_, _, _, _, _, _, _, _, _, _, _, _, _, _, _, _, _, _, _, _, _, _, _, _, _, _, _, _, _, _, _, _, _, _, _, _, _, _, _, _]) 12 dX12_init_9 rfl pl_X12_7 (by assumption) (Nat.le_of_ble_eq_true rfl) (fun _ => rfl) (fun _ => rfl) rfl (fun C T N q => by cases q; rfl) rfl (fun hh27 nn27 => ?_)
  replace hl := nn27.2.2.trans hl
  replace ob := nn27.1
  replace hm := hm.nw nn27 (by first | rfl | omega)
  replace a107 := nn27.o (by first | decide | omega | assumption) a107
  clear nn27
  refine at_aload_n 13 dX12_init_12 rfl rfl rfl ?_
  refine at_bipush 15 (nI 8) dX12_init_13 rfl (by decide) ?_
  refine at_newa (t := 0) 17 (8, .inl (fun _ => nI 0)) dX12_init_15 rfl ac_int (fun _ => rfl) (fun _ _ q => q) (fun _ => rfl) (fun _ => rfl) (by decide) (by decide) hl (Nat.le_of_ble_eq_true rfl) (Nat.le_of_ble_eq_true rfl) (fun hh28 nn28 => ?_)
  replace hl := nn28.2.2
  replace ob := nn28.2.1 _ _ ob
  replace hm := hm.ap nn28
  replace a107 := nn28.2.1 _ _ a107
  have a108 : hh28[_]? = some (aI 8 (fun _ => 0)) := nn28.1
  clear nn28
  refine at_putrF (fs' := [_, _, _, _, _, _, _, _, _, _, _, _, _, _, _, _, _, _, _, _, _, _, _, _, _, _, _, _, _, _, _, _, _, _, _, _, _, _, _, _]) 20 dX12_init_17 rfl pl_X12_13 (by assumption) (Nat.le_of_ble_eq_true rfl) (fun _ => rfl) (fun _ => rfl) rfl (fun C T N q => by cases q; rfl) rfl (fun hh29 nn29 => ?_)
  replace hl := nn29.2.2.trans hl
  replace ob := nn29.1
  replace hm := hm.nw nn29 (by first | rfl | omega)
  replace a107 := nn29.o (by first | decide | omega | assumption) a107
  replace a108 := nn29.o (by first | decide | omega | assumption) a108
  clear nn29
  refine at_aload_n 21 dX12_init_20 rfl rfl rfl ?_
  refine at_bipush 23 (nI 8) dX12_init_21 rfl (by decide) ?_
  refine at_newa (t := 0) 25 (8, .inl (fun _ => nI 0)) dX12_init_23 rfl ac_int (fun _ => rfl) (fun _ _ q => q) (fun _ => rfl) (fun _ => rfl) (by decide) (by decide) hl (Nat.le_of_ble_eq_true rfl) (Nat.le_of_ble_eq_true rfl) (fun hh30 nn30 => ?_)
  replace hl := nn30.2.2
  replace ob := nn30.2.1 _ _ ob
  replace hm := hm.ap nn30
  replace a107 := nn30.2.1 _ _ a107
  replace a108 := nn30.2.1 _ _ a108
  have a109 : hh30[_]? = some (aI 8 (fun _ => 0)) := nn30.1
  clear nn30
  refine at_putrF (fs' := [_, _, _, _, _, _, _, _, _, _, _, _, _, _, _, _, _, _, _, _, _, _, _, _, _, _, _, _, _, _, _, _, _, _, _, _, _, _, _, _]) 28 dX12_init_25 rfl pl_X12_16 (by assumption) (Nat.le_of_ble_eq_true rfl) (fun _ => rfl) (fun _ => rfl) rfl (fun C T N q => by cases q; rfl) rfl (fun hh31 nn31 => ?_)
  replace hl := nn31.2.2.trans hl
  replace ob := nn31.1
  replace hm := hm.nw nn31 (by first | rfl | omega)
  replace a107 := nn31.o (by first | decide | omega | assumption) a107
  replace a108 := nn31.o (by first | decide | omega | assumption) a108
  replace a109 := nn31.o (by first | decide | omega | assumption) a109
  clear nn31
  refine at_aload_n 29 dX12_init_28 rfl rfl rfl ?_
  refine at_bipush 31 (nI 8) dX12_init_29 rfl (by decide) ?_
  refine at_newa (t := 0) 33 (8, .inl (fun _ => nI 0)) dX12_init_31 rfl ac_int (fun _ => rfl) (fun _ _ q => q) (fun _ => rfl) (fun _ => rfl) (by decide) (by decide) hl (Nat.le_of_ble_eq_true rfl) (Nat.le_of_ble_eq_true rfl) (fun hh32 nn32 => ?_)
  replace hl := nn32.2.2
  replace ob := nn32.2.1 _ _ ob
  replace hm := hm.ap nn32
  replace a107 := nn32.2.1 _ _ a107
  replace a108 := nn32.2.1 _ _ a108
  replace a109 := nn32.2.1 _ _ a109
  have a110 : hh32[_]? = some (aI 8 (fun _ => 0)) := nn32.1
  clear nn32
  refine at_putrF (fs' := [_, _, _, _, _, _, _, _, _, _, _, _, _, _, _, _, _, _, _, _, _, _, _, _, _, _, _, _, _, _, _, _, _, _, _, _, _, _, _, _]) 36 dX12_init_33 rfl pl_X12_19 (by assumption) (Nat.le_of_ble_eq_true rfl) (fun _ => rfl) (fun _ => rfl) rfl (fun C T N q => by cases q; rfl) rfl (fun hh33 nn33 => ?_)
  replace hl := nn33.2.2.trans hl
  replace ob := nn33.1
  replace hm := hm.nw nn33 (by first | rfl | omega)
  replace a107 := nn33.o (by first | decide | omega | assumption) a107
  replace a108 := nn33.o (by first | decide | omega | assumption) a108
  replace a109 := nn33.o (by first | decide | omega | assumption) a109
  replace a110 := nn33.o (by first | decide | omega | assumption) a110
  clear nn33
  refine at_aload_n 37 dX12_init_36 rfl rfl rfl ?_
  refine at_bipush 39 (nI 8) dX12_init_37 rfl (by decide) ?_
  refine at_newa (t := 0) 41 (8, .inl (fun _ => nI 0)) dX12_init_39 rfl ac_int (fun _ => rfl) (fun _ _ q => q) (fun _ => rfl) (fun _ => rfl) (by decide) (by decide) hl (Nat.le_of_ble_eq_true rfl) (Nat.le_of_ble_eq_true rfl) (fun hh34 nn34 => ?_)
  replace hl := nn34.2.2
  replace ob := nn34.2.1 _ _ ob
  replace hm := hm.ap nn34
  replace a107 := nn34.2.1 _ _ a107
  replace a108 := nn34.2.1 _ _ a108
  replace a109 := nn34.2.1 _ _ a109
  replace a110 := nn34.2.1 _ _ a110
  have a111 : hh34[_]? = some (aI 8 (fun _ => 0)) := nn34.1
  clear nn34
  refine at_putrF (fs' := [_, _, _, _, _, _, _, _, _, _, _, _, _, _, _, _, _, _, _, _, _, _, _, _, _, _, _, _, _, _, _, _, _, _, _, _, _, _, _, _]) 44 dX12_init_41 rfl pl_X12_22 (by assumption) (Nat.le_of_ble_eq_true rfl) (fun _ => rfl) (fun _ => rfl) rfl (fun C T N q => by cases q; rfl) rfl (fun hh35 nn35 => ?_)
  replace hl := nn35.2.2.trans hl
  replace ob := nn35.1
  replace hm := hm.nw nn35 (by first | rfl | omega)
  replace a107 := nn35.o (by first | decide | omega | assumption) a107
  replace a108 := nn35.o (by first | decide | omega | assumption) a108
  replace a109 := nn35.o (by first | decide | omega | assumption) a109
  replace a110 := nn35.o (by first | decide | omega | assumption) a110
  replace a111 := nn35.o (by first | decide | omega | assumption) a111
  clear nn35
  refine at_aload_n 45 dX12_init_44 rfl rfl rfl ?_
  refine at_bipush 47 (nI 8) dX12_init_45 rfl (by decide) ?_
  refine at_newa (t := 0) 49 (8, .inl (fun _ => nI 0)) dX12_init_47 rfl ac_int (fun _ => rfl) (fun _ _ q => q) (fun _ => rfl) (fun _ => rfl) (by decide) (by decide) hl (Nat.le_of_ble_eq_true rfl) (Nat.le_of_ble_eq_true rfl) (fun hh36 nn36 => ?_)
  replace hl := nn36.2.2
  replace ob := nn36.2.1 _ _ ob
  replace hm := hm.ap nn36
  replace a107 := nn36.2.1 _ _ a107
  replace a108 := nn36.2.1 _ _ a108
  replace a109 := nn36.2.1 _ _ a109
  replace a110 := nn36.2.1 _ _ a110
  replace a111 := nn36.2.1 _ _ a111
  have a112 : hh36[_]? = some (aI 8 (fun _ => 0)) := nn36.1
  clear nn36
  refine at_putrF (fs' := [_, _, _, _, _, _, _, _, _, _, _, _, _, _, _, _, _, _, _, _, _, _, _, _, _, _, _, _, _, _, _, _, _, _, _, _, _, _, _, _]) 52 dX12_init_49 rfl pl_X12_25 (by assumption) (Nat.le_of_ble_eq_true rfl) (fun _ => rfl) (fun _ => rfl) rfl (fun C T N q => by cases q; rfl) rfl (fun hh37 nn37 => ?_)
  replace hl := nn37.2.2.trans hl
  replace ob := nn37.1
  replace hm := hm.nw nn37 (by first | rfl | omega)
  replace a107 := nn37.o (by first | decide | omega | assumption) a107
  replace a108 := nn37.o (by first | decide | omega | assumption) a108
  replace a109 := nn37.o (by first | decide | omega | assumption) a109
  replace a110 := nn37.o (by first | decide | omega | assumption) a110
  replace a111 := nn37.o (by first | decide | omega | assumption) a111
  replace a112 := nn37.o (by first | decide | omega | assumption) a112
  clear nn37
  refine at_aload_n 53 dX12_init_52 rfl rfl rfl ?_
  refine at_bipush 55 (nI 8) dX12_init_53 rfl (by decide) ?_
  refine at_newa (t := 0) 57 (8, .inl (fun _ => nI 0)) dX12_init_55 rfl ac_int (fun _ => rfl) (fun _ _ q => q) (fun _ => rfl) (fun _ => rfl) (by decide) (by decide) hl (Nat.le_of_ble_eq_true rfl) (Nat.le_of_ble_eq_true rfl) (fun hh38 nn38 => ?_)
  replace hl := nn38.2.2
  replace ob := nn38.2.1 _ _ ob
  replace hm := hm.ap nn38
  replace a107 := nn38.2.1 _ _ a107
  replace a108 := nn38.2.1 _ _ a108
  replace a109 := nn38.2.1 _ _ a109
  replace a110 := nn38.2.1 _ _ a110
  replace a111 := nn38.2.1 _ _ a111
  replace a112 := nn38.2.1 _ _ a112
  have a113 : hh38[_]? = some (aI 8 (fun _ => 0)) := nn38.1
  clear nn38
  refine at_putrF (fs' := [_, _, _, _, _, _, _, _, _, _, _, _, _, _, _, _, _, _, _, _, _, _, _, _, _, _, _, _, _, _, _, _, _, _, _, _, _, _, _, _]) 60 dX12_init_57 rfl pl_X12_28 (by assumption) (Nat.le_of_ble_eq_true rfl) (fun _ => rfl) (fun _ => rfl) rfl (fun C T N q => by cases q; rfl) rfl (fun hh39 nn39 => ?_)
  replace hl := nn39.2.2.trans hl
  replace ob := nn39.1
  replace hm := hm.nw nn39 (by first | rfl | omega)
  replace a107 := nn39.o (by first | decide | omega | assumption) a107
  replace a108 := nn39.o (by first | decide | omega | assumption) a108
  replace a109 := nn39.o (by first | decide | omega | assumption) a109
  replace a110 := nn39.o (by first | decide | omega | assumption) a110
  replace a111 := nn39.o (by first | decide | omega | assumption) a111
  replace a112 := nn39.o (by first | decide | omega | assumption) a112
  replace a113 := nn39.o (by first | decide | omega | assumption) a113
  clear nn39
  refine at_aload_n 61 dX12_init_60 rfl rfl rfl ?_
  refine at_iconst 62 (nI 3) dX12_init_61 rfl (by decide) ?_
  refine at_pi 65 dX12_init_62 rfl pl_X12_31 (rfl) (rfl) ⟨_, by assumption, ?_⟩
  refine ⟨(Nat.le_of_ble_eq_true rfl), [_, _, _, _, _, _, _, _, _, _, _, _, _, _, _, _, _, _, _, _, _, _, _, _, _, _, _, _, _, _, _, _, _, _, _, _, _, _, _, _], rfl, fun hh40 nn40 => ?_⟩
  replace hl := nn40.2.2.trans hl
  replace ob := nn40.1
  replace hm := hm.nw nn40 (by first | rfl | omega)
  replace a107 := nn40.o (by first | decide | omega | assumption) a107
  replace a108 := nn40.o (by first | decide | omega | assumption) a108
  replace a109 := nn40.o (by first | decide | omega | assumption) a109
  replace a110 := nn40.o (by first | decide | omega | assumption) a110
  replace a111 := nn40.o (by first | decide | omega | assumption) a111
  replace a112 := nn40.o (by first | decide | omega | assumption) a112
  replace a113 := nn40.o (by first | decide | omega | assumption) a113
  clear nn40
  refine at_aload_n 66 dX12_init_65 rfl rfl rfl ?_
  refine at_sipush 69 (nI 1000) dX12_init_66 rfl (by decide) ?_
  refine at_pi 72 dX12_init_69 rfl pl_X12_35 (rfl) (rfl) ⟨_, by assumption, ?_⟩
  refine ⟨(Nat.le_of_ble_eq_true rfl), [_, _, _, _, _, _, _, _, _, _, _, _, _, _, _, _, _, _, _, _, _, _, _, _, _, _, _, _, _, _, _, _, _, _, _, _, _, _, _, _], rfl, fun hh41 nn41 => ?_⟩
  replace hl := nn41.2.2.trans hl
  replace ob := nn41.1
  replace hm := hm.nw nn41 (by first | rfl | omega)
  replace a107 := nn41.o (by first | decide | omega | assumption) a107
  replace a108 := nn41.o (by first | decide | omega | assumption) a108
  replace a109 := nn41.o (by first | decide | omega | assumption) a109
  replace a110 := nn41.o (by first | decide | omega | assumption) a110
  replace a111 := nn41.o (by first | decide | omega | assumption) a111
  replace a112 := nn41.o (by first | decide | omega | assumption) a112
  replace a113 := nn41.o (by first | decide | omega | assumption) a113
  clear nn41
  refine at_aload_n 73 dX12_init_72 rfl rfl rfl ?_
  refine at_bipush 75 (nI 100) dX12_init_73 rfl (by decide) ?_
  refine at_pi 78 dX12_init_75 rfl pl_X12_38 (rfl) (rfl) ⟨_, by assumption, ?_⟩
  refine ⟨(Nat.le_of_ble_eq_true rfl), [_, _, _, _, _, _, _, _, _, _, _, _, _, _, _, _, _, _, _, _, _, _, _, _, _, _, _, _, _, _, _, _, _, _, _, _, _, _, _, _], rfl, fun hh42 nn42 => ?_⟩
  replace hl := nn42.2.2.trans hl
  replace ob := nn42.1
  replace hm := hm.nw nn42 (by first | rfl | omega)
  replace a107 := nn42.o (by first | decide | omega | assumption) a107
  replace a108 := nn42.o (by first | decide | omega | assumption) a108
  replace a109 := nn42.o (by first | decide | omega | assumption) a109
  replace a110 := nn42.o (by first | decide | omega | assumption) a110
  replace a111 := nn42.o (by first | decide | omega | assumption) a111
  replace a112 := nn42.o (by first | decide | omega | assumption) a112
  replace a113 := nn42.o (by first | decide | omega | assumption) a113
  clear nn42
  refine at_aload_n 79 dX12_init_78 rfl rfl rfl ?_
  refine at_iconst 80 (-1) dX12_init_79 rfl (by decide) ?_
  refine at_pi 83 dX12_init_80 rfl pl_X12_41 (rfl) (rfl) ⟨_, by assumption, ?_⟩
  refine ⟨(Nat.le_of_ble_eq_true rfl), [_, _, _, _, _, _, _, _, _, _, _, _, _, _, _, _, _, _, _, _, _, _, _, _, _, _, _, _, _, _, _, _, _, _, _, _, _, _, _, _], rfl, fun hh43 nn43 => ?_⟩
  replace hl := nn43.2.2.trans hl
  replace ob := nn43.1
  replace hm := hm.nw nn43 (by first | rfl | omega)
  replace a107 := nn43.o (by first | decide | omega | assumption) a107
  replace a108 := nn43.o (by first | decide | omega | assumption) a108
  replace a109 := nn43.o (by first | decide | omega | assumption) a109
  replace a110 := nn43.o (by first | decide | omega | assumption) a110
  replace a111 := nn43.o (by first | decide | omega | assumption) a111
  replace a112 := nn43.o (by first | decide | omega | assumption) a112
  replace a113 := nn43.o (by first | decide | omega | assumption) a113
  clear nn43
  refine at_aload_n 84 dX12_init_83 rfl rfl rfl ?_
  refine at_sipush 87 (nI 192) dX12_init_84 rfl (by decide) ?_
  refine at_newa (t := 0) 89 (192, .inl (fun _ => nI 0)) dX12_init_87 rfl ac_int (fun _ => rfl) (fun _ _ q => q) (fun _ => rfl) (fun _ => rfl) (by decide) (by decide) hl (Nat.le_of_ble_eq_true rfl) (Nat.le_of_ble_eq_true rfl) (fun hh44 nn44 => ?_)
  replace hl := nn44.2.2
  replace ob := nn44.2.1 _ _ ob
  replace hm := hm.ap nn44
  replace a107 := nn44.2.1 _ _ a107
  replace a108 := nn44.2.1 _ _ a108
  replace a109 := nn44.2.1 _ _ a109
  replace a110 := nn44.2.1 _ _ a110
  replace a111 := nn44.2.1 _ _ a111
  replace a112 := nn44.2.1 _ _ a112
  replace a113 := nn44.2.1 _ _ a113
  have a114 : hh44[_]? = some (aI 192 (fun _ => 0)) := nn44.1
  clear nn44
  refine at_putrF (fs' := [_, _, _, _, _, _, _, _, _, _, _, _, _, _, _, _, _, _, _, _, _, _, _, _, _, _, _, _, _, _, _, _, _, _, _, _, _, _, _, _]) 92 dX12_init_89 rfl pl_X12_44 (by assumption) (Nat.le_of_ble_eq_true rfl) (fun _ => rfl) (fun _ => rfl) rfl (fun C T N q => by cases q; rfl) rfl (fun hh45 nn45 => ?_)
  replace hl := nn45.2.2.trans hl
  replace ob := nn45.1
  replace hm := hm.nw nn45 (by first | rfl | omega)
  replace a107 := nn45.o (by first | decide | omega | assumption) a107
  replace a108 := nn45.o (by first | decide | omega | assumption) a108
  replace a109 := nn45.o (by first | decide | omega | assumption) a109
  replace a110 := nn45.o (by first | decide | omega | assumption) a110
  replace a111 := nn45.o (by first | decide | omega | assumption) a111
  replace a112 := nn45.o (by first | decide | omega | assumption) a112
  replace a113 := nn45.o (by first | decide | omega | assumption) a113
  replace a114 := nn45.o (by first | decide | omega | assumption) a114
  clear nn45
  refine at_aload_n 93 dX12_init_92 rfl rfl rfl ?_
  refine at_sipush 96 (nI 192) dX12_init_93 rfl (by decide) ?_
  refine at_newa (t := 0) 98 (192, .inl (fun _ => nI 0)) dX12_init_96 rfl ac_int (fun _ => rfl) (fun _ _ q => q) (fun _ => rfl) (fun _ => rfl) (by decide) (by decide) hl (Nat.le_of_ble_eq_true rfl) (Nat.le_of_ble_eq_true rfl) (fun hh46 nn46 => ?_)
  replace hl := nn46.2.2
  replace ob := nn46.2.1 _ _ ob
  replace hm := hm.ap nn46
  replace a107 := nn46.2.1 _ _ a107
  replace a108 := nn46.2.1 _ _ a108
  replace a109 := nn46.2.1 _ _ a109
  replace a110 := nn46.2.1 _ _ a110
  replace a111 := nn46.2.1 _ _ a111
  replace a112 := nn46.2.1 _ _ a112
  replace a113 := nn46.2.1 _ _ a113
  replace a114 := nn46.2.1 _ _ a114
  have a115 : hh46[_]? = some (aI 192 (fun _ => 0)) := nn46.1
  clear nn46
  refine at_putrF (fs' := [_, _, _, _, _, _, _, _, _, _, _, _, _, _, _, _, _, _, _, _, _, _, _, _, _, _, _, _, _, _, _, _, _, _, _, _, _, _, _, _]) 101 dX12_init_98 rfl pl_X12_47 (by assumption) (Nat.le_of_ble_eq_true rfl) (fun _ => rfl) (fun _ => rfl) rfl (fun C T N q => by cases q; rfl) rfl (fun hh47 nn47 => ?_)
  replace hl := nn47.2.2.trans hl
  replace ob := nn47.1
  replace hm := hm.nw nn47 (by first | rfl | omega)
  replace a107 := nn47.o (by first | decide | omega | assumption) a107
  replace a108 := nn47.o (by first | decide | omega | assumption) a108
  replace a109 := nn47.o (by first | decide | omega | assumption) a109
  replace a110 := nn47.o (by first | decide | omega | assumption) a110
  replace a111 := nn47.o (by first | decide | omega | assumption) a111
  replace a112 := nn47.o (by first | decide | omega | assumption) a112
  replace a113 := nn47.o (by first | decide | omega | assumption) a113
  replace a114 := nn47.o (by first | decide | omega | assumption) a114
  replace a115 := nn47.o (by first | decide | omega | assumption) a115
  clear nn47
  refine at_aload_n 102 dX12_init_101 rfl rfl rfl ?_
  refine at_sipush 105 (nI 192) dX12_init_102 rfl (by decide) ?_
  refine at_newa (t := 0) 107 (192, .inl (fun _ => nI 0)) dX12_init_105 rfl ac_int (fun _ => rfl) (fun _ _ q => q) (fun _ => rfl) (fun _ => rfl) (by decide) (by decide) hl (Nat.le_of_ble_eq_true rfl) (Nat.le_of_ble_eq_true rfl) (fun hh48 nn48 => ?_)
  replace hl := nn48.2.2
  replace ob := nn48.2.1 _ _ ob
  replace hm := hm.ap nn48
  replace a107 := nn48.2.1 _ _ a107
  replace a108 := nn48.2.1 _ _ a108
  replace a109 := nn48.2.1 _ _ a109
  replace a110 := nn48.2.1 _ _ a110
  replace a111 := nn48.2.1 _ _ a111
  replace a112 := nn48.2.1 _ _ a112
  replace a113 := nn48.2.1 _ _ a113
  replace a114 := nn48.2.1 _ _ a114
  replace a115 := nn48.2.1 _ _ a115
  have a116 : hh48[_]? = some (aI 192 (fun _ => 0)) := nn48.1
  clear nn48
  refine at_putrF (fs' := [_, _, _, _, _, _, _, _, _, _, _, _, _, _, _, _, _, _, _, _, _, _, _, _, _, _, _, _, _, _, _, _, _, _, _, _, _, _, _, _]) 110 dX12_init_107 rfl pl_X12_50 (by assumption) (Nat.le_of_ble_eq_true rfl) (fun _ => rfl) (fun _ => rfl) rfl (fun C T N q => by cases q; rfl) rfl (fun hh49 nn49 => ?_)
  replace hl := nn49.2.2.trans hl
  replace ob := nn49.1
  replace hm := hm.nw nn49 (by first | rfl | omega)
  replace a107 := nn49.o (by first | decide | omega | assumption) a107
  replace a108 := nn49.o (by first | decide | omega | assumption) a108
  replace a109 := nn49.o (by first | decide | omega | assumption) a109
  replace a110 := nn49.o (by first | decide | omega | assumption) a110
  replace a111 := nn49.o (by first | decide | omega | assumption) a111
  replace a112 := nn49.o (by first | decide | omega | assumption) a112
  replace a113 := nn49.o (by first | decide | omega | assumption) a113
  replace a114 := nn49.o (by first | decide | omega | assumption) a114
  replace a115 := nn49.o (by first | decide | omega | assumption) a115
  replace a116 := nn49.o (by first | decide | omega | assumption) a116
  clear nn49
  refine at_aload_n 111 dX12_init_110 rfl rfl rfl ?_
  refine at_bipush 113 (nI 32) dX12_init_111 rfl (by decide) ?_
  refine at_newa (t := 0) 115 (32, .inl (fun _ => nI 0)) dX12_init_113 rfl ac_int (fun _ => rfl) (fun _ _ q => q) (fun _ => rfl) (fun _ => rfl) (by decide) (by decide) hl (Nat.le_of_ble_eq_true rfl) (Nat.le_of_ble_eq_true rfl) (fun hh50 nn50 => ?_)
  replace hl := nn50.2.2
  replace ob := nn50.2.1 _ _ ob
  replace hm := hm.ap nn50
  replace a107 := nn50.2.1 _ _ a107
  replace a108 := nn50.2.1 _ _ a108
  replace a109 := nn50.2.1 _ _ a109
  replace a110 := nn50.2.1 _ _ a110
  replace a111 := nn50.2.1 _ _ a111
  replace a112 := nn50.2.1 _ _ a112
  replace a113 := nn50.2.1 _ _ a113
  replace a114 := nn50.2.1 _ _ a114
  replace a115 := nn50.2.1 _ _ a115
  replace a116 := nn50.2.1 _ _ a116
  have a117 : hh50[_]? = some (aI 32 (fun _ => 0)) := nn50.1
  clear nn50
  refine at_putrF (fs' := [_, _, _, _, _, _, _, _, _, _, _, _, _, _, _, _, _, _, _, _, _, _, _, _, _, _, _, _, _, _, _, _, _, _, _, _, _, _, _, _]) 118 dX12_init_115 rfl pl_X12_53 (by assumption) (Nat.le_of_ble_eq_true rfl) (fun _ => rfl) (fun _ => rfl) rfl (fun C T N q => by cases q; rfl) rfl (fun hh51 nn51 => ?_)
  replace hl := nn51.2.2.trans hl
  replace ob := nn51.1
  replace hm := hm.nw nn51 (by first | rfl | omega)
  replace a107 := nn51.o (by first | decide | omega | assumption) a107
  replace a108 := nn51.o (by first | decide | omega | assumption) a108
  replace a109 := nn51.o (by first | decide | omega | assumption) a109
  replace a110 := nn51.o (by first | decide | omega | assumption) a110
  replace a111 := nn51.o (by first | decide | omega | assumption) a111
  replace a112 := nn51.o (by first | decide | omega | assumption) a112
  replace a113 := nn51.o (by first | decide | omega | assumption) a113
  replace a114 := nn51.o (by first | decide | omega | assumption) a114
  replace a115 := nn51.o (by first | decide | omega | assumption) a115
  replace a116 := nn51.o (by first | decide | omega | assumption) a116
  replace a117 := nn51.o (by first | decide | omega | assumption) a117
  clear nn51
  refine at_aload_n 119 dX12_init_118 rfl rfl rfl ?_
  refine at_bipush 121 (nI 32) dX12_init_119 rfl (by decide) ?_
  refine at_newa (t := 0) 123 (32, .inl (fun _ => nI 0)) dX12_init_121 rfl ac_int (fun _ => rfl) (fun _ _ q => q) (fun _ => rfl) (fun _ => rfl) (by decide) (by decide) hl (Nat.le_of_ble_eq_true rfl) (Nat.le_of_ble_eq_true rfl) (fun hh52 nn52 => ?_)
  replace hl := nn52.2.2
  replace ob := nn52.2.1 _ _ ob
  replace hm := hm.ap nn52
  replace a107 := nn52.2.1 _ _ a107
  replace a108 := nn52.2.1 _ _ a108
  replace a109 := nn52.2.1 _ _ a109
  replace a110 := nn52.2.1 _ _ a110
  replace a111 := nn52.2.1 _ _ a111
  replace a112 := nn52.2.1 _ _ a112
  replace a113 := nn52.2.1 _ _ a113
  replace a114 := nn52.2.1 _ _ a114
  replace a115 := nn52.2.1 _ _ a115
  replace a116 := nn52.2.1 _ _ a116
  replace a117 := nn52.2.1 _ _ a117
  have a118 : hh52[_]? = some (aI 32 (fun _ => 0)) := nn52.1
  clear nn52
  refine at_putrF (fs' := [_, _, _, _, _, _, _, _, _, _, _, _, _, _, _, _, _, _, _, _, _, _, _, _, _, _, _, _, _, _, _, _, _, _, _, _, _, _, _, _]) 126 dX12_init_123 rfl pl_X12_56 (by assumption) (Nat.le_of_ble_eq_true rfl) (fun _ => rfl) (fun _ => rfl) rfl (fun C T N q => by cases q; rfl) rfl (fun hh53 nn53 => ?_)
  replace hl := nn53.2.2.trans hl
  replace ob := nn53.1
  replace hm := hm.nw nn53 (by first | rfl | omega)
  replace a107 := nn53.o (by first | decide | omega | assumption) a107
  replace a108 := nn53.o (by first | decide | omega | assumption) a108
  replace a109 := nn53.o (by first | decide | omega | assumption) a109
  replace a110 := nn53.o (by first | decide | omega | assumption) a110
  replace a111 := nn53.o (by first | decide | omega | assumption) a111
  replace a112 := nn53.o (by first | decide | omega | assumption) a112
  replace a113 := nn53.o (by first | decide | omega | assumption) a113
  replace a114 := nn53.o (by first | decide | omega | assumption) a114
  replace a115 := nn53.o (by first | decide | omega | assumption) a115
  replace a116 := nn53.o (by first | decide | omega | assumption) a116
  replace a117 := nn53.o (by first | decide | omega | assumption) a117
  replace a118 := nn53.o (by first | decide | omega | assumption) a118
  clear nn53
  refine at_aload_n 127 dX12_init_126 rfl rfl rfl ?_
  refine at_bipush 129 (nI 24) dX12_init_127 rfl (by decide) ?_
  refine at_newa (t := 0) 131 (24, .inl (fun _ => nI 0)) dX12_init_129 rfl ac_int (fun _ => rfl) (fun _ _ q => q) (fun _ => rfl) (fun _ => rfl) (by decide) (by decide) hl (Nat.le_of_ble_eq_true rfl) (Nat.le_of_ble_eq_true rfl) (fun hh54 nn54 => ?_)
  replace hl := nn54.2.2
  replace ob := nn54.2.1 _ _ ob
  replace hm := hm.ap nn54
  replace a107 := nn54.2.1 _ _ a107
  replace a108 := nn54.2.1 _ _ a108
  replace a109 := nn54.2.1 _ _ a109
  replace a110 := nn54.2.1 _ _ a110
  replace a111 := nn54.2.1 _ _ a111
  replace a112 := nn54.2.1 _ _ a112
  replace a113 := nn54.2.1 _ _ a113
  replace a114 := nn54.2.1 _ _ a114
  replace a115 := nn54.2.1 _ _ a115
  replace a116 := nn54.2.1 _ _ a116
  replace a117 := nn54.2.1 _ _ a117
  replace a118 := nn54.2.1 _ _ a118
  have a119 : hh54[_]? = some (aI 24 (fun _ => 0)) := nn54.1
  clear nn54
  refine at_putrF (fs' := [_, _, _, _, _, _, _, _, _, _, _, _, _, _, _, _, _, _, _, _, _, _, _, _, _, _, _, _, _, _, _, _, _, _, _, _, _, _, _, _]) 134 dX12_init_131 rfl pl_X12_59 (by assumption) (Nat.le_of_ble_eq_true rfl) (fun _ => rfl) (fun _ => rfl) rfl (fun C T N q => by cases q; rfl) rfl (fun hh55 nn55 => ?_)
  replace hl := nn55.2.2.trans hl
  replace ob := nn55.1
  replace hm := hm.nw nn55 (by first | rfl | omega)
  replace a107 := nn55.o (by first | decide | omega | assumption) a107
  replace a108 := nn55.o (by first | decide | omega | assumption) a108
  replace a109 := nn55.o (by first | decide | omega | assumption) a109
  replace a110 := nn55.o (by first | decide | omega | assumption) a110
  replace a111 := nn55.o (by first | decide | omega | assumption) a111
  replace a112 := nn55.o (by first | decide | omega | assumption) a112
  replace a113 := nn55.o (by first | decide | omega | assumption) a113
  replace a114 := nn55.o (by first | decide | omega | assumption) a114
  replace a115 := nn55.o (by first | decide | omega | assumption) a115
  replace a116 := nn55.o (by first | decide | omega | assumption) a116
  replace a117 := nn55.o (by first | decide | omega | assumption) a117
  replace a118 := nn55.o (by first | decide | omega | assumption) a118
  replace a119 := nn55.o (by first | decide | omega | assumption) a119
  clear nn55
  refine at_aload_n 135 dX12_init_134 rfl rfl rfl ?_
  refine at_bipush 137 (nI 24) dX12_init_135 rfl (by decide) ?_
  refine at_newa (t := 0) 139 (24, .inl (fun _ => nI 0)) dX12_init_137 rfl ac_int (fun _ => rfl) (fun _ _ q => q) (fun _ => rfl) (fun _ => rfl) (by decide) (by decide) hl (Nat.le_of_ble_eq_true rfl) (Nat.le_of_ble_eq_true rfl) (fun hh56 nn56 => ?_)
  replace hl := nn56.2.2
  replace ob := nn56.2.1 _ _ ob
  replace hm := hm.ap nn56
  replace a107 := nn56.2.1 _ _ a107
  replace a108 := nn56.2.1 _ _ a108
  replace a109 := nn56.2.1 _ _ a109
  replace a110 := nn56.2.1 _ _ a110
  replace a111 := nn56.2.1 _ _ a111
  replace a112 := nn56.2.1 _ _ a112
  replace a113 := nn56.2.1 _ _ a113
  replace a114 := nn56.2.1 _ _ a114
  replace a115 := nn56.2.1 _ _ a115
  replace a116 := nn56.2.1 _ _ a116
  replace a117 := nn56.2.1 _ _ a117
  replace a118 := nn56.2.1 _ _ a118
  replace a119 := nn56.2.1 _ _ a119
  have a120 : hh56[_]? = some (aI 24 (fun _ => 0)) := nn56.1
  clear nn56
  refine at_putrF (fs' := [_, _, _, _, _, _, _, _, _, _, _, _, _, _, _, _, _, _, _, _, _, _, _, _, _, _, _, _, _, _, _, _, _, _, _, _, _, _, _, _]) 142 dX12_init_139 rfl pl_X12_62 (by assumption) (Nat.le_of_ble_eq_true rfl) (fun _ => rfl) (fun _ => rfl) rfl (fun C T N q => by cases q; rfl) rfl (fun hh57 nn57 => ?_)
  replace hl := nn57.2.2.trans hl
  replace ob := nn57.1
  replace hm := hm.nw nn57 (by first | rfl | omega)
  replace a107 := nn57.o (by first | decide | omega | assumption) a107
  replace a108 := nn57.o (by first | decide | omega | assumption) a108
  replace a109 := nn57.o (by first | decide | omega | assumption) a109
  replace a110 := nn57.o (by first | decide | omega | assumption) a110
  replace a111 := nn57.o (by first | decide | omega | assumption) a111
  replace a112 := nn57.o (by first | decide | omega | assumption) a112
  replace a113 := nn57.o (by first | decide | omega | assumption) a113
  replace a114 := nn57.o (by first | decide | omega | assumption) a114
  replace a115 := nn57.o (by first | decide | omega | assumption) a115
  replace a116 := nn57.o (by first | decide | omega | assumption) a116
  replace a117 := nn57.o (by first | decide | omega | assumption) a117
  replace a118 := nn57.o (by first | decide | omega | assumption) a118
  replace a119 := nn57.o (by first | decide | omega | assumption) a119
  replace a120 := nn57.o (by first | decide | omega | assumption) a120
  clear nn57
  refine at_aload_n 143 dX12_init_142 rfl rfl rfl ?_
  refine at_bipush 145 (nI 36) dX12_init_143 rfl (by decide) ?_
  refine at_newa (t := 0) 147 (36, .inl (fun _ => nI 0)) dX12_init_145 rfl ac_int (fun _ => rfl) (fun _ _ q => q) (fun _ => rfl) (fun _ => rfl) (by decide) (by decide) hl (Nat.le_of_ble_eq_true rfl) (Nat.le_of_ble_eq_true rfl) (fun hh58 nn58 => ?_)
  replace hl := nn58.2.2
  replace ob := nn58.2.1 _ _ ob
  replace hm := hm.ap nn58
  replace a107 := nn58.2.1 _ _ a107
  replace a108 := nn58.2.1 _ _ a108
  replace a109 := nn58.2.1 _ _ a109
  replace a110 := nn58.2.1 _ _ a110
  replace a111 := nn58.2.1 _ _ a111
  replace a112 := nn58.2.1 _ _ a112
  replace a113 := nn58.2.1 _ _ a113
  replace a114 := nn58.2.1 _ _ a114
  replace a115 := nn58.2.1 _ _ a115
  replace a116 := nn58.2.1 _ _ a116
  replace a117 := nn58.2.1 _ _ a117
  replace a118 := nn58.2.1 _ _ a118
  replace a119 := nn58.2.1 _ _ a119
  replace a120 := nn58.2.1 _ _ a120
  have a121 : hh58[_]? = some (aI 36 (fun _ => 0)) := nn58.1
  clear nn58
  refine at_putrF (fs' := [_, _, _, _, _, _, _, _, _, _, _, _, _, _, _, _, _, _, _, _, _, _, _, _, _, _, _, _, _, _, _, _, _, _, _, _, _, _, _, _]) 150 dX12_init_147 rfl pl_X12_65 (by assumption) (Nat.le_of_ble_eq_true rfl) (fun _ => rfl) (fun _ => rfl) rfl (fun C T N q => by cases q; rfl) rfl (fun hh59 nn59 => ?_)
  replace hl := nn59.2.2.trans hl
  replace ob := nn59.1
  replace hm := hm.nw nn59 (by first | rfl | omega)
  replace a107 := nn59.o (by first | decide | omega | assumption) a107
  replace a108 := nn59.o (by first | decide | omega | assumption) a108
  replace a109 := nn59.o (by first | decide | omega | assumption) a109
  replace a110 := nn59.o (by first | decide | omega | assumption) a110
  replace a111 := nn59.o (by first | decide | omega | assumption) a111
  replace a112 := nn59.o (by first | decide | omega | assumption) a112
  replace a113 := nn59.o (by first | decide | omega | assumption) a113
  replace a114 := nn59.o (by first | decide | omega | assumption) a114
  replace a115 := nn59.o (by first | decide | omega | assumption) a115
  replace a116 := nn59.o (by first | decide | omega | assumption) a116
  replace a117 := nn59.o (by first | decide | omega | assumption) a117
  replace a118 := nn59.o (by first | decide | omega | assumption) a118
  replace a119 := nn59.o (by first | decide | omega | assumption) a119
  replace a120 := nn59.o (by first | decide | omega | assumption) a120
  replace a121 := nn59.o (by first | decide | omega | assumption) a121
  clear nn59
  refine at_aload_n 151 dX12_init_150 rfl rfl rfl ?_
  refine at_sipush 154 (nI 1600) dX12_init_151 rfl (by decide) ?_
  refine at_newa (t := 0) 156 (1600, .inl (fun _ => nI 0)) dX12_init_154 rfl ac_int (fun _ => rfl) (fun _ _ q => q) (fun _ => rfl) (fun _ => rfl) (by decide) (by decide) hl (Nat.le_of_ble_eq_true rfl) (Nat.le_of_ble_eq_true rfl) (fun hh60 nn60 => ?_)
  replace hl := nn60.2.2
  replace ob := nn60.2.1 _ _ ob
  replace hm := hm.ap nn60
  replace a107 := nn60.2.1 _ _ a107
  replace a108 := nn60.2.1 _ _ a108
  replace a109 := nn60.2.1 _ _ a109
  replace a110 := nn60.2.1 _ _ a110
  replace a111 := nn60.2.1 _ _ a111
  replace a112 := nn60.2.1 _ _ a112
  replace a113 := nn60.2.1 _ _ a113
  replace a114 := nn60.2.1 _ _ a114
  replace a115 := nn60.2.1 _ _ a115
  replace a116 := nn60.2.1 _ _ a116
  replace a117 := nn60.2.1 _ _ a117
  replace a118 := nn60.2.1 _ _ a118
  replace a119 := nn60.2.1 _ _ a119
  replace a120 := nn60.2.1 _ _ a120
  replace a121 := nn60.2.1 _ _ a121
  have a122 : hh60[_]? = some (aI 1600 (fun _ => 0)) := nn60.1
  clear nn60
  refine at_putrF (fs' := [_, _, _, _, _, _, _, _, _, _, _, _, _, _, _, _, _, _, _, _, _, _, _, _, _, _, _, _, _, _, _, _, _, _, _, _, _, _, _, _]) 159 dX12_init_156 rfl pl_X12_68 (by assumption) (Nat.le_of_ble_eq_true rfl) (fun _ => rfl) (fun _ => rfl) rfl (fun C T N q => by cases q; rfl) rfl (fun hh61 nn61 => ?_)
  replace hl := nn61.2.2.trans hl
  replace ob := nn61.1
  replace hm := hm.nw nn61 (by first | rfl | omega)
  replace a107 := nn61.o (by first | decide | omega | assumption) a107
  replace a108 := nn61.o (by first | decide | omega | assumption) a108
  replace a109 := nn61.o (by first | decide | omega | assumption) a109
  replace a110 := nn61.o (by first | decide | omega | assumption) a110
  replace a111 := nn61.o (by first | decide | omega | assumption) a111
  replace a112 := nn61.o (by first | decide | omega | assumption) a112
  replace a113 := nn61.o (by first | decide | omega | assumption) a113
  replace a114 := nn61.o (by first | decide | omega | assumption) a114
  replace a115 := nn61.o (by first | decide | omega | assumption) a115
  replace a116 := nn61.o (by first | decide | omega | assumption) a116
  replace a117 := nn61.o (by first | decide | omega | assumption) a117
  replace a118 := nn61.o (by first | decide | omega | assumption) a118
  replace a119 := nn61.o (by first | decide | omega | assumption) a119
  replace a120 := nn61.o (by first | decide | omega | assumption) a120
  replace a121 := nn61.o (by first | decide | omega | assumption) a121
  replace a122 := nn61.o (by first | decide | omega | assumption) a122
  clear nn61
  refine at_aload_n 160 dX12_init_159 rfl rfl rfl ?_
  refine at_sipush 163 (nI 3200) dX12_init_160 rfl (by decide) ?_
  refine at_newa (t := 0) 165 (3200, .inl (fun _ => nI 0)) dX12_init_163 rfl ac_int (fun _ => rfl) (fun _ _ q => q) (fun _ => rfl) (fun _ => rfl) (by decide) (by decide) hl (Nat.le_of_ble_eq_true rfl) (Nat.le_of_ble_eq_true rfl) (fun hh62 nn62 => ?_)
  replace hl := nn62.2.2
  replace ob := nn62.2.1 _ _ ob
  replace hm := hm.ap nn62
  replace a107 := nn62.2.1 _ _ a107
  replace a108 := nn62.2.1 _ _ a108
  replace a109 := nn62.2.1 _ _ a109
  replace a110 := nn62.2.1 _ _ a110
  replace a111 := nn62.2.1 _ _ a111
  replace a112 := nn62.2.1 _ _ a112
  replace a113 := nn62.2.1 _ _ a113
  replace a114 := nn62.2.1 _ _ a114
  replace a115 := nn62.2.1 _ _ a115
  replace a116 := nn62.2.1 _ _ a116
  replace a117 := nn62.2.1 _ _ a117
  replace a118 := nn62.2.1 _ _ a118
  replace a119 := nn62.2.1 _ _ a119
  replace a120 := nn62.2.1 _ _ a120
  replace a121 := nn62.2.1 _ _ a121
  replace a122 := nn62.2.1 _ _ a122
  have a123 : hh62[_]? = some (aI 3200 (fun _ => 0)) := nn62.1
  clear nn62
  refine at_putrF (fs' := [_, _, _, _, _, _, _, _, _, _, _, _, _, _, _, _, _, _, _, _, _, _, _, _, _, _, _, _, _, _, _, _, _, _, _, _, _, _, _, _]) 168 dX12_init_165 rfl pl_X12_71 (by assumption) (Nat.le_of_ble_eq_true rfl) (fun _ => rfl) (fun _ => rfl) rfl (fun C T N q => by cases q; rfl) rfl (fun hh63 nn63 => ?_)
  replace hl := nn63.2.2.trans hl
  replace ob := nn63.1
  replace hm := hm.nw nn63 (by first | rfl | omega)
  replace a107 := nn63.o (by first | decide | omega | assumption) a107
  replace a108 := nn63.o (by first | decide | omega | assumption) a108
  replace a109 := nn63.o (by first | decide | omega | assumption) a109
  replace a110 := nn63.o (by first | decide | omega | assumption) a110
  replace a111 := nn63.o (by first | decide | omega | assumption) a111
  replace a112 := nn63.o (by first | decide | omega | assumption) a112
  replace a113 := nn63.o (by first | decide | omega | assumption) a113
  replace a114 := nn63.o (by first | decide | omega | assumption) a114
  replace a115 := nn63.o (by first | decide | omega | assumption) a115
  replace a116 := nn63.o (by first | decide | omega | assumption) a116
  replace a117 := nn63.o (by first | decide | omega | assumption) a117
  replace a118 := nn63.o (by first | decide | omega | assumption) a118
  replace a119 := nn63.o (by first | decide | omega | assumption) a119
  replace a120 := nn63.o (by first | decide | omega | assumption) a120
  replace a121 := nn63.o (by first | decide | omega | assumption) a121
  replace a122 := nn63.o (by first | decide | omega | assumption) a122
  replace a123 := nn63.o (by first | decide | omega | assumption) a123
  clear nn63
  refine at_aload_n 169 dX12_init_168 rfl rfl rfl ?_
  refine at_sipush 172 (nI 400) dX12_init_169 rfl (by decide) ?_
  refine at_newa (t := 0) 174 (400, .inl (fun _ => nI 0)) dX12_init_172 rfl ac_int (fun _ => rfl) (fun _ _ q => q) (fun _ => rfl) (fun _ => rfl) (by decide) (by decide) hl (Nat.le_of_ble_eq_true rfl) (Nat.le_of_ble_eq_true rfl) (fun hh64 nn64 => ?_)
  replace hl := nn64.2.2
  replace ob := nn64.2.1 _ _ ob
  replace hm := hm.ap nn64
  replace a107 := nn64.2.1 _ _ a107
  replace a108 := nn64.2.1 _ _ a108
  replace a109 := nn64.2.1 _ _ a109
  replace a110 := nn64.2.1 _ _ a110
  replace a111 := nn64.2.1 _ _ a111
  replace a112 := nn64.2.1 _ _ a112
  replace a113 := nn64.2.1 _ _ a113
  replace a114 := nn64.2.1 _ _ a114
  replace a115 := nn64.2.1 _ _ a115
  replace a116 := nn64.2.1 _ _ a116
  replace a117 := nn64.2.1 _ _ a117
  replace a118 := nn64.2.1 _ _ a118
  replace a119 := nn64.2.1 _ _ a119
  replace a120 := nn64.2.1 _ _ a120
  replace a121 := nn64.2.1 _ _ a121
  replace a122 := nn64.2.1 _ _ a122
  replace a123 := nn64.2.1 _ _ a123
  have a124 : hh64[_]? = some (aI 400 (fun _ => 0)) := nn64.1
  clear nn64
  refine at_putrF (fs' := [_, _, _, _, _, _, _, _, _, _, _, _, _, _, _, _, _, _, _, _, _, _, _, _, _, _, _, _, _, _, _, _, _, _, _, _, _, _, _, _]) 177 dX12_init_174 rfl pl_X12_74 (by assumption) (Nat.le_of_ble_eq_true rfl) (fun _ => rfl) (fun _ => rfl) rfl (fun C T N q => by cases q; rfl) rfl (fun hh65 nn65 => ?_)
  replace hl := nn65.2.2.trans hl
  replace ob := nn65.1
  replace hm := hm.nw nn65 (by first | rfl | omega)
  replace a107 := nn65.o (by first | decide | omega | assumption) a107
  replace a108 := nn65.o (by first | decide | omega | assumption) a108
  replace a109 := nn65.o (by first | decide | omega | assumption) a109
  replace a110 := nn65.o (by first | decide | omega | assumption) a110
  replace a111 := nn65.o (by first | decide | omega | assumption) a111
  replace a112 := nn65.o (by first | decide | omega | assumption) a112
  replace a113 := nn65.o (by first | decide | omega | assumption) a113
  replace a114 := nn65.o (by first | decide | omega | assumption) a114
  replace a115 := nn65.o (by first | decide | omega | assumption) a115
  replace a116 := nn65.o (by first | decide | omega | assumption) a116
  replace a117 := nn65.o (by first | decide | omega | assumption) a117
  replace a118 := nn65.o (by first | decide | omega | assumption) a118
  replace a119 := nn65.o (by first | decide | omega | assumption) a119
  replace a120 := nn65.o (by first | decide | omega | assumption) a120
  replace a121 := nn65.o (by first | decide | omega | assumption) a121
  replace a122 := nn65.o (by first | decide | omega | assumption) a122
  replace a123 := nn65.o (by first | decide | omega | assumption) a123
  replace a124 := nn65.o (by first | decide | omega | assumption) a124
  clear nn65
  refine at_aload_n 178 dX12_init_177 rfl rfl rfl ?_
  refine at_sipush 181 (nI 400) dX12_init_178 rfl (by decide) ?_
  refine at_newa (t := 0) 183 (400, .inl (fun _ => nI 0)) dX12_init_181 rfl ac_int (fun _ => rfl) (fun _ _ q => q) (fun _ => rfl) (fun _ => rfl) (by decide) (by decide) hl (Nat.le_of_ble_eq_true rfl) (Nat.le_of_ble_eq_true rfl) (fun hh66 nn66 => ?_)
  replace hl := nn66.2.2
  replace ob := nn66.2.1 _ _ ob
  replace hm := hm.ap nn66
  replace a107 := nn66.2.1 _ _ a107
  replace a108 := nn66.2.1 _ _ a108
  replace a109 := nn66.2.1 _ _ a109
  replace a110 := nn66.2.1 _ _ a110
  replace a111 := nn66.2.1 _ _ a111
  replace a112 := nn66.2.1 _ _ a112
  replace a113 := nn66.2.1 _ _ a113
  replace a114 := nn66.2.1 _ _ a114
  replace a115 := nn66.2.1 _ _ a115
  replace a116 := nn66.2.1 _ _ a116
  replace a117 := nn66.2.1 _ _ a117
  replace a118 := nn66.2.1 _ _ a118
  replace a119 := nn66.2.1 _ _ a119
  replace a120 := nn66.2.1 _ _ a120
  replace a121 := nn66.2.1 _ _ a121
  replace a122 := nn66.2.1 _ _ a122
  replace a123 := nn66.2.1 _ _ a123
  replace a124 := nn66.2.1 _ _ a124
  have a125 : hh66[_]? = some (aI 400 (fun _ => 0)) := nn66.1
  clear nn66
  refine at_putrF (fs' := [_, _, _, _, _, _, _, _, _, _, _, _, _, _, _, _, _, _, _, _, _, _, _, _, _, _, _, _, _, _, _, _, _, _, _, _, _, _, _, _]) 186 dX12_init_183 rfl pl_X12_77 (by assumption) (Nat.le_of_ble_eq_true rfl) (fun _ => rfl) (fun _ => rfl) rfl (fun C T N q => by cases q; rfl) rfl (fun hh67 nn67 => ?_)
  replace hl := nn67.2.2.trans hl
  replace ob := nn67.1
  replace hm := hm.nw nn67 (by first | rfl | omega)
  replace a107 := nn67.o (by first | decide | omega | assumption) a107
  replace a108 := nn67.o (by first | decide | omega | assumption) a108
  replace a109 := nn67.o (by first | decide | omega | assumption) a109
  replace a110 := nn67.o (by first | decide | omega | assumption) a110
  replace a111 := nn67.o (by first | decide | omega | assumption) a111
  replace a112 := nn67.o (by first | decide | omega | assumption) a112
  replace a113 := nn67.o (by first | decide | omega | assumption) a113
  replace a114 := nn67.o (by first | decide | omega | assumption) a114
  replace a115 := nn67.o (by first | decide | omega | assumption) a115
  replace a116 := nn67.o (by first | decide | omega | assumption) a116
  replace a117 := nn67.o (by first | decide | omega | assumption) a117
  replace a118 := nn67.o (by first | decide | omega | assumption) a118
  replace a119 := nn67.o (by first | decide | omega | assumption) a119
  replace a120 := nn67.o (by first | decide | omega | assumption) a120
  replace a121 := nn67.o (by first | decide | omega | assumption) a121
  replace a122 := nn67.o (by first | decide | omega | assumption) a122
  replace a123 := nn67.o (by first | decide | omega | assumption) a123
  replace a124 := nn67.o (by first | decide | omega | assumption) a124
  replace a125 := nn67.o (by first | decide | omega | assumption) a125
  clear nn67
  refine at_aload_n 187 dX12_init_186 rfl rfl rfl ?_
  refine at_sipush 190 (nI 400) dX12_init_187 rfl (by decide) ?_
  refine at_newa (t := 0) 192 (400, .inl (fun _ => nI 0)) dX12_init_190 rfl ac_int (fun _ => rfl) (fun _ _ q => q) (fun _ => rfl) (fun _ => rfl) (by decide) (by decide) hl (Nat.le_of_ble_eq_true rfl) (Nat.le_of_ble_eq_true rfl) (fun hh68 nn68 => ?_)
  replace hl := nn68.2.2
  replace ob := nn68.2.1 _ _ ob
  replace hm := hm.ap nn68
  replace a107 := nn68.2.1 _ _ a107
  replace a108 := nn68.2.1 _ _ a108
  replace a109 := nn68.2.1 _ _ a109
  replace a110 := nn68.2.1 _ _ a110
  replace a111 := nn68.2.1 _ _ a111
  replace a112 := nn68.2.1 _ _ a112
  replace a113 := nn68.2.1 _ _ a113
  replace a114 := nn68.2.1 _ _ a114
  replace a115 := nn68.2.1 _ _ a115
  replace a116 := nn68.2.1 _ _ a116
  replace a117 := nn68.2.1 _ _ a117
  replace a118 := nn68.2.1 _ _ a118
  replace a119 := nn68.2.1 _ _ a119
  replace a120 := nn68.2.1 _ _ a120
  replace a121 := nn68.2.1 _ _ a121
  replace a122 := nn68.2.1 _ _ a122
  replace a123 := nn68.2.1 _ _ a123
  replace a124 := nn68.2.1 _ _ a124
  replace a125 := nn68.2.1 _ _ a125
  have a126 : hh68[_]? = some (aI 400 (fun _ => 0)) := nn68.1
  clear nn68
  refine at_putrF (fs' := [_, _, _, _, _, _, _, _, _, _, _, _, _, _, _, _, _, _, _, _, _, _, _, _, _, _, _, _, _, _, _, _, _, _, _, _, _, _, _, _]) 195 dX12_init_192 rfl pl_X12_80 (by assumption) (Nat.le_of_ble_eq_true rfl) (fun _ => rfl) (fun _ => rfl) rfl (fun C T N q => by cases q; rfl) rfl (fun hh69 nn69 => ?_)
  replace hl := nn69.2.2.trans hl
  replace ob := nn69.1
  replace hm := hm.nw nn69 (by first | rfl | omega)
  replace a107 := nn69.o (by first | decide | omega | assumption) a107
  replace a108 := nn69.o (by first | decide | omega | assumption) a108
  replace a109 := nn69.o (by first | decide | omega | assumption) a109
  replace a110 := nn69.o (by first | decide | omega | assumption) a110
  replace a111 := nn69.o (by first | decide | omega | assumption) a111
  replace a112 := nn69.o (by first | decide | omega | assumption) a112
  replace a113 := nn69.o (by first | decide | omega | assumption) a113
  replace a114 := nn69.o (by first | decide | omega | assumption) a114
  replace a115 := nn69.o (by first | decide | omega | assumption) a115
  replace a116 := nn69.o (by first | decide | omega | assumption) a116
  replace a117 := nn69.o (by first | decide | omega | assumption) a117
  replace a118 := nn69.o (by first | decide | omega | assumption) a118
  replace a119 := nn69.o (by first | decide | omega | assumption) a119
  replace a120 := nn69.o (by first | decide | omega | assumption) a120
  replace a121 := nn69.o (by first | decide | omega | assumption) a121
  replace a122 := nn69.o (by first | decide | omega | assumption) a122
  replace a123 := nn69.o (by first | decide | omega | assumption) a123
  replace a124 := nn69.o (by first | decide | omega | assumption) a124
  replace a125 := nn69.o (by first | decide | omega | assumption) a125
  replace a126 := nn69.o (by first | decide | omega | assumption) a126
  clear nn69
  refine at_aload_n 196 dX12_init_195 rfl rfl rfl ?_
  refine at_bipush 198 (nI 32) dX12_init_196 rfl (by decide) ?_
  refine at_newa (t := 1) 200 (32, .inr (.inl (fun _ => lN 0))) dX12_init_198 rfl ac_long (fun _ => rfl) (fun _ _ q => q) (fun _ => rfl) (fun _ => rfl) (by decide) (by decide) hl (Nat.le_of_ble_eq_true rfl) (Nat.le_of_ble_eq_true rfl) (fun hh70 nn70 => ?_)
  replace hl := nn70.2.2
  replace ob := nn70.2.1 _ _ ob
  replace hm := hm.ap nn70
  replace a107 := nn70.2.1 _ _ a107
  replace a108 := nn70.2.1 _ _ a108
  replace a109 := nn70.2.1 _ _ a109
  replace a110 := nn70.2.1 _ _ a110
  replace a111 := nn70.2.1 _ _ a111
  replace a112 := nn70.2.1 _ _ a112
  replace a113 := nn70.2.1 _ _ a113
  replace a114 := nn70.2.1 _ _ a114
  replace a115 := nn70.2.1 _ _ a115
  replace a116 := nn70.2.1 _ _ a116
  replace a117 := nn70.2.1 _ _ a117
  replace a118 := nn70.2.1 _ _ a118
  replace a119 := nn70.2.1 _ _ a119
  replace a120 := nn70.2.1 _ _ a120
  replace a121 := nn70.2.1 _ _ a121
  replace a122 := nn70.2.1 _ _ a122
  replace a123 := nn70.2.1 _ _ a123
  replace a124 := nn70.2.1 _ _ a124
  replace a125 := nn70.2.1 _ _ a125
  replace a126 := nn70.2.1 _ _ a126
  have a127 : hh70[_]? = some (aL 32 (fun _ => 0)) := nn70.1
  clear nn70
  refine at_putrF (fs' := [_, _, _, _, _, _, _, _, _, _, _, _, _, _, _, _, _, _, _, _, _, _, _, _, _, _, _, _, _, _, _, _, _, _, _, _, _, _, _, _]) 203 dX12_init_200 rfl pl_X12_83 (by assumption) (Nat.le_of_ble_eq_true rfl) (fun _ => rfl) (fun _ => rfl) rfl (fun C T N q => by cases q; rfl) rfl (fun hh71 nn71 => ?_)
  replace hl := nn71.2.2.trans hl
  replace ob := nn71.1
  replace hm := hm.nw nn71 (by first | rfl | omega)
  replace a107 := nn71.o (by first | decide | omega | assumption) a107
  replace a108 := nn71.o (by first | decide | omega | assumption) a108
  replace a109 := nn71.o (by first | decide | omega | assumption) a109
  replace a110 := nn71.o (by first | decide | omega | assumption) a110
  replace a111 := nn71.o (by first | decide | omega | assumption) a111
  replace a112 := nn71.o (by first | decide | omega | assumption) a112
  replace a113 := nn71.o (by first | decide | omega | assumption) a113
  replace a114 := nn71.o (by first | decide | omega | assumption) a114
  replace a115 := nn71.o (by first | decide | omega | assumption) a115
  replace a116 := nn71.o (by first | decide | omega | assumption) a116
  replace a117 := nn71.o (by first | decide | omega | assumption) a117
  replace a118 := nn71.o (by first | decide | omega | assumption) a118
  replace a119 := nn71.o (by first | decide | omega | assumption) a119
  replace a120 := nn71.o (by first | decide | omega | assumption) a120
  replace a121 := nn71.o (by first | decide | omega | assumption) a121
  replace a122 := nn71.o (by first | decide | omega | assumption) a122
  replace a123 := nn71.o (by first | decide | omega | assumption) a123
  replace a124 := nn71.o (by first | decide | omega | assumption) a124
  replace a125 := nn71.o (by first | decide | omega | assumption) a125
  replace a126 := nn71.o (by first | decide | omega | assumption) a126
  replace a127 := nn71.o (by first | decide | omega | assumption) a127
  clear nn71
  refine at_aload_n 204 dX12_init_203 rfl rfl rfl ?_
  refine at_bipush 206 (nI 32) dX12_init_204 rfl (by decide) ?_
  refine at_newa (t := 1) 208 (32, .inr (.inl (fun _ => lN 0))) dX12_init_206 rfl ac_long (fun _ => rfl) (fun _ _ q => q) (fun _ => rfl) (fun _ => rfl) (by decide) (by decide) hl (Nat.le_of_ble_eq_true rfl) (Nat.le_of_ble_eq_true rfl) (fun hh72 nn72 => ?_)
  replace hl := nn72.2.2
  replace ob := nn72.2.1 _ _ ob
  replace hm := hm.ap nn72
  replace a107 := nn72.2.1 _ _ a107
  replace a108 := nn72.2.1 _ _ a108
  replace a109 := nn72.2.1 _ _ a109
  replace a110 := nn72.2.1 _ _ a110
  replace a111 := nn72.2.1 _ _ a111
  replace a112 := nn72.2.1 _ _ a112
  replace a113 := nn72.2.1 _ _ a113
  replace a114 := nn72.2.1 _ _ a114
  replace a115 := nn72.2.1 _ _ a115
  replace a116 := nn72.2.1 _ _ a116
  replace a117 := nn72.2.1 _ _ a117
  replace a118 := nn72.2.1 _ _ a118
  replace a119 := nn72.2.1 _ _ a119
  replace a120 := nn72.2.1 _ _ a120
  replace a121 := nn72.2.1 _ _ a121
  replace a122 := nn72.2.1 _ _ a122
  replace a123 := nn72.2.1 _ _ a123
  replace a124 := nn72.2.1 _ _ a124
  replace a125 := nn72.2.1 _ _ a125
  replace a126 := nn72.2.1 _ _ a126
  replace a127 := nn72.2.1 _ _ a127
  have a128 : hh72[_]? = some (aL 32 (fun _ => 0)) := nn72.1
  clear nn72
  refine at_putrF (fs' := [_, _, _, _, _, _, _, _, _, _, _, _, _, _, _, _, _, _, _, _, _, _, _, _, _, _, _, _, _, _, _, _, _, _, _, _, _, _, _, _]) 211 dX12_init_208 rfl pl_X12_87 (by assumption) (Nat.le_of_ble_eq_true rfl) (fun _ => rfl) (fun _ => rfl) rfl (fun C T N q => by cases q; rfl) rfl (fun hh73 nn73 => ?_)
  replace hl := nn73.2.2.trans hl
  replace ob := nn73.1
  replace hm := hm.nw nn73 (by first | rfl | omega)
  replace a107 := nn73.o (by first | decide | omega | assumption) a107
  replace a108 := nn73.o (by first | decide | omega | assumption) a108
  replace a109 := nn73.o (by first | decide | omega | assumption) a109
  replace a110 := nn73.o (by first | decide | omega | assumption) a110
  replace a111 := nn73.o (by first | decide | omega | assumption) a111
  replace a112 := nn73.o (by first | decide | omega | assumption) a112
  replace a113 := nn73.o (by first | decide | omega | assumption) a113
  replace a114 := nn73.o (by first | decide | omega | assumption) a114
  replace a115 := nn73.o (by first | decide | omega | assumption) a115
  replace a116 := nn73.o (by first | decide | omega | assumption) a116
  replace a117 := nn73.o (by first | decide | omega | assumption) a117
  replace a118 := nn73.o (by first | decide | omega | assumption) a118
  replace a119 := nn73.o (by first | decide | omega | assumption) a119
  replace a120 := nn73.o (by first | decide | omega | assumption) a120
  replace a121 := nn73.o (by first | decide | omega | assumption) a121
  replace a122 := nn73.o (by first | decide | omega | assumption) a122
  replace a123 := nn73.o (by first | decide | omega | assumption) a123
  replace a124 := nn73.o (by first | decide | omega | assumption) a124
  replace a125 := nn73.o (by first | decide | omega | assumption) a125
  replace a126 := nn73.o (by first | decide | omega | assumption) a126
  replace a127 := nn73.o (by first | decide | omega | assumption) a127
  replace a128 := nn73.o (by first | decide | omega | assumption) a128
  clear nn73
  refine at_aload_n 212 dX12_init_211 rfl rfl rfl ?_
  refine at_bipush 214 (nI 32) dX12_init_212 rfl (by decide) ?_
  refine at_newa (t := 0) 216 (32, .inl (fun _ => nI 0)) dX12_init_214 rfl ac_int (fun _ => rfl) (fun _ _ q => q) (fun _ => rfl) (fun _ => rfl) (by decide) (by decide) hl (Nat.le_of_ble_eq_true rfl) (Nat.le_of_ble_eq_true rfl) (fun hh74 nn74 => ?_)
  replace hl := nn74.2.2
  replace ob := nn74.2.1 _ _ ob
  replace hm := hm.ap nn74
  replace a107 := nn74.2.1 _ _ a107
  replace a108 := nn74.2.1 _ _ a108
  replace a109 := nn74.2.1 _ _ a109
  replace a110 := nn74.2.1 _ _ a110
  replace a111 := nn74.2.1 _ _ a111
  replace a112 := nn74.2.1 _ _ a112
  replace a113 := nn74.2.1 _ _ a113
  replace a114 := nn74.2.1 _ _ a114
  replace a115 := nn74.2.1 _ _ a115
  replace a116 := nn74.2.1 _ _ a116
  replace a117 := nn74.2.1 _ _ a117
  replace a118 := nn74.2.1 _ _ a118
  replace a119 := nn74.2.1 _ _ a119
  replace a120 := nn74.2.1 _ _ a120
  replace a121 := nn74.2.1 _ _ a121
  replace a122 := nn74.2.1 _ _ a122
  replace a123 := nn74.2.1 _ _ a123
  replace a124 := nn74.2.1 _ _ a124
  replace a125 := nn74.2.1 _ _ a125
  replace a126 := nn74.2.1 _ _ a126
  replace a127 := nn74.2.1 _ _ a127
  replace a128 := nn74.2.1 _ _ a128
  have a129 : hh74[_]? = some (aI 32 (fun _ => 0)) := nn74.1
  clear nn74
  refine at_putrF (fs' := [_, _, _, _, _, _, _, _, _, _, _, _, _, _, _, _, _, _, _, _, _, _, _, _, _, _, _, _, _, _, _, _, _, _, _, _, _, _, _, _]) 219 dX12_init_216 rfl pl_X12_90 (by assumption) (Nat.le_of_ble_eq_true rfl) (fun _ => rfl) (fun _ => rfl) rfl (fun C T N q => by cases q; rfl) rfl (fun hh75 nn75 => ?_)
  replace hl := nn75.2.2.trans hl
  replace ob := nn75.1
  replace hm := hm.nw nn75 (by first | rfl | omega)
  replace a107 := nn75.o (by first | decide | omega | assumption) a107
  replace a108 := nn75.o (by first | decide | omega | assumption) a108
  replace a109 := nn75.o (by first | decide | omega | assumption) a109
  replace a110 := nn75.o (by first | decide | omega | assumption) a110
  replace a111 := nn75.o (by first | decide | omega | assumption) a111
  replace a112 := nn75.o (by first | decide | omega | assumption) a112
  replace a113 := nn75.o (by first | decide | omega | assumption) a113
  replace a114 := nn75.o (by first | decide | omega | assumption) a114
  replace a115 := nn75.o (by first | decide | omega | assumption) a115
  replace a116 := nn75.o (by first | decide | omega | assumption) a116
  replace a117 := nn75.o (by first | decide | omega | assumption) a117
  replace a118 := nn75.o (by first | decide | omega | assumption) a118
  replace a119 := nn75.o (by first | decide | omega | assumption) a119
  replace a120 := nn75.o (by first | decide | omega | assumption) a120
  replace a121 := nn75.o (by first | decide | omega | assumption) a121
  replace a122 := nn75.o (by first | decide | omega | assumption) a122
  replace a123 := nn75.o (by first | decide | omega | assumption) a123
  replace a124 := nn75.o (by first | decide | omega | assumption) a124
  replace a125 := nn75.o (by first | decide | omega | assumption) a125
  replace a126 := nn75.o (by first | decide | omega | assumption) a126
  replace a127 := nn75.o (by first | decide | omega | assumption) a127
  replace a128 := nn75.o (by first | decide | omega | assumption) a128
  replace a129 := nn75.o (by first | decide | omega | assumption) a129
  clear nn75
  refine at_aload_n 220 dX12_init_219 rfl rfl rfl ?_
  refine at_bipush 222 (nI 8) dX12_init_220 rfl (by decide) ?_
  refine at_newa (t := 0) 224 (8, .inl (fun _ => nI 0)) dX12_init_222 rfl ac_int (fun _ => rfl) (fun _ _ q => q) (fun _ => rfl) (fun _ => rfl) (by decide) (by decide) hl (Nat.le_of_ble_eq_true rfl) (Nat.le_of_ble_eq_true rfl) (fun hh76 nn76 => ?_)
  replace hl := nn76.2.2
  replace ob := nn76.2.1 _ _ ob
  replace hm := hm.ap nn76
  replace a107 := nn76.2.1 _ _ a107
  replace a108 := nn76.2.1 _ _ a108
  replace a109 := nn76.2.1 _ _ a109
  replace a110 := nn76.2.1 _ _ a110
  replace a111 := nn76.2.1 _ _ a111
  replace a112 := nn76.2.1 _ _ a112
  replace a113 := nn76.2.1 _ _ a113
  replace a114 := nn76.2.1 _ _ a114
  replace a115 := nn76.2.1 _ _ a115
  replace a116 := nn76.2.1 _ _ a116
  replace a117 := nn76.2.1 _ _ a117
  replace a118 := nn76.2.1 _ _ a118
  replace a119 := nn76.2.1 _ _ a119
  replace a120 := nn76.2.1 _ _ a120
  replace a121 := nn76.2.1 _ _ a121
  replace a122 := nn76.2.1 _ _ a122
  replace a123 := nn76.2.1 _ _ a123
  replace a124 := nn76.2.1 _ _ a124
  replace a125 := nn76.2.1 _ _ a125
  replace a126 := nn76.2.1 _ _ a126
  replace a127 := nn76.2.1 _ _ a127
  replace a128 := nn76.2.1 _ _ a128
  replace a129 := nn76.2.1 _ _ a129
  have a130 : hh76[_]? = some (aI 8 (fun _ => 0)) := nn76.1
  clear nn76
  refine at_putrF (fs' := [_, _, _, _, _, _, _, _, _, _, _, _, _, _, _, _, _, _, _, _, _, _, _, _, _, _, _, _, _, _, _, _, _, _, _, _, _, _, _, _]) 227 dX12_init_224 rfl pl_X12_93 (by assumption) (Nat.le_of_ble_eq_true rfl) (fun _ => rfl) (fun _ => rfl) rfl (fun C T N q => by cases q; rfl) rfl (fun hh77 nn77 => ?_)
  replace hl := nn77.2.2.trans hl
  replace ob := nn77.1
  replace hm := hm.nw nn77 (by first | rfl | omega)
  replace a107 := nn77.o (by first | decide | omega | assumption) a107
  replace a108 := nn77.o (by first | decide | omega | assumption) a108
  replace a109 := nn77.o (by first | decide | omega | assumption) a109
  replace a110 := nn77.o (by first | decide | omega | assumption) a110
  replace a111 := nn77.o (by first | decide | omega | assumption) a111
  replace a112 := nn77.o (by first | decide | omega | assumption) a112
  replace a113 := nn77.o (by first | decide | omega | assumption) a113
  replace a114 := nn77.o (by first | decide | omega | assumption) a114
  replace a115 := nn77.o (by first | decide | omega | assumption) a115
  replace a116 := nn77.o (by first | decide | omega | assumption) a116
  replace a117 := nn77.o (by first | decide | omega | assumption) a117
  replace a118 := nn77.o (by first | decide | omega | assumption) a118
  replace a119 := nn77.o (by first | decide | omega | assumption) a119
  replace a120 := nn77.o (by first | decide | omega | assumption) a120
  replace a121 := nn77.o (by first | decide | omega | assumption) a121
  replace a122 := nn77.o (by first | decide | omega | assumption) a122
  replace a123 := nn77.o (by first | decide | omega | assumption) a123
  replace a124 := nn77.o (by first | decide | omega | assumption) a124
  replace a125 := nn77.o (by first | decide | omega | assumption) a125
  replace a126 := nn77.o (by first | decide | omega | assumption) a126
  replace a127 := nn77.o (by first | decide | omega | assumption) a127
  replace a128 := nn77.o (by first | decide | omega | assumption) a128
  replace a129 := nn77.o (by first | decide | omega | assumption) a129
  replace a130 := nn77.o (by first | decide | omega | assumption) a130
  clear nn77
  refine at_aload_n 228 dX12_init_227 rfl rfl rfl ?_
  refine at_bipush 230 (nI 8) dX12_init_228 rfl (by decide) ?_
  refine at_newa (t := 0) 232 (8, .inl (fun _ => nI 0)) dX12_init_230 rfl ac_int (fun _ => rfl) (fun _ _ q => q) (fun _ => rfl) (fun _ => rfl) (by decide) (by decide) hl (Nat.le_of_ble_eq_true rfl) (Nat.le_of_ble_eq_true rfl) (fun hh78 nn78 => ?_)
  replace hl := nn78.2.2
  replace ob := nn78.2.1 _ _ ob
  replace hm := hm.ap nn78
  replace a107 := nn78.2.1 _ _ a107
  replace a108 := nn78.2.1 _ _ a108
  replace a109 := nn78.2.1 _ _ a109
  replace a110 := nn78.2.1 _ _ a110
  replace a111 := nn78.2.1 _ _ a111
  replace a112 := nn78.2.1 _ _ a112
  replace a113 := nn78.2.1 _ _ a113
  replace a114 := nn78.2.1 _ _ a114
  replace a115 := nn78.2.1 _ _ a115
  replace a116 := nn78.2.1 _ _ a116
  replace a117 := nn78.2.1 _ _ a117
  replace a118 := nn78.2.1 _ _ a118
  replace a119 := nn78.2.1 _ _ a119
  replace a120 := nn78.2.1 _ _ a120
  replace a121 := nn78.2.1 _ _ a121
  replace a122 := nn78.2.1 _ _ a122
  replace a123 := nn78.2.1 _ _ a123
  replace a124 := nn78.2.1 _ _ a124
  replace a125 := nn78.2.1 _ _ a125
  replace a126 := nn78.2.1 _ _ a126
  replace a127 := nn78.2.1 _ _ a127
  replace a128 := nn78.2.1 _ _ a128
  replace a129 := nn78.2.1 _ _ a129
  replace a130 := nn78.2.1 _ _ a130
  have a131 : hh78[_]? = some (aI 8 (fun _ => 0)) := nn78.1
  clear nn78
  refine at_putrF (fs' := [_, _, _, _, _, _, _, _, _, _, _, _, _, _, _, _, _, _, _, _, _, _, _, _, _, _, _, _, _, _, _, _, _, _, _, _, _, _, _, _]) 235 dX12_init_232 rfl pl_X12_96 (by assumption) (Nat.le_of_ble_eq_true rfl) (fun _ => rfl) (fun _ => rfl) rfl (fun C T N q => by cases q; rfl) rfl (fun hh79 nn79 => ?_)
  replace hl := nn79.2.2.trans hl
  replace ob := nn79.1
  replace hm := hm.nw nn79 (by first | rfl | omega)
  replace a107 := nn79.o (by first | decide | omega | assumption) a107
  replace a108 := nn79.o (by first | decide | omega | assumption) a108
  replace a109 := nn79.o (by first | decide | omega | assumption) a109
  replace a110 := nn79.o (by first | decide | omega | assumption) a110
  replace a111 := nn79.o (by first | decide | omega | assumption) a111
  replace a112 := nn79.o (by first | decide | omega | assumption) a112
  replace a113 := nn79.o (by first | decide | omega | assumption) a113
  replace a114 := nn79.o (by first | decide | omega | assumption) a114
  replace a115 := nn79.o (by first | decide | omega | assumption) a115
  replace a116 := nn79.o (by first | decide | omega | assumption) a116
  replace a117 := nn79.o (by first | decide | omega | assumption) a117
  replace a118 := nn79.o (by first | decide | omega | assumption) a118
  replace a119 := nn79.o (by first | decide | omega | assumption) a119
  replace a120 := nn79.o (by first | decide | omega | assumption) a120
  replace a121 := nn79.o (by first | decide | omega | assumption) a121
  replace a122 := nn79.o (by first | decide | omega | assumption) a122
  replace a123 := nn79.o (by first | decide | omega | assumption) a123
  replace a124 := nn79.o (by first | decide | omega | assumption) a124
  replace a125 := nn79.o (by first | decide | omega | assumption) a125
  replace a126 := nn79.o (by first | decide | omega | assumption) a126
  replace a127 := nn79.o (by first | decide | omega | assumption) a127
  replace a128 := nn79.o (by first | decide | omega | assumption) a128
  replace a129 := nn79.o (by first | decide | omega | assumption) a129
  replace a130 := nn79.o (by first | decide | omega | assumption) a130
  replace a131 := nn79.o (by first | decide | omega | assumption) a131
  clear nn79
  refine at_aload_n 236 dX12_init_235 rfl rfl rfl ?_
  refine at_bipush 238 (nI 8) dX12_init_236 rfl (by decide) ?_
  refine at_newa (t := 0) 240 (8, .inl (fun _ => nI 0)) dX12_init_238 rfl ac_int (fun _ => rfl) (fun _ _ q => q) (fun _ => rfl) (fun _ => rfl) (by decide) (by decide) hl (Nat.le_of_ble_eq_true rfl) (Nat.le_of_ble_eq_true rfl) (fun hh80 nn80 => ?_)
  replace hl := nn80.2.2
  replace ob := nn80.2.1 _ _ ob
  replace hm := hm.ap nn80
  replace a107 := nn80.2.1 _ _ a107
  replace a108 := nn80.2.1 _ _ a108
  replace a109 := nn80.2.1 _ _ a109
  replace a110 := nn80.2.1 _ _ a110
  replace a111 := nn80.2.1 _ _ a111
  replace a112 := nn80.2.1 _ _ a112
  replace a113 := nn80.2.1 _ _ a113
  replace a114 := nn80.2.1 _ _ a114
  replace a115 := nn80.2.1 _ _ a115
  replace a116 := nn80.2.1 _ _ a116
  replace a117 := nn80.2.1 _ _ a117
  replace a118 := nn80.2.1 _ _ a118
  replace a119 := nn80.2.1 _ _ a119
  replace a120 := nn80.2.1 _ _ a120
  replace a121 := nn80.2.1 _ _ a121
  replace a122 := nn80.2.1 _ _ a122
  replace a123 := nn80.2.1 _ _ a123
  replace a124 := nn80.2.1 _ _ a124
  replace a125 := nn80.2.1 _ _ a125
  replace a126 := nn80.2.1 _ _ a126
  replace a127 := nn80.2.1 _ _ a127
  replace a128 := nn80.2.1 _ _ a128
  replace a129 := nn80.2.1 _ _ a129
  replace a130 := nn80.2.1 _ _ a130
  replace a131 := nn80.2.1 _ _ a131
  have a132 : hh80[_]? = some (aI 8 (fun _ => 0)) := nn80.1
  clear nn80
  refine at_putrF (fs' := [_, _, _, _, _, _, _, _, _, _, _, _, _, _, _, _, _, _, _, _, _, _, _, _, _, _, _, _, _, _, _, _, _, _, _, _, _, _, _, _]) 243 dX12_init_240 rfl pl_X12_99 (by assumption) (Nat.le_of_ble_eq_true rfl) (fun _ => rfl) (fun _ => rfl) rfl (fun C T N q => by cases q; rfl) rfl (fun hh81 nn81 => ?_)
  replace hl := nn81.2.2.trans hl
  replace ob := nn81.1
  replace hm := hm.nw nn81 (by first | rfl | omega)
  replace a107 := nn81.o (by first | decide | omega | assumption) a107
  replace a108 := nn81.o (by first | decide | omega | assumption) a108
  replace a109 := nn81.o (by first | decide | omega | assumption) a109
  replace a110 := nn81.o (by first | decide | omega | assumption) a110
  replace a111 := nn81.o (by first | decide | omega | assumption) a111
  replace a112 := nn81.o (by first | decide | omega | assumption) a112
  replace a113 := nn81.o (by first | decide | omega | assumption) a113
  replace a114 := nn81.o (by first | decide | omega | assumption) a114
  replace a115 := nn81.o (by first | decide | omega | assumption) a115
  replace a116 := nn81.o (by first | decide | omega | assumption) a116
  replace a117 := nn81.o (by first | decide | omega | assumption) a117
  replace a118 := nn81.o (by first | decide | omega | assumption) a118
  replace a119 := nn81.o (by first | decide | omega | assumption) a119
  replace a120 := nn81.o (by first | decide | omega | assumption) a120
  replace a121 := nn81.o (by first | decide | omega | assumption) a121
  replace a122 := nn81.o (by first | decide | omega | assumption) a122
  replace a123 := nn81.o (by first | decide | omega | assumption) a123
  replace a124 := nn81.o (by first | decide | omega | assumption) a124
  replace a125 := nn81.o (by first | decide | omega | assumption) a125
  replace a126 := nn81.o (by first | decide | omega | assumption) a126
  replace a127 := nn81.o (by first | decide | omega | assumption) a127
  replace a128 := nn81.o (by first | decide | omega | assumption) a128
  replace a129 := nn81.o (by first | decide | omega | assumption) a129
  replace a130 := nn81.o (by first | decide | omega | assumption) a130
  replace a131 := nn81.o (by first | decide | omega | assumption) a131
  replace a132 := nn81.o (by first | decide | omega | assumption) a132
  clear nn81
  refine at_aload_n 244 dX12_init_243 rfl rfl rfl ?_
  refine at_bipush 246 (nI 6) dX12_init_244 rfl (by decide) ?_
  refine at_newa (t := 0) 248 (6, .inl (fun _ => nI 0)) dX12_init_246 rfl ac_int (fun _ => rfl) (fun _ _ q => q) (fun _ => rfl) (fun _ => rfl) (by decide) (by decide) hl (Nat.le_of_ble_eq_true rfl) (Nat.le_of_ble_eq_true rfl) (fun hh82 nn82 => ?_)
  replace hl := nn82.2.2
  replace ob := nn82.2.1 _ _ ob
  replace hm := hm.ap nn82
  replace a107 := nn82.2.1 _ _ a107
  replace a108 := nn82.2.1 _ _ a108
  replace a109 := nn82.2.1 _ _ a109
  replace a110 := nn82.2.1 _ _ a110
  replace a111 := nn82.2.1 _ _ a111
  replace a112 := nn82.2.1 _ _ a112
  replace a113 := nn82.2.1 _ _ a113
  replace a114 := nn82.2.1 _ _ a114
  replace a115 := nn82.2.1 _ _ a115
  replace a116 := nn82.2.1 _ _ a116
  replace a117 := nn82.2.1 _ _ a117
  replace a118 := nn82.2.1 _ _ a118
  replace a119 := nn82.2.1 _ _ a119
  replace a120 := nn82.2.1 _ _ a120
  replace a121 := nn82.2.1 _ _ a121
  replace a122 := nn82.2.1 _ _ a122
  replace a123 := nn82.2.1 _ _ a123
  replace a124 := nn82.2.1 _ _ a124
  replace a125 := nn82.2.1 _ _ a125
  replace a126 := nn82.2.1 _ _ a126
  replace a127 := nn82.2.1 _ _ a127
  replace a128 := nn82.2.1 _ _ a128
  replace a129 := nn82.2.1 _ _ a129
  replace a130 := nn82.2.1 _ _ a130
  replace a131 := nn82.2.1 _ _ a131
  replace a132 := nn82.2.1 _ _ a132
  have a133 : hh82[_]? = some (aI 6 (fun _ => 0)) := nn82.1
  clear nn82
  refine at_putrF (fs' := [_, _, _, _, _, _, _, _, _, _, _, _, _, _, _, _, _, _, _, _, _, _, _, _, _, _, _, _, _, _, _, _, _, _, _, _, _, _, _, _]) 251 dX12_init_248 rfl pl_X12_102 (by assumption) (Nat.le_of_ble_eq_true rfl) (fun _ => rfl) (fun _ => rfl) rfl (fun C T N q => by cases q; rfl) rfl (fun hh83 nn83 => ?_)
  replace hl := nn83.2.2.trans hl
  replace ob := nn83.1
  replace hm := hm.nw nn83 (by first | rfl | omega)
  replace a107 := nn83.o (by first | decide | omega | assumption) a107
  replace a108 := nn83.o (by first | decide | omega | assumption) a108
  replace a109 := nn83.o (by first | decide | omega | assumption) a109
  replace a110 := nn83.o (by first | decide | omega | assumption) a110
  replace a111 := nn83.o (by first | decide | omega | assumption) a111
  replace a112 := nn83.o (by first | decide | omega | assumption) a112
  replace a113 := nn83.o (by first | decide | omega | assumption) a113
  replace a114 := nn83.o (by first | decide | omega | assumption) a114
  replace a115 := nn83.o (by first | decide | omega | assumption) a115
  replace a116 := nn83.o (by first | decide | omega | assumption) a116
  replace a117 := nn83.o (by first | decide | omega | assumption) a117
  replace a118 := nn83.o (by first | decide | omega | assumption) a118
  replace a119 := nn83.o (by first | decide | omega | assumption) a119
  replace a120 := nn83.o (by first | decide | omega | assumption) a120
  replace a121 := nn83.o (by first | decide | omega | assumption) a121
  replace a122 := nn83.o (by first | decide | omega | assumption) a122
  replace a123 := nn83.o (by first | decide | omega | assumption) a123
  replace a124 := nn83.o (by first | decide | omega | assumption) a124
  replace a125 := nn83.o (by first | decide | omega | assumption) a125
  replace a126 := nn83.o (by first | decide | omega | assumption) a126
  replace a127 := nn83.o (by first | decide | omega | assumption) a127
  replace a128 := nn83.o (by first | decide | omega | assumption) a128
  replace a129 := nn83.o (by first | decide | omega | assumption) a129
  replace a130 := nn83.o (by first | decide | omega | assumption) a130
  replace a131 := nn83.o (by first | decide | omega | assumption) a131
  replace a132 := nn83.o (by first | decide | omega | assumption) a132
  replace a133 := nn83.o (by first | decide | omega | assumption) a133
  clear nn83
  refine at_aload_n 252 dX12_init_251 rfl rfl rfl ?_
  refine at_bipush 254 (nI 6) dX12_init_252 rfl (by decide) ?_
  refine at_newa (t := 0) 256 (6, .inl (fun _ => nI 0)) dX12_init_254 rfl ac_int (fun _ => rfl) (fun _ _ q => q) (fun _ => rfl) (fun _ => rfl) (by decide) (by decide) hl (Nat.le_of_ble_eq_true rfl) (Nat.le_of_ble_eq_true rfl) (fun hh84 nn84 => ?_)
  replace hl := nn84.2.2
  replace ob := nn84.2.1 _ _ ob
  replace hm := hm.ap nn84
  replace a107 := nn84.2.1 _ _ a107
  replace a108 := nn84.2.1 _ _ a108
  replace a109 := nn84.2.1 _ _ a109
  replace a110 := nn84.2.1 _ _ a110
  replace a111 := nn84.2.1 _ _ a111
  replace a112 := nn84.2.1 _ _ a112
  replace a113 := nn84.2.1 _ _ a113
  replace a114 := nn84.2.1 _ _ a114
  replace a115 := nn84.2.1 _ _ a115
  replace a116 := nn84.2.1 _ _ a116
  replace a117 := nn84.2.1 _ _ a117
  replace a118 := nn84.2.1 _ _ a118
  replace a119 := nn84.2.1 _ _ a119
  replace a120 := nn84.2.1 _ _ a120
  replace a121 := nn84.2.1 _ _ a121
  replace a122 := nn84.2.1 _ _ a122
  replace a123 := nn84.2.1 _ _ a123
  replace a124 := nn84.2.1 _ _ a124
  replace a125 := nn84.2.1 _ _ a125
  replace a126 := nn84.2.1 _ _ a126
  replace a127 := nn84.2.1 _ _ a127
  replace a128 := nn84.2.1 _ _ a128
  replace a129 := nn84.2.1 _ _ a129
  replace a130 := nn84.2.1 _ _ a130
  replace a131 := nn84.2.1 _ _ a131
  replace a132 := nn84.2.1 _ _ a132
  replace a133 := nn84.2.1 _ _ a133
  have a134 : hh84[_]? = some (aI 6 (fun _ => 0)) := nn84.1
  clear nn84
  refine at_putrF (fs' := [_, _, _, _, _, _, _, _, _, _, _, _, _, _, _, _, _, _, _, _, _, _, _, _, _, _, _, _, _, _, _, _, _, _, _, _, _, _, _, _]) 259 dX12_init_256 rfl pl_X12_105 (by assumption) (Nat.le_of_ble_eq_true rfl) (fun _ => rfl) (fun _ => rfl) rfl (fun C T N q => by cases q; rfl) rfl (fun hh85 nn85 => ?_)
  replace hl := nn85.2.2.trans hl
  replace ob := nn85.1
  replace hm := hm.nw nn85 (by first | rfl | omega)
  replace a107 := nn85.o (by first | decide | omega | assumption) a107
  replace a108 := nn85.o (by first | decide | omega | assumption) a108
  replace a109 := nn85.o (by first | decide | omega | assumption) a109
  replace a110 := nn85.o (by first | decide | omega | assumption) a110
  replace a111 := nn85.o (by first | decide | omega | assumption) a111
  replace a112 := nn85.o (by first | decide | omega | assumption) a112
  replace a113 := nn85.o (by first | decide | omega | assumption) a113
  replace a114 := nn85.o (by first | decide | omega | assumption) a114
  replace a115 := nn85.o (by first | decide | omega | assumption) a115
  replace a116 := nn85.o (by first | decide | omega | assumption) a116
  replace a117 := nn85.o (by first | decide | omega | assumption) a117
  replace a118 := nn85.o (by first | decide | omega | assumption) a118
  replace a119 := nn85.o (by first | decide | omega | assumption) a119
  replace a120 := nn85.o (by first | decide | omega | assumption) a120
  replace a121 := nn85.o (by first | decide | omega | assumption) a121
  replace a122 := nn85.o (by first | decide | omega | assumption) a122
  replace a123 := nn85.o (by first | decide | omega | assumption) a123
  replace a124 := nn85.o (by first | decide | omega | assumption) a124
  replace a125 := nn85.o (by first | decide | omega | assumption) a125
  replace a126 := nn85.o (by first | decide | omega | assumption) a126
  replace a127 := nn85.o (by first | decide | omega | assumption) a127
  replace a128 := nn85.o (by first | decide | omega | assumption) a128
  replace a129 := nn85.o (by first | decide | omega | assumption) a129
  replace a130 := nn85.o (by first | decide | omega | assumption) a130
  replace a131 := nn85.o (by first | decide | omega | assumption) a131
  replace a132 := nn85.o (by first | decide | omega | assumption) a132
  replace a133 := nn85.o (by first | decide | omega | assumption) a133
  replace a134 := nn85.o (by first | decide | omega | assumption) a134
  clear nn85
  refine at_vret dX12_init_259 rfl (by decide) (by decide) ?_
  refine ⟨rfl, hl, hm, ob, ⟨⟨_, a107, fun i _ => (z 7 i (by decide) (by decide)).symm⟩, ⟨_, a108, fun i _ => (z 1 i (by decide) (by decide)).symm⟩, ⟨_, a109, fun i _ => (z 2 i (by decide) (by decide)).symm⟩, ⟨_, a110, fun i _ => (z 3 i (by decide) (by decide)).symm⟩, ⟨_, a111, fun i _ => (z 4 i (by decide) (by decide)).symm⟩, ⟨_, a112, fun i _ => (z 6 i (by decide) (by decide)).symm⟩, ⟨_, a113, fun i _ => (z 5 i (by decide) (by decide)).symm⟩⟩, ⟨_, a114, fun i _ => (z 8 i (by decide) (by decide)).symm⟩, ⟨⟨_, a119, fun i _ => (z 9 i (by decide) (by decide)).symm⟩, ⟨_, a120, fun i _ => (z 10 i (by decide) (by decide)).symm⟩, ⟨_, a121, fun i _ => (z 11 i (by decide) (by decide)).symm⟩⟩, ⟨⟨_, a122, fun i _ => (z 12 i (by decide) (by decide)).symm⟩, ⟨_, a123, fun i _ => (z 13 i (by decide) (by decide)).symm⟩, ⟨_, a126, fun i _ => (z 14 i (by decide) (by decide)).symm⟩, ⟨_, a124, fun i _ => by show nI 0 = nI 1 - 1; decide⟩, ⟨_, a125, fun i _ => (z 16 i (by decide) (by decide)).symm⟩⟩, ⟨_, a134, fun i _ => (z 17 i (by decide) (by decide)).symm⟩, ⟨⟨_, a115⟩, ⟨_, a116⟩, ⟨_, a117⟩, ⟨_, a118⟩, ⟨⟨_, a127⟩, ⟨_, a128⟩, ⟨_, a129⟩⟩, ⟨_, a130⟩, ⟨_, a131⟩, ⟨_, a132⟩, ⟨_, a133⟩⟩⟩

