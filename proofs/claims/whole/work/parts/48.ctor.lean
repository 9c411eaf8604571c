theorem Nw.mg {h h' : List PC} {k : Nat} {c : PC} (n : Nw h k c h') : Mg (fun j => j = k) h h' := fun i c hi e => by rw [n.2.1 i hi]; exact e
theorem Ap.mg {h h' : List PC} {k : Nat} {c : PC} (n : Ap h k c h') : Mg (fun _ => False) h h' := fun i c _ e => n.2.1 i c e
/-! ===== the constructors ===== -/
theorem c_X9_init {h : List PC} {k n : Nat} (hl : h.length = n) (hk : k < n) (ob : h[k]? = some (.inr (9, dX9))) : Ct mX9_init [.ref k] h (fun r h' => r = none ∧ h'.length = n + 1 + 1 ∧ Mg (fun j => j = k) h h' ∧ h'[k]? = some (.inr (9, [.ref n, .ref (n + 1)])) ∧ h'[n]? = some (aL 32 (fun _ => 0)) ∧ h'[n + 1]? = some (aI 32 (fun _ => 0))) := by
  refine ct_at (L := [_]) (by decide +kernel) rfl rfl (Nat.le_of_ble_eq_true rfl) ?_
  have hm : Mg (fun j => j = k) h h := Mg.rf
  refine at_aload_n 1 dX9_init_0 rfl rfl rfl ?_
  refine at_objInit 4 dX9_init_1 rfl ml_X9_3 jw_obj (Nat.le_of_ble_eq_true rfl) (by decide) ?_
  refine at_aload_n 5 dX9_init_4 rfl rfl rfl ?_
  refine at_bipush 7 (nI 32) dX9_init_5 rfl (by decide) ?_
  refine at_newa (t := 1) 9 (32, .inr (.inl (fun _ => lN 0))) dX9_init_7 rfl ac_long (fun _ => rfl) (fun _ _ q => q) (fun _ => rfl) (fun _ => rfl) (by decide) (by decide) hl (Nat.le_of_ble_eq_true rfl) (Nat.le_of_ble_eq_true rfl) (fun hh1 nn1 => ?_)
  replace hl := nn1.2.2
  replace ob := nn1.2.1 _ _ ob
  replace hm := hm.ap nn1
  have a1 : hh1[_]? = some (aL 32 (fun _ => 0)) := nn1.1
  clear nn1
  refine at_putrF (fs' := [_, _]) 12 dX9_init_9 rfl pl_X9_9 (by assumption) (Nat.le_of_ble_eq_true rfl) (fun _ => rfl) (fun _ => rfl) rfl (fun C T N q => by cases q; rfl) rfl (fun hh2 nn2 => ?_)
  replace hl := nn2.2.2.trans hl
  replace ob := nn2.1
  replace hm := hm.nw nn2 (by first | rfl | omega)
  replace a1 := nn2.o (by first | decide | omega | assumption) a1
  clear nn2
  refine at_aload_n 13 dX9_init_12 rfl rfl rfl ?_
  refine at_bipush 15 (nI 32) dX9_init_13 rfl (by decide) ?_
  refine at_newa (t := 0) 17 (32, .inl (fun _ => nI 0)) dX9_init_15 rfl ac_int (fun _ => rfl) (fun _ _ q => q) (fun _ => rfl) (fun _ => rfl) (by decide) (by decide) hl (Nat.le_of_ble_eq_true rfl) (Nat.le_of_ble_eq_true rfl) (fun hh3 nn3 => ?_)
  replace hl := nn3.2.2
  replace ob := nn3.2.1 _ _ ob
  replace hm := hm.ap nn3
  replace a1 := nn3.2.1 _ _ a1
  have a2 : hh3[_]? = some (aI 32 (fun _ => 0)) := nn3.1
  clear nn3
  refine at_putrF (fs' := [_, _]) 20 dX9_init_17 rfl pl_X9_15 (by assumption) (Nat.le_of_ble_eq_true rfl) (fun _ => rfl) (fun _ => rfl) rfl (fun C T N q => by cases q; rfl) rfl (fun hh4 nn4 => ?_)
  replace hl := nn4.2.2.trans hl
  replace ob := nn4.1
  replace hm := hm.nw nn4 (by first | rfl | omega)
  replace a1 := nn4.o (by first | decide | omega | assumption) a1
  replace a2 := nn4.o (by first | decide | omega | assumption) a2
  clear nn4
  refine at_vret dX9_init_20 rfl (by decide) (by decide) ?_
  exact ⟨rfl, hl, hm, ob, a1, a2⟩
theorem c_X2_init {h : List PC} {k n : Nat} (hl : h.length = n) (hk : k < n) (ob : h[k]? = some (.inr (2, dX2))) : Ct mX2_init [.ref k] h (fun r h' => r = none ∧ h'.length = n + 13 ∧ Mg (fun j => j = k) h h' ∧ h'[k]? = some (.inr (2, [.int (nI 0), .ref n, .ref (n + 1), .ref (n + 10), .ref (n + 11), .ref (n + 12)])) ∧ h'[n]? = some (aI 8 (fun _ => 0)) ∧ h'[n + 1]? = some (aR 8 (rowsAt (n + 1) 8)) ∧ (∀ j, j < 8 → h'[n + 1 + 1 + j]? = some (aI 4 (fun _ => 0))) ∧ h'[n + 10]? = some (aI 8 (fun _ => 0)) ∧ h'[n + 11]? = some (aI 8 (fun _ => 0)) ∧ h'[n + 12]? = some (aI 8 (fun _ => 0))) := by
  refine ct_at (L := [_]) (by decide +kernel) rfl rfl (Nat.le_of_ble_eq_true rfl) ?_
  have hm : Mg (fun j => j = k) h h := Mg.rf
  refine at_aload_n 1 dX2_init_0 rfl rfl rfl ?_
  refine at_objInit 4 dX2_init_1 rfl ml_X2_3 jw_obj (Nat.le_of_ble_eq_true rfl) (by decide) ?_
  refine at_aload_n 5 dX2_init_4 rfl rfl rfl ?_
  refine at_bipush 7 (nI 8) dX2_init_5 rfl (by decide) ?_
  refine at_newa (t := 0) 9 (8, .inl (fun _ => nI 0)) dX2_init_7 rfl ac_int (fun _ => rfl) (fun _ _ q => q) (fun _ => rfl) (fun _ => rfl) (by decide) (by decide) hl (Nat.le_of_ble_eq_true rfl) (Nat.le_of_ble_eq_true rfl) (fun hh5 nn5 => ?_)
  replace hl := nn5.2.2
  replace ob := nn5.2.1 _ _ ob
  replace hm := hm.ap nn5
  have a1 : hh5[_]? = some (aI 8 (fun _ => 0)) := nn5.1
  clear nn5
  refine at_putrF (fs' := [_, _, _, _, _, _]) 12 dX2_init_9 rfl pl_X2_9 (by assumption) (Nat.le_of_ble_eq_true rfl) (fun _ => rfl) (fun _ => rfl) rfl (fun C T N q => by cases q; rfl) rfl (fun hh6 nn6 => ?_)
  replace hl := nn6.2.2.trans hl
  replace ob := nn6.1
  replace hm := hm.nw nn6 (by first | rfl | omega)
  replace a1 := nn6.o (by first | decide | omega | assumption) a1
  clear nn6
  refine at_aload_n 13 dX2_init_12 rfl rfl rfl ?_
  refine at_bipush 15 (nI 8) dX2_init_13 rfl (by decide) ?_
  refine at_iconst 16 (nI 4) dX2_init_15 rfl (by decide) ?_
  refine at_mna 20 dX2_init_16 rfl ck_X2_15 ac_int (by decide) (by decide) hl (Nat.le_of_ble_eq_true rfl) (Nat.le_of_ble_eq_true rfl) (fun hh7 nn7 => ?_)
  replace hl := nn7.2.2.2
  replace ob := nn7.2.2.1 _ _ ob
  replace hm := hm.apm nn7
  replace a1 := nn7.2.2.1 _ _ a1
  have a2 := nn7.1
  have a3 := nn7.2.1
  clear nn7
  refine at_putrF (fs' := [_, _, _, _, _, _]) 23 dX2_init_20 rfl pl_X2_17 (by assumption) (Nat.le_of_ble_eq_true rfl) (fun _ => rfl) (fun _ => rfl) rfl (fun C T N q => by cases q; rfl) rfl (fun hh8 nn8 => ?_)
  replace hl := nn8.2.2.trans hl
  replace ob := nn8.1
  replace hm := hm.nw nn8 (by first | rfl | omega)
  replace a1 := nn8.o (by first | decide | omega | assumption) a1
  replace a2 := nn8.o (by first | decide | omega | assumption) a2
  replace a3 := fun j hj => nn8.o (by omega) (a3 j hj)
  clear nn8
  refine at_aload_n 24 dX2_init_23 rfl rfl rfl ?_
  refine at_bipush 26 (nI 8) dX2_init_24 rfl (by decide) ?_
  refine at_newa (t := 0) 28 (8, .inl (fun _ => nI 0)) dX2_init_26 rfl ac_int (fun _ => rfl) (fun _ _ q => q) (fun _ => rfl) (fun _ => rfl) (by decide) (by decide) hl (Nat.le_of_ble_eq_true rfl) (Nat.le_of_ble_eq_true rfl) (fun hh9 nn9 => ?_)
  replace hl := nn9.2.2
  replace ob := nn9.2.1 _ _ ob
  replace hm := hm.ap nn9
  replace a1 := nn9.2.1 _ _ a1
  replace a2 := nn9.2.1 _ _ a2
  replace a3 := fun j hj => nn9.2.1 _ _ (a3 j hj)
  have a4 : hh9[_]? = some (aI 8 (fun _ => 0)) := nn9.1
  clear nn9
  refine at_putrF (fs' := [_, _, _, _, _, _]) 31 dX2_init_28 rfl pl_X2_20 (by assumption) (Nat.le_of_ble_eq_true rfl) (fun _ => rfl) (fun _ => rfl) rfl (fun C T N q => by cases q; rfl) rfl (fun hh10 nn10 => ?_)
  replace hl := nn10.2.2.trans hl
  replace ob := nn10.1
  replace hm := hm.nw nn10 (by first | rfl | omega)
  replace a1 := nn10.o (by first | decide | omega | assumption) a1
  replace a2 := nn10.o (by first | decide | omega | assumption) a2
  replace a3 := fun j hj => nn10.o (by omega) (a3 j hj)
  replace a4 := nn10.o (by first | decide | omega | assumption) a4
  clear nn10
  refine at_aload_n 32 dX2_init_31 rfl rfl rfl ?_
  refine at_bipush 34 (nI 8) dX2_init_32 rfl (by decide) ?_
  refine at_newa (t := 0) 36 (8, .inl (fun _ => nI 0)) dX2_init_34 rfl ac_int (fun _ => rfl) (fun _ _ q => q) (fun _ => rfl) (fun _ => rfl) (by decide) (by decide) hl (Nat.le_of_ble_eq_true rfl) (Nat.le_of_ble_eq_true rfl) (fun hh11 nn11 => ?_)
  replace hl := nn11.2.2
  replace ob := nn11.2.1 _ _ ob
  replace hm := hm.ap nn11
  replace a1 := nn11.2.1 _ _ a1
  replace a2 := nn11.2.1 _ _ a2
  replace a3 := fun j hj => nn11.2.1 _ _ (a3 j hj)
  replace a4 := nn11.2.1 _ _ a4
  have a5 : hh11[_]? = some (aI 8 (fun _ => 0)) := nn11.1
  clear nn11
  refine at_putrF (fs' := [_, _, _, _, _, _]) 39 dX2_init_36 rfl pl_X2_23 (by assumption) (Nat.le_of_ble_eq_true rfl) (fun _ => rfl) (fun _ => rfl) rfl (fun C T N q => by cases q; rfl) rfl (fun hh12 nn12 => ?_)
  replace hl := nn12.2.2.trans hl
  replace ob := nn12.1
  replace hm := hm.nw nn12 (by first | rfl | omega)
  replace a1 := nn12.o (by first | decide | omega | assumption) a1
  replace a2 := nn12.o (by first | decide | omega | assumption) a2
  replace a3 := fun j hj => nn12.o (by omega) (a3 j hj)
  replace a4 := nn12.o (by first | decide | omega | assumption) a4
  replace a5 := nn12.o (by first | decide | omega | assumption) a5
  clear nn12
  refine at_aload_n 40 dX2_init_39 rfl rfl rfl ?_
  refine at_bipush 42 (nI 8) dX2_init_40 rfl (by decide) ?_
  refine at_newa (t := 0) 44 (8, .inl (fun _ => nI 0)) dX2_init_42 rfl ac_int (fun _ => rfl) (fun _ _ q => q) (fun _ => rfl) (fun _ => rfl) (by decide) (by decide) hl (Nat.le_of_ble_eq_true rfl) (Nat.le_of_ble_eq_true rfl) (fun hh13 nn13 => ?_)
  replace hl := nn13.2.2
  replace ob := nn13.2.1 _ _ ob
  replace hm := hm.ap nn13
  replace a1 := nn13.2.1 _ _ a1
  replace a2 := nn13.2.1 _ _ a2
  replace a3 := fun j hj => nn13.2.1 _ _ (a3 j hj)
  replace a4 := nn13.2.1 _ _ a4
  replace a5 := nn13.2.1 _ _ a5
  have a6 : hh13[_]? = some (aI 8 (fun _ => 0)) := nn13.1
  clear nn13
  refine at_putrF (fs' := [_, _, _, _, _, _]) 47 dX2_init_44 rfl pl_X2_26 (by assumption) (Nat.le_of_ble_eq_true rfl) (fun _ => rfl) (fun _ => rfl) rfl (fun C T N q => by cases q; rfl) rfl (fun hh14 nn14 => ?_)
  replace hl := nn14.2.2.trans hl
  replace ob := nn14.1
  replace hm := hm.nw nn14 (by first | rfl | omega)
  replace a1 := nn14.o (by first | decide | omega | assumption) a1
  replace a2 := nn14.o (by first | decide | omega | assumption) a2
  replace a3 := fun j hj => nn14.o (by omega) (a3 j hj)
  replace a4 := nn14.o (by first | decide | omega | assumption) a4
  replace a5 := nn14.o (by first | decide | omega | assumption) a5
  replace a6 := nn14.o (by first | decide | omega | assumption) a6
  clear nn14
  refine at_vret dX2_init_47 rfl (by decide) (by decide) ?_
  exact ⟨rfl, hl, hm, ob, a1, a2, a3, a4, a5, a6⟩
theorem c_X6_init {h : List PC} {k n : Nat} (hl : h.length = n) (hk : k < n) (ob : h[k]? = some (.inr (6, dX6))) : Ct mX6_init [.ref k] h (fun r h' => r = none ∧ h'.length = n + 2 ∧ Mg (fun j => j = k) h h' ∧ h'[k]? = some (.inr (6, [.int (nI 0), .ref n, .ref (n + 1)])) ∧ h'[n]? = some (aI 8 (fun _ => 0)) ∧ h'[n + 1]? = some (aI 8 (fun _ => 0))) := by
  refine ct_at (L := [_]) (by decide +kernel) rfl rfl (Nat.le_of_ble_eq_true rfl) ?_
  have hm : Mg (fun j => j = k) h h := Mg.rf
  refine at_aload_n 1 dX6_init_0 rfl rfl rfl ?_
  refine at_objInit 4 dX6_init_1 rfl ml_X6_3 jw_obj (Nat.le_of_ble_eq_true rfl) (by decide) ?_
  refine at_aload_n 5 dX6_init_4 rfl rfl rfl ?_
  refine at_bipush 7 (nI 8) dX6_init_5 rfl (by decide) ?_
  refine at_newa (t := 0) 9 (8, .inl (fun _ => nI 0)) dX6_init_7 rfl ac_int (fun _ => rfl) (fun _ _ q => q) (fun _ => rfl) (fun _ => rfl) (by decide) (by decide) hl (Nat.le_of_ble_eq_true rfl) (Nat.le_of_ble_eq_true rfl) (fun hh15 nn15 => ?_)
  replace hl := nn15.2.2
  replace ob := nn15.2.1 _ _ ob
  replace hm := hm.ap nn15
  have a1 : hh15[_]? = some (aI 8 (fun _ => 0)) := nn15.1
  clear nn15
  refine at_putrF (fs' := [_, _, _]) 12 dX6_init_9 rfl pl_X6_9 (by assumption) (Nat.le_of_ble_eq_true rfl) (fun _ => rfl) (fun _ => rfl) rfl (fun C T N q => by cases q; rfl) rfl (fun hh16 nn16 => ?_)
  replace hl := nn16.2.2.trans hl
  replace ob := nn16.1
  replace hm := hm.nw nn16 (by first | rfl | omega)
  replace a1 := nn16.o (by first | decide | omega | assumption) a1
  clear nn16
  refine at_aload_n 13 dX6_init_12 rfl rfl rfl ?_
  refine at_bipush 15 (nI 8) dX6_init_13 rfl (by decide) ?_
  refine at_newa (t := 0) 17 (8, .inl (fun _ => nI 0)) dX6_init_15 rfl ac_int (fun _ => rfl) (fun _ _ q => q) (fun _ => rfl) (fun _ => rfl) (by decide) (by decide) hl (Nat.le_of_ble_eq_true rfl) (Nat.le_of_ble_eq_true rfl) (fun hh17 nn17 => ?_)
  replace hl := nn17.2.2
  replace ob := nn17.2.1 _ _ ob
  replace hm := hm.ap nn17
  replace a1 := nn17.2.1 _ _ a1
  have a2 : hh17[_]? = some (aI 8 (fun _ => 0)) := nn17.1
  clear nn17
  refine at_putrF (fs' := [_, _, _]) 20 dX6_init_17 rfl pl_X6_15 (by assumption) (Nat.le_of_ble_eq_true rfl) (fun _ => rfl) (fun _ => rfl) rfl (fun C T N q => by cases q; rfl) rfl (fun hh18 nn18 => ?_)
  replace hl := nn18.2.2.trans hl
  replace ob := nn18.1
  replace hm := hm.nw nn18 (by first | rfl | omega)
  replace a1 := nn18.o (by first | decide | omega | assumption) a1
  replace a2 := nn18.o (by first | decide | omega | assumption) a2
  clear nn18
  refine at_vret dX6_init_20 rfl (by decide) (by decide) ?_
  exact ⟨rfl, hl, hm, ob, a1, a2⟩
theorem c_X1_init {h : List PC} {k n : Nat} (hl : h.length = n) (hk : k < n) (ob : h[k]? = some (.inr (1, dX1))) : Ct mX1_init [.ref k] h (fun r h' => r = none ∧ h'.length = n + 14 ∧ Mg (fun j => j = k) h h' ∧ h'[k]? = some (.inr (1, [.int (nI 0), .ref n, .ref (n + 7)])) ∧ h'[n]? = some (aR 6 (rowsAt n 6)) ∧ (∀ j, j < 6 → h'[n + 1 + j]? = some (aI 4 (fun _ => 0))) ∧ h'[n + 7]? = some (aR 6 (rowsAt (n + 7) 6)) ∧ ∀ j, j < 6 → h'[n + 7 + 1 + j]? = some (aI 4 (fun _ => 0))) := by
  refine ct_at (L := [_]) (by decide +kernel) rfl rfl (Nat.le_of_ble_eq_true rfl) ?_
  have hm : Mg (fun j => j = k) h h := Mg.rf
  refine at_aload_n 1 dX1_init_0 rfl rfl rfl ?_
  refine at_objInit 4 dX1_init_1 rfl ml_X1_3 jw_obj (Nat.le_of_ble_eq_true rfl) (by decide) ?_
  refine at_aload_n 5 dX1_init_4 rfl rfl rfl ?_
  refine at_bipush 7 (nI 6) dX1_init_5 rfl (by decide) ?_
  refine at_iconst 8 (nI 4) dX1_init_7 rfl (by decide) ?_
  refine at_mna 12 dX1_init_8 rfl ck_X1_9 ac_int (by decide) (by decide) hl (Nat.le_of_ble_eq_true rfl) (Nat.le_of_ble_eq_true rfl) (fun hh19 nn19 => ?_)
  replace hl := nn19.2.2.2
  replace ob := nn19.2.2.1 _ _ ob
  replace hm := hm.apm nn19
  have a1 := nn19.1
  have a2 := nn19.2.1
  clear nn19
  refine at_putrF (fs' := [_, _, _]) 15 dX1_init_12 rfl pl_X1_11 (by assumption) (Nat.le_of_ble_eq_true rfl) (fun _ => rfl) (fun _ => rfl) rfl (fun C T N q => by cases q; rfl) rfl (fun hh20 nn20 => ?_)
  replace hl := nn20.2.2.trans hl
  replace ob := nn20.1
  replace hm := hm.nw nn20 (by first | rfl | omega)
  replace a1 := nn20.o (by first | decide | omega | assumption) a1
  replace a2 := fun j hj => nn20.o (by omega) (a2 j hj)
  clear nn20
  refine at_aload_n 16 dX1_init_15 rfl rfl rfl ?_
  refine at_bipush 18 (nI 6) dX1_init_16 rfl (by decide) ?_
  refine at_iconst 19 (nI 4) dX1_init_18 rfl (by decide) ?_
  refine at_mna 23 dX1_init_19 rfl ck_X1_9 ac_int (by decide) (by decide) hl (Nat.le_of_ble_eq_true rfl) (Nat.le_of_ble_eq_true rfl) (fun hh21 nn21 => ?_)
  replace hl := nn21.2.2.2
  replace ob := nn21.2.2.1 _ _ ob
  replace hm := hm.apm nn21
  replace a1 := nn21.2.2.1 _ _ a1
  replace a2 := fun j hj => nn21.2.2.1 _ _ (a2 j hj)
  have a3 := nn21.1
  have a4 := nn21.2.1
  clear nn21
  refine at_putrF (fs' := [_, _, _]) 26 dX1_init_23 rfl pl_X1_16 (by assumption) (Nat.le_of_ble_eq_true rfl) (fun _ => rfl) (fun _ => rfl) rfl (fun C T N q => by cases q; rfl) rfl (fun hh22 nn22 => ?_)
  replace hl := nn22.2.2.trans hl
  replace ob := nn22.1
  replace hm := hm.nw nn22 (by first | rfl | omega)
  replace a1 := nn22.o (by first | decide | omega | assumption) a1
  replace a2 := fun j hj => nn22.o (by omega) (a2 j hj)
  replace a3 := nn22.o (by first | decide | omega | assumption) a3
  replace a4 := fun j hj => nn22.o (by omega) (a4 j hj)
  clear nn22
  refine at_vret dX1_init_26 rfl (by decide) (by decide) ?_
  exact ⟨rfl, hl, hm, ob, a1, a2, a3, a4⟩
theorem c_X7_init {h : List PC} {k n fe co : Nat} (hl : h.length = n) (hk : k < n) (ob : h[k]? = some (.inr (7, dX7))) : Ct mX7_init [.ref k, .ref fe, .ref co] h (fun r h' => r = none ∧ h'.length = n + 2 ∧ Mg (fun j => j = k) h h' ∧ h'[k]? = some (.inr (7, [.ref fe, .ref co, .ref n, .ref (n + 1), .int (nI 0)])) ∧ h'[n]? = some (aI 8 (fun _ => 0)) ∧ h'[n + 1]? = some (aI 8 (fun _ => 0))) := by
  refine ct_at (L := [_, _, _]) (by decide +kernel) rfl rfl (Nat.le_of_ble_eq_true rfl) ?_
  have hm : Mg (fun j => j = k) h h := Mg.rf
  refine at_aload_n 1 dX7_init_0 rfl rfl rfl ?_
  refine at_objInit 4 dX7_init_1 rfl ml_X7_3 jw_obj (Nat.le_of_ble_eq_true rfl) (by decide) ?_
  refine at_aload_n 5 dX7_init_4 rfl rfl rfl ?_
  refine at_bipush 7 (nI 8) dX7_init_5 rfl (by decide) ?_
  refine at_newa (t := 0) 9 (8, .inl (fun _ => nI 0)) dX7_init_7 rfl ac_int (fun _ => rfl) (fun _ _ q => q) (fun _ => rfl) (fun _ => rfl) (by decide) (by decide) hl (Nat.le_of_ble_eq_true rfl) (Nat.le_of_ble_eq_true rfl) (fun hh23 nn23 => ?_)
  replace hl := nn23.2.2
  replace ob := nn23.2.1 _ _ ob
  replace hm := hm.ap nn23
  have a1 : hh23[_]? = some (aI 8 (fun _ => 0)) := nn23.1
  clear nn23
  refine at_putrF (fs' := [_, _, _, _, _]) 12 dX7_init_9 rfl pl_X7_9 (by assumption) (Nat.le_of_ble_eq_true rfl) (fun _ => rfl) (fun _ => rfl) rfl (fun C T N q => by cases q; rfl) rfl (fun hh24 nn24 => ?_)
  replace hl := nn24.2.2.trans hl
  replace ob := nn24.1
  replace hm := hm.nw nn24 (by first | rfl | omega)
  replace a1 := nn24.o (by first | decide | omega | assumption) a1
  clear nn24
  refine at_aload_n 13 dX7_init_12 rfl rfl rfl ?_
  refine at_bipush 15 (nI 8) dX7_init_13 rfl (by decide) ?_
  refine at_newa (t := 0) 17 (8, .inl (fun _ => nI 0)) dX7_init_15 rfl ac_int (fun _ => rfl) (fun _ _ q => q) (fun _ => rfl) (fun _ => rfl) (by decide) (by decide) hl (Nat.le_of_ble_eq_true rfl) (Nat.le_of_ble_eq_true rfl) (fun hh25 nn25 => ?_)
  replace hl := nn25.2.2
  replace ob := nn25.2.1 _ _ ob
  replace hm := hm.ap nn25
  replace a1 := nn25.2.1 _ _ a1
  have a2 : hh25[_]? = some (aI 8 (fun _ => 0)) := nn25.1
  clear nn25
  refine at_putrF (fs' := [_, _, _, _, _]) 20 dX7_init_17 rfl pl_X7_15 (by assumption) (Nat.le_of_ble_eq_true rfl) (fun _ => rfl) (fun _ => rfl) rfl (fun C T N q => by cases q; rfl) rfl (fun hh26 nn26 => ?_)
  replace hl := nn26.2.2.trans hl
  replace ob := nn26.1
  replace hm := hm.nw nn26 (by first | rfl | omega)
  replace a1 := nn26.o (by first | decide | omega | assumption) a1
  replace a2 := nn26.o (by first | decide | omega | assumption) a2
  clear nn26
  refine at_aload_n 21 dX7_init_20 rfl rfl rfl ?_
  refine at_aload_n 22 dX7_init_21 rfl rfl rfl ?_
  refine at_putrF (fs' := [_, _, _, _, _]) 25 dX7_init_22 rfl pl_X7_18 (by assumption) (Nat.le_of_ble_eq_true rfl) (fun _ => rfl) (fun _ => rfl) rfl (fun C T N q => by cases q; rfl) rfl (fun hh27 nn27 => ?_)
  replace hl := nn27.2.2.trans hl
  replace ob := nn27.1
  replace hm := hm.nw nn27 (by first | rfl | omega)
  replace a1 := nn27.o (by first | decide | omega | assumption) a1
  replace a2 := nn27.o (by first | decide | omega | assumption) a2
  clear nn27
  refine at_aload_n 26 dX7_init_25 rfl rfl rfl ?_
  refine at_aload_n 27 dX7_init_26 rfl rfl rfl ?_
  refine at_putrF (fs' := [_, _, _, _, _]) 30 dX7_init_27 rfl pl_X7_22 (by assumption) (Nat.le_of_ble_eq_true rfl) (fun _ => rfl) (fun _ => rfl) rfl (fun C T N q => by cases q; rfl) rfl (fun hh28 nn28 => ?_)
  replace hl := nn28.2.2.trans hl
  replace ob := nn28.1
  replace hm := hm.nw nn28 (by first | rfl | omega)
  replace a1 := nn28.o (by first | decide | omega | assumption) a1
  replace a2 := nn28.o (by first | decide | omega | assumption) a2
  clear nn28
  refine at_vret dX7_init_30 rfl (by decide) (by decide) ?_
  exact ⟨rfl, hl, hm, ob, a1, a2⟩
theorem c_X10_init {h : List PC} {k n sh : Nat} (hl : h.length = n) (hk : k < n) (ob : h[k]? = some (.inr (10, dX10))) : Ct mX10_init [.ref k, .ref sh] h (fun r h' => r = none ∧ h'.length = n + 15 ∧ Mg (fun j => j = k) h h' ∧ h'[k]? = some (.inr (10, [.ref sh, .ref n, .ref (n + 7), .int (nI 0), .int (nI 3), .int (nI 1000), .int (nI 100), .int (nI 0)])) ∧ h'[n]? = some (aR 6 (rowsAt n 6)) ∧ (∀ j, j < 6 → h'[n + 1 + j]? = some (aI 32 (fun _ => 0))) ∧ h'[n + 7]? = some (aR 7 (rowsAt (n + 7) 7)) ∧ ∀ j, j < 7 → h'[n + 7 + 1 + j]? = some (aI 32 (fun _ => 0))) := by
  refine ct_at (L := [_, _]) (by decide +kernel) rfl rfl (Nat.le_of_ble_eq_true rfl) ?_
  have hm : Mg (fun j => j = k) h h := Mg.rf
  refine at_aload_n 1 dX10_init_0 rfl rfl rfl ?_
  refine at_objInit 4 dX10_init_1 rfl ml_X10_3 jw_obj (Nat.le_of_ble_eq_true rfl) (by decide) ?_
  refine at_aload_n 5 dX10_init_4 rfl rfl rfl ?_
  refine at_bipush 7 (nI 6) dX10_init_5 rfl (by decide) ?_
  refine at_bipush 9 (nI 32) dX10_init_7 rfl (by decide) ?_
  refine at_mna 13 dX10_init_9 rfl ck_X10_9 ac_int (by decide) (by decide) hl (Nat.le_of_ble_eq_true rfl) (Nat.le_of_ble_eq_true rfl) (fun hh29 nn29 => ?_)
  replace hl := nn29.2.2.2
  replace ob := nn29.2.2.1 _ _ ob
  replace hm := hm.apm nn29
  have a1 := nn29.1
  have a2 := nn29.2.1
  clear nn29
  refine at_putrF (fs' := [_, _, _, _, _, _, _, _]) 16 dX10_init_13 rfl pl_X10_11 (by assumption) (Nat.le_of_ble_eq_true rfl) (fun _ => rfl) (fun _ => rfl) rfl (fun C T N q => by cases q; rfl) rfl (fun hh30 nn30 => ?_)
  replace hl := nn30.2.2.trans hl
  replace ob := nn30.1
  replace hm := hm.nw nn30 (by first | rfl | omega)
  replace a1 := nn30.o (by first | decide | omega | assumption) a1
  replace a2 := fun j hj => nn30.o (by omega) (a2 j hj)
  clear nn30
  refine at_aload_n 17 dX10_init_16 rfl rfl rfl ?_
  refine at_bipush 19 (nI 7) dX10_init_17 rfl (by decide) ?_
  refine at_bipush 21 (nI 32) dX10_init_19 rfl (by decide) ?_
  refine at_mna 25 dX10_init_21 rfl ck_X10_9 ac_int (by decide) (by decide) hl (Nat.le_of_ble_eq_true rfl) (Nat.le_of_ble_eq_true rfl) (fun hh31 nn31 => ?_)
  replace hl := nn31.2.2.2
  replace ob := nn31.2.2.1 _ _ ob
  replace hm := hm.apm nn31
  replace a1 := nn31.2.2.1 _ _ a1
  replace a2 := fun j hj => nn31.2.2.1 _ _ (a2 j hj)
  have a3 := nn31.1
  have a4 := nn31.2.1
  clear nn31
  refine at_putrF (fs' := [_, _, _, _, _, _, _, _]) 28 dX10_init_25 rfl pl_X10_16 (by assumption) (Nat.le_of_ble_eq_true rfl) (fun _ => rfl) (fun _ => rfl) rfl (fun C T N q => by cases q; rfl) rfl (fun hh32 nn32 => ?_)
  replace hl := nn32.2.2.trans hl
  replace ob := nn32.1
  replace hm := hm.nw nn32 (by first | rfl | omega)
  replace a1 := nn32.o (by first | decide | omega | assumption) a1
  replace a2 := fun j hj => nn32.o (by omega) (a2 j hj)
  replace a3 := nn32.o (by first | decide | omega | assumption) a3
  replace a4 := fun j hj => nn32.o (by omega) (a4 j hj)
  clear nn32
  refine at_aload_n 29 dX10_init_28 rfl rfl rfl ?_
  refine at_iconst 30 (nI 3) dX10_init_29 rfl (by decide) ?_
  refine at_pi 33 dX10_init_30 rfl pl_X10_19 (rfl) (rfl) ⟨_, by assumption, ?_⟩
  refine ⟨(Nat.le_of_ble_eq_true rfl), [_, _, _, _, _, _, _, _], rfl, fun hh33 nn33 => ?_⟩
  replace hl := nn33.2.2.trans hl
  replace ob := nn33.1
  replace hm := hm.nw nn33 (by first | rfl | omega)
  replace a1 := nn33.o (by first | decide | omega | assumption) a1
  replace a2 := fun j hj => nn33.o (by omega) (a2 j hj)
  replace a3 := nn33.o (by first | decide | omega | assumption) a3
  replace a4 := fun j hj => nn33.o (by omega) (a4 j hj)
  clear nn33
  refine at_aload_n 34 dX10_init_33 rfl rfl rfl ?_
  refine at_sipush 37 (nI 1000) dX10_init_34 rfl (by decide) ?_
  refine at_pi 40 dX10_init_37 rfl pl_X10_23 (rfl) (rfl) ⟨_, by assumption, ?_⟩
  refine ⟨(Nat.le_of_ble_eq_true rfl), [_, _, _, _, _, _, _, _], rfl, fun hh34 nn34 => ?_⟩
  replace hl := nn34.2.2.trans hl
  replace ob := nn34.1
  replace hm := hm.nw nn34 (by first | rfl | omega)
  replace a1 := nn34.o (by first | decide | omega | assumption) a1
  replace a2 := fun j hj => nn34.o (by omega) (a2 j hj)
  replace a3 := nn34.o (by first | decide | omega | assumption) a3
  replace a4 := fun j hj => nn34.o (by omega) (a4 j hj)
  clear nn34
  refine at_aload_n 41 dX10_init_40 rfl rfl rfl ?_
  refine at_bipush 43 (nI 100) dX10_init_41 rfl (by decide) ?_
  refine at_pi 46 dX10_init_43 rfl pl_X10_26 (rfl) (rfl) ⟨_, by assumption, ?_⟩
  refine ⟨(Nat.le_of_ble_eq_true rfl), [_, _, _, _, _, _, _, _], rfl, fun hh35 nn35 => ?_⟩
  replace hl := nn35.2.2.trans hl
  replace ob := nn35.1
  replace hm := hm.nw nn35 (by first | rfl | omega)
  replace a1 := nn35.o (by first | decide | omega | assumption) a1
  replace a2 := fun j hj => nn35.o (by omega) (a2 j hj)
  replace a3 := nn35.o (by first | decide | omega | assumption) a3
  replace a4 := fun j hj => nn35.o (by omega) (a4 j hj)
  clear nn35
  refine at_aload_n 47 dX10_init_46 rfl rfl rfl ?_
  refine at_aload_n 48 dX10_init_47 rfl rfl rfl ?_
  refine at_putrF (fs' := [_, _, _, _, _, _, _, _]) 51 dX10_init_48 rfl pl_X10_29 (by assumption) (Nat.le_of_ble_eq_true rfl) (fun _ => rfl) (fun _ => rfl) rfl (fun C T N q => by cases q; rfl) rfl (fun hh36 nn36 => ?_)
  replace hl := nn36.2.2.trans hl
  replace ob := nn36.1
  replace hm := hm.nw nn36 (by first | rfl | omega)
  replace a1 := nn36.o (by first | decide | omega | assumption) a1
  replace a2 := fun j hj => nn36.o (by omega) (a2 j hj)
  replace a3 := nn36.o (by first | decide | omega | assumption) a3
  replace a4 := fun j hj => nn36.o (by omega) (a4 j hj)
  clear nn36
  refine at_vret dX10_init_51 rfl (by decide) (by decide) ?_
  exact ⟨rfl, hl, hm, ob, a1, a2, a3, a4⟩
theorem c_X0_init {h : List PC} {k n fe mx sh : Nat} (hl : h.length = n) (hk : k < n) (ob : h[k]? = some (.inr (0, dX0))) : Ct mX0_init [.ref k, .ref fe, .ref mx, .ref sh] h (fun r h' => r = none ∧ h'.length = n + 3 ∧ Mg (fun j => j = k) h h' ∧ h'[k]? = some (.inr (0, [.ref fe, .ref mx, .ref sh, .ref n, .ref (n + 1), .ref (n + 2), .int (nI 0)])) ∧ h'[n]? = some (aI 8 (fun _ => 0)) ∧ h'[n + 1]? = some (aI 8 (fun _ => 0)) ∧ h'[n + 2]? = some (aI 32 (fun _ => 0))) := by
  refine ct_at (L := [_, _, _, _]) (by decide +kernel) rfl rfl (Nat.le_of_ble_eq_true rfl) ?_
  have hm : Mg (fun j => j = k) h h := Mg.rf
  refine at_aload_n 1 dX0_init_0 rfl rfl rfl ?_
  refine at_objInit 4 dX0_init_1 rfl ml_X0_3 jw_obj (Nat.le_of_ble_eq_true rfl) (by decide) ?_
  refine at_aload_n 5 dX0_init_4 rfl rfl rfl ?_
  refine at_bipush 7 (nI 8) dX0_init_5 rfl (by decide) ?_
  refine at_newa (t := 0) 9 (8, .inl (fun _ => nI 0)) dX0_init_7 rfl ac_int (fun _ => rfl) (fun _ _ q => q) (fun _ => rfl) (fun _ => rfl) (by decide) (by decide) hl (Nat.le_of_ble_eq_true rfl) (Nat.le_of_ble_eq_true rfl) (fun hh37 nn37 => ?_)
  replace hl := nn37.2.2
  replace ob := nn37.2.1 _ _ ob
  replace hm := hm.ap nn37
  have a1 : hh37[_]? = some (aI 8 (fun _ => 0)) := nn37.1
  clear nn37
  refine at_putrF (fs' := [_, _, _, _, _, _, _]) 12 dX0_init_9 rfl pl_X0_9 (by assumption) (Nat.le_of_ble_eq_true rfl) (fun _ => rfl) (fun _ => rfl) rfl (fun C T N q => by cases q; rfl) rfl (fun hh38 nn38 => ?_)
  replace hl := nn38.2.2.trans hl
  replace ob := nn38.1
  replace hm := hm.nw nn38 (by first | rfl | omega)
  replace a1 := nn38.o (by first | decide | omega | assumption) a1
  clear nn38
  refine at_aload_n 13 dX0_init_12 rfl rfl rfl ?_
  refine at_bipush 15 (nI 8) dX0_init_13 rfl (by decide) ?_
  refine at_newa (t := 0) 17 (8, .inl (fun _ => nI 0)) dX0_init_15 rfl ac_int (fun _ => rfl) (fun _ _ q => q) (fun _ => rfl) (fun _ => rfl) (by decide) (by decide) hl (Nat.le_of_ble_eq_true rfl) (Nat.le_of_ble_eq_true rfl) (fun hh39 nn39 => ?_)
  replace hl := nn39.2.2
  replace ob := nn39.2.1 _ _ ob
  replace hm := hm.ap nn39
  replace a1 := nn39.2.1 _ _ a1
  have a2 : hh39[_]? = some (aI 8 (fun _ => 0)) := nn39.1
  clear nn39
  refine at_putrF (fs' := [_, _, _, _, _, _, _]) 20 dX0_init_17 rfl pl_X0_15 (by assumption) (Nat.le_of_ble_eq_true rfl) (fun _ => rfl) (fun _ => rfl) rfl (fun C T N q => by cases q; rfl) rfl (fun hh40 nn40 => ?_)
  replace hl := nn40.2.2.trans hl
  replace ob := nn40.1
  replace hm := hm.nw nn40 (by first | rfl | omega)
  replace a1 := nn40.o (by first | decide | omega | assumption) a1
  replace a2 := nn40.o (by first | decide | omega | assumption) a2
  clear nn40
  refine at_aload_n 21 dX0_init_20 rfl rfl rfl ?_
  refine at_bipush 23 (nI 32) dX0_init_21 rfl (by decide) ?_
  refine at_newa (t := 0) 25 (32, .inl (fun _ => nI 0)) dX0_init_23 rfl ac_int (fun _ => rfl) (fun _ _ q => q) (fun _ => rfl) (fun _ => rfl) (by decide) (by decide) hl (Nat.le_of_ble_eq_true rfl) (Nat.le_of_ble_eq_true rfl) (fun hh41 nn41 => ?_)
  replace hl := nn41.2.2
  replace ob := nn41.2.1 _ _ ob
  replace hm := hm.ap nn41
  replace a1 := nn41.2.1 _ _ a1
  replace a2 := nn41.2.1 _ _ a2
  have a3 : hh41[_]? = some (aI 32 (fun _ => 0)) := nn41.1
  clear nn41
  refine at_putrF (fs' := [_, _, _, _, _, _, _]) 28 dX0_init_25 rfl pl_X0_18 (by assumption) (Nat.le_of_ble_eq_true rfl) (fun _ => rfl) (fun _ => rfl) rfl (fun C T N q => by cases q; rfl) rfl (fun hh42 nn42 => ?_)
  replace hl := nn42.2.2.trans hl
  replace ob := nn42.1
  replace hm := hm.nw nn42 (by first | rfl | omega)
  replace a1 := nn42.o (by first | decide | omega | assumption) a1
  replace a2 := nn42.o (by first | decide | omega | assumption) a2
  replace a3 := nn42.o (by first | decide | omega | assumption) a3
  clear nn42
  refine at_aload_n 29 dX0_init_28 rfl rfl rfl ?_
  refine at_aload_n 30 dX0_init_29 rfl rfl rfl ?_
  refine at_putrF (fs' := [_, _, _, _, _, _, _]) 33 dX0_init_30 rfl pl_X0_21 (by assumption) (Nat.le_of_ble_eq_true rfl) (fun _ => rfl) (fun _ => rfl) rfl (fun C T N q => by cases q; rfl) rfl (fun hh43 nn43 => ?_)
  replace hl := nn43.2.2.trans hl
  replace ob := nn43.1
  replace hm := hm.nw nn43 (by first | rfl | omega)
  replace a1 := nn43.o (by first | decide | omega | assumption) a1
  replace a2 := nn43.o (by first | decide | omega | assumption) a2
  replace a3 := nn43.o (by first | decide | omega | assumption) a3
  clear nn43
  refine at_aload_n 34 dX0_init_33 rfl rfl rfl ?_
  refine at_aload_n 35 dX0_init_34 rfl rfl rfl ?_
  refine at_putrF (fs' := [_, _, _, _, _, _, _]) 38 dX0_init_35 rfl pl_X0_25 (by assumption) (Nat.le_of_ble_eq_true rfl) (fun _ => rfl) (fun _ => rfl) rfl (fun C T N q => by cases q; rfl) rfl (fun hh44 nn44 => ?_)
  replace hl := nn44.2.2.trans hl
  replace ob := nn44.1
  replace hm := hm.nw nn44 (by first | rfl | omega)
  replace a1 := nn44.o (by first | decide | omega | assumption) a1
  replace a2 := nn44.o (by first | decide | omega | assumption) a2
  replace a3 := nn44.o (by first | decide | omega | assumption) a3
  clear nn44
  refine at_aload_n 39 dX0_init_38 rfl rfl rfl ?_
  refine at_aload_n 40 dX0_init_39 rfl rfl rfl ?_
  refine at_putrF (fs' := [_, _, _, _, _, _, _]) 43 dX0_init_40 rfl pl_X0_29 (by assumption) (Nat.le_of_ble_eq_true rfl) (fun _ => rfl) (fun _ => rfl) rfl (fun C T N q => by cases q; rfl) rfl (fun hh45 nn45 => ?_)
  replace hl := nn45.2.2.trans hl
  replace ob := nn45.1
  replace hm := hm.nw nn45 (by first | rfl | omega)
  replace a1 := nn45.o (by first | decide | omega | assumption) a1
  replace a2 := nn45.o (by first | decide | omega | assumption) a2
  replace a3 := nn45.o (by first | decide | omega | assumption) a3
  clear nn45
  refine at_vret dX0_init_43 rfl (by decide) (by decide) ?_
  exact ⟨rfl, hl, hm, ob, a1, a2, a3⟩
theorem c_X4_init {h : List PC} {k n : Nat} (hl : h.length = n) (hk : k < n) (ob : h[k]? = some (.inr (4, dX4))) : Ct mX4_init [.ref k] h (fun r h' => r = none ∧ h'.length = n + 2 ∧ Mg (fun j => j = k) h h' ∧ h'[k]? = some (.inr (4, [.ref n, .ref (n + 1), .int (nI 0)])) ∧ h'[n]? = some (aI 4 (fun _ => 0)) ∧ h'[n + 1]? = some (aI 8 (fun _ => 0))) := by
  refine ct_at (L := [_]) (by decide +kernel) rfl rfl (Nat.le_of_ble_eq_true rfl) ?_
  have hm : Mg (fun j => j = k) h h := Mg.rf
  refine at_aload_n 1 dX4_init_0 rfl rfl rfl ?_
  refine at_objInit 4 dX4_init_1 rfl ml_X4_3 jw_obj (Nat.le_of_ble_eq_true rfl) (by decide) ?_
  refine at_aload_n 5 dX4_init_4 rfl rfl rfl ?_
  refine at_iconst 6 (nI 4) dX4_init_5 rfl (by decide) ?_
  refine at_newa (t := 0) 8 (4, .inl (fun _ => nI 0)) dX4_init_6 rfl ac_int (fun _ => rfl) (fun _ _ q => q) (fun _ => rfl) (fun _ => rfl) (by decide) (by decide) hl (Nat.le_of_ble_eq_true rfl) (Nat.le_of_ble_eq_true rfl) (fun hh46 nn46 => ?_)
  replace hl := nn46.2.2
  replace ob := nn46.2.1 _ _ ob
  replace hm := hm.ap nn46
  have a1 : hh46[_]? = some (aI 4 (fun _ => 0)) := nn46.1
  clear nn46
  refine at_putrF (fs' := [_, _, _]) 11 dX4_init_8 rfl pl_X4_9 (by assumption) (Nat.le_of_ble_eq_true rfl) (fun _ => rfl) (fun _ => rfl) rfl (fun C T N q => by cases q; rfl) rfl (fun hh47 nn47 => ?_)
  replace hl := nn47.2.2.trans hl
  replace ob := nn47.1
  replace hm := hm.nw nn47 (by first | rfl | omega)
  replace a1 := nn47.o (by first | decide | omega | assumption) a1
  clear nn47
  refine at_aload_n 12 dX4_init_11 rfl rfl rfl ?_
  refine at_bipush 14 (nI 8) dX4_init_12 rfl (by decide) ?_
  refine at_newa (t := 0) 16 (8, .inl (fun _ => nI 0)) dX4_init_14 rfl ac_int (fun _ => rfl) (fun _ _ q => q) (fun _ => rfl) (fun _ => rfl) (by decide) (by decide) hl (Nat.le_of_ble_eq_true rfl) (Nat.le_of_ble_eq_true rfl) (fun hh48 nn48 => ?_)
  replace hl := nn48.2.2
  replace ob := nn48.2.1 _ _ ob
  replace hm := hm.ap nn48
  replace a1 := nn48.2.1 _ _ a1
  have a2 : hh48[_]? = some (aI 8 (fun _ => 0)) := nn48.1
  clear nn48
  refine at_putrF (fs' := [_, _, _]) 19 dX4_init_16 rfl pl_X4_15 (by assumption) (Nat.le_of_ble_eq_true rfl) (fun _ => rfl) (fun _ => rfl) rfl (fun C T N q => by cases q; rfl) rfl (fun hh49 nn49 => ?_)
  replace hl := nn49.2.2.trans hl
  replace ob := nn49.1
  replace hm := hm.nw nn49 (by first | rfl | omega)
  replace a1 := nn49.o (by first | decide | omega | assumption) a1
  replace a2 := nn49.o (by first | decide | omega | assumption) a2
  clear nn49
  refine at_vret dX4_init_19 rfl (by decide) (by decide) ?_
  exact ⟨rfl, hl, hm, ob, a1, a2⟩
theorem c_X5_init {h : List PC} {k n : Nat} (hl : h.length = n) (hk : k < n) (ob : h[k]? = some (.inr (5, dX5))) : Ct mX5_init [.ref k] h (fun r h' => r = none ∧ h'.length = n + 5 ∧ Mg (fun j => j = k) h h' ∧ h'[k]? = some (.inr (5, [.int (nI 0), .int (nI 0), .int (nI 0), .ref n, .ref (n + 1), .ref (n + 2), .ref (n + 3), .ref (n + 4)])) ∧ h'[n]? = some (aI 1600 (fun _ => 0)) ∧ h'[n + 1]? = some (aI 3200 (fun _ => 0)) ∧ h'[n + 2]? = some (aI 400 (fun _ => 0)) ∧ h'[n + 3]? = some (aI 400 (fun _ => 0)) ∧ h'[n + 4]? = some (aZ 400 (fun _ => nI 0))) := by
  refine ct_at (L := [_]) (by decide +kernel) rfl rfl (Nat.le_of_ble_eq_true rfl) ?_
  have hm : Mg (fun j => j = k) h h := Mg.rf
  refine at_aload_n 1 dX5_init_0 rfl rfl rfl ?_
  refine at_objInit 4 dX5_init_1 rfl ml_X5_3 jw_obj (Nat.le_of_ble_eq_true rfl) (by decide) ?_
  refine at_aload_n 5 dX5_init_4 rfl rfl rfl ?_
  refine at_sipush 8 (nI 1600) dX5_init_5 rfl (by decide) ?_
  refine at_newa (t := 0) 10 (1600, .inl (fun _ => nI 0)) dX5_init_8 rfl ac_int (fun _ => rfl) (fun _ _ q => q) (fun _ => rfl) (fun _ => rfl) (by decide) (by decide) hl (Nat.le_of_ble_eq_true rfl) (Nat.le_of_ble_eq_true rfl) (fun hh50 nn50 => ?_)
  replace hl := nn50.2.2
  replace ob := nn50.2.1 _ _ ob
  replace hm := hm.ap nn50
  have a1 : hh50[_]? = some (aI 1600 (fun _ => 0)) := nn50.1
  clear nn50
  refine at_putrF (fs' := [_, _, _, _, _, _, _, _]) 13 dX5_init_10 rfl pl_X5_9 (by assumption) (Nat.le_of_ble_eq_true rfl) (fun _ => rfl) (fun _ => rfl) rfl (fun C T N q => by cases q; rfl) rfl (fun hh51 nn51 => ?_)
  replace hl := nn51.2.2.trans hl
  replace ob := nn51.1
  replace hm := hm.nw nn51 (by first | rfl | omega)
  replace a1 := nn51.o (by first | decide | omega | assumption) a1
  clear nn51
  refine at_aload_n 14 dX5_init_13 rfl rfl rfl ?_
  refine at_sipush 17 (nI 3200) dX5_init_14 rfl (by decide) ?_
  refine at_newa (t := 0) 19 (3200, .inl (fun _ => nI 0)) dX5_init_17 rfl ac_int (fun _ => rfl) (fun _ _ q => q) (fun _ => rfl) (fun _ => rfl) (by decide) (by decide) hl (Nat.le_of_ble_eq_true rfl) (Nat.le_of_ble_eq_true rfl) (fun hh52 nn52 => ?_)
  replace hl := nn52.2.2
  replace ob := nn52.2.1 _ _ ob
  replace hm := hm.ap nn52
  replace a1 := nn52.2.1 _ _ a1
  have a2 : hh52[_]? = some (aI 3200 (fun _ => 0)) := nn52.1
  clear nn52
  refine at_putrF (fs' := [_, _, _, _, _, _, _, _]) 22 dX5_init_19 rfl pl_X5_15 (by assumption) (Nat.le_of_ble_eq_true rfl) (fun _ => rfl) (fun _ => rfl) rfl (fun C T N q => by cases q; rfl) rfl (fun hh53 nn53 => ?_)
  replace hl := nn53.2.2.trans hl
  replace ob := nn53.1
  replace hm := hm.nw nn53 (by first | rfl | omega)
  replace a1 := nn53.o (by first | decide | omega | assumption) a1
  replace a2 := nn53.o (by first | decide | omega | assumption) a2
  clear nn53
  refine at_aload_n 23 dX5_init_22 rfl rfl rfl ?_
  refine at_sipush 26 (nI 400) dX5_init_23 rfl (by decide) ?_
  refine at_newa (t := 0) 28 (400, .inl (fun _ => nI 0)) dX5_init_26 rfl ac_int (fun _ => rfl) (fun _ _ q => q) (fun _ => rfl) (fun _ => rfl) (by decide) (by decide) hl (Nat.le_of_ble_eq_true rfl) (Nat.le_of_ble_eq_true rfl) (fun hh54 nn54 => ?_)
  replace hl := nn54.2.2
  replace ob := nn54.2.1 _ _ ob
  replace hm := hm.ap nn54
  replace a1 := nn54.2.1 _ _ a1
  replace a2 := nn54.2.1 _ _ a2
  have a3 : hh54[_]? = some (aI 400 (fun _ => 0)) := nn54.1
  clear nn54
  refine at_putrF (fs' := [_, _, _, _, _, _, _, _]) 31 dX5_init_28 rfl pl_X5_18 (by assumption) (Nat.le_of_ble_eq_true rfl) (fun _ => rfl) (fun _ => rfl) rfl (fun C T N q => by cases q; rfl) rfl (fun hh55 nn55 => ?_)
  replace hl := nn55.2.2.trans hl
  replace ob := nn55.1
  replace hm := hm.nw nn55 (by first | rfl | omega)
  replace a1 := nn55.o (by first | decide | omega | assumption) a1
  replace a2 := nn55.o (by first | decide | omega | assumption) a2
  replace a3 := nn55.o (by first | decide | omega | assumption) a3
  clear nn55
  refine at_aload_n 32 dX5_init_31 rfl rfl rfl ?_
  refine at_sipush 35 (nI 400) dX5_init_32 rfl (by decide) ?_
  refine at_newa (t := 0) 37 (400, .inl (fun _ => nI 0)) dX5_init_35 rfl ac_int (fun _ => rfl) (fun _ _ q => q) (fun _ => rfl) (fun _ => rfl) (by decide) (by decide) hl (Nat.le_of_ble_eq_true rfl) (Nat.le_of_ble_eq_true rfl) (fun hh56 nn56 => ?_)
  replace hl := nn56.2.2
  replace ob := nn56.2.1 _ _ ob
  replace hm := hm.ap nn56
  replace a1 := nn56.2.1 _ _ a1
  replace a2 := nn56.2.1 _ _ a2
  replace a3 := nn56.2.1 _ _ a3
  have a4 : hh56[_]? = some (aI 400 (fun _ => 0)) := nn56.1
  clear nn56
  refine at_putrF (fs' := [_, _, _, _, _, _, _, _]) 40 dX5_init_37 rfl pl_X5_21 (by assumption) (Nat.le_of_ble_eq_true rfl) (fun _ => rfl) (fun _ => rfl) rfl (fun C T N q => by cases q; rfl) rfl (fun hh57 nn57 => ?_)
  replace hl := nn57.2.2.trans hl
  replace ob := nn57.1
  replace hm := hm.nw nn57 (by first | rfl | omega)
  replace a1 := nn57.o (by first | decide | omega | assumption) a1
  replace a2 := nn57.o (by first | decide | omega | assumption) a2
  replace a3 := nn57.o (by first | decide | omega | assumption) a3
  replace a4 := nn57.o (by first | decide | omega | assumption) a4
  clear nn57
  refine at_aload_n 41 dX5_init_40 rfl rfl rfl ?_
  refine at_sipush 44 (nI 400) dX5_init_41 rfl (by decide) ?_
  refine at_newa (t := 2) 46 (400, .inl (fun _ => nI 0)) dX5_init_44 rfl ac_boolean (fun _ => rfl) (fun _ _ q => q) (fun _ => rfl) (fun _ => rfl) (by decide) (by decide) hl (Nat.le_of_ble_eq_true rfl) (Nat.le_of_ble_eq_true rfl) (fun hh58 nn58 => ?_)
  replace hl := nn58.2.2
  replace ob := nn58.2.1 _ _ ob
  replace hm := hm.ap nn58
  replace a1 := nn58.2.1 _ _ a1
  replace a2 := nn58.2.1 _ _ a2
  replace a3 := nn58.2.1 _ _ a3
  replace a4 := nn58.2.1 _ _ a4
  have a5 : hh58[_]? = some (aZ 400 (fun _ => nI 0)) := nn58.1
  clear nn58
  refine at_putrF (fs' := [_, _, _, _, _, _, _, _]) 49 dX5_init_46 rfl pl_X5_24 (by assumption) (Nat.le_of_ble_eq_true rfl) (fun _ => rfl) (fun _ => rfl) rfl (fun C T N q => by cases q; rfl) rfl (fun hh59 nn59 => ?_)
  replace hl := nn59.2.2.trans hl
  replace ob := nn59.1
  replace hm := hm.nw nn59 (by first | rfl | omega)
  replace a1 := nn59.o (by first | decide | omega | assumption) a1
  replace a2 := nn59.o (by first | decide | omega | assumption) a2
  replace a3 := nn59.o (by first | decide | omega | assumption) a3
  replace a4 := nn59.o (by first | decide | omega | assumption) a4
  replace a5 := nn59.o (by first | decide | omega | assumption) a5
  clear nn59
  refine at_vret dX5_init_49 rfl (by decide) (by decide) ?_
  exact ⟨rfl, hl, hm, ob, a1, a2, a3, a4, a5⟩
theorem c_X8_init {h : List PC} {k n : Nat} (hl : h.length = n) (hk : k < n) (ob : h[k]? = some (.inr (8, dX8))) : Ct mX8_init [.ref k] h (fun r h' => r = none ∧ h'.length = n + 9 ∧ Mg (fun j => j = k) h h' ∧ h'[k]? = some (.inr (8, [.ref n, .ref (n + 7), .int (nI 0), .ref (n + 8)])) ∧ h'[n]? = some (aR 6 (rowsAt n 6)) ∧ (∀ j, j < 6 → h'[n + 1 + j]? = some (aI 6 (fun _ => 0))) ∧ h'[n + 7]? = some (aI 6 (fun _ => 0)) ∧ h'[n + 8]? = some (aI 6 (fun _ => 0))) := by
  refine ct_at (L := [_]) (by decide +kernel) rfl rfl (Nat.le_of_ble_eq_true rfl) ?_
  have hm : Mg (fun j => j = k) h h := Mg.rf
  refine at_aload_n 1 dX8_init_0 rfl rfl rfl ?_
  refine at_objInit 4 dX8_init_1 rfl ml_X8_3 jw_obj (Nat.le_of_ble_eq_true rfl) (by decide) ?_
  refine at_aload_n 5 dX8_init_4 rfl rfl rfl ?_
  refine at_bipush 7 (nI 6) dX8_init_5 rfl (by decide) ?_
  refine at_bipush 9 (nI 6) dX8_init_7 rfl (by decide) ?_
  refine at_mna 13 dX8_init_9 rfl ck_X8_9 ac_int (by decide) (by decide) hl (Nat.le_of_ble_eq_true rfl) (Nat.le_of_ble_eq_true rfl) (fun hh60 nn60 => ?_)
  replace hl := nn60.2.2.2
  replace ob := nn60.2.2.1 _ _ ob
  replace hm := hm.apm nn60
  have a1 := nn60.1
  have a2 := nn60.2.1
  clear nn60
  refine at_putrF (fs' := [_, _, _, _]) 16 dX8_init_13 rfl pl_X8_11 (by assumption) (Nat.le_of_ble_eq_true rfl) (fun _ => rfl) (fun _ => rfl) rfl (fun C T N q => by cases q; rfl) rfl (fun hh61 nn61 => ?_)
  replace hl := nn61.2.2.trans hl
  replace ob := nn61.1
  replace hm := hm.nw nn61 (by first | rfl | omega)
  replace a1 := nn61.o (by first | decide | omega | assumption) a1
  replace a2 := fun j hj => nn61.o (by omega) (a2 j hj)
  clear nn61
  refine at_aload_n 17 dX8_init_16 rfl rfl rfl ?_
  refine at_bipush 19 (nI 6) dX8_init_17 rfl (by decide) ?_
  refine at_newa (t := 0) 21 (6, .inl (fun _ => nI 0)) dX8_init_19 rfl ac_int (fun _ => rfl) (fun _ _ q => q) (fun _ => rfl) (fun _ => rfl) (by decide) (by decide) hl (Nat.le_of_ble_eq_true rfl) (Nat.le_of_ble_eq_true rfl) (fun hh62 nn62 => ?_)
  replace hl := nn62.2.2
  replace ob := nn62.2.1 _ _ ob
  replace hm := hm.ap nn62
  replace a1 := nn62.2.1 _ _ a1
  replace a2 := fun j hj => nn62.2.1 _ _ (a2 j hj)
  have a3 : hh62[_]? = some (aI 6 (fun _ => 0)) := nn62.1
  clear nn62
  refine at_putrF (fs' := [_, _, _, _]) 24 dX8_init_21 rfl pl_X8_16 (by assumption) (Nat.le_of_ble_eq_true rfl) (fun _ => rfl) (fun _ => rfl) rfl (fun C T N q => by cases q; rfl) rfl (fun hh63 nn63 => ?_)
  replace hl := nn63.2.2.trans hl
  replace ob := nn63.1
  replace hm := hm.nw nn63 (by first | rfl | omega)
  replace a1 := nn63.o (by first | decide | omega | assumption) a1
  replace a2 := fun j hj => nn63.o (by omega) (a2 j hj)
  replace a3 := nn63.o (by first | decide | omega | assumption) a3
  clear nn63
  refine at_aload_n 25 dX8_init_24 rfl rfl rfl ?_
  refine at_bipush 27 (nI 6) dX8_init_25 rfl (by decide) ?_
  refine at_newa (t := 0) 29 (6, .inl (fun _ => nI 0)) dX8_init_27 rfl ac_int (fun _ => rfl) (fun _ _ q => q) (fun _ => rfl) (fun _ => rfl) (by decide) (by decide) hl (Nat.le_of_ble_eq_true rfl) (Nat.le_of_ble_eq_true rfl) (fun hh64 nn64 => ?_)
  replace hl := nn64.2.2
  replace ob := nn64.2.1 _ _ ob
  replace hm := hm.ap nn64
  replace a1 := nn64.2.1 _ _ a1
  replace a2 := fun j hj => nn64.2.1 _ _ (a2 j hj)
  replace a3 := nn64.2.1 _ _ a3
  have a4 : hh64[_]? = some (aI 6 (fun _ => 0)) := nn64.1
  clear nn64
  refine at_putrF (fs' := [_, _, _, _]) 32 dX8_init_29 rfl pl_X8_20 (by assumption) (Nat.le_of_ble_eq_true rfl) (fun _ => rfl) (fun _ => rfl) rfl (fun C T N q => by cases q; rfl) rfl (fun hh65 nn65 => ?_)
  replace hl := nn65.2.2.trans hl
  replace ob := nn65.1
  replace hm := hm.nw nn65 (by first | rfl | omega)
  replace a1 := nn65.o (by first | decide | omega | assumption) a1
  replace a2 := fun j hj => nn65.o (by omega) (a2 j hj)
  replace a3 := nn65.o (by first | decide | omega | assumption) a3
  replace a4 := nn65.o (by first | decide | omega | assumption) a4
  clear nn65
  refine at_vret dX8_init_32 rfl (by decide) (by decide) ?_
  exact ⟨rfl, hl, hm, ob, a1, a2, a3, a4⟩
theorem c_X3_init {h : List PC} {k n t co p q u : Nat} (hl : h.length = n) (hk : k < n) (ob : h[k]? = some (.inr (3, dX3))) : Ct mX3_init [.ref k, .ref t, .ref co, .ref p, .ref q, .ref u] h (fun r h' => r = none ∧ h'.length = n + 3 ∧ Mg (fun j => j = k) h h' ∧ h'[k]? = some (.inr (3, [.ref t, .ref co, .ref p, .ref q, .ref u, .ref n])) ∧ h'[n]? = some (.inr (4, [.ref (n + 1), .ref (n + 2), .int (nI 0)])) ∧ h'[n + 1]? = some (aI 4 (fun _ => 0)) ∧ h'[n + 2]? = some (aI 8 (fun _ => 0))) := by
  refine ct_at (L := [_, _, _, _, _, _]) (by decide +kernel) rfl rfl (Nat.le_of_ble_eq_true rfl) ?_
  have hm : Mg (fun j => j = k) h h := Mg.rf
  have hl0 := hl
  refine at_aload_n 1 dX3_init_0 rfl rfl rfl ?_
  refine at_objInit 4 dX3_init_1 rfl ml_X3_3 jw_obj (Nat.le_of_ble_eq_true rfl) (by decide) ?_
  refine at_aload_n 5 dX3_init_4 rfl rfl rfl ?_
  refine at_new (ci := 4) 8 dX4 tyX4 dX3_init_5 rfl rfl ck_X3_9 it_X4 ii_X4 inX4 tyX4_ok df_X4 (fun _ => rfl) hl (Nat.le_of_ble_eq_true rfl) (Nat.le_of_ble_eq_true rfl) (fun hh66 nn66 => ?_)
  replace hl := nn66.2.2
  replace ob := nn66.2.1 _ _ ob
  replace hm := hm.ap nn66
  have g1 := nn66.1
  clear nn66
  refine at_dup 9 dX3_init_8 rfl rfl ?_
  refine at_invI 12 [] _ (c_X4_init hl (by omega) g1) dX3_init_9 rfl rfl rfl rfl (Or.inr nl_X3_11) cl_X4_init iv_X4_init rfl (Nat.le_of_ble_eq_true rfl) ⟨by decide, by decide⟩ (by decide) (fun rr hh qq => ?_)
  obtain ⟨rfl, hl2, mg, g2, a1, a2⟩ := qq
  replace ob := mg.at (by omega) ob
  have hm2 : Mg (fun j => j = k) h hh := fun i c hi e => mg.at (k := i) (fun q => by
    have := (List.getElem?_eq_some_iff.mp e).1
    omega) (hm.at hi e)
  refine at_putrF (fs' := [_, _, _, _, _, _]) 15 dX3_init_12 rfl pl_X3_12 (by assumption) (Nat.le_of_ble_eq_true rfl) (fun _ => rfl) (fun _ => rfl) rfl (fun C T N q => by cases q; rfl) rfl (fun hh67 nn67 => ?_)
  replace hl2 := nn67.2.2.trans hl2
  replace ob := nn67.1
  replace hm2 := hm2.nw nn67 (by first | rfl | omega)
  replace g2 := nn67.o (by first | decide | omega | assumption) g2
  replace a1 := nn67.o (by first | decide | omega | assumption) a1
  replace a2 := nn67.o (by first | decide | omega | assumption) a2
  clear nn67
  refine at_aload_n 16 dX3_init_15 rfl rfl rfl ?_
  refine at_aload_n 17 dX3_init_16 rfl rfl rfl ?_
  refine at_putrF (fs' := [_, _, _, _, _, _]) 20 dX3_init_17 rfl pl_X3_18 (by assumption) (Nat.le_of_ble_eq_true rfl) (fun _ => rfl) (fun _ => rfl) rfl (fun C T N q => by cases q; rfl) rfl (fun hh68 nn68 => ?_)
  replace hl2 := nn68.2.2.trans hl2
  replace ob := nn68.1
  replace hm2 := hm2.nw nn68 (by first | rfl | omega)
  replace g2 := nn68.o (by first | decide | omega | assumption) g2
  replace a1 := nn68.o (by first | decide | omega | assumption) a1
  replace a2 := nn68.o (by first | decide | omega | assumption) a2
  clear nn68
  refine at_aload_n 21 dX3_init_20 rfl rfl rfl ?_
  refine at_aload_n 22 dX3_init_21 rfl rfl rfl ?_
  refine at_putrF (fs' := [_, _, _, _, _, _]) 25 dX3_init_22 rfl pl_X3_22 (by assumption) (Nat.le_of_ble_eq_true rfl) (fun _ => rfl) (fun _ => rfl) rfl (fun C T N q => by cases q; rfl) rfl (fun hh69 nn69 => ?_)
  replace hl2 := nn69.2.2.trans hl2
  replace ob := nn69.1
  replace hm2 := hm2.nw nn69 (by first | rfl | omega)
  replace g2 := nn69.o (by first | decide | omega | assumption) g2
  replace a1 := nn69.o (by first | decide | omega | assumption) a1
  replace a2 := nn69.o (by first | decide | omega | assumption) a2
  clear nn69
  refine at_aload_n 26 dX3_init_25 rfl rfl rfl ?_
  refine at_aload_n 27 dX3_init_26 rfl rfl rfl ?_
  refine at_putrF (fs' := [_, _, _, _, _, _]) 30 dX3_init_27 rfl pl_X3_26 (by assumption) (Nat.le_of_ble_eq_true rfl) (fun _ => rfl) (fun _ => rfl) rfl (fun C T N q => by cases q; rfl) rfl (fun hh70 nn70 => ?_)
  replace hl2 := nn70.2.2.trans hl2
  replace ob := nn70.1
  replace hm2 := hm2.nw nn70 (by first | rfl | omega)
  replace g2 := nn70.o (by first | decide | omega | assumption) g2
  replace a1 := nn70.o (by first | decide | omega | assumption) a1
  replace a2 := nn70.o (by first | decide | omega | assumption) a2
  clear nn70
  refine at_aload_n 31 dX3_init_30 rfl rfl rfl ?_
  refine at_aload 33 dX3_init_31 rfl rfl ?_
  refine at_putrF (fs' := [_, _, _, _, _, _]) 36 dX3_init_33 rfl pl_X3_30 (by assumption) (Nat.le_of_ble_eq_true rfl) (fun _ => rfl) (fun _ => rfl) rfl (fun C T N q => by cases q; rfl) rfl (fun hh71 nn71 => ?_)
  replace hl2 := nn71.2.2.trans hl2
  replace ob := nn71.1
  replace hm2 := hm2.nw nn71 (by first | rfl | omega)
  replace g2 := nn71.o (by first | decide | omega | assumption) g2
  replace a1 := nn71.o (by first | decide | omega | assumption) a1
  replace a2 := nn71.o (by first | decide | omega | assumption) a2
  clear nn71
  refine at_aload_n 37 dX3_init_36 rfl rfl rfl ?_
  refine at_aload 39 dX3_init_37 rfl rfl ?_
  refine at_putrF (fs' := [_, _, _, _, _, _]) 42 dX3_init_39 rfl pl_X3_33 (by assumption) (Nat.le_of_ble_eq_true rfl) (fun _ => rfl) (fun _ => rfl) rfl (fun C T N q => by cases q; rfl) rfl (fun hh72 nn72 => ?_)
  replace hl2 := nn72.2.2.trans hl2
  replace ob := nn72.1
  replace hm2 := hm2.nw nn72 (by first | rfl | omega)
  replace g2 := nn72.o (by first | decide | omega | assumption) g2
  replace a1 := nn72.o (by first | decide | omega | assumption) a1
  replace a2 := nn72.o (by first | decide | omega | assumption) a2
  clear nn72
  refine at_vret dX3_init_42 rfl (by decide) (by decide) ?_
  exact ⟨rfl, hl2, hm2, ob, g2, a1, a2⟩

