def fitB (le mo : Nat → Nat) (c : Nat) (th : Nat → Nat) (g : Nat) : Bool := allB (fun t => decide (le (4 * c + t) * g ≤ 1000 * th t ∧ 1000 * th t ≤ mo (4 * c + t) * g)) 4
def firstB (F : Nat → Bool) : Nat → Nat → Nat
  | 0, i => i
  | d + 1, i => if F i then i else firstB F d (i + 1)
theorem firstB_le (F : Nat → Bool) : ∀ d i, i ≤ firstB F d i ∧ firstB F d i ≤ i + d
  | 0, i => ⟨Nat.le_refl _, Nat.le_refl _⟩
  | d + 1, i => by
    unfold firstB
    by_cases e : F i = true
    · rw [if_pos e]; omega
    · rw [if_neg e]
      have := firstB_le F d (i + 1)
      omega
/-- a name and 1; 0: no name -/
def nameC (F : Nat → Bool) (n : Nat) : Nat := if firstB F n 0 < n then firstB F n 0 + 1 else 0
theorem nI_m1 : nI 0 - 1 = -1 := by decide
theorem c_X1_add {h : List PC} {n : Nat} {a b : Nat → Nat} (hC : h[21]? = some (oColours n)) (hl : h[22]? = some (aR 6 (rowsAt 22 6))) (hm : h[29]? = some (aR 6 (rowsAt 29 6))) (ha : h[23 + n]? = some (aI 4 a)) (hb : h[30 + n]? = some (aI 4 b)) (hn : n < 6) : Ct mX1_add [.ref 21] h (fun r h' => r = some (.int (nI n)) ∧ h'[21]? = some (oColours (n + 1)) ∧ Ar h' (23 + n) 4 (fun _ => 0) ∧ Ar h' (30 + n) 4 (fun _ => 1000) ∧ Fr (fun j => j = 21 ∨ j = 23 + n ∨ j = 30 + n) h h') := by
  refine ct_at (L := [_, _]) (by decide +kernel) rfl rfl (Nat.le_of_ble_eq_true rfl) ?_
  refine at_aload_n 1 dX1_add_0 rfl rfl rfl ?_
  refine at_g 4 dX1_add_1 rfl fl_X1_19 ⟨_, by assumption, ?_⟩
  refine ⟨_, rfl, ?_⟩
  refine at_bipush 6 (nI 6) dX1_add_4 rfl (by decide) ?_
  refine at_icmp_ltN 12 9 dX1_add_6 rfl rfl (by omega) (by omega) (fun cc => ?_) (fun cc => ?_)
  rotate_left
  · omega
  refine at_iconst 13 (nI 0) dX1_add_12 rfl (by decide) ?_
  refine at_istore_n (L' := [_, _]) 14 dX1_add_13 rfl rfl (by decide) rfl rfl ?_
  have loop : ∀ (d i : Nat) (a b : Nat → Nat) (h1 : List PC), i + d = 4 → h1[23 + n]? = some (aI 4 a) → h1[30 + n]? = some (aI 4 b) → (∀ j, j < i → a j = 0 ∧ b j = 1000) → Fr (fun j => j = 21 ∨ j = 23 + n ∨ j = 30 + n) h h1 → h1[21]? = some (oColours n) → At mX1_add T0 14 [.ref 21, .int (nI i)] [] h1 0 0 (ZM mX1_add (fun r h' => r = some (.int (nI n)) ∧ h'[21]? = some (oColours (n + 1)) ∧ Ar h' (23 + n) 4 (fun _ => 0) ∧ Ar h' (30 + n) 4 (fun _ => 1000) ∧ Fr (fun j => j = 21 ∨ j = 23 + n ∨ j = 30 + n) h h')) := by
    intro d
    induction d with
    | zero =>
      intro i a b h1 hi ha hb hab hfr hC
      refine at_iload_n 15 dX1_add_14 rfl rfl rfl ?_
      refine at_iconst 16 (nI 4) dX1_add_15 rfl (by decide) ?_
      refine at_icmp_geN 51 19 dX1_add_16 rfl rfl (by omega) (by omega) (fun cc => ?_) (fun cc => ?_)
      rotate_left
      · omega
      refine at_aload_n 52 dX1_add_51 rfl rfl rfl ?_
      refine at_dup 53 dX1_add_52 rfl rfl ?_
      refine at_g 56 dX1_add_53 rfl fl_X1_19 ⟨_, by assumption, ?_⟩
      refine ⟨_, rfl, ?_⟩
      refine at_iconst 57 (nI 1) dX1_add_56 rfl (by decide) ?_
      first | refine at_iaddN 58 dX1_add_57 rfl ?_ | refine at_iadd 58 dX1_add_57 rfl ?_
      refine at_pi 61 dX1_add_58 rfl pl_X1_19 (rfl) (rfl) ⟨_, by assumption, ?_⟩
      refine ⟨(Nat.le_of_ble_eq_true rfl), [_, _, _], rfl, fun hh1 nn1 => ?_⟩
      replace hC := nn1.1
      replace ha := nn1.o (by first | decide | omega | assumption) ha
      replace hb := nn1.o (by first | decide | omega | assumption) hb
      replace hfr := hfr.nw nn1 (by first | (dsimp only; omega) | (dsimp only; done) | simp)
      clear nn1
      refine at_aload_n 62 dX1_add_61 rfl rfl rfl ?_
      refine at_g 65 dX1_add_62 rfl fl_X1_19 ⟨_, by assumption, ?_⟩
      refine ⟨_, rfl, ?_⟩
      refine at_iconst 66 (nI 1) dX1_add_65 rfl (by decide) ?_
      first | refine at_isubN 67 dX1_add_66 rfl (by omega) ?_ | refine at_isub 67 dX1_add_66 rfl ?_
      refine at_iret dX1_add_67 rfl (by decide) (by decide) ?_
      exact ⟨rfl, hC, ⟨a, ha, fun j hj => (hab j (by omega)).1⟩, ⟨b, hb, fun j hj => (hab j (by omega)).2⟩, hfr⟩
    | succ d ih =>
      intro i a b h1 hi ha hb hab hfr hC
      have hl := hfr.at (k := 22) (by omega) hl
      have hm := hfr.at (k := 29) (by omega) hm
      refine at_iload_n 15 dX1_add_14 rfl rfl rfl ?_
      refine at_iconst 16 (nI 4) dX1_add_15 rfl (by decide) ?_
      refine at_icmp_geN 51 19 dX1_add_16 rfl rfl (by omega) (by omega) (fun cc => ?_) (fun cc => ?_)
      · omega
      refine at_aload_n 20 dX1_add_19 rfl rfl rfl ?_
      refine at_g 23 dX1_add_20 rfl fl_X1_11 ⟨_, by assumption, ?_⟩
      refine ⟨_, rfl, ?_⟩
      refine at_aload_n 24 dX1_add_23 rfl rfl rfl ?_
      refine at_g 27 dX1_add_24 rfl fl_X1_19 ⟨_, by assumption, ?_⟩
      refine ⟨_, rfl, ?_⟩
      refine at_aa 28 dX1_add_27 rfl ⟨_, _, by assumption, by omega, by first | decide | omega, ?_⟩
      refine ⟨_, rowsAt_in (by omega), ?_⟩
      refine at_iload_n 29 dX1_add_28 rfl rfl rfl ?_
      refine at_iconst 30 (nI 0) dX1_add_29 rfl (by decide) ?_
      first | refine at_is 31 dX1_add_30 rfl ⟨_, _, by assumption, by omega, by first | decide | omega, fun hh2 nn2 => ?_⟩ | refine at_isG 31 dX1_add_30 rfl ⟨_, _, by assumption, by omega, by first | decide | omega, fun hh2 nn2 => ?_⟩
      replace hC := nn2.o (by first | decide | omega | assumption) hC
      replace ha := nn2.1
      replace hb := nn2.o (by first | decide | omega | assumption) hb
      replace hl := nn2.o (by first | decide | omega | assumption) hl
      replace hm := nn2.o (by first | decide | omega | assumption) hm
      replace hfr := hfr.nw nn2 (by first | (dsimp only; omega) | (dsimp only; done) | simp)
      clear nn2
      refine at_aload_n 32 dX1_add_31 rfl rfl rfl ?_
      refine at_g 35 dX1_add_32 rfl fl_X1_16 ⟨_, by assumption, ?_⟩
      refine ⟨_, rfl, ?_⟩
      refine at_aload_n 36 dX1_add_35 rfl rfl rfl ?_
      refine at_g 39 dX1_add_36 rfl fl_X1_19 ⟨_, by assumption, ?_⟩
      refine ⟨_, rfl, ?_⟩
      refine at_aa 40 dX1_add_39 rfl ⟨_, _, by assumption, by omega, by first | decide | omega, ?_⟩
      refine ⟨_, rowsAt_in (by omega), ?_⟩
      refine at_iload_n 41 dX1_add_40 rfl rfl rfl ?_
      refine at_sipush 44 (nI 1000) dX1_add_41 rfl (by decide) ?_
      first | refine at_is 45 dX1_add_44 rfl ⟨_, _, by assumption, by omega, by first | decide | omega, fun hh3 nn3 => ?_⟩ | refine at_isG 45 dX1_add_44 rfl ⟨_, _, by assumption, by omega, by first | decide | omega, fun hh3 nn3 => ?_⟩
      replace hC := nn3.o (by first | decide | omega | assumption) hC
      replace ha := nn3.o (by first | decide | omega | assumption) ha
      replace hb := nn3.1
      replace hl := nn3.o (by first | decide | omega | assumption) hl
      replace hm := nn3.o (by first | decide | omega | assumption) hm
      replace hfr := hfr.nw nn3 (by first | (dsimp only; omega) | (dsimp only; done) | simp)
      clear nn3
      refine at_iincN (q := 1) (L' := [_, _]) 48 dX1_add_45 rfl (by decide) rfl (by decide) rfl rfl ?_
      refine at_goto 14 dX1_add_48 rfl ?_
      refine ih (i + 1) _ _ _ (by omega) ha hb (fun j hj => ?_) hfr hC
      by_cases e : j = i
      · subst e; rw [updN_s, updN_s]; exact ⟨rfl, rfl⟩
      · rw [updN_n _ _ e, updN_n _ _ e]; exact hab j (by omega)
  exact loop 4 0 a b h (by omega) ha hb (fun j hj => by omega) Fr.rf hC
theorem c_X1_add_full {h : List PC} {n : Nat} (hC : h[21]? = some (oColours n)) (hn : 6 ≤ n) (hn2 : n < 2 ^ 31) : Ct mX1_add [.ref 21] h (fun r h' => r = some (.int (-1000000000)) ∧ h' = h) := by
  refine ct_at (L := [_, _]) (by decide +kernel) rfl rfl (Nat.le_of_ble_eq_true rfl) ?_
  refine at_aload_n 1 dX1_add_0 rfl rfl rfl ?_
  refine at_g 4 dX1_add_1 rfl fl_X1_19 ⟨_, by assumption, ?_⟩
  refine ⟨_, rfl, ?_⟩
  refine at_bipush 6 (nI 6) dX1_add_4 rfl (by decide) ?_
  refine at_icmp_ltN 12 9 dX1_add_6 rfl rfl (by omega) (by omega) (fun cc => ?_) (fun cc => ?_)
  · omega
  refine at_ldc 11 (-1000000000) dX1_add_9 rfl cn_X1_23 ?_
  refine at_iret dX1_add_11 rfl (by decide) (by decide) ?_
  exact ⟨rfl, rfl⟩
theorem c_X1_fits {h : List PC} {n c g k : Nat} {le mo th : Nat → Nat} (hC : h[21]? = some (oColours n)) (hl : h[22]? = some (aR 6 (rowsAt 22 6))) (hm : h[29]? = some (aR 6 (rowsAt 29 6))) (hle : Ar h (23 + c) 4 (fun t => le (4 * c + t))) (hmo : Ar h (30 + c) 4 (fun t => mo (4 * c + t))) (hG : h[k]? = some (oGlass k g)) (ht : h[k + 1]? = some (aI 4 th)) (hc : c < 6) (hg : g ≤ 100000) (hth : ∀ t, t < 4 → th t ≤ 100000) (hlb : ∀ t, t < 4 → le (4 * c + t) ≤ 1000) (hmb : ∀ t, t < 4 → mo (4 * c + t) ≤ 1000) : Ct mX1_fits [.ref 21, .int (nI c), .ref k] h (fun r h' => r = some (.int (bI (fitB le mo c th g))) ∧ h' = h) := by
  obtain ⟨wl, al, el⟩ := hle
  obtain ⟨wm, am, em⟩ := hmo
  replace el : ∀ i, i < 4 → wl i = le (4 * c + i) := el
  replace em : ∀ i, i < 4 → wm i = mo (4 * c + i) := em
  refine ct_at (L := [_, _, _, _, _]) (by decide +kernel) rfl rfl (Nat.le_of_ble_eq_true rfl) ?_
  refine at_iconst 1 (nI 0) dX1_fits_0 rfl (by decide) ?_
  refine at_istore_n (L' := [_, _, _, _, _]) 2 dX1_fits_1 rfl rfl (by decide) rfl rfl ?_
  have loop : ∀ (d i : Nat), i + d = 4 → (∀ j, j < i → le (4 * c + j) * g ≤ 1000 * th j ∧ 1000 * th j ≤ mo (4 * c + j) * g) → At mX1_fits T0 2 [.ref 21, .int (nI c), .ref k, .int (nI i), .null] [] h 0 0 (ZM mX1_fits (fun r h' => r = some (.int (bI (fitB le mo c th g))) ∧ h' = h)) := by
    intro d
    induction d with
    | zero =>
      intro i hi hj
      refine at_iload_n 3 dX1_fits_2 rfl rfl rfl ?_
      refine at_iconst 4 (nI 4) dX1_fits_3 rfl (by decide) ?_
      refine at_icmp_geN 63 7 dX1_fits_4 rfl rfl (by omega) (by omega) (fun cc => ?_) (fun cc => ?_)
      rotate_left
      · omega
      refine at_iconst 64 (nI 1) dX1_fits_63 rfl (by decide) ?_
      refine at_zret dX1_fits_64 rfl (by first | rfl | decide) (by decide) (by decide) ?_
      exact ⟨bI_T (allB_iff.mpr (fun j hj4 => decide_eq_true (hj j (by omega)))), rfl⟩
    | succ d ih =>
      intro i hi hj
      have h1 := hth i (by omega)
      have h2 : wl i * g ≤ 1000 * 100000 := by rw [el i (by omega)]; exact Nat.mul_le_mul (hlb i (by omega)) hg
      have h3 : wm i * g ≤ 1000 * 100000 := by rw [em i (by omega)]; exact Nat.mul_le_mul (hmb i (by omega)) hg
      refine at_iload_n 3 dX1_fits_2 rfl rfl rfl ?_
      refine at_iconst 4 (nI 4) dX1_fits_3 rfl (by decide) ?_
      refine at_icmp_geN 63 7 dX1_fits_4 rfl rfl (by omega) (by omega) (fun cc => ?_) (fun cc => ?_)
      · omega
      refine at_sipush 10 (nI 1000) dX1_fits_7 rfl (by decide) ?_
      refine at_aload_n 11 dX1_fits_10 rfl rfl rfl ?_
      refine at_g 14 dX1_fits_11 rfl fl_X1_24 ⟨_, by assumption, ?_⟩
      refine ⟨_, rfl, ?_⟩
      refine at_iload_n 15 dX1_fits_14 rfl rfl rfl ?_
      first | refine at_ia 16 dX1_fits_15 rfl ⟨_, _, by assumption, by omega, by first | decide | omega, ?_⟩ | refine at_iaG 16 dX1_fits_15 rfl ⟨_, _, by assumption, by omega, by first | decide | omega, ?_⟩
      first | refine at_imulN 17 dX1_fits_16 rfl ?_ | refine at_imul 17 dX1_fits_16 rfl ?_
      refine at_istore (L' := [_, _, _, _, _]) 19 dX1_fits_17 rfl (by decide) rfl rfl ?_
      refine at_iload 21 dX1_fits_19 rfl rfl ?_
      refine at_aload_n 22 dX1_fits_21 rfl rfl rfl ?_
      refine at_g 25 dX1_fits_22 rfl fl_X1_11 ⟨_, by assumption, ?_⟩
      refine ⟨_, rfl, ?_⟩
      refine at_iload_n 26 dX1_fits_25 rfl rfl rfl ?_
      refine at_aa 27 dX1_fits_26 rfl ⟨_, _, by assumption, by omega, by first | decide | omega, ?_⟩
      refine ⟨_, rowsAt_in (by omega), ?_⟩
      refine at_iload_n 28 dX1_fits_27 rfl rfl rfl ?_
      first | refine at_ia 29 dX1_fits_28 rfl ⟨_, _, by assumption, by omega, by first | decide | omega, ?_⟩ | refine at_iaG 29 dX1_fits_28 rfl ⟨_, _, by assumption, by omega, by first | decide | omega, ?_⟩
      refine at_aload_n 30 dX1_fits_29 rfl rfl rfl ?_
      refine at_g 33 dX1_fits_30 rfl fl_X1_30 ⟨_, by assumption, ?_⟩
      refine ⟨_, rfl, ?_⟩
      first | refine at_imulN 34 dX1_fits_33 rfl ?_ | refine at_imul 34 dX1_fits_33 rfl ?_
      refine at_icmp_ltN 55 37 dX1_fits_34 rfl rfl (by omega) (by omega) (fun cc => ?_) (fun cc => ?_)
      · refine at_iconst 56 (nI 0) dX1_fits_55 rfl (by decide) ?_
        refine at_zret dX1_fits_56 rfl (by first | rfl | decide) (by decide) (by decide) ?_
        refine ⟨bI_F (fun q => ?_), rfl⟩
        have q1 := (of_decide_eq_true (allB_iff.mp q i (by omega))).1
        rw [el i (by omega)] at cc
        omega
      have c1 := cc
      refine at_iload 39 dX1_fits_37 rfl rfl ?_
      refine at_aload_n 40 dX1_fits_39 rfl rfl rfl ?_
      refine at_g 43 dX1_fits_40 rfl fl_X1_16 ⟨_, by assumption, ?_⟩
      refine ⟨_, rfl, ?_⟩
      refine at_iload_n 44 dX1_fits_43 rfl rfl rfl ?_
      refine at_aa 45 dX1_fits_44 rfl ⟨_, _, by assumption, by omega, by first | decide | omega, ?_⟩
      refine ⟨_, rowsAt_in (by omega), ?_⟩
      refine at_iload_n 46 dX1_fits_45 rfl rfl rfl ?_
      first | refine at_ia 47 dX1_fits_46 rfl ⟨_, _, by assumption, by omega, by first | decide | omega, ?_⟩ | refine at_iaG 47 dX1_fits_46 rfl ⟨_, _, by assumption, by omega, by first | decide | omega, ?_⟩
      refine at_aload_n 48 dX1_fits_47 rfl rfl rfl ?_
      refine at_g 51 dX1_fits_48 rfl fl_X1_30 ⟨_, by assumption, ?_⟩
      refine ⟨_, rfl, ?_⟩
      first | refine at_imulN 52 dX1_fits_51 rfl ?_ | refine at_imul 52 dX1_fits_51 rfl ?_
      refine at_icmp_leN 57 55 dX1_fits_52 rfl rfl (by omega) (by omega) (fun cc => ?_) (fun cc => ?_)
      · refine at_iincN (q := 1) (L' := [_, _, _, _, _]) 60 dX1_fits_57 rfl (by decide) rfl (by decide) rfl rfl ?_
        refine at_goto 2 dX1_fits_60 rfl ?_
        refine at_drop (L' := [_, _, _, _, _]) 4 rfl ?_
        refine ih (i + 1) (by omega) (fun j hj2 => ?_)
        by_cases e : j = i
        · subst e
          rw [← el j (by omega), ← em j (by omega)]
          exact ⟨c1, cc⟩
        · exact hj j (by omega)
      · refine at_iconst 56 (nI 0) dX1_fits_55 rfl (by decide) ?_
        refine at_zret dX1_fits_56 rfl (by first | rfl | decide) (by decide) (by decide) ?_
        refine ⟨bI_F (fun q => ?_), rfl⟩
        have q1 := (of_decide_eq_true (allB_iff.mp q i (by omega))).2
        rw [em i (by omega)] at cc
        omega
  exact loop 4 0 (by omega) (fun j hj => by omega)
theorem c_X1_nameOf {h : List PC} {n g k : Nat} {le mo th : Nat → Nat} (hC : h[21]? = some (oColours n)) (hl : h[22]? = some (aR 6 (rowsAt 22 6))) (hm : h[29]? = some (aR 6 (rowsAt 29 6))) (hle : ∀ c, c < 6 → Ar h (23 + c) 4 (fun t => le (4 * c + t))) (hmo : ∀ c, c < 6 → Ar h (30 + c) 4 (fun t => mo (4 * c + t))) (hG : h[k]? = some (oGlass k g)) (ht : h[k + 1]? = some (aI 4 th)) (hn : n ≤ 6) (hg : g ≤ 100000) (hth : ∀ t, t < 4 → th t ≤ 100000) (hlb : ∀ i, i < 24 → le i ≤ 1000) (hmb : ∀ i, i < 24 → mo i ≤ 1000) : Ct mX1_nameOf [.ref 21, .ref k] h (fun r h' => r = some (.int (nI (nameC (fun c => fitB le mo c th g) n) - 1)) ∧ h' = h) := by
  refine ct_at (L := [_, _, _]) (by decide +kernel) rfl rfl (Nat.le_of_ble_eq_true rfl) ?_
  refine at_iconst 1 (nI 0) dX1_nameOf_0 rfl (by decide) ?_
  refine at_istore_n (L' := [_, _, _]) 2 dX1_nameOf_1 rfl rfl (by decide) rfl rfl ?_
  have loop : ∀ (d i : Nat), i + d = n → firstB (fun c => fitB le mo c th g) d i = firstB (fun c => fitB le mo c th g) n 0 → At mX1_nameOf T0 2 [.ref 21, .ref k, .int (nI i)] [] h 0 0 (ZM mX1_nameOf (fun r h' => r = some (.int (nI (nameC (fun c => fitB le mo c th g) n) - 1)) ∧ h' = h)) := by
    intro d
    induction d with
    | zero =>
      intro i hi ho
      refine at_iload_n 3 dX1_nameOf_2 rfl rfl rfl ?_
      refine at_aload_n 4 dX1_nameOf_3 rfl rfl rfl ?_
      refine at_g 7 dX1_nameOf_4 rfl fl_X1_19 ⟨_, by assumption, ?_⟩
      refine ⟨_, rfl, ?_⟩
      refine at_icmp_geN 27 10 dX1_nameOf_7 rfl rfl (by omega) (by omega) (fun cc => ?_) (fun cc => ?_)
      rotate_left
      · omega
      refine at_iconst 28 (-1) dX1_nameOf_27 rfl (by decide) ?_
      refine at_iret dX1_nameOf_28 rfl (by decide) (by decide) ?_
      refine ⟨?_, rfl⟩
      unfold nameC
      rw [← ho]
      unfold firstB
      rw [if_neg (by omega), nI_m1]
    | succ d ih =>
      intro i hi ho
      refine at_iload_n 3 dX1_nameOf_2 rfl rfl rfl ?_
      refine at_aload_n 4 dX1_nameOf_3 rfl rfl rfl ?_
      refine at_g 7 dX1_nameOf_4 rfl fl_X1_19 ⟨_, by assumption, ?_⟩
      refine ⟨_, rfl, ?_⟩
      refine at_icmp_geN 27 10 dX1_nameOf_7 rfl rfl (by omega) (by omega) (fun cc => ?_) (fun cc => ?_)
      · omega
      refine at_aload_n 11 dX1_nameOf_10 rfl rfl rfl ?_
      refine at_iload_n 12 dX1_nameOf_11 rfl rfl rfl ?_
      refine at_aload_n 13 dX1_nameOf_12 rfl rfl rfl ?_
      refine at_invV (ci := 1) 16 [_, _] _ (c_X1_fits hC hl hm (hle i (by omega)) (hmo i (by omega)) hG ht (by omega) hg hth (fun t ht4 => hlb _ (by omega)) (fun t ht4 => hmb _ (by omega))) dX1_nameOf_13 rfl rfl (by assumption) rfl ml_X1_33 cl_X1_fits vl_X1_fits rfl (Nat.le_of_ble_eq_true rfl) ⟨by decide, by decide⟩ (by decide) (fun rr hh qq => ?_)
      obtain ⟨rfl, rfl⟩ := qq
      refine at_if_eqB 21 19 dX1_nameOf_16 rfl rfl (fun cc => ?_) (fun cc => ?_)
      · refine at_iincN (q := 1) (L' := [_, _, _]) 24 dX1_nameOf_21 rfl (by decide) rfl (by decide) rfl rfl ?_
        refine at_goto 2 dX1_nameOf_24 rfl ?_
        refine ih (i + 1) (by omega) ?_
        rw [← ho]
        show _ = if (fun c => fitB le mo c th g) i = true then i else firstB _ d (i + 1)
        rw [if_neg (by dsimp only; rw [cc]; decide)]
      · refine at_iload_n 20 dX1_nameOf_19 rfl rfl rfl ?_
        refine at_iret dX1_nameOf_20 rfl (by decide) (by decide) ?_
        refine ⟨?_, rfl⟩
        have ho2 : firstB (fun c => fitB le mo c th g) n 0 = i := by
          rw [← ho]
          show (if (fun c => fitB le mo c th g) i = true then i else firstB _ d (i + 1)) = i
          rw [if_pos cc]
        unfold nameC
        rw [ho2, if_pos (by omega), nI_pred]
  exact loop n 0 (by omega) rfl
def capK (a : Nat) : Nat := if 1000 < a then 1000 else a
def lowS (mk db sh : Nat → Nat) (n t : Nat) : Nat := sm (fun f => sh f * (mk (4 * f + t) - db f)) n
def highS (mk db sh : Nat → Nat) (n t : Nat) : Nat := sm (fun f => sh f * capK (mk (4 * f + t) + db f)) n
def sureB (le mo mk db sh : Nat → Nat) (n c : Nat) : Bool := allB (fun t => decide (le (4 * c + t) * 1000 ≤ lowS mk db sh n t ∧ highS mk db sh n t ≤ mo (4 * c + t) * 1000)) 4
theorem lowS_b {mk db sh : Nat → Nat} {n t : Nat} (hn : n ≤ 8) (hs : ∀ f, f < 8 → sh f ≤ 1000) (hm : ∀ i, i < 32 → mk i ≤ 1000) (ht : t < 4) {i : Nat} (hi : i ≤ n) : lowS mk db sh i t ≤ 8000000 := by
  unfold lowS
  have := sm_bound (f := fun f => sh f * (mk (4 * f + t) - db f)) (c := 1000000) (n := i) (fun f hf => by
    have h1 := hs f (by omega)
    have h2 := hm (4 * f + t) (by omega)
    have : sh f * (mk (4 * f + t) - db f) ≤ 1000 * 1000 := Nat.mul_le_mul h1 (by omega)
    exact this)
  omega
theorem highS_b {mk db sh : Nat → Nat} {n t : Nat} (hn : n ≤ 8) (hs : ∀ f, f < 8 → sh f ≤ 1000) {i : Nat} (hi : i ≤ n) : highS mk db sh i t ≤ 8000000 := by
  unfold highS
  have := sm_bound (f := fun f => sh f * capK (mk (4 * f + t) + db f)) (c := 1000000) (n := i) (fun f hf => by
    have h1 := hs f (by omega)
    have h2 : capK (mk (4 * f + t) + db f) ≤ 1000 := by unfold capK; split <;> omega
    have : sh f * capK (mk (4 * f + t) + db f) ≤ 1000 * 1000 := Nat.mul_le_mul h1 h2
    exact this)
  omega
theorem max_sub {v d : Nat} (hv : v < 2 ^ 30) (hd : d < 2 ^ 30) : (if nI v - nI d < nI 0 then nI 0 else nI v - nI d) = nI (v - d) := by
  rcases Nat.lt_or_ge v d with q | q
  · rw [if_pos (show nI v - nI d < nI 0 from pk_sneg hd q), show v - d = 0 by omega]
  · rw [pk_sub q, if_neg (by have := nI_pos (n := v - d) (by omega); exact this)]
theorem min_cap {a : Nat} (ha : a < 2 ^ 31) : (if nI 1000 < nI a then nI 1000 else nI a) = nI (capK a) := by
  unfold capK
  by_cases e : 1000 < a
  · rw [if_pos e, if_pos ((nI_ltI (by decide) ha).mpr e)]
  · rw [if_neg e, if_neg (fun q => e ((nI_ltI (by decide) ha).mp q))]
theorem c_X1_isSure {h : List PC} {nc n c ks : Nat} {le mo mk db sh : Nat → Nat} (hC : h[21]? = some (oColours nc)) (hl : h[22]? = some (aR 6 (rowsAt 22 6))) (hm : h[29]? = some (aR 6 (rowsAt 29 6))) (hle : Ar h (23 + c) 4 (fun t => le (4 * c + t))) (hmo : Ar h (30 + c) 4 (fun t => mo (4 * c + t))) (hF : h[4]? = some (oFeeds n)) (hr : h[6]? = some (aR 8 (rowsAt 6 8))) (hmk : ∀ f, f < 8 → Ar h (7 + f) 4 (fun t => mk (4 * f + t))) (hd : h[15]? = some (aI 8 db)) (hs : h[ks]? = some (aI 8 sh)) (hc : c < 6) (hn : n ≤ 8) (hsb : ∀ f, f < 8 → sh f ≤ 1000) (hmb : ∀ i, i < 32 → mk i ≤ 1000) (hdb : ∀ f, f < 8 → db f ≤ 100) (hlb : ∀ t, t < 4 → le (4 * c + t) ≤ 1000) (hob : ∀ t, t < 4 → mo (4 * c + t) ≤ 1000) : Ct mX1_isSure [.ref 21, .int (nI c), .ref ks, .ref 4] h (fun r h' => r = some (.int (bI (sureB le mo mk db sh n c))) ∧ h' = h) := by
  obtain ⟨wl, al, el⟩ := hle
  obtain ⟨wm, am, em⟩ := hmo
  replace el : ∀ i, i < 4 → wl i = le (4 * c + i) := el
  replace em : ∀ i, i < 4 → wm i = mo (4 * c + i) := em
  refine ct_at (L := [_, _, _, _, _, _, _, _, _]) (by decide +kernel) rfl rfl (Nat.le_of_ble_eq_true rfl) ?_
  refine at_iconst 1 (nI 0) dX1_isSure_0 rfl (by decide) ?_
  refine at_istore (L' := [_, _, _, _, _, _, _, _, _]) 3 dX1_isSure_1 rfl (by decide) rfl rfl ?_
  have loop : ∀ (d i : Nat), i + d = 4 → (∀ j, j < i → le (4 * c + j) * 1000 ≤ lowS mk db sh n j ∧ highS mk db sh n j ≤ mo (4 * c + j) * 1000) → At mX1_isSure T0 3 [.ref 21, .int (nI c), .ref ks, .ref 4, .int (nI i), .null, .null, .null, .null] [] h 0 0 (ZM mX1_isSure (fun r h' => r = some (.int (bI (sureB le mo mk db sh n c))) ∧ h' = h)) := by
    intro d
    induction d with
    | zero =>
      intro i hi hj
      refine at_iload 5 dX1_isSure_3 rfl rfl ?_
      refine at_iconst 6 (nI 4) dX1_isSure_5 rfl (by decide) ?_
      refine at_icmp_geN 139 9 dX1_isSure_6 rfl rfl (by omega) (by omega) (fun cc => ?_) (fun cc => ?_)
      rotate_left
      · omega
      refine at_iconst 140 (nI 1) dX1_isSure_139 rfl (by decide) ?_
      refine at_zret dX1_isSure_140 rfl (by first | rfl | decide) (by decide) (by decide) ?_
      exact ⟨bI_T (allB_iff.mpr (fun j hj4 => decide_eq_true (hj j (by omega)))), rfl⟩
    | succ d ih =>
      intro i hi hj
      refine at_iload 5 dX1_isSure_3 rfl rfl ?_
      refine at_iconst 6 (nI 4) dX1_isSure_5 rfl (by decide) ?_
      refine at_icmp_geN 139 9 dX1_isSure_6 rfl rfl (by omega) (by omega) (fun cc => ?_) (fun cc => ?_)
      · omega
      have hi4 := cc
      refine at_iconst 10 (nI 0) dX1_isSure_9 rfl (by decide) ?_
      refine at_istore (L' := [_, _, _, _, _, _, _, _, _]) 12 dX1_isSure_10 rfl (by decide) rfl rfl ?_
      refine at_iconst 13 (nI 0) dX1_isSure_12 rfl (by decide) ?_
      refine at_istore (L' := [_, _, _, _, _, _, _, _, _]) 15 dX1_isSure_13 rfl (by decide) rfl rfl ?_
      refine at_iconst 16 (nI 0) dX1_isSure_15 rfl (by decide) ?_
      refine at_istore (L' := [_, _, _, _, _, _, _, _, _]) 18 dX1_isSure_16 rfl (by decide) rfl rfl ?_
      have inner : ∀ (e f : Nat), f + e = n → At mX1_isSure T0 18 [.ref 21, .int (nI c), .ref ks, .ref 4, .int (nI i), .int (nI (lowS mk db sh f i)), .int (nI (highS mk db sh f i)), .int (nI f), .null] [] h 0 0 (ZM mX1_isSure (fun r h' => r = some (.int (bI (sureB le mo mk db sh n c))) ∧ h' = h)) := by
        intro e
        induction e with
        | zero =>
          intro f hf
          have hfn : f = n := by omega
          refine at_iload 20 dX1_isSure_18 rfl rfl ?_
          refine at_aload_n 21 dX1_isSure_20 rfl rfl rfl ?_
          refine at_g 24 dX1_isSure_21 rfl fl_X1_37 ⟨_, by assumption, ?_⟩
          refine ⟨_, rfl, ?_⟩
          refine at_icmp_geN 95 27 dX1_isSure_24 rfl rfl (by omega) (by omega) (fun cc => ?_) (fun cc => ?_)
          rotate_left
          · omega
          rw [hfn]
          have b1 := lowS_b (db := db) hn hsb hmb hi4 (Nat.le_refl n)
          have b2 := highS_b (mk := mk) (db := db) (t := i) hn hsb (Nat.le_refl n)
          have b3 : wl i ≤ 1000 := by rw [el i hi4]; exact hlb i hi4
          have b4 : wm i ≤ 1000 := by rw [em i hi4]; exact hob i hi4
          refine at_iload 97 dX1_isSure_95 rfl rfl ?_
          refine at_aload_n 98 dX1_isSure_97 rfl rfl rfl ?_
          refine at_g 101 dX1_isSure_98 rfl fl_X1_11 ⟨_, by assumption, ?_⟩
          refine ⟨_, rfl, ?_⟩
          refine at_iload_n 102 dX1_isSure_101 rfl rfl rfl ?_
          refine at_aa 103 dX1_isSure_102 rfl ⟨_, _, by assumption, by omega, by first | decide | omega, ?_⟩
          refine ⟨_, rowsAt_in (by omega), ?_⟩
          refine at_iload 105 dX1_isSure_103 rfl rfl ?_
          first | refine at_ia 106 dX1_isSure_105 rfl ⟨_, _, by assumption, by omega, by first | decide | omega, ?_⟩ | refine at_iaG 106 dX1_isSure_105 rfl ⟨_, _, by assumption, by omega, by first | decide | omega, ?_⟩
          refine at_sipush 109 (nI 1000) dX1_isSure_106 rfl (by decide) ?_
          first | refine at_imulN 110 dX1_isSure_109 rfl ?_ | refine at_imul 110 dX1_isSure_109 rfl ?_
          refine at_icmp_ltN 131 113 dX1_isSure_110 rfl rfl (by omega) (by omega) (fun cc => ?_) (fun cc => ?_)
          · refine at_iconst 132 (nI 0) dX1_isSure_131 rfl (by decide) ?_
            refine at_zret dX1_isSure_132 rfl (by first | rfl | decide) (by decide) (by decide) ?_
            refine ⟨bI_F (fun q => ?_), rfl⟩
            have q1 := (of_decide_eq_true (allB_iff.mp q i (by omega))).1
            rw [el i (by omega)] at cc
            omega
          have c1 := cc
          refine at_iload 115 dX1_isSure_113 rfl rfl ?_
          refine at_aload_n 116 dX1_isSure_115 rfl rfl rfl ?_
          refine at_g 119 dX1_isSure_116 rfl fl_X1_16 ⟨_, by assumption, ?_⟩
          refine ⟨_, rfl, ?_⟩
          refine at_iload_n 120 dX1_isSure_119 rfl rfl rfl ?_
          refine at_aa 121 dX1_isSure_120 rfl ⟨_, _, by assumption, by omega, by first | decide | omega, ?_⟩
          refine ⟨_, rowsAt_in (by omega), ?_⟩
          refine at_iload 123 dX1_isSure_121 rfl rfl ?_
          first | refine at_ia 124 dX1_isSure_123 rfl ⟨_, _, by assumption, by omega, by first | decide | omega, ?_⟩ | refine at_iaG 124 dX1_isSure_123 rfl ⟨_, _, by assumption, by omega, by first | decide | omega, ?_⟩
          refine at_sipush 127 (nI 1000) dX1_isSure_124 rfl (by decide) ?_
          first | refine at_imulN 128 dX1_isSure_127 rfl ?_ | refine at_imul 128 dX1_isSure_127 rfl ?_
          refine at_icmp_leN 133 131 dX1_isSure_128 rfl rfl (by omega) (by omega) (fun cc => ?_) (fun cc => ?_)
          · refine at_iincN (q := 1) (L' := [_, _, _, _, _, _, _, _, _]) 136 dX1_isSure_133 rfl (by decide) rfl (by decide) rfl rfl ?_
            refine at_goto 3 dX1_isSure_136 rfl ?_
            refine at_drop (L' := [_, _, _, _, _, _, _, _, _]) 5 rfl ?_
            refine at_drop (L' := [_, _, _, _, _, _, _, _, _]) 6 rfl ?_
            refine at_drop (L' := [_, _, _, _, _, _, _, _, _]) 7 rfl ?_
            refine ih (i + 1) (by omega) (fun j hj2 => ?_)
            by_cases e : j = i
            · subst e
              rw [← el j (by omega), ← em j (by omega)]
              exact ⟨c1, cc⟩
            · exact hj j (by omega)
          · refine at_iconst 132 (nI 0) dX1_isSure_131 rfl (by decide) ?_
            refine at_zret dX1_isSure_132 rfl (by first | rfl | decide) (by decide) (by decide) ?_
            refine ⟨bI_F (fun q => ?_), rfl⟩
            have q1 := (of_decide_eq_true (allB_iff.mp q i (by omega))).2
            rw [em i (by omega)] at cc
            omega
        | succ e ih2 =>
          intro f hf
          obtain ⟨wk, ak, ek⟩ := hmk f (by omega)
          replace ek : ∀ i, i < 4 → wk i = mk (4 * f + i) := ek
          have b1 := hmb (4 * f + i) (by omega)
          have b2 := hdb f (by omega)
          refine at_iload 20 dX1_isSure_18 rfl rfl ?_
          refine at_aload_n 21 dX1_isSure_20 rfl rfl rfl ?_
          refine at_g 24 dX1_isSure_21 rfl fl_X1_37 ⟨_, by assumption, ?_⟩
          refine ⟨_, rfl, ?_⟩
          refine at_icmp_geN 95 27 dX1_isSure_24 rfl rfl (by omega) (by omega) (fun cc => ?_) (fun cc => ?_)
          · omega
          refine at_aload_n 28 dX1_isSure_27 rfl rfl rfl ?_
          refine at_g 31 dX1_isSure_28 rfl fl_X1_40 ⟨_, by assumption, ?_⟩
          refine ⟨_, rfl, ?_⟩
          refine at_iload 33 dX1_isSure_31 rfl rfl ?_
          refine at_aa 34 dX1_isSure_33 rfl ⟨_, _, by assumption, by omega, by first | decide | omega, ?_⟩
          refine ⟨_, rowsAt_in (by omega), ?_⟩
          refine at_iload 36 dX1_isSure_34 rfl rfl ?_
          first | refine at_ia 37 dX1_isSure_36 rfl ⟨_, _, by assumption, by omega, by first | decide | omega, ?_⟩ | refine at_iaG 37 dX1_isSure_36 rfl ⟨_, _, by assumption, by omega, by first | decide | omega, ?_⟩
          rw [ek i (by omega)]
          refine at_istore (L' := [_, _, _, _, _, _, _, _, _]) 39 dX1_isSure_37 rfl (by decide) rfl rfl ?_
          refine at_iload 41 dX1_isSure_39 rfl rfl ?_
          refine at_aload_n 42 dX1_isSure_41 rfl rfl rfl ?_
          refine at_iload 44 dX1_isSure_42 rfl rfl ?_
          first | refine at_ia 45 dX1_isSure_44 rfl ⟨_, _, by assumption, by omega, by first | decide | omega, ?_⟩ | refine at_iaG 45 dX1_isSure_44 rfl ⟨_, _, by assumption, by omega, by first | decide | omega, ?_⟩
          refine at_iload 47 dX1_isSure_45 rfl rfl ?_
          refine at_aload_n 48 dX1_isSure_47 rfl rfl rfl ?_
          refine at_g 51 dX1_isSure_48 rfl fl_X1_43 ⟨_, by assumption, ?_⟩
          refine ⟨_, rfl, ?_⟩
          refine at_iload 53 dX1_isSure_51 rfl rfl ?_
          first | refine at_ia 54 dX1_isSure_53 rfl ⟨_, _, by assumption, by omega, by first | decide | omega, ?_⟩ | refine at_iaG 54 dX1_isSure_53 rfl ⟨_, _, by assumption, by omega, by first | decide | omega, ?_⟩
          refine at_isub 55 dX1_isSure_54 rfl ?_
          refine at_iconst 56 (nI 0) dX1_isSure_55 rfl (by decide) ?_
          refine at_max 59 dX1_isSure_56 rfl ml_X1_46 jw_max (Nat.le_of_ble_eq_true rfl) (by decide) (by decide) ?_
          rw [max_sub (by omega) (by omega)]
          first | refine at_imulN 60 dX1_isSure_59 rfl ?_ | refine at_imul 60 dX1_isSure_59 rfl ?_
          first | refine at_iaddN 61 dX1_isSure_60 rfl ?_ | refine at_iadd 61 dX1_isSure_60 rfl ?_
          refine at_istore (L' := [_, _, _, _, _, _, _, _, _]) 63 dX1_isSure_61 rfl (by decide) rfl rfl ?_
          refine at_iload 65 dX1_isSure_63 rfl rfl ?_
          refine at_aload_n 66 dX1_isSure_65 rfl rfl rfl ?_
          refine at_iload 68 dX1_isSure_66 rfl rfl ?_
          first | refine at_ia 69 dX1_isSure_68 rfl ⟨_, _, by assumption, by omega, by first | decide | omega, ?_⟩ | refine at_iaG 69 dX1_isSure_68 rfl ⟨_, _, by assumption, by omega, by first | decide | omega, ?_⟩
          refine at_iload 71 dX1_isSure_69 rfl rfl ?_
          refine at_aload_n 72 dX1_isSure_71 rfl rfl rfl ?_
          refine at_g 75 dX1_isSure_72 rfl fl_X1_43 ⟨_, by assumption, ?_⟩
          refine ⟨_, rfl, ?_⟩
          refine at_iload 77 dX1_isSure_75 rfl rfl ?_
          first | refine at_ia 78 dX1_isSure_77 rfl ⟨_, _, by assumption, by omega, by first | decide | omega, ?_⟩ | refine at_iaG 78 dX1_isSure_77 rfl ⟨_, _, by assumption, by omega, by first | decide | omega, ?_⟩
          first | refine at_iaddN 79 dX1_isSure_78 rfl ?_ | refine at_iadd 79 dX1_isSure_78 rfl ?_
          refine at_sipush 82 (nI 1000) dX1_isSure_79 rfl (by decide) ?_
          refine at_min 85 dX1_isSure_82 rfl ml_X1_52 jw_min (Nat.le_of_ble_eq_true rfl) (by decide) (by decide) ?_
          rw [min_cap (by omega)]
          first | refine at_imulN 86 dX1_isSure_85 rfl ?_ | refine at_imul 86 dX1_isSure_85 rfl ?_
          first | refine at_iaddN 87 dX1_isSure_86 rfl ?_ | refine at_iadd 87 dX1_isSure_86 rfl ?_
          refine at_istore (L' := [_, _, _, _, _, _, _, _, _]) 89 dX1_isSure_87 rfl (by decide) rfl rfl ?_
          refine at_iincN (q := 1) (L' := [_, _, _, _, _, _, _, _, _]) 92 dX1_isSure_89 rfl (by decide) rfl (by decide) rfl rfl ?_
          refine at_goto 18 dX1_isSure_92 rfl ?_
          refine at_drop (L' := [_, _, _, _, _, _, _, _, _]) 8 rfl ?_
          exact ih2 (f + 1) (by omega)
      exact inner n 0 (by omega)
  exact loop 4 0 (by omega) (fun j hj => by omega)

