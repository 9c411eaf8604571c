theorem c_X2_add {h : List PC} {n k a b c d q p : Nat} {kd db pr w : Nat → Nat} (hF : h[4]? = some (oFeeds n)) (hk : h[5]? = some (aI 8 kd)) (hm : h[6]? = some (aR 8 (rowsAt 6 8))) (hr : h[7 + n]? = some (aI 4 w)) (hb : h[15]? = some (aI 8 db)) (hp : h[16]? = some (aI 8 pr)) (hn : n < 8) : Ct mX2_add [.ref 4, .int (nI k), .int (nI a), .int (nI b), .int (nI c), .int (nI d), .int (nI q), .int (nI p)] h (fun r h' => r = some (.int (nI n)) ∧ h'[4]? = some (oFeeds (n + 1)) ∧ h'[5]? = some (aI 8 (updN kd n k)) ∧ h'[7 + n]? = some (aI 4 (updN (updN (updN (updN w 0 a) 1 b) 2 c) 3 d)) ∧ h'[15]? = some (aI 8 (updN db n q)) ∧ h'[16]? = some (aI 8 (updN pr n p)) ∧ Fr (fun j => j = 4 ∨ j = 5 ∨ j = 7 + n ∨ j = 15 ∨ j = 16) h h') := by
  refine ct_at (L := [_, _, _, _, _, _, _, _, _]) (by decide +kernel) rfl rfl (Nat.le_of_ble_eq_true rfl) ?_
  have hfr : Fr (fun j => j = 4 ∨ j = 5 ∨ j = 7 + n ∨ j = 15 ∨ j = 16) h h := Fr.rf
  refine at_aload_n 1 dX2_add_0 rfl rfl rfl ?_
  refine at_g 4 dX2_add_1 rfl fl_X2_29 ⟨_, by assumption, ?_⟩
  refine ⟨_, rfl, ?_⟩
  refine at_bipush 6 (nI 8) dX2_add_4 rfl (by decide) ?_
  refine at_icmp_ltN 12 9 dX2_add_6 rfl rfl (by omega) (by omega) (fun cc => ?_) (fun cc => ?_)
  rotate_left
  · omega
  refine at_aload_n 13 dX2_add_12 rfl rfl rfl ?_
  refine at_g 16 dX2_add_13 rfl fl_X2_29 ⟨_, by assumption, ?_⟩
  refine ⟨_, rfl, ?_⟩
  refine at_istore (L' := [_, _, _, _, _, _, _, _, _]) 18 dX2_add_16 rfl (by decide) rfl rfl ?_
  refine at_aload_n 19 dX2_add_18 rfl rfl rfl ?_
  refine at_g 22 dX2_add_19 rfl fl_X2_9 ⟨_, by assumption, ?_⟩
  refine ⟨_, rfl, ?_⟩
  refine at_iload 24 dX2_add_22 rfl rfl ?_
  refine at_iload_n 25 dX2_add_24 rfl rfl rfl ?_
  first | refine at_is 26 dX2_add_25 rfl ⟨_, _, by assumption, by omega, by first | decide | omega, fun hh1 nn1 => ?_⟩ | refine at_isG 26 dX2_add_25 rfl ⟨_, _, by assumption, by omega, by first | decide | omega, fun hh1 nn1 => ?_⟩
  replace hF := nn1.o (by first | decide | omega | assumption) hF
  replace hk := nn1.1
  replace hm := nn1.o (by first | decide | omega | assumption) hm
  replace hr := nn1.o (by first | decide | omega | assumption) hr
  replace hb := nn1.o (by first | decide | omega | assumption) hb
  replace hp := nn1.o (by first | decide | omega | assumption) hp
  replace hfr := hfr.nw nn1 (by first | (dsimp only; omega) | (dsimp only; done) | simp)
  clear nn1
  refine at_aload_n 27 dX2_add_26 rfl rfl rfl ?_
  refine at_g 30 dX2_add_27 rfl fl_X2_17 ⟨_, by assumption, ?_⟩
  refine ⟨_, rfl, ?_⟩
  refine at_iload 32 dX2_add_30 rfl rfl ?_
  refine at_aa 33 dX2_add_32 rfl ⟨_, _, by assumption, by omega, by first | decide | omega, ?_⟩
  refine ⟨_, rowsAt_in (by omega), ?_⟩
  refine at_iconst 34 (nI 0) dX2_add_33 rfl (by decide) ?_
  refine at_iload_n 35 dX2_add_34 rfl rfl rfl ?_
  first | refine at_is 36 dX2_add_35 rfl ⟨_, _, by assumption, by omega, by first | decide | omega, fun hh2 nn2 => ?_⟩ | refine at_isG 36 dX2_add_35 rfl ⟨_, _, by assumption, by omega, by first | decide | omega, fun hh2 nn2 => ?_⟩
  replace hF := nn2.o (by first | decide | omega | assumption) hF
  replace hk := nn2.o (by first | decide | omega | assumption) hk
  replace hm := nn2.o (by first | decide | omega | assumption) hm
  replace hr := nn2.1
  replace hb := nn2.o (by first | decide | omega | assumption) hb
  replace hp := nn2.o (by first | decide | omega | assumption) hp
  replace hfr := hfr.nw nn2 (by first | (dsimp only; omega) | (dsimp only; done) | simp)
  clear nn2
  refine at_aload_n 37 dX2_add_36 rfl rfl rfl ?_
  refine at_g 40 dX2_add_37 rfl fl_X2_17 ⟨_, by assumption, ?_⟩
  refine ⟨_, rfl, ?_⟩
  refine at_iload 42 dX2_add_40 rfl rfl ?_
  refine at_aa 43 dX2_add_42 rfl ⟨_, _, by assumption, by omega, by first | decide | omega, ?_⟩
  refine ⟨_, rowsAt_in (by omega), ?_⟩
  refine at_iconst 44 (nI 1) dX2_add_43 rfl (by decide) ?_
  refine at_iload_n 45 dX2_add_44 rfl rfl rfl ?_
  first | refine at_is 46 dX2_add_45 rfl ⟨_, _, by assumption, by omega, by first | decide | omega, fun hh3 nn3 => ?_⟩ | refine at_isG 46 dX2_add_45 rfl ⟨_, _, by assumption, by omega, by first | decide | omega, fun hh3 nn3 => ?_⟩
  replace hF := nn3.o (by first | decide | omega | assumption) hF
  replace hk := nn3.o (by first | decide | omega | assumption) hk
  replace hm := nn3.o (by first | decide | omega | assumption) hm
  replace hr := nn3.1
  replace hb := nn3.o (by first | decide | omega | assumption) hb
  replace hp := nn3.o (by first | decide | omega | assumption) hp
  replace hfr := hfr.nw nn3 (by first | (dsimp only; omega) | (dsimp only; done) | simp)
  clear nn3
  refine at_aload_n 47 dX2_add_46 rfl rfl rfl ?_
  refine at_g 50 dX2_add_47 rfl fl_X2_17 ⟨_, by assumption, ?_⟩
  refine ⟨_, rfl, ?_⟩
  refine at_iload 52 dX2_add_50 rfl rfl ?_
  refine at_aa 53 dX2_add_52 rfl ⟨_, _, by assumption, by omega, by first | decide | omega, ?_⟩
  refine ⟨_, rowsAt_in (by omega), ?_⟩
  refine at_iconst 54 (nI 2) dX2_add_53 rfl (by decide) ?_
  refine at_iload 56 dX2_add_54 rfl rfl ?_
  first | refine at_is 57 dX2_add_56 rfl ⟨_, _, by assumption, by omega, by first | decide | omega, fun hh4 nn4 => ?_⟩ | refine at_isG 57 dX2_add_56 rfl ⟨_, _, by assumption, by omega, by first | decide | omega, fun hh4 nn4 => ?_⟩
  replace hF := nn4.o (by first | decide | omega | assumption) hF
  replace hk := nn4.o (by first | decide | omega | assumption) hk
  replace hm := nn4.o (by first | decide | omega | assumption) hm
  replace hr := nn4.1
  replace hb := nn4.o (by first | decide | omega | assumption) hb
  replace hp := nn4.o (by first | decide | omega | assumption) hp
  replace hfr := hfr.nw nn4 (by first | (dsimp only; omega) | (dsimp only; done) | simp)
  clear nn4
  refine at_aload_n 58 dX2_add_57 rfl rfl rfl ?_
  refine at_g 61 dX2_add_58 rfl fl_X2_17 ⟨_, by assumption, ?_⟩
  refine ⟨_, rfl, ?_⟩
  refine at_iload 63 dX2_add_61 rfl rfl ?_
  refine at_aa 64 dX2_add_63 rfl ⟨_, _, by assumption, by omega, by first | decide | omega, ?_⟩
  refine ⟨_, rowsAt_in (by omega), ?_⟩
  refine at_iconst 65 (nI 3) dX2_add_64 rfl (by decide) ?_
  refine at_iload 67 dX2_add_65 rfl rfl ?_
  first | refine at_is 68 dX2_add_67 rfl ⟨_, _, by assumption, by omega, by first | decide | omega, fun hh5 nn5 => ?_⟩ | refine at_isG 68 dX2_add_67 rfl ⟨_, _, by assumption, by omega, by first | decide | omega, fun hh5 nn5 => ?_⟩
  replace hF := nn5.o (by first | decide | omega | assumption) hF
  replace hk := nn5.o (by first | decide | omega | assumption) hk
  replace hm := nn5.o (by first | decide | omega | assumption) hm
  replace hr := nn5.1
  replace hb := nn5.o (by first | decide | omega | assumption) hb
  replace hp := nn5.o (by first | decide | omega | assumption) hp
  replace hfr := hfr.nw nn5 (by first | (dsimp only; omega) | (dsimp only; done) | simp)
  clear nn5
  refine at_aload_n 69 dX2_add_68 rfl rfl rfl ?_
  refine at_g 72 dX2_add_69 rfl fl_X2_20 ⟨_, by assumption, ?_⟩
  refine ⟨_, rfl, ?_⟩
  refine at_iload 74 dX2_add_72 rfl rfl ?_
  refine at_iload 76 dX2_add_74 rfl rfl ?_
  first | refine at_is 77 dX2_add_76 rfl ⟨_, _, by assumption, by omega, by first | decide | omega, fun hh6 nn6 => ?_⟩ | refine at_isG 77 dX2_add_76 rfl ⟨_, _, by assumption, by omega, by first | decide | omega, fun hh6 nn6 => ?_⟩
  replace hF := nn6.o (by first | decide | omega | assumption) hF
  replace hk := nn6.o (by first | decide | omega | assumption) hk
  replace hm := nn6.o (by first | decide | omega | assumption) hm
  replace hr := nn6.o (by first | decide | omega | assumption) hr
  replace hb := nn6.1
  replace hp := nn6.o (by first | decide | omega | assumption) hp
  replace hfr := hfr.nw nn6 (by first | (dsimp only; omega) | (dsimp only; done) | simp)
  clear nn6
  refine at_aload_n 78 dX2_add_77 rfl rfl rfl ?_
  refine at_g 81 dX2_add_78 rfl fl_X2_23 ⟨_, by assumption, ?_⟩
  refine ⟨_, rfl, ?_⟩
  refine at_iload 83 dX2_add_81 rfl rfl ?_
  refine at_iload 85 dX2_add_83 rfl rfl ?_
  first | refine at_is 86 dX2_add_85 rfl ⟨_, _, by assumption, by omega, by first | decide | omega, fun hh7 nn7 => ?_⟩ | refine at_isG 86 dX2_add_85 rfl ⟨_, _, by assumption, by omega, by first | decide | omega, fun hh7 nn7 => ?_⟩
  replace hF := nn7.o (by first | decide | omega | assumption) hF
  replace hk := nn7.o (by first | decide | omega | assumption) hk
  replace hm := nn7.o (by first | decide | omega | assumption) hm
  replace hr := nn7.o (by first | decide | omega | assumption) hr
  replace hb := nn7.o (by first | decide | omega | assumption) hb
  replace hp := nn7.1
  replace hfr := hfr.nw nn7 (by first | (dsimp only; omega) | (dsimp only; done) | simp)
  clear nn7
  refine at_aload_n 87 dX2_add_86 rfl rfl rfl ?_
  refine at_dup 88 dX2_add_87 rfl rfl ?_
  refine at_g 91 dX2_add_88 rfl fl_X2_29 ⟨_, by assumption, ?_⟩
  refine ⟨_, rfl, ?_⟩
  refine at_iconst 92 (nI 1) dX2_add_91 rfl (by decide) ?_
  first | refine at_iaddN 93 dX2_add_92 rfl ?_ | refine at_iadd 93 dX2_add_92 rfl ?_
  refine at_pi 96 dX2_add_93 rfl pl_X2_29 (rfl) (rfl) ⟨_, by assumption, ?_⟩
  refine ⟨(Nat.le_of_ble_eq_true rfl), [_, _, _, _, _, _], rfl, fun hh8 nn8 => ?_⟩
  replace hF := nn8.1
  replace hk := nn8.o (by first | decide | omega | assumption) hk
  replace hm := nn8.o (by first | decide | omega | assumption) hm
  replace hr := nn8.o (by first | decide | omega | assumption) hr
  replace hb := nn8.o (by first | decide | omega | assumption) hb
  replace hp := nn8.o (by first | decide | omega | assumption) hp
  replace hfr := hfr.nw nn8 (by first | (dsimp only; omega) | (dsimp only; done) | simp)
  clear nn8
  refine at_iload 98 dX2_add_96 rfl rfl ?_
  refine at_iret dX2_add_98 rfl (by decide) (by decide) ?_
  exact ⟨rfl, hF, hk, hr, hb, hp, hfr⟩
theorem c_X2_add_full {h : List PC} {n : Nat} (k a b c d q p : Int32) (hF : h[4]? = some (oFeeds n)) (hn : 8 ≤ n) (hn2 : n < 2 ^ 31) : Ct mX2_add [.ref 4, .int k, .int a, .int b, .int c, .int d, .int q, .int p] h (fun r h' => r = some (.int (-1000000000)) ∧ h' = h) := by
  refine ct_at (L := [_, _, _, _, _, _, _, _, _]) (by decide +kernel) rfl rfl (Nat.le_of_ble_eq_true rfl) ?_
  refine at_aload_n 1 dX2_add_0 rfl rfl rfl ?_
  refine at_g 4 dX2_add_1 rfl fl_X2_29 ⟨_, by assumption, ?_⟩
  refine ⟨_, rfl, ?_⟩
  refine at_bipush 6 (nI 8) dX2_add_4 rfl (by decide) ?_
  refine at_icmp_ltN 12 9 dX2_add_6 rfl rfl (by omega) (by omega) (fun cc => ?_) (fun cc => ?_)
  · omega
  refine at_ldc 11 (-1000000000) dX2_add_9 rfl cn_X2_33 ?_
  refine at_iret dX2_add_11 rfl (by decide) (by decide) ?_
  exact ⟨rfl, rfl⟩
def allB (P : Nat → Bool) : Nat → Bool
  | 0 => true
  | n + 1 => allB P n && P n
theorem allB_iff {P : Nat → Bool} : ∀ {n : Nat}, allB P n = true ↔ ∀ i, i < n → P i = true
  | 0 => ⟨fun _ i hi => absurd hi (Nat.not_lt_zero _), fun _ => rfl⟩
  | n + 1 => by
    unfold allB
    rw [Bool.and_eq_true, allB_iff (n := n)]
    refine ⟨fun q i hi => ?_, fun q => ⟨fun i hi => q i (by omega), q n (by omega)⟩⟩
    by_cases e : i = n
    · rw [e]; exact q.2
    · exact q.1 i (by omega)
theorem bI_T {b : Bool} (h : b = true) : (some (Value.int (nI 1)) : Option Value) = some (.int (bI b)) := by rw [h]; rfl
theorem bI_F {b : Bool} (h : ¬ b = true) : (some (Value.int (nI 0)) : Option Value) = some (.int (bI b)) := by rw [Bool.not_eq_true] at h; rw [h]; rfl
theorem c_X2_haveAll {h : List PC} {n kt : Nat} {s t : Nat → Nat} (hF : h[4]? = some (oFeeds n)) (hS : h[17]? = some (aI 8 s)) (hT : h[kt]? = some (aI 8 t)) (hs : ∀ i, i < 8 → s i < 2 ^ 31) (ht : ∀ i, i < 8 → t i < 2 ^ 31) : Ct mX2_haveAll [.ref 4, .ref kt] h (fun r h' => r = some (.int (bI (allB (fun i => decide (t i ≤ s i)) 8))) ∧ h' = h) := by
  refine ct_at (L := [_, _, _]) (by decide +kernel) rfl rfl (Nat.le_of_ble_eq_true rfl) ?_
  refine at_iconst 1 (nI 0) dX2_haveAll_0 rfl (by decide) ?_
  refine at_istore_n (L' := [_, _, _]) 2 dX2_haveAll_1 rfl rfl (by decide) rfl rfl ?_
  have loop : ∀ (d i : Nat), i + d = 8 → (∀ j, j < i → t j ≤ s j) → At mX2_haveAll T0 2 [.ref 4, .ref kt, .int (nI i)] [] h 0 0 (ZM mX2_haveAll (fun r h' => r = some (.int (bI (allB (fun i => decide (t i ≤ s i)) 8))) ∧ h' = h)) := by
    intro d
    induction d with
    | zero =>
      intro i hi hj
      refine at_iload_n 3 dX2_haveAll_2 rfl rfl rfl ?_
      refine at_bipush 5 (nI 8) dX2_haveAll_3 rfl (by decide) ?_
      refine at_icmp_geN 28 8 dX2_haveAll_5 rfl rfl (by omega) (by omega) (fun cc => ?_) (fun cc => ?_)
      · refine at_iconst 29 (nI 1) dX2_haveAll_28 rfl (by decide) ?_
        refine at_zret dX2_haveAll_29 rfl (by first | rfl | decide) (by decide) (by decide) ?_
        exact ⟨bI_T (allB_iff.mpr (fun j hj8 => decide_eq_true (hj j (by omega)))), rfl⟩
      · omega
    | succ d ih =>
      intro i hi hj
      refine at_iload_n 3 dX2_haveAll_2 rfl rfl rfl ?_
      refine at_bipush 5 (nI 8) dX2_haveAll_3 rfl (by decide) ?_
      refine at_icmp_geN 28 8 dX2_haveAll_5 rfl rfl (by omega) (by omega) (fun cc => ?_) (fun cc => ?_)
      · omega
      refine at_aload_n 9 dX2_haveAll_8 rfl rfl rfl ?_
      refine at_g 12 dX2_haveAll_9 rfl fl_X2_26 ⟨_, by assumption, ?_⟩
      refine ⟨_, rfl, ?_⟩
      refine at_iload_n 13 dX2_haveAll_12 rfl rfl rfl ?_
      first | refine at_ia 14 dX2_haveAll_13 rfl ⟨_, _, by assumption, by omega, by first | decide | omega, ?_⟩ | refine at_iaG 14 dX2_haveAll_13 rfl ⟨_, _, by assumption, by omega, by first | decide | omega, ?_⟩
      refine at_aload_n 15 dX2_haveAll_14 rfl rfl rfl ?_
      refine at_iload_n 16 dX2_haveAll_15 rfl rfl rfl ?_
      first | refine at_ia 17 dX2_haveAll_16 rfl ⟨_, _, by assumption, by omega, by first | decide | omega, ?_⟩ | refine at_iaG 17 dX2_haveAll_16 rfl ⟨_, _, by assumption, by omega, by first | decide | omega, ?_⟩
      refine at_icmp_geN 22 20 dX2_haveAll_17 rfl rfl (hs _ (by omega)) (ht _ (by omega)) (fun cc => ?_) (fun cc => ?_)
      · refine at_iincN (q := 1) (L' := [_, _, _]) 25 dX2_haveAll_22 rfl (by decide) rfl (by decide) rfl rfl ?_
        refine at_goto 2 dX2_haveAll_25 rfl ?_
        refine ih (i + 1) (by omega) (fun j hj2 => ?_)
        by_cases e : j = i
        · rw [e]; exact cc
        · exact hj j (by omega)
      · refine at_iconst 21 (nI 0) dX2_haveAll_20 rfl (by decide) ?_
        refine at_zret dX2_haveAll_21 rfl (by first | rfl | decide) (by decide) (by decide) ?_
        exact ⟨bI_F (fun q => by have := of_decide_eq_true (allB_iff.mp q i (by omega)); omega), rfl⟩
  exact loop 8 0 (by omega) (fun j hj => by omega)
theorem c_X2_takeAll {h : List PC} {n kt : Nat} {s t : Nat → Nat} (hF : h[4]? = some (oFeeds n)) (hS : h[17]? = some (aI 8 s)) (hT : h[kt]? = some (aI 8 t)) (hk : kt ≠ 17) (hst : ∀ i, i < 8 → t i ≤ s i) : Ct mX2_takeAll [.ref 4, .ref kt] h (fun r h' => r = none ∧ h'[17]? = some (aI 8 (fun i => if i < 8 then s i - t i else s i)) ∧ Fr (fun j => j = 17) h h') := by
  refine ct_at (L := [_, _, _]) (by decide +kernel) rfl rfl (Nat.le_of_ble_eq_true rfl) ?_
  refine at_iconst 1 (nI 0) dX2_takeAll_0 rfl (by decide) ?_
  refine at_istore_n (L' := [_, _, _]) 2 dX2_takeAll_1 rfl rfl (by decide) rfl rfl ?_
  have loop : ∀ (d j : Nat) (h1 : List PC), j + d = 8 → h1[17]? = some (aI 8 (fun i => if i < j then s i - t i else s i)) → Fr (fun j => j = 17) h h1 → At mX2_takeAll T0 2 [.ref 4, .ref kt, .int (nI j)] [] h1 0 0 (ZM mX2_takeAll (fun r h' => r = none ∧ h'[17]? = some (aI 8 (fun i => if i < 8 then s i - t i else s i)) ∧ Fr (fun j => j = 17) h h')) := by
    intro d
    induction d with
    | zero =>
      intro j h1 hj hS1 hfr
      have : j = 8 := by omega
      subst this
      refine at_iload_n 3 dX2_takeAll_2 rfl rfl rfl ?_
      refine at_bipush 5 (nI 8) dX2_takeAll_3 rfl (by decide) ?_
      refine at_icmp_geN 26 8 dX2_takeAll_5 rfl rfl (by omega) (by omega) (fun cc => ?_) (fun cc => ?_)
      · refine at_vret dX2_takeAll_26 rfl (by decide) (by decide) ?_
        exact ⟨rfl, hS1, hfr⟩
      · omega
    | succ d ih =>
      intro j h1 hj hS1 hfr
      have hF1 := hfr.at (k := 4) (by decide) hF
      have hT1 := hfr.at hk hT
      have hj8 := hst j (by omega)
      refine at_iload_n 3 dX2_takeAll_2 rfl rfl rfl ?_
      refine at_bipush 5 (nI 8) dX2_takeAll_3 rfl (by decide) ?_
      refine at_icmp_geN 26 8 dX2_takeAll_5 rfl rfl (by omega) (by omega) (fun cc => ?_) (fun cc => ?_)
      · omega
      · refine at_aload_n 9 dX2_takeAll_8 rfl rfl rfl ?_
        refine at_g 12 dX2_takeAll_9 rfl fl_X2_26 ⟨_, by assumption, ?_⟩
        refine ⟨_, rfl, ?_⟩
        refine at_iload_n 13 dX2_takeAll_12 rfl rfl rfl ?_
        refine at_dup2 14 dX2_takeAll_13 rfl rfl rfl ?_
        first | refine at_ia 15 dX2_takeAll_14 rfl ⟨_, _, by assumption, by omega, by first | decide | omega, ?_⟩ | refine at_iaG 15 dX2_takeAll_14 rfl ⟨_, _, by assumption, by omega, by first | decide | omega, ?_⟩
        refine at_aload_n 16 dX2_takeAll_15 rfl rfl rfl ?_
        refine at_iload_n 17 dX2_takeAll_16 rfl rfl rfl ?_
        first | refine at_ia 18 dX2_takeAll_17 rfl ⟨_, _, by assumption, by omega, by first | decide | omega, ?_⟩ | refine at_iaG 18 dX2_takeAll_17 rfl ⟨_, _, by assumption, by omega, by first | decide | omega, ?_⟩
        rw [if_neg (Nat.lt_irrefl j)]
        first | refine at_isubN 19 dX2_takeAll_18 rfl (by omega) ?_ | refine at_isub 19 dX2_takeAll_18 rfl ?_
        first | refine at_is 20 dX2_takeAll_19 rfl ⟨_, _, by assumption, by omega, by first | decide | omega, fun hh9 nn9 => ?_⟩ | refine at_isG 20 dX2_takeAll_19 rfl ⟨_, _, by assumption, by omega, by first | decide | omega, fun hh9 nn9 => ?_⟩
        replace hF1 := nn9.o (by first | decide | omega | assumption) hF1
        replace hS1 := nn9.1
        replace hT1 := nn9.o (by first | decide | omega | assumption) hT1
        replace hfr := hfr.nw nn9 (by first | (dsimp only; omega) | (dsimp only; done) | simp)
        clear nn9
        refine at_iincN (q := 1) (L' := [_, _, _]) 23 dX2_takeAll_20 rfl (by decide) rfl (by decide) rfl rfl ?_
        refine at_goto 2 dX2_takeAll_23 rfl ?_
        refine ih (j + 1) _ (by omega) ?_ hfr
        rw [hS1]
        congr 2
        funext i
        unfold updN
        by_cases e : i = j
        · subst e; simp
        · by_cases e2 : i < j
          · simp [e, e2, show i < j + 1 by omega]
          · simp [e, e2, show ¬ i < j + 1 by omega]
  exact loop 8 0 h (by decide) (by simpa using hS) Fr.rf
/-- the first own feed from i on -/
def ownF (kd : Nat → Nat) (n : Nat) : Nat → Nat → Nat
  | 0, i => i
  | d + 1, i => if kd i = 3 then i else ownF kd n d (i + 1)
def backS (kd s : Nat → Nat) (n g : Nat) : Nat → Nat := if ownF kd n n 0 < n then updN s (ownF kd n n 0) (if 10000000 < s (ownF kd n n 0) + g then 10000000 else s (ownF kd n n 0) + g) else s
theorem ownF_ge (kd : Nat → Nat) (n : Nat) : ∀ d i, i ≤ ownF kd n d i ∧ ownF kd n d i ≤ i + d
  | 0, i => ⟨Nat.le_refl _, Nat.le_refl _⟩
  | d + 1, i => by
    unfold ownF
    by_cases e : kd i = 3
    · rw [if_pos e]; omega
    · rw [if_neg e]
      have := ownF_ge kd n d (i + 1)
      omega
theorem c_X2_takeBack {h : List PC} {n g : Nat} {s kd : Nat → Nat} (hF : h[4]? = some (oFeeds n)) (hk : h[5]? = some (aI 8 kd)) (hS : h[17]? = some (aI 8 s)) (hn : n ≤ 8) (hkd : ∀ i, i < 8 → kd i < 4) (hs : ∀ i, i < 8 → s i ≤ 10000000) (hg : g ≤ 100000) : Ct mX2_takeBack [.ref 4, .int (nI g)] h (fun r h' => r = none ∧ h'[17]? = some (aI 8 (backS kd s n g)) ∧ Fr (fun j => j = 17) h h') := by
  refine ct_at (L := [_, _, _]) (by decide +kernel) rfl rfl (Nat.le_of_ble_eq_true rfl) ?_
  refine at_iconst 1 (nI 0) dX2_takeBack_0 rfl (by decide) ?_
  refine at_istore_n (L' := [_, _, _]) 2 dX2_takeBack_1 rfl rfl (by decide) rfl rfl ?_
  have loop : ∀ (d i : Nat), i + d = n → ownF kd n d i = ownF kd n n 0 → At mX2_takeBack T0 2 [.ref 4, .int (nI g), .int (nI i)] [] h 0 0 (ZM mX2_takeBack (fun r h' => r = none ∧ h'[17]? = some (aI 8 (backS kd s n g)) ∧ Fr (fun j => j = 17) h h')) := by
    intro d
    induction d with
    | zero =>
      intro i hi ho
      refine at_iload_n 3 dX2_takeBack_2 rfl rfl rfl ?_
      refine at_aload_n 4 dX2_takeBack_3 rfl rfl rfl ?_
      refine at_g 7 dX2_takeBack_4 rfl fl_X2_29 ⟨_, by assumption, ?_⟩
      refine ⟨_, rfl, ?_⟩
      refine at_icmp_geN 46 10 dX2_takeBack_7 rfl rfl (by omega) (by omega) (fun cc => ?_) (fun cc => ?_)
      · refine at_vret dX2_takeBack_46 rfl (by decide) (by decide) ?_
        refine ⟨rfl, ?_, Fr.rf⟩
        unfold backS
        rw [← ho]
        unfold ownF
        rw [if_neg (by omega)]
        exact hS
      · omega
    | succ d ih =>
      intro i hi ho
      have hfr : Fr (fun j => j = 17) h h := Fr.rf
      have hki := hkd i (by omega)
      have hsi := hs i (by omega)
      refine at_iload_n 3 dX2_takeBack_2 rfl rfl rfl ?_
      refine at_aload_n 4 dX2_takeBack_3 rfl rfl rfl ?_
      refine at_g 7 dX2_takeBack_4 rfl fl_X2_29 ⟨_, by assumption, ?_⟩
      refine ⟨_, rfl, ?_⟩
      refine at_icmp_geN 46 10 dX2_takeBack_7 rfl rfl (by omega) (by omega) (fun cc => ?_) (fun cc => ?_)
      · omega
      refine at_aload_n 11 dX2_takeBack_10 rfl rfl rfl ?_
      refine at_g 14 dX2_takeBack_11 rfl fl_X2_9 ⟨_, by assumption, ?_⟩
      refine ⟨_, rfl, ?_⟩
      refine at_iload_n 15 dX2_takeBack_14 rfl rfl rfl ?_
      first | refine at_ia 16 dX2_takeBack_15 rfl ⟨_, _, by assumption, by omega, by first | decide | omega, ?_⟩ | refine at_iaG 16 dX2_takeBack_15 rfl ⟨_, _, by assumption, by omega, by first | decide | omega, ?_⟩
      refine at_iconst 17 (nI 3) dX2_takeBack_16 rfl (by decide) ?_
      refine at_icmp_neN 40 20 dX2_takeBack_17 rfl rfl (by omega) (by omega) (fun cc => ?_) (fun cc => ?_)
      · refine at_iincN (q := 1) (L' := [_, _, _]) 43 dX2_takeBack_40 rfl (by decide) rfl (by decide) rfl rfl ?_
        refine at_goto 2 dX2_takeBack_43 rfl ?_
        refine ih (i + 1) (by omega) ?_
        rw [← ho]
        show _ = if kd i = 3 then i else ownF kd n d (i + 1)
        rw [if_neg cc]
      · have ho2 : ownF kd n n 0 = i := by
          rw [← ho]
          show (if kd i = 3 then i else ownF kd n d (i + 1)) = i
          rw [if_pos cc]
        refine at_aload_n 21 dX2_takeBack_20 rfl rfl rfl ?_
        refine at_g 24 dX2_takeBack_21 rfl fl_X2_26 ⟨_, by assumption, ?_⟩
        refine ⟨_, rfl, ?_⟩
        refine at_iload_n 25 dX2_takeBack_24 rfl rfl rfl ?_
        refine at_aload_n 26 dX2_takeBack_25 rfl rfl rfl ?_
        refine at_g 29 dX2_takeBack_26 rfl fl_X2_26 ⟨_, by assumption, ?_⟩
        refine ⟨_, rfl, ?_⟩
        refine at_iload_n 30 dX2_takeBack_29 rfl rfl rfl ?_
        first | refine at_ia 31 dX2_takeBack_30 rfl ⟨_, _, by assumption, by omega, by first | decide | omega, ?_⟩ | refine at_iaG 31 dX2_takeBack_30 rfl ⟨_, _, by assumption, by omega, by first | decide | omega, ?_⟩
        refine at_iload_n 32 dX2_takeBack_31 rfl rfl rfl ?_
        first | refine at_iaddN 33 dX2_takeBack_32 rfl ?_ | refine at_iadd 33 dX2_takeBack_32 rfl ?_
        refine at_ldc 35 (nI 10000000) dX2_takeBack_33 rfl cn_X2_34 ?_
        refine at_min 38 dX2_takeBack_35 rfl ml_X2_35 jw_min (Nat.le_of_ble_eq_true rfl) (by decide) (by decide) ?_
        have e9 : (if nI 10000000 < nI (s i + g) then nI 10000000 else nI (s i + g)) = nI (if 10000000 < s i + g then 10000000 else s i + g) := by
          by_cases e : 10000000 < s i + g
          · rw [if_pos e, if_pos ((nI_ltI (by decide) (by omega)).mpr e)]
          · rw [if_neg e, if_neg (fun q => e ((nI_ltI (by decide) (by omega)).mp q))]
        rw [e9]
        first | refine at_is 39 dX2_takeBack_38 rfl ⟨_, _, by assumption, by omega, by first | decide | omega, fun hh10 nn10 => ?_⟩ | refine at_isG 39 dX2_takeBack_38 rfl ⟨_, _, by assumption, by omega, by first | decide | omega, fun hh10 nn10 => ?_⟩
        replace hF := nn10.o (by first | decide | omega | assumption) hF
        replace hk := nn10.o (by first | decide | omega | assumption) hk
        replace hS := nn10.1
        replace hfr := hfr.nw nn10 (by first | (dsimp only; omega) | (dsimp only; done) | simp)
        clear nn10
        refine at_vret dX2_takeBack_39 rfl (by decide) (by decide) ?_
        refine ⟨rfl, ?_, hfr⟩
        unfold backS
        rw [ho2, if_pos (by omega)]
        exact hS
  exact loop n 0 (by omega) rfl
theorem c_X6_become {h : List PC} {m kg : Nat} {w a b : Nat → Nat} (hM : h[18]? = some (oMix m)) (ha : h[19]? = some (aI 8 a)) (hb : h[20]? = some (aI 8 b)) (hg : h[kg]? = some (aI 8 w)) (hk : kg ≠ 18 ∧ kg ≠ 19 ∧ kg ≠ 20) : Ct mX6_become [.ref 18, .ref kg] h (fun r h' => r = none ∧ Ar h' 19 8 w ∧ Ar h' 20 8 w ∧ h'[18]? = some (oMix 1) ∧ Fr (fun j => j = 18 ∨ j = 19 ∨ j = 20) h h') := by
  refine ct_at (L := [_, _, _]) (by decide +kernel) rfl rfl (Nat.le_of_ble_eq_true rfl) ?_
  refine at_iconst 1 (nI 0) dX6_become_0 rfl (by decide) ?_
  refine at_istore_n (L' := [_, _, _]) 2 dX6_become_1 rfl rfl (by decide) rfl rfl ?_
  have loop : ∀ (d i : Nat) (a b g : Nat → Nat) (h1 : List PC), i + d = 8 → h1[18]? = some (oMix m) → h1[19]? = some (aI 8 a) → h1[20]? = some (aI 8 b) → h1[kg]? = some (aI 8 g) → (∀ j, j < i → a j = w j ∧ b j = w j) → (∀ j, j < 8 → g j = w j) → Fr (fun j => j = 18 ∨ j = 19 ∨ j = 20) h h1 → At mX6_become T0 2 [.ref 18, .ref kg, .int (nI i)] [] h1 0 0 (ZM mX6_become (fun r h' => r = none ∧ Ar h' 19 8 w ∧ Ar h' 20 8 w ∧ h'[18]? = some (oMix 1) ∧ Fr (fun j => j = 18 ∨ j = 19 ∨ j = 20) h h')) := by
    intro d
    induction d with
    | zero =>
      intro i a b g h1 hi hM ha hb hg hab hgw hfr
      refine at_iload_n 3 dX6_become_2 rfl rfl rfl ?_
      refine at_bipush 5 (nI 8) dX6_become_3 rfl (by decide) ?_
      refine at_icmp_geN 32 8 dX6_become_5 rfl rfl (by omega) (by omega) (fun cc => ?_) (fun cc => ?_)
      · refine at_aload_n 33 dX6_become_32 rfl rfl rfl ?_
        refine at_iconst 34 (nI 1) dX6_become_33 rfl (by decide) ?_
        refine at_pi 37 dX6_become_34 rfl pl_X6_18 (by first | rfl | decide | assumption) (by first | rfl | decide | assumption) ⟨_, by assumption, ?_⟩
        refine ⟨(Nat.le_of_ble_eq_true rfl), [_, _, _], rfl, fun hh11 nn11 => ?_⟩
        replace hM := nn11.1
        replace ha := nn11.o (by first | decide | omega | assumption) ha
        replace hb := nn11.o (by first | decide | omega | assumption) hb
        replace hfr := hfr.nw nn11 (by first | (dsimp only; omega) | (dsimp only; done) | simp)
        clear nn11
        refine at_vret dX6_become_37 rfl (by decide) (by decide) ?_
        exact ⟨rfl, ⟨a, ha, fun j hj => (hab j (by omega)).1⟩, ⟨b, hb, fun j hj => (hab j (by omega)).2⟩, hM, hfr⟩
      · omega
    | succ d ih =>
      intro i a b g h1 hi hM ha hb hg hab hgw hfr
      refine at_iload_n 3 dX6_become_2 rfl rfl rfl ?_
      refine at_bipush 5 (nI 8) dX6_become_3 rfl (by decide) ?_
      refine at_icmp_geN 32 8 dX6_become_5 rfl rfl (by omega) (by omega) (fun cc => ?_) (fun cc => ?_)
      · omega
      refine at_aload_n 9 dX6_become_8 rfl rfl rfl ?_
      refine at_g 12 dX6_become_9 rfl fl_X6_9 ⟨_, by assumption, ?_⟩
      refine ⟨_, rfl, ?_⟩
      refine at_iload_n 13 dX6_become_12 rfl rfl rfl ?_
      refine at_aload_n 14 dX6_become_13 rfl rfl rfl ?_
      refine at_iload_n 15 dX6_become_14 rfl rfl rfl ?_
      first | refine at_ia 16 dX6_become_15 rfl ⟨_, _, by assumption, by omega, by first | decide | omega, ?_⟩ | refine at_iaG 16 dX6_become_15 rfl ⟨_, _, by assumption, by omega, by first | decide | omega, ?_⟩
      first | refine at_is 17 dX6_become_16 rfl ⟨_, _, by assumption, by omega, by first | decide | omega, fun hh12 nn12 => ?_⟩ | refine at_isG 17 dX6_become_16 rfl ⟨_, _, by assumption, by omega, by first | decide | omega, fun hh12 nn12 => ?_⟩
      replace hM := nn12.o (by first | decide | omega | assumption) hM
      replace ha := nn12.1
      replace hb := nn12.o (by first | decide | omega | assumption) hb
      replace hg := nn12.o (by first | decide | omega | assumption) hg
      replace hfr := hfr.nw nn12 (by first | (dsimp only; omega) | (dsimp only; done) | simp)
      clear nn12
      refine at_aload_n 18 dX6_become_17 rfl rfl rfl ?_
      refine at_g 21 dX6_become_18 rfl fl_X6_15 ⟨_, by assumption, ?_⟩
      refine ⟨_, rfl, ?_⟩
      refine at_iload_n 22 dX6_become_21 rfl rfl rfl ?_
      refine at_aload_n 23 dX6_become_22 rfl rfl rfl ?_
      refine at_iload_n 24 dX6_become_23 rfl rfl rfl ?_
      first | refine at_ia 25 dX6_become_24 rfl ⟨_, _, by assumption, by omega, by first | decide | omega, ?_⟩ | refine at_iaG 25 dX6_become_24 rfl ⟨_, _, by assumption, by omega, by first | decide | omega, ?_⟩
      first | refine at_is 26 dX6_become_25 rfl ⟨_, _, by assumption, by omega, by first | decide | omega, fun hh13 nn13 => ?_⟩ | refine at_isG 26 dX6_become_25 rfl ⟨_, _, by assumption, by omega, by first | decide | omega, fun hh13 nn13 => ?_⟩
      replace hM := nn13.o (by first | decide | omega | assumption) hM
      replace ha := nn13.o (by first | decide | omega | assumption) ha
      replace hb := nn13.1
      replace hg := nn13.o (by first | decide | omega | assumption) hg
      replace hfr := hfr.nw nn13 (by first | (dsimp only; omega) | (dsimp only; done) | simp)
      clear nn13
      refine at_iincN (q := 1) (L' := [_, _, _]) 29 dX6_become_26 rfl (by decide) rfl (by decide) rfl rfl ?_
      refine at_goto 2 dX6_become_29 rfl ?_
      refine ih (i + 1) _ _ g _ (by omega) hM ha hb hg (fun j hj => ?_) hgw hfr
      by_cases e : j = i
      · subst e; rw [updN_s, updN_s]; exact ⟨hgw j (by omega), hgw j (by omega)⟩
      · rw [updN_n _ _ e, updN_n _ _ e]; exact hab j (by omega)
  exact loop 8 0 a b w h (by omega) hM ha hb hg (fun j hj => by omega) (fun _ _ => rfl) Fr.rf
theorem c_X6_become_self {h : List PC} {m : Nat} {a b : Nat → Nat} (hM : h[18]? = some (oMix m)) (ha : h[19]? = some (aI 8 a)) (hb : h[20]? = some (aI 8 b)) : Ct mX6_become [.ref 18, .ref 20] h (fun r h' => r = none ∧ Ar h' 19 8 b ∧ Ar h' 20 8 b ∧ h'[18]? = some (oMix 1) ∧ Fr (fun j => j = 18 ∨ j = 19 ∨ j = 20) h h') := by
  refine ct_at (L := [_, _, _]) (by decide +kernel) rfl rfl (Nat.le_of_ble_eq_true rfl) ?_
  refine at_iconst 1 (nI 0) dX6_become_0 rfl (by decide) ?_
  refine at_istore_n (L' := [_, _, _]) 2 dX6_become_1 rfl rfl (by decide) rfl rfl ?_
  have loop : ∀ (d i : Nat) (a : Nat → Nat) (h1 : List PC), i + d = 8 → h1[18]? = some (oMix m) → h1[19]? = some (aI 8 a) → h1[20]? = some (aI 8 b) → (∀ j, j < i → a j = b j) → Fr (fun j => j = 18 ∨ j = 19 ∨ j = 20) h h1 → At mX6_become T0 2 [.ref 18, .ref 20, .int (nI i)] [] h1 0 0 (ZM mX6_become (fun r h' => r = none ∧ Ar h' 19 8 b ∧ Ar h' 20 8 b ∧ h'[18]? = some (oMix 1) ∧ Fr (fun j => j = 18 ∨ j = 19 ∨ j = 20) h h')) := by
    intro d
    induction d with
    | zero =>
      intro i a h1 hi hM ha hb hab hfr
      refine at_iload_n 3 dX6_become_2 rfl rfl rfl ?_
      refine at_bipush 5 (nI 8) dX6_become_3 rfl (by decide) ?_
      refine at_icmp_geN 32 8 dX6_become_5 rfl rfl (by omega) (by omega) (fun cc => ?_) (fun cc => ?_)
      · refine at_aload_n 33 dX6_become_32 rfl rfl rfl ?_
        refine at_iconst 34 (nI 1) dX6_become_33 rfl (by decide) ?_
        refine at_pi 37 dX6_become_34 rfl pl_X6_18 (by first | rfl | decide | assumption) (by first | rfl | decide | assumption) ⟨_, by assumption, ?_⟩
        refine ⟨(Nat.le_of_ble_eq_true rfl), [_, _, _], rfl, fun hh14 nn14 => ?_⟩
        replace hM := nn14.1
        replace ha := nn14.o (by first | decide | omega | assumption) ha
        replace hb := nn14.o (by first | decide | omega | assumption) hb
        replace hfr := hfr.nw nn14 (by first | (dsimp only; omega) | (dsimp only; done) | simp)
        clear nn14
        refine at_vret dX6_become_37 rfl (by decide) (by decide) ?_
        exact ⟨rfl, ⟨a, ha, fun j hj => hab j (by omega)⟩, Ar.of hb, hM, hfr⟩
      · omega
    | succ d ih =>
      intro i a h1 hi hM ha hb hab hfr
      refine at_iload_n 3 dX6_become_2 rfl rfl rfl ?_
      refine at_bipush 5 (nI 8) dX6_become_3 rfl (by decide) ?_
      refine at_icmp_geN 32 8 dX6_become_5 rfl rfl (by omega) (by omega) (fun cc => ?_) (fun cc => ?_)
      · omega
      refine at_aload_n 9 dX6_become_8 rfl rfl rfl ?_
      refine at_g 12 dX6_become_9 rfl fl_X6_9 ⟨_, by assumption, ?_⟩
      refine ⟨_, rfl, ?_⟩
      refine at_iload_n 13 dX6_become_12 rfl rfl rfl ?_
      refine at_aload_n 14 dX6_become_13 rfl rfl rfl ?_
      refine at_iload_n 15 dX6_become_14 rfl rfl rfl ?_
      first | refine at_ia 16 dX6_become_15 rfl ⟨_, _, by assumption, by omega, by first | decide | omega, ?_⟩ | refine at_iaG 16 dX6_become_15 rfl ⟨_, _, by assumption, by omega, by first | decide | omega, ?_⟩
      first | refine at_is 17 dX6_become_16 rfl ⟨_, _, by assumption, by omega, by first | decide | omega, fun hh15 nn15 => ?_⟩ | refine at_isG 17 dX6_become_16 rfl ⟨_, _, by assumption, by omega, by first | decide | omega, fun hh15 nn15 => ?_⟩
      replace hM := nn15.o (by first | decide | omega | assumption) hM
      replace ha := nn15.1
      replace hb := nn15.o (by first | decide | omega | assumption) hb
      replace hfr := hfr.nw nn15 (by first | (dsimp only; omega) | (dsimp only; done) | simp)
      clear nn15
      refine at_aload_n 18 dX6_become_17 rfl rfl rfl ?_
      refine at_g 21 dX6_become_18 rfl fl_X6_15 ⟨_, by assumption, ?_⟩
      refine ⟨_, rfl, ?_⟩
      refine at_iload_n 22 dX6_become_21 rfl rfl rfl ?_
      refine at_aload_n 23 dX6_become_22 rfl rfl rfl ?_
      refine at_iload_n 24 dX6_become_23 rfl rfl rfl ?_
      first | refine at_ia 25 dX6_become_24 rfl ⟨_, _, by assumption, by omega, by first | decide | omega, ?_⟩ | refine at_iaG 25 dX6_become_24 rfl ⟨_, _, by assumption, by omega, by first | decide | omega, ?_⟩
      first | refine at_is 26 dX6_become_25 rfl ⟨_, _, by assumption, by omega, by first | decide | omega, fun hh16 nn16 => ?_⟩ | refine at_isG 26 dX6_become_25 rfl ⟨_, _, by assumption, by omega, by first | decide | omega, fun hh16 nn16 => ?_⟩
      replace hM := nn16.o (by first | decide | omega | assumption) hM
      replace ha := nn16.o (by first | decide | omega | assumption) ha
      replace hb := nn16.1
      replace hfr := hfr.nw nn16 (by first | (dsimp only; omega) | (dsimp only; done) | simp)
      clear nn16
      refine at_iincN (q := 1) (L' := [_, _, _]) 29 dX6_become_26 rfl (by decide) rfl (by decide) rfl rfl ?_
      refine at_goto 2 dX6_become_29 rfl ?_
      have e9 : updN b i (b i) = b := by
        funext j; unfold updN; by_cases e : j = i
        · rw [if_pos e, e]
        · rw [if_neg e]
      rw [e9] at hb
      refine ih (i + 1) _ _ (by omega) hM ha hb (fun j hj => ?_) hfr
      by_cases e : j = i
      · subst e; rw [updN_s]
      · rw [updN_n _ _ e]; exact hab j (by omega)
  exact loop 8 0 a h (by omega) hM ha hb (fun j hj => by omega) Fr.rf

