def fillL (L wk : Nat → Nat) (f w n : Nat) : Nat → Nat := fun x => if x < 32 * n then (if 4 * f ≤ x % 32 ∧ x % 32 < 4 * f + 4 then share w wk 4 (x % 32 - 4 * f) else 0) else L x
theorem c_X10_fill {h : List PC} {t km md n0 w0 n w p st f : Nat} {R P L wk : Nat → Nat} (htt : 20 ≤ t) (hkm : 4 ≤ km ∧ km < 20) (h1 : h[1]? = some oSharer) (h2 : h[2]? = some (aL 32 R)) (h3 : h[3]? = some (aI 32 P)) (hT : h[t]? = some (oTank t md n0 w0 p st)) (ho : h[t + 1]? = some (aR 6 (rowsAt (t + 1) 6))) (hcr : ∀ c, c < 6 → Ar h (t + 1 + 1 + c) 32 (fun i => L (32 * c + i))) (hk : h[km]? = some (aI 4 wk)) (hks : sm wk 4 = 1000) (hn : n ≤ 6) (hf : f < 8) (hw : w < 2 ^ 31) : Ct mX10_fill [.ref t, .int (nI n), .int (nI w), .int (nI f), .ref km] h (fun r h' => r = none ∧ (∃ R', h'[2]? = some (aL 32 R')) ∧ (∃ P', h'[3]? = some (aI 32 P')) ∧ h'[t]? = some (oTank t 1 n w p st) ∧ (∀ c, c < 6 → Ar h' (t + 1 + 1 + c) 32 (fun i => fillL L wk f w n (32 * c + i))) ∧ Fr (fun j => j = 2 ∨ j = 3 ∨ j = t ∨ (t + 2 ≤ j ∧ j ≤ t + 7)) h h') := by
  refine ct_at (L := [_, _, _, _, _, _, _]) (by decide +kernel) rfl rfl (Nat.le_of_ble_eq_true rfl) ?_
  have hfr : Fr (fun j => j = t) h h := Fr.rf
  refine at_aload_n 1 dX10_fill_0 rfl rfl rfl ?_
  refine at_iconst 2 (nI 1) dX10_fill_1 rfl (by decide) ?_
  refine at_pi 5 dX10_fill_2 rfl pl_X10_33 (by first | rfl | decide | assumption) (by first | rfl | decide | assumption) ⟨_, by assumption, ?_⟩
  refine ⟨(Nat.le_of_ble_eq_true rfl), [_, _, _, _, _, _, _, _], rfl, fun hh1 nn1 => ?_⟩
  replace hT := nn1.1
  replace hfr := hfr.nw nn1 (by first | (dsimp only; omega) | (dsimp only; done) | simp)
  clear nn1
  refine at_aload_n 6 dX10_fill_5 rfl rfl rfl ?_
  refine at_iload_n 7 dX10_fill_6 rfl rfl rfl ?_
  refine at_pi 10 dX10_fill_7 rfl pl_X10_19 (rfl) (rfl) ⟨_, by assumption, ?_⟩
  refine ⟨(Nat.le_of_ble_eq_true rfl), [_, _, _, _, _, _, _, _], rfl, fun hh2 nn2 => ?_⟩
  replace hT := nn2.1
  replace hfr := hfr.nw nn2 (by first | (dsimp only; omega) | (dsimp only; done) | simp)
  clear nn2
  refine at_aload_n 11 dX10_fill_10 rfl rfl rfl ?_
  refine at_iload_n 12 dX10_fill_11 rfl rfl rfl ?_
  refine at_pi 15 dX10_fill_12 rfl pl_X10_23 (rfl) (rfl) ⟨_, by assumption, ?_⟩
  refine ⟨(Nat.le_of_ble_eq_true rfl), [_, _, _, _, _, _, _, _], rfl, fun hh3 nn3 => ?_⟩
  replace hT := nn3.1
  replace hfr := hfr.nw nn3 (by first | (dsimp only; omega) | (dsimp only; done) | simp)
  clear nn3
  refine at_iconst 16 (nI 0) dX10_fill_15 rfl (by decide) ?_
  refine at_istore (L' := [_, _, _, _, _, _, _]) 18 dX10_fill_16 rfl (by decide) rfl rfl ?_
  have outer : ∀ (d c : Nat) (R P : Nat → Nat) (h' : List PC), c + d = n → h'[2]? = some (aL 32 R) → h'[3]? = some (aI 32 P) → h'[t]? = some (oTank t 1 n w p st) → (∀ c', c' < 6 → Ar h' (t + 1 + 1 + c') 32 (fun i => fillL L wk f w c (32 * c' + i))) → Fr (fun j => j = 2 ∨ j = 3 ∨ j = t ∨ (t + 2 ≤ j ∧ j ≤ t + 7)) h h' → At mX10_fill T0 18 [.ref t, .int (nI n), .int (nI w), .int (nI f), .ref km, .int (nI c), .null] [] h' 0 0 (ZM mX10_fill (fun r h' => r = none ∧ (∃ R', h'[2]? = some (aL 32 R')) ∧ (∃ P', h'[3]? = some (aI 32 P')) ∧ h'[t]? = some (oTank t 1 n w p st) ∧ (∀ c, c < 6 → Ar h' (t + 1 + 1 + c) 32 (fun i => fillL L wk f w n (32 * c + i))) ∧ Fr (fun j => j = 2 ∨ j = 3 ∨ j = t ∨ (t + 2 ≤ j ∧ j ≤ t + 7)) h h')) := by
    intro d
    induction d with
    | zero =>
      intro c R P h' hc a2 a3 aT acr hfr
      refine at_iload 20 dX10_fill_18 rfl rfl ?_
      refine at_iload_n 21 dX10_fill_20 rfl rfl rfl ?_
      refine at_icmp_geN 78 24 dX10_fill_21 rfl rfl (by omega) (by omega) (fun cc => ?_) (fun cc => ?_)
      rotate_left
      · omega
      refine at_vret dX10_fill_78 rfl (by decide) (by decide) ?_
      rw [show c = n by omega] at acr
      exact ⟨rfl, ⟨R, a2⟩, ⟨P, a3⟩, aT, acr, hfr⟩
    | succ d ih =>
      intro c R P h' hc a2 a3 aT acr hfr
      have a1 := hfr.at (k := 1) (by omega) h1
      have ao := hfr.at (k := t + 1) (by omega) ho
      have ak := hfr.at (k := km) (by omega) hk
      obtain ⟨a, ka, ea⟩ := acr c (by omega)
      refine at_iload 20 dX10_fill_18 rfl rfl ?_
      refine at_iload_n 21 dX10_fill_20 rfl rfl rfl ?_
      refine at_icmp_geN 78 24 dX10_fill_21 rfl rfl (by omega) (by omega) (fun cc => ?_) (fun cc => ?_)
      · omega
      refine at_iconst 25 (nI 0) dX10_fill_24 rfl (by decide) ?_
      refine at_istore (L' := [_, _, _, _, _, _, _]) 27 dX10_fill_25 rfl (by decide) rfl rfl ?_
      have inner : ∀ (e i : Nat) (a : Nat → Nat) (h2' : List PC), i + e = 32 → h2'[t + 1 + 1 + c]? = some (aI 32 a) → (∀ j, j < i → a j = 0) → Fr (fun j => j = t + 1 + 1 + c) h' h2' → At mX10_fill T0 27 [.ref t, .int (nI n), .int (nI w), .int (nI f), .ref km, .int (nI c), .int (nI i)] [] h2' 0 0 (ZM mX10_fill (fun r h' => r = none ∧ (∃ R', h'[2]? = some (aL 32 R')) ∧ (∃ P', h'[3]? = some (aI 32 P')) ∧ h'[t]? = some (oTank t 1 n w p st) ∧ (∀ c, c < 6 → Ar h' (t + 1 + 1 + c) 32 (fun i => fillL L wk f w n (32 * c + i))) ∧ Fr (fun j => j = 2 ∨ j = 3 ∨ j = t ∨ (t + 2 ≤ j ∧ j ≤ t + 7)) h h')) := by
        intro e
        induction e with
        | succ e ih2 =>
          intro i a h2' hi ba hz bfr
          have bT := bfr.at (k := t) (by omega) aT
          have bo := bfr.at (k := t + 1) (by omega) ao
          refine at_iload 29 dX10_fill_27 rfl rfl ?_
          refine at_bipush 31 (nI 32) dX10_fill_29 rfl (by decide) ?_
          refine at_icmp_geN 51 34 dX10_fill_31 rfl rfl (by omega) (by omega) (fun cc => ?_) (fun cc => ?_)
          · omega
          refine at_aload_n 35 dX10_fill_34 rfl rfl rfl ?_
          refine at_g 38 dX10_fill_35 rfl fl_X10_11 ⟨_, by assumption, ?_⟩
          refine ⟨_, rfl, ?_⟩
          refine at_iload 40 dX10_fill_38 rfl rfl ?_
          refine at_aa 41 dX10_fill_40 rfl ⟨_, _, by assumption, by omega, by first | decide | omega, ?_⟩
          refine ⟨_, rowsAt_in (by omega), ?_⟩
          refine at_iload 43 dX10_fill_41 rfl rfl ?_
          refine at_iconst 44 (nI 0) dX10_fill_43 rfl (by decide) ?_
          first | refine at_is 45 dX10_fill_44 rfl ⟨_, _, by assumption, by omega, by first | decide | omega, fun hh4 nn4 => ?_⟩ | refine at_isG 45 dX10_fill_44 rfl ⟨_, _, by assumption, by omega, by first | decide | omega, fun hh4 nn4 => ?_⟩
          replace bT := nn4.o (by first | decide | omega | assumption) bT
          replace bo := nn4.o (by first | decide | omega | assumption) bo
          replace ba := nn4.1
          replace bfr := bfr.nw nn4 (by first | (dsimp only; omega) | (dsimp only; done) | simp)
          clear nn4
          refine at_iincN (q := 1) (L' := [_, _, _, _, _, _, _]) 48 dX10_fill_45 rfl (by decide) rfl (by decide) rfl rfl ?_
          refine at_goto 27 dX10_fill_48 rfl ?_
          refine ih2 (i + 1) _ _ (by omega) ba (fun j hj => ?_) bfr
          by_cases e : j = i
          · subst e; rw [updN_s]
          · rw [updN_n _ _ e]; exact hz j (by omega)
        | zero =>
          intro i a h2' hi ba hz bfr
          have bT := bfr.at (k := t) (by omega) aT
          have bo := bfr.at (k := t + 1) (by omega) ao
          have b1 := bfr.at (k := 1) (by omega) a1
          have b2 := bfr.at (k := 2) (by omega) a2
          have b3 := bfr.at (k := 3) (by omega) a3
          have bk := bfr.at (k := km) (by omega) ak
          refine at_iload 29 dX10_fill_27 rfl rfl ?_
          refine at_bipush 31 (nI 32) dX10_fill_29 rfl (by decide) ?_
          refine at_icmp_geN 51 34 dX10_fill_31 rfl rfl (by omega) (by omega) (fun cc => ?_) (fun cc => ?_)
          rotate_left
          · omega
          refine at_aload_n 52 dX10_fill_51 rfl rfl rfl ?_
          refine at_g 55 dX10_fill_52 rfl fl_X10_29 ⟨_, by assumption, ?_⟩
          refine ⟨_, rfl, ?_⟩
          refine at_iload_n 56 dX10_fill_55 rfl rfl rfl ?_
          refine at_aload 58 dX10_fill_56 rfl rfl ?_
          refine at_iconst 59 (nI 4) dX10_fill_58 rfl (by decide) ?_
          refine at_aload_n 60 dX10_fill_59 rfl rfl rfl ?_
          refine at_g 63 dX10_fill_60 rfl fl_X10_11 ⟨_, by assumption, ?_⟩
          refine ⟨_, rfl, ?_⟩
          refine at_iload 65 dX10_fill_63 rfl rfl ?_
          refine at_aa 66 dX10_fill_65 rfl ⟨_, _, by assumption, by omega, by first | decide | omega, ?_⟩
          refine ⟨_, rowsAt_in (by omega), ?_⟩
          refine at_iload_n 67 dX10_fill_66 rfl rfl rfl ?_
          refine at_iconst 68 (nI 4) dX10_fill_67 rfl (by decide) ?_
          first | refine at_imulN 69 dX10_fill_68 rfl ?_ | refine at_imul 69 dX10_fill_68 rfl ?_
          refine at_invV (ci := 9) 72 [_, _, _, _, _] _ (c_X9_split b1 b2 b3 bk ba (by omega) (by omega) (by decide) (by decide) (by omega) (by decide) (by omega) (by omega) hw) dX10_fill_69 rfl rfl (by assumption) rfl ml_X10_37 cl_X9_split vl_X9_split rfl (Nat.le_of_ble_eq_true rfl) ⟨by decide, by decide⟩ (by decide) (fun rr hh qq => ?_)
          obtain ⟨rfl, ⟨R2, d2⟩, ⟨P2, d3⟩, dO, dfr⟩ := qq
          refine at_iincN (q := 1) (L' := [_, _, _, _, _, _, _]) 75 dX10_fill_72 rfl (by decide) rfl (by decide) rfl rfl ?_
          refine at_goto 18 dX10_fill_75 rfl ?_
          refine at_drop (L' := [_, _, _, _, _, _, _]) 6 rfl ?_
          refine ih (c + 1) R2 P2 hh (by omega) d2 d3 (dfr.at (k := t) (by omega) bT) (fun c' hc' => ?_) ((hfr.tr bfr (fun j hj => by omega)).tr dfr (fun j hj => by omega))
          by_cases e : c' = c
          · subst e
            refine ⟨_, dO, fun i hi => ?_⟩
            dsimp only
            unfold fillL shr
            rw [if_pos (show 32 * c' + i < 32 * (c' + 1) by omega), show (32 * c' + i) % 32 = i by omega]
            by_cases e2 : f * 4 ≤ i ∧ i < f * 4 + 4
            · rw [if_pos e2, if_pos (by omega)]
              congr 1; omega
            · rw [if_neg e2, if_neg (by omega)]
              exact hz i (by omega)
          · refine (((acr c' hc').fr bfr (by omega)).fr dfr (by omega)).cg (fun i hi => ?_)
            unfold fillL
            by_cases e2 : c' < c
            · rw [if_pos (by omega), if_pos (show 32 * c' + i < 32 * (c + 1) by omega)]
            · rw [if_neg (by omega), if_neg (show ¬ 32 * c' + i < 32 * (c + 1) by omega)]
      exact inner 32 0 a h' (by omega) ka (fun j hj => by omega) Fr.rf
  refine outer n 0 R P _ (by omega) (hfr.at (k := 2) (by omega) h2) (hfr.at (k := 3) (by omega) h3) hT (fun c' hc' => ?_) (hfr.wk (fun j hj => by omega))
  refine ((hcr c' hc').fr hfr (by omega)).cg (fun i hi => ?_)
  unfold fillL
  rw [if_neg (by omega)]
theorem c_X10_copy {h : List PC} {t u md n w p st md0 n0 w0 p0 stu : Nat} {L : Nat → Nat} (htu : u + 15 < t) (hT : h[t]? = some (oTank t md0 n0 w0 p0 st)) (hU : h[u]? = some (oTank u md n w p stu)) (ho : h[t + 1]? = some (aR 6 (rowsAt (t + 1) 6))) (hu : h[u + 1]? = some (aR 6 (rowsAt (u + 1) 6))) (hcr : ∀ c, c < 6 → ∃ a, h[t + 1 + 1 + c]? = some (aI 32 a)) (hcu : ∀ c, c < 6 → Ar h (u + 1 + 1 + c) 32 (fun i => L (32 * c + i))) (hn : n ≤ 6) (hmd : md ≤ 1) : Ct mX10_copy [.ref t, .ref u] h (fun r h' => r = none ∧ h'[t]? = some (oTank t md n w p st) ∧ (∀ c, c < n → Ar h' (t + 1 + 1 + c) 32 (fun i => L (32 * c + i))) ∧ (∀ c, c < 6 → ∃ a, h'[t + 1 + 1 + c]? = some (aI 32 a)) ∧ Fr (fun j => j = t ∨ (t + 2 ≤ j ∧ j ≤ t + 7)) h h') := by
  have hb1 := (nb hmd).1
  have hb2 := (nb hmd).2
  refine ct_at (L := [_, _, _]) (by decide +kernel) rfl rfl (Nat.le_of_ble_eq_true rfl) ?_
  have hfr : Fr (fun j => j = t) h h := Fr.rf
  have hU0 := hU
  refine at_aload_n 1 dX10_copy_0 rfl rfl rfl ?_
  refine at_aload_n 2 dX10_copy_1 rfl rfl rfl ?_
  refine at_g 5 dX10_copy_2 rfl fl_X10_33 ⟨_, by assumption, ?_⟩
  refine ⟨_, rfl, ?_⟩
  refine at_pi 8 dX10_copy_5 rfl pl_X10_33 (by first | rfl | decide | assumption) (by first | rfl | decide | assumption) ⟨_, by assumption, ?_⟩
  refine ⟨(Nat.le_of_ble_eq_true rfl), [_, _, _, _, _, _, _, _], rfl, fun hh5 nn5 => ?_⟩
  replace hT := nn5.1
  replace hU := nn5.o (by first | decide | omega | assumption) hU
  replace hfr := hfr.nw nn5 (by first | (dsimp only; omega) | (dsimp only; done) | simp)
  clear nn5
  refine at_aload_n 9 dX10_copy_8 rfl rfl rfl ?_
  refine at_aload_n 10 dX10_copy_9 rfl rfl rfl ?_
  refine at_g 13 dX10_copy_10 rfl fl_X10_19 ⟨_, by assumption, ?_⟩
  refine ⟨_, rfl, ?_⟩
  refine at_pi 16 dX10_copy_13 rfl pl_X10_19 (rfl) (rfl) ⟨_, by assumption, ?_⟩
  refine ⟨(Nat.le_of_ble_eq_true rfl), [_, _, _, _, _, _, _, _], rfl, fun hh6 nn6 => ?_⟩
  replace hT := nn6.1
  replace hU := nn6.o (by first | decide | omega | assumption) hU
  replace hfr := hfr.nw nn6 (by first | (dsimp only; omega) | (dsimp only; done) | simp)
  clear nn6
  refine at_aload_n 17 dX10_copy_16 rfl rfl rfl ?_
  refine at_aload_n 18 dX10_copy_17 rfl rfl rfl ?_
  refine at_g 21 dX10_copy_18 rfl fl_X10_23 ⟨_, by assumption, ?_⟩
  refine ⟨_, rfl, ?_⟩
  refine at_pi 24 dX10_copy_21 rfl pl_X10_23 (rfl) (rfl) ⟨_, by assumption, ?_⟩
  refine ⟨(Nat.le_of_ble_eq_true rfl), [_, _, _, _, _, _, _, _], rfl, fun hh7 nn7 => ?_⟩
  replace hT := nn7.1
  replace hU := nn7.o (by first | decide | omega | assumption) hU
  replace hfr := hfr.nw nn7 (by first | (dsimp only; omega) | (dsimp only; done) | simp)
  clear nn7
  refine at_aload_n 25 dX10_copy_24 rfl rfl rfl ?_
  refine at_aload_n 26 dX10_copy_25 rfl rfl rfl ?_
  refine at_g 29 dX10_copy_26 rfl fl_X10_26 ⟨_, by assumption, ?_⟩
  refine ⟨_, rfl, ?_⟩
  refine at_pi 32 dX10_copy_29 rfl pl_X10_26 (rfl) (rfl) ⟨_, by assumption, ?_⟩
  refine ⟨(Nat.le_of_ble_eq_true rfl), [_, _, _, _, _, _, _, _], rfl, fun hh8 nn8 => ?_⟩
  replace hT := nn8.1
  replace hU := nn8.o (by first | decide | omega | assumption) hU
  replace hfr := hfr.nw nn8 (by first | (dsimp only; omega) | (dsimp only; done) | simp)
  clear nn8
  refine at_iconst 33 (nI 0) dX10_copy_32 rfl (by decide) ?_
  refine at_istore_n (L' := [_, _, _]) 34 dX10_copy_33 rfl rfl (by decide) rfl rfl ?_
  have loop : ∀ (d c : Nat) (h' : List PC), c + d = n → h'[t]? = some (oTank t md n w p st) → (∀ c', c' < c → Ar h' (t + 1 + 1 + c') 32 (fun i => L (32 * c' + i))) → (∀ c, c < 6 → ∃ a, h'[t + 1 + 1 + c]? = some (aI 32 a)) → Fr (fun j => j = t ∨ (t + 2 ≤ j ∧ j ≤ t + 7)) h h' → At mX10_copy T0 34 [.ref t, .ref u, .int (nI c)] [] h' 0 0 (ZM mX10_copy (fun r h' => r = none ∧ h'[t]? = some (oTank t md n w p st) ∧ (∀ c, c < n → Ar h' (t + 1 + 1 + c) 32 (fun i => L (32 * c + i))) ∧ (∀ c, c < 6 → ∃ a, h'[t + 1 + 1 + c]? = some (aI 32 a)) ∧ Fr (fun j => j = t ∨ (t + 2 ≤ j ∧ j ≤ t + 7)) h h')) := by
    intro d
    induction d with
    | zero =>
      intro c h' hc aT acr aall hfr
      refine at_iload_n 35 dX10_copy_34 rfl rfl rfl ?_
      refine at_aload_n 36 dX10_copy_35 rfl rfl rfl ?_
      refine at_g 39 dX10_copy_36 rfl fl_X10_19 ⟨_, by assumption, ?_⟩
      refine ⟨_, rfl, ?_⟩
      refine at_icmp_geN 67 42 dX10_copy_39 rfl rfl (by omega) (by omega) (fun cc => ?_) (fun cc => ?_)
      rotate_left
      · omega
      refine at_vret dX10_copy_67 rfl (by decide) (by decide) ?_
      rw [show c = n by omega] at acr
      exact ⟨rfl, aT, acr, aall, hfr⟩
    | succ d ih =>
      intro c h' hc aT acr aall hfr
      have ao := hfr.at (k := t + 1) (by omega) ho
      have au := hfr.at (k := u + 1) (by omega) hu
      have aU := hfr.at (k := u) (by omega) hU0
      obtain ⟨a, ka⟩ := aall c (by omega)
      obtain ⟨b, kb, eb⟩ := (hcu c (by omega)).fr hfr (by omega)
      refine at_iload_n 35 dX10_copy_34 rfl rfl rfl ?_
      refine at_aload_n 36 dX10_copy_35 rfl rfl rfl ?_
      refine at_g 39 dX10_copy_36 rfl fl_X10_19 ⟨_, by assumption, ?_⟩
      refine ⟨_, rfl, ?_⟩
      refine at_icmp_geN 67 42 dX10_copy_39 rfl rfl (by omega) (by omega) (fun cc => ?_) (fun cc => ?_)
      · omega
      refine at_aload_n 43 dX10_copy_42 rfl rfl rfl ?_
      refine at_g 46 dX10_copy_43 rfl fl_X10_11 ⟨_, by assumption, ?_⟩
      refine ⟨_, rfl, ?_⟩
      refine at_iload_n 47 dX10_copy_46 rfl rfl rfl ?_
      refine at_aa 48 dX10_copy_47 rfl ⟨_, _, by assumption, by omega, by first | decide | omega, ?_⟩
      refine ⟨_, rowsAt_in (by omega), ?_⟩
      refine at_iconst 49 (nI 0) dX10_copy_48 rfl (by decide) ?_
      refine at_aload_n 50 dX10_copy_49 rfl rfl rfl ?_
      refine at_g 53 dX10_copy_50 rfl fl_X10_11 ⟨_, by assumption, ?_⟩
      refine ⟨_, rfl, ?_⟩
      refine at_iload_n 54 dX10_copy_53 rfl rfl rfl ?_
      refine at_aa 55 dX10_copy_54 rfl ⟨_, _, by assumption, by omega, by first | decide | omega, ?_⟩
      refine ⟨_, rowsAt_in (by omega), ?_⟩
      refine at_iconst 56 (nI 0) dX10_copy_55 rfl (by decide) ?_
      refine at_bipush 58 (nI 32) dX10_copy_56 rfl (by decide) ?_
      refine at_copy 61 dX10_copy_58 rfl ml_X10_43 jw_copy kb ka (by decide) (by decide) (by decide) (Nat.le_of_ble_eq_true rfl) (by decide) (fun hh2 nn2 => ?_)
      have ecp : va_cpy (fun i => nI (b i)) (fun i => nI (a i)) 0 0 32 = fun i => nI (if i < 32 then b i else a i) := by
        funext i
        unfold va_cpy
        by_cases e : i < 32
        · rw [if_pos (by omega), if_pos e]; simp
        · rw [if_neg (by omega), if_neg e]
      rw [ecp] at nn2
      refine at_iincN (q := 1) (L' := [_, _, _]) 64 dX10_copy_61 rfl (by decide) rfl (by decide) rfl rfl ?_
      refine at_goto 34 dX10_copy_64 rfl ?_
      refine ih (c + 1) hh2 (by omega) (nn2.o (by omega) aT) (fun c' hc' => ?_) (fun c' hc' => ?_) (hfr.nw nn2 (by omega))
      · by_cases e : c' = c
        · subst e
          exact ⟨_, nn2.1, fun i hi => by rw [if_pos hi]; exact eb i hi⟩
        · exact (acr c' (by omega)).nw nn2 (by omega)
      · by_cases e : c' = c
        · subst e; exact ⟨_, nn2.1⟩
        · obtain ⟨x, hx⟩ := aall c' hc'
          exact ⟨x, nn2.o (by omega) hx⟩
  refine loop n 0 _ (by omega) hT (fun c' hc' => by omega) (fun c hc => ?_) (hfr.wk (fun j hj => by omega))
  obtain ⟨x, hx⟩ := hcr c hc
  exact ⟨x, hfr.at (by omega) hx⟩
def gramsN (L : Nat → Nat) (c fi ti : Nat) (n : Nat) : Nat := sm (fun i => if (fi = 0 ∨ fi = i / 4 + 1) ∧ (ti = 0 ∨ ti = i % 4 + 1) then L (32 * c + i) else 0) n
def opt1 (x : Int32) (k : Nat) : Prop := (k = 0 ∧ x = -1) ∨ ∃ f, f < 100 ∧ k = f + 1 ∧ x = nI f
theorem opt1_m {x : Int32} {k : Nat} (h : opt1 x k) : x = -1 ↔ k = 0 := by
  rcases h with ⟨h1, h2⟩ | ⟨f, h0, h1, h2⟩
  · exact ⟨fun _ => h1, fun _ => h2⟩
  · refine ⟨fun e => ?_, fun e => by omega⟩
    rw [h2] at e
    have := nI_pos (n := f) (by omega)
    rw [e] at this
    exact absurd (by decide) this
theorem opt1_n {x : Int32} {k j : Nat} (h : opt1 x k) (hj : j < 100) (hk : ¬ x = -1) : x = nI j ↔ k = j + 1 := by
  rcases h with ⟨h1, h2⟩ | ⟨f, h0, h1, h2⟩
  · exact absurd h2 hk
  · rw [h2, nI_eq (by omega) (by omega)]; omega
theorem c_X10_gramsIn {h : List PC} {t md n w p st c fi ti : Nat} {f0 t0 : Int32} {L : Nat → Nat} (hT : h[t]? = some (oTank t md n w p st)) (ho : h[t + 1]? = some (aR 6 (rowsAt (t + 1) 6))) (hc6 : c < 6) (hcr : Ar h (t + 1 + 1 + c) 32 (fun i => L (32 * c + i))) (hf : opt1 f0 fi) (ht : opt1 t0 ti) : Ct mX10_gramsIn [.ref t, .int (nI c), .int f0, .int t0] h (fun r h' => r = some (.int (nI (gramsN L c fi ti 32))) ∧ h' = h) := by
  obtain ⟨a, ka, ea⟩ := hcr
  replace ea : ∀ i, i < 32 → a i = L (32 * c + i) := ea
  refine ct_at (L := [_, _, _, _, _, _]) (by decide +kernel) rfl rfl (Nat.le_of_ble_eq_true rfl) ?_
  refine at_iconst 1 (nI 0) dX10_gramsIn_0 rfl (by decide) ?_
  refine at_istore (L' := [_, _, _, _, _, _]) 3 dX10_gramsIn_1 rfl (by decide) rfl rfl ?_
  refine at_iconst 4 (nI 0) dX10_gramsIn_3 rfl (by decide) ?_
  refine at_istore (L' := [_, _, _, _, _, _]) 6 dX10_gramsIn_4 rfl (by decide) rfl rfl ?_
  have loop : ∀ (d i : Nat), i + d = 32 → At mX10_gramsIn T0 6 [.ref t, .int (nI c), .int f0, .int t0, .int (nI (gramsN L c fi ti i)), .int (nI i)] [] h 0 0 (ZM mX10_gramsIn (fun r h' => r = some (.int (nI (gramsN L c fi ti 32))) ∧ h' = h)) := by
    intro d
    induction d with
    | zero =>
      intro i hi
      refine at_iload 8 dX10_gramsIn_6 rfl rfl ?_
      refine at_bipush 10 (nI 32) dX10_gramsIn_8 rfl (by decide) ?_
      refine at_icmp_geN 59 13 dX10_gramsIn_10 rfl rfl (by omega) (by omega) (fun cc => ?_) (fun cc => ?_)
      rotate_left
      · omega
      rw [show i = 32 by omega]
      refine at_iload 61 dX10_gramsIn_59 rfl rfl ?_
      refine at_iret dX10_gramsIn_61 rfl (by decide) (by decide) ?_
      exact ⟨rfl, rfl⟩
    | succ d ih =>
      intro i hi
      have hst : gramsN L c fi ti (i + 1) = gramsN L c fi ti i + (if (fi = 0 ∨ fi = i / 4 + 1) ∧ (ti = 0 ∨ ti = i % 4 + 1) then L (32 * c + i) else 0) := rfl
      have hnext := ih (i + 1) (by omega)
      refine at_iload 8 dX10_gramsIn_6 rfl rfl ?_
      refine at_bipush 10 (nI 32) dX10_gramsIn_8 rfl (by decide) ?_
      refine at_icmp_geN 59 13 dX10_gramsIn_10 rfl rfl (by omega) (by omega) (fun cc => ?_) (fun cc => ?_)
      · omega
      refine at_iload_n 14 dX10_gramsIn_13 rfl rfl rfl ?_
      refine at_iconst 15 (-1) dX10_gramsIn_14 rfl (by decide) ?_
      have tail : (fi = 0 ∨ fi = i / 4 + 1) → At mX10_gramsIn T0 26 [.ref t, .int (nI c), .int f0, .int t0, .int (nI (gramsN L c fi ti i)), .int (nI i)] [] h 0 0 (ZM mX10_gramsIn (fun r h' => r = some (.int (nI (gramsN L c fi ti 32))) ∧ h' = h)) := by
        intro hfi
        have add : (ti = 0 ∨ ti = i % 4 + 1) → At mX10_gramsIn T0 39 [.ref t, .int (nI c), .int f0, .int t0, .int (nI (gramsN L c fi ti i)), .int (nI i)] [] h 0 0 (ZM mX10_gramsIn (fun r h' => r = some (.int (nI (gramsN L c fi ti 32))) ∧ h' = h)) := by
          intro hti
          refine at_iload 41 dX10_gramsIn_39 rfl rfl ?_
          refine at_aload_n 42 dX10_gramsIn_41 rfl rfl rfl ?_
          refine at_g 45 dX10_gramsIn_42 rfl fl_X10_11 ⟨_, by assumption, ?_⟩
          refine ⟨_, rfl, ?_⟩
          refine at_iload_n 46 dX10_gramsIn_45 rfl rfl rfl ?_
          refine at_aa 47 dX10_gramsIn_46 rfl ⟨_, _, by assumption, by omega, by first | decide | omega, ?_⟩
          refine ⟨_, rowsAt_in (by omega), ?_⟩
          refine at_iload 49 dX10_gramsIn_47 rfl rfl ?_
          first | refine at_ia 50 dX10_gramsIn_49 rfl ⟨_, _, by assumption, by omega, by first | decide | omega, ?_⟩ | refine at_iaG 50 dX10_gramsIn_49 rfl ⟨_, _, by assumption, by omega, by first | decide | omega, ?_⟩
          rw [ea i (by omega)]
          first | refine at_iaddN 51 dX10_gramsIn_50 rfl ?_ | refine at_iadd 51 dX10_gramsIn_50 rfl ?_
          refine at_istore (L' := [_, _, _, _, _, _]) 53 dX10_gramsIn_51 rfl (by decide) rfl rfl ?_
          refine at_iincN (q := 1) (L' := [_, _, _, _, _, _]) 56 dX10_gramsIn_53 rfl (by decide) rfl (by decide) rfl rfl ?_
          refine at_goto 6 dX10_gramsIn_56 rfl ?_
          rw [if_pos ⟨hfi, hti⟩] at hst
          rw [hst] at hnext
          exact hnext
        refine at_iload_n 27 dX10_gramsIn_26 rfl rfl rfl ?_
        refine at_iconst 28 (-1) dX10_gramsIn_27 rfl (by decide) ?_
        refine at_icmp_eq 39 31 dX10_gramsIn_28 rfl rfl (fun cc => ?_) (fun cc => ?_)
        · exact add (Or.inl ((opt1_m ht).mp cc))
        have c9 := cc
        refine at_iload_n 32 dX10_gramsIn_31 rfl rfl rfl ?_
        refine at_iload 34 dX10_gramsIn_32 rfl rfl ?_
        refine at_iconst 35 (nI 4) dX10_gramsIn_34 rfl (by decide) ?_
        refine at_iremN 36 dX10_gramsIn_35 rfl (by omega) (by omega) (by omega) ?_
        refine at_icmp_ne 53 39 dX10_gramsIn_36 rfl rfl (fun cc => ?_) (fun cc => ?_)
        · rw [opt1_n ht (by omega) c9] at cc
          refine at_iincN (q := 1) (L' := [_, _, _, _, _, _]) 56 dX10_gramsIn_53 rfl (by decide) rfl (by decide) rfl rfl ?_
          refine at_goto 6 dX10_gramsIn_56 rfl ?_
          rw [if_neg (fun q => by have := mt (opt1_m ht).mpr c9; omega)] at hst
          rw [hst] at hnext
          exact hnext
        · rw [opt1_n ht (by omega) c9] at cc
          exact add (Or.inr cc)
      refine at_icmp_eq 26 18 dX10_gramsIn_15 rfl rfl (fun cc => ?_) (fun cc => ?_)
      · exact tail (Or.inl ((opt1_m hf).mp cc))
      have c9 := cc
      refine at_iload_n 19 dX10_gramsIn_18 rfl rfl rfl ?_
      refine at_iload 21 dX10_gramsIn_19 rfl rfl ?_
      refine at_iconst 22 (nI 4) dX10_gramsIn_21 rfl (by decide) ?_
      refine at_idivN 23 dX10_gramsIn_22 rfl (by omega) (by omega) (by omega) ?_
      refine at_icmp_ne 53 26 dX10_gramsIn_23 rfl rfl (fun cc => ?_) (fun cc => ?_)
      · rw [opt1_n hf (by omega) c9] at cc
        refine at_iincN (q := 1) (L' := [_, _, _, _, _, _]) 56 dX10_gramsIn_53 rfl (by decide) rfl (by decide) rfl rfl ?_
        refine at_goto 6 dX10_gramsIn_56 rfl ?_
        rw [if_neg (fun q => by have := mt (opt1_m hf).mpr c9; omega)] at hst
        rw [hst] at hnext
        exact hnext
      · rw [opt1_n hf (by omega) c9] at cc
        exact tail (Or.inr cc)
  exact loop 32 0 (by omega)
def thF (o : Nat → Nat) (t : Nat) : Nat := sm (fun f => o (4 * f + t)) 8
def ldF (o : Nat → Nat) (f : Nat) : Nat := sm (fun t => o (4 * f + t)) 4
theorem c_X4_read {h : List PC} {g t md n w p st g0 : Nat} {o th ld : Nat → Nat} (hgt : t + 15 < g ∨ g + 2 < t) (hG : h[g]? = some (oGlass g g0)) (hth : h[g + 1]? = some (aI 4 th)) (hld : h[g + 2]? = some (aI 8 ld)) (hT : h[t]? = some (oTank t md n w p st)) (hf : h[t + 8]? = some (aR 7 (rowsAt (t + 8) 7))) (ho : Ar h (t + 8 + 1 + n) 32 o) (hn : n ≤ 6) : Ct mX4_read [.ref g, .ref t] h (fun r h' => r = none ∧ h'[g]? = some (oGlass g p) ∧ Ar h' (g + 1) 4 (thF o) ∧ Ar h' (g + 2) 8 (ldF o) ∧ Fr (fun j => g ≤ j ∧ j ≤ g + 2) h h') := by
  obtain ⟨o', ko, eo⟩ := ho
  refine ct_at (L := [_, _, _, _, _, _, _]) (by decide +kernel) rfl rfl (Nat.le_of_ble_eq_true rfl) ?_
  refine at_aload_n 1 dX4_read_0 rfl rfl rfl ?_
  refine at_invV (ci := 10) 4 [] _ (c_X10_outOfLast hT hf (by omega)) dX4_read_1 rfl rfl (by assumption) rfl ml_X4_18 cl_X10_outOfLast vl_X10_outOfLast rfl (Nat.le_of_ble_eq_true rfl) ⟨by decide, by decide⟩ (by decide) (fun rr hh qq => ?_)
  obtain ⟨rfl, hq2⟩ := qq
  rw [hq2]
  refine at_astore_n (L' := [_, _, _, _, _, _, _]) 5 dX4_read_4 rfl rfl (by decide) rfl rfl ?_
  refine at_iconst 6 (nI 0) dX4_read_5 rfl (by decide) ?_
  refine at_istore_n (L' := [_, _, _, _, _, _, _]) 7 dX4_read_6 rfl rfl (by decide) rfl rfl ?_
  rw [show t + 9 + n = t + 8 + 1 + n by omega]
  have loop0 : ∀ (d i : Nat) (th : Nat → Nat) (h' : List PC), i + d = 4 → h'[g + 1]? = some (aI 4 th) → (∀ j, j < i → th j = 0) → Fr (fun j => j = g + 1) h h' → At mX4_read T0 7 [.ref g, .ref t, .ref (t + 8 + 1 + n), .int (nI i), .null, .null, .null] [] h' 0 0 (ZM mX4_read (fun r h' => r = none ∧ h'[g]? = some (oGlass g p) ∧ Ar h' (g + 1) 4 (thF o) ∧ Ar h' (g + 2) 8 (ldF o) ∧ Fr (fun j => g ≤ j ∧ j ≤ g + 2) h h')) := by
    intro d
    induction d with
    | succ d ih =>
      intro i th h' hi hth hz hfr
      have aG := hfr.at (k := g) (by omega) hG
      refine at_iload_n 8 dX4_read_7 rfl rfl rfl ?_
      refine at_iconst 9 (nI 4) dX4_read_8 rfl (by decide) ?_
      refine at_icmp_geN 25 12 dX4_read_9 rfl rfl (by omega) (by omega) (fun cc => ?_) (fun cc => ?_)
      · omega
      refine at_aload_n 13 dX4_read_12 rfl rfl rfl ?_
      refine at_g 16 dX4_read_13 rfl fl_X4_9 ⟨_, by assumption, ?_⟩
      refine ⟨_, rfl, ?_⟩
      refine at_iload_n 17 dX4_read_16 rfl rfl rfl ?_
      refine at_iconst 18 (nI 0) dX4_read_17 rfl (by decide) ?_
      first | refine at_is 19 dX4_read_18 rfl ⟨_, _, by assumption, by omega, by first | decide | omega, fun hh9 nn9 => ?_⟩ | refine at_isG 19 dX4_read_18 rfl ⟨_, _, by assumption, by omega, by first | decide | omega, fun hh9 nn9 => ?_⟩
      replace aG := nn9.o (by first | decide | omega | assumption) aG
      replace hth := nn9.1
      replace hfr := hfr.nw nn9 (by first | (dsimp only; omega) | (dsimp only; done) | simp)
      clear nn9
      refine at_iincN (q := 1) (L' := [_, _, _, _, _, _, _]) 22 dX4_read_19 rfl (by decide) rfl (by decide) rfl rfl ?_
      refine at_goto 7 dX4_read_22 rfl ?_
      refine ih (i + 1) _ _ (by omega) hth (fun j hj => ?_) hfr
      by_cases e : j = i
      · subst e; rw [updN_s]
      · rw [updN_n _ _ e]; exact hz j (by omega)
    | zero =>
      intro i th h' hi hth hz hfr
      refine at_iload_n 8 dX4_read_7 rfl rfl rfl ?_
      refine at_iconst 9 (nI 4) dX4_read_8 rfl (by decide) ?_
      refine at_icmp_geN 25 12 dX4_read_9 rfl rfl (by omega) (by omega) (fun cc => ?_) (fun cc => ?_)
      rotate_left
      · omega
      refine at_iconst 26 (nI 0) dX4_read_25 rfl (by decide) ?_
      refine at_istore_n (L' := [_, _, _, _, _, _, _]) 27 dX4_read_26 rfl rfl (by decide) rfl rfl ?_
      have loop1 : ∀ (d f : Nat) (th ld : Nat → Nat) (h' : List PC), f + d = 8 → h'[g + 1]? = some (aI 4 th) → h'[g + 2]? = some (aI 8 ld) → (∀ t, t < 4 → th t = sm (fun f => o (4 * f + t)) f) → (∀ j, j < f → ld j = ldF o j) → Fr (fun j => j = g + 1 ∨ j = g + 2) h h' → At mX4_read T0 27 [.ref g, .ref t, .ref (t + 8 + 1 + n), .int (nI f), .null, .null, .null] [] h' 0 0 (ZM mX4_read (fun r h' => r = none ∧ h'[g]? = some (oGlass g p) ∧ Ar h' (g + 1) 4 (thF o) ∧ Ar h' (g + 2) 8 (ldF o) ∧ Fr (fun j => g ≤ j ∧ j ≤ g + 2) h h')) := by
        intro d
        induction d with
        | zero =>
          intro f th ld h' hf2 hth hld eth eld hfr
          have aG := hfr.at (k := g) (by omega) hG
          have aT := hfr.at (k := t) (by omega) hT
          have hfrg : Fr (fun j => g ≤ j ∧ j ≤ g + 2) h h' := hfr.wk (fun j hj => by omega)
          refine at_iload_n 28 dX4_read_27 rfl rfl rfl ?_
          refine at_bipush 30 (nI 8) dX4_read_28 rfl (by decide) ?_
          refine at_icmp_geN 94 33 dX4_read_30 rfl rfl (by omega) (by omega) (fun cc => ?_) (fun cc => ?_)
          rotate_left
          · omega
          refine at_aload_n 95 dX4_read_94 rfl rfl rfl ?_
          refine at_aload_n 96 dX4_read_95 rfl rfl rfl ?_
          refine at_g 99 dX4_read_96 rfl fl_X4_24 ⟨_, by assumption, ?_⟩
          refine ⟨_, rfl, ?_⟩
          refine at_pi 102 dX4_read_99 rfl pl_X4_28 (rfl) (rfl) ⟨_, by assumption, ?_⟩
          refine ⟨(Nat.le_of_ble_eq_true rfl), [_, _, _], rfl, fun hh10 nn10 => ?_⟩
          replace aG := nn10.1
          replace aT := nn10.o (by first | decide | omega | assumption) aT
          replace hth := nn10.o (by first | decide | omega | assumption) hth
          replace hld := nn10.o (by first | decide | omega | assumption) hld
          replace hfrg := hfrg.nw nn10 (by first | (dsimp only; omega) | (dsimp only; done) | simp)
          clear nn10
          refine at_vret dX4_read_102 rfl (by decide) (by decide) ?_
          exact ⟨rfl, aG, ⟨th, hth, fun i hi => by rw [eth i hi, show f = 8 by omega]; rfl⟩, ⟨ld, hld, fun i hi => eld i (by omega)⟩, hfrg⟩
        | succ d ih =>
          intro f th ld h' hf2 hth hld eth eld hfr
          refine at_iload_n 28 dX4_read_27 rfl rfl rfl ?_
          refine at_bipush 30 (nI 8) dX4_read_28 rfl (by decide) ?_
          refine at_icmp_geN 94 33 dX4_read_30 rfl rfl (by omega) (by omega) (fun cc => ?_) (fun cc => ?_)
          · omega
          refine at_iconst 34 (nI 0) dX4_read_33 rfl (by decide) ?_
          refine at_istore (L' := [_, _, _, _, _, _, _]) 36 dX4_read_34 rfl (by decide) rfl rfl ?_
          refine at_iconst 37 (nI 0) dX4_read_36 rfl (by decide) ?_
          refine at_istore (L' := [_, _, _, _, _, _, _]) 39 dX4_read_37 rfl (by decide) rfl rfl ?_
          have inner : ∀ (e i : Nat) (th : Nat → Nat) (h2 : List PC), i + e = 4 → h2[g + 1]? = some (aI 4 th) → (∀ j, j < 4 → th j = sm (fun f => o (4 * f + j)) (if j < i then f + 1 else f)) → Fr (fun j => j = g + 1) h' h2 → At mX4_read T0 39 [.ref g, .ref t, .ref (t + 8 + 1 + n), .int (nI f), .int (nI (sm (fun t => o (4 * f + t)) i)), .int (nI i), .null] [] h2 0 0 (ZM mX4_read (fun r h' => r = none ∧ h'[g]? = some (oGlass g p) ∧ Ar h' (g + 1) 4 (thF o) ∧ Ar h' (g + 2) 8 (ldF o) ∧ Fr (fun j => g ≤ j ∧ j ≤ g + 2) h h')) := by
            intro e
            induction e with
            | succ e ih2 =>
              intro i th h2 hi hth eth bfr
              have bG := bfr.at (k := g) (by omega) (hfr.at (k := g) (by omega) hG)
              have bo := bfr.at (k := t + 8 + 1 + n) (by omega) (hfr.at (k := t + 8 + 1 + n) (by omega) ko)
              have eoi := eo (4 * f + i) (by omega)
              refine at_iload 41 dX4_read_39 rfl rfl ?_
              refine at_iconst 42 (nI 4) dX4_read_41 rfl (by decide) ?_
              refine at_icmp_geN 80 45 dX4_read_42 rfl rfl (by omega) (by omega) (fun cc => ?_) (fun cc => ?_)
              · omega
              refine at_aload_n 46 dX4_read_45 rfl rfl rfl ?_
              refine at_iload_n 47 dX4_read_46 rfl rfl rfl ?_
              refine at_iconst 48 (nI 4) dX4_read_47 rfl (by decide) ?_
              first | refine at_imulN 49 dX4_read_48 rfl ?_ | refine at_imul 49 dX4_read_48 rfl ?_
              refine at_iload 51 dX4_read_49 rfl rfl ?_
              first | refine at_iaddN 52 dX4_read_51 rfl ?_ | refine at_iadd 52 dX4_read_51 rfl ?_
              first | refine at_ia 53 dX4_read_52 rfl ⟨_, _, by assumption, by omega, by first | decide | omega, ?_⟩ | refine at_iaG 53 dX4_read_52 rfl ⟨_, _, by assumption, by omega, by first | decide | omega, ?_⟩
              rw [show f * 4 + i = 4 * f + i by omega, eoi]
              refine at_istore (L' := [_, _, _, _, _, _, _]) 55 dX4_read_53 rfl (by decide) rfl rfl ?_
              refine at_aload_n 56 dX4_read_55 rfl rfl rfl ?_
              refine at_g 59 dX4_read_56 rfl fl_X4_9 ⟨_, by assumption, ?_⟩
              refine ⟨_, rfl, ?_⟩
              refine at_iload 61 dX4_read_59 rfl rfl ?_
              refine at_dup2 62 dX4_read_61 rfl rfl rfl ?_
              first | refine at_ia 63 dX4_read_62 rfl ⟨_, _, by assumption, by omega, by first | decide | omega, ?_⟩ | refine at_iaG 63 dX4_read_62 rfl ⟨_, _, by assumption, by omega, by first | decide | omega, ?_⟩
              refine at_iload 65 dX4_read_63 rfl rfl ?_
              first | refine at_iaddN 66 dX4_read_65 rfl ?_ | refine at_iadd 66 dX4_read_65 rfl ?_
              first | refine at_is 67 dX4_read_66 rfl ⟨_, _, by assumption, by omega, by first | decide | omega, fun hh11 nn11 => ?_⟩ | refine at_isG 67 dX4_read_66 rfl ⟨_, _, by assumption, by omega, by first | decide | omega, fun hh11 nn11 => ?_⟩
              replace bG := nn11.o (by first | decide | omega | assumption) bG
              replace bo := nn11.o (by first | decide | omega | assumption) bo
              replace hth := nn11.1
              replace bfr := bfr.nw nn11 (by first | (dsimp only; omega) | (dsimp only; done) | simp)
              clear nn11
              refine at_iload 69 dX4_read_67 rfl rfl ?_
              refine at_iload 71 dX4_read_69 rfl rfl ?_
              first | refine at_iaddN 72 dX4_read_71 rfl ?_ | refine at_iadd 72 dX4_read_71 rfl ?_
              refine at_istore (L' := [_, _, _, _, _, _, _]) 74 dX4_read_72 rfl (by decide) rfl rfl ?_
              refine at_iincN (q := 1) (L' := [_, _, _, _, _, _, _]) 77 dX4_read_74 rfl (by decide) rfl (by decide) rfl rfl ?_
              refine at_goto 39 dX4_read_77 rfl ?_
              refine at_drop (L' := [_, _, _, _, _, _, _]) 6 rfl ?_
              refine ih2 (i + 1) _ _ (by omega) hth (fun j hj => ?_) bfr
              by_cases e : j = i
              · subst e
                rw [updN_s, eth j hj, if_neg (by omega), if_pos (by omega)]
                rfl
              · rw [updN_n _ _ e, eth j hj]
                by_cases e2 : j < i
                · rw [if_pos e2, if_pos (by omega)]
                · rw [if_neg e2, if_neg (by omega)]
            | zero =>
              intro i th h2 hi hth eth bfr
              have bG := bfr.at (k := g) (by omega) (hfr.at (k := g) (by omega) hG)
              have bl := bfr.at (k := g + 2) (by omega) hld
              have hfr2 : Fr (fun j => j = g + 1 ∨ j = g + 2) h h2 := hfr.tr bfr (fun j hj => by omega)
              refine at_iload 41 dX4_read_39 rfl rfl ?_
              refine at_iconst 42 (nI 4) dX4_read_41 rfl (by decide) ?_
              refine at_icmp_geN 80 45 dX4_read_42 rfl rfl (by omega) (by omega) (fun cc => ?_) (fun cc => ?_)
              rotate_left
              · omega
              refine at_aload_n 81 dX4_read_80 rfl rfl rfl ?_
              refine at_g 84 dX4_read_81 rfl fl_X4_15 ⟨_, by assumption, ?_⟩
              refine ⟨_, rfl, ?_⟩
              refine at_iload_n 85 dX4_read_84 rfl rfl rfl ?_
              refine at_iload 87 dX4_read_85 rfl rfl ?_
              first | refine at_is 88 dX4_read_87 rfl ⟨_, _, by assumption, by omega, by first | decide | omega, fun hh12 nn12 => ?_⟩ | refine at_isG 88 dX4_read_87 rfl ⟨_, _, by assumption, by omega, by first | decide | omega, fun hh12 nn12 => ?_⟩
              replace bG := nn12.o (by first | decide | omega | assumption) bG
              replace bl := nn12.1
              replace hth := nn12.o (by first | decide | omega | assumption) hth
              replace hfr2 := hfr2.nw nn12 (by first | (dsimp only; omega) | (dsimp only; done) | simp)
              clear nn12
              refine at_iincN (q := 1) (L' := [_, _, _, _, _, _, _]) 91 dX4_read_88 rfl (by decide) rfl (by decide) rfl rfl ?_
              refine at_goto 27 dX4_read_91 rfl ?_
              refine at_drop (L' := [_, _, _, _, _, _, _]) 4 rfl ?_
              refine at_drop (L' := [_, _, _, _, _, _, _]) 5 rfl ?_
              refine ih (f + 1) _ _ _ (by omega) hth bl (fun j hj => ?_) (fun j hj => ?_) hfr2
              · rw [eth j hj, if_pos (by omega)]
              · by_cases e : j = f
                · subst e; rw [updN_s, show i = 4 by omega]; rfl
                · rw [updN_n _ _ e]; exact eld j (by omega)
          exact inner 4 0 th h' (by omega) hth (fun j hj => by rw [eth j hj, if_neg (by omega)]) Fr.rf
      exact loop1 8 0 th ld h' (by omega) hth (hfr.at (k := g + 2) (by omega) hld) (fun t ht => hz t (by omega)) (fun j hj => by omega) (hfr.wk (fun j hj => by omega))
  exact loop0 4 0 th h (by omega) hth (fun j hj => by omega) Fr.rf

