abbrev oModel (feeds colours : Nat) (hasMix isMade cells wide pull : Nat) (wanted : Int32) (hours waste come ringMany : Nat) : PC := .inr (12, [.int (nI feeds), .int (nI colours), .ref 107, .ref 108, .ref 109, .ref 110, .ref 111, .ref 112, .ref 113, .int (nI hasMix), .int (nI isMade), .int (nI cells), .int (nI wide), .int (nI pull), .int wanted, .ref 114, .ref 115, .ref 116, .ref 117, .ref 118, .ref 119, .ref 120, .ref 121, .int (nI hours), .long (lN waste), .long (lN come), .ref 122, .ref 123, .ref 124, .ref 125, .ref 126, .ref 127, .ref 128, .ref 129, .ref 130, .ref 131, .ref 132, .ref 133, .ref 134, .int (nI ringMany)])
theorem c_X9_giveLeft {h : List PC} {m left ko no : Nat} {R P o : Nat → Nat} (h1 : h[1]? = some oSharer) (h2 : h[2]? = some (aL 32 R)) (h3 : h[3]? = some (aI 32 P)) (hO : h[ko]? = some (aI no o)) (hko : ko ≠ 1 ∧ ko ≠ 2 ∧ ko ≠ 3) (hm : m ≤ 32) (hl : left ≤ m) (hP : ∀ j, j < m → P j < no) (hno : no < 2 ^ 31) (hR : ∀ j, j < m → R j < 2 ^ 63) : Ct mX9_giveLeft [.ref 1, .int (nI left), .int (nI m), .ref ko] h (fun r h' => r = none ∧ (∃ R', h'[2]? = some (aL 32 R')) ∧ h'[ko]? = some (aI no (giveC m P left R o)) ∧ Fr (fun j => j = 2 ∨ j = ko) h h') := by
  refine ct_at (L := [_, _, _, _, _, _, _]) (by decide +kernel) rfl rfl (Nat.le_of_ble_eq_true rfl) ?_
  refine at_iconst 1 (nI 0) dX9_giveLeft_0 rfl (by decide) ?_
  refine at_istore (L' := [_, _, _, _, _, _, _]) 3 dX9_giveLeft_1 rfl (by decide) rfl rfl ?_
  have outer : ∀ (d g : Nat) (R' o' : Nat → Nat) (h' : List PC), g + d = left → giveC m P d R' o' = giveC m P left R o → (∀ j, j < m → R' j < 2 ^ 63) → h'[2]? = some (aL 32 R') → h'[ko]? = some (aI no o') → Fr (fun j => j = 2 ∨ j = ko) h h' → At mX9_giveLeft T0 3 [.ref 1, .int (nI left), .int (nI m), .ref ko, .int (nI g), .null, .null] [] h' 0 0 (ZM mX9_giveLeft (fun r h' => r = none ∧ (∃ R', h'[2]? = some (aL 32 R')) ∧ h'[ko]? = some (aI no (giveC m P left R o)) ∧ Fr (fun j => j = 2 ∨ j = ko) h h')) := by
    intro d
    induction d with
    | zero =>
      intro g R' o' h' hg hX hR' a2 aO hfr
      refine at_iload 5 dX9_giveLeft_3 rfl rfl ?_
      refine at_iload_n 6 dX9_giveLeft_5 rfl rfl rfl ?_
      refine at_icmp_geN 82 9 dX9_giveLeft_6 rfl rfl (by omega) (by omega) (fun cc => ?_) (fun cc => ?_)
      · refine at_vret dX9_giveLeft_82 rfl (by decide) (by decide) ?_
        exact ⟨rfl, ⟨_, a2⟩, by rw [aO, ← hX]; rfl, hfr⟩
      · omega
    | succ d ih =>
      intro g R' o' h' hg hX hR' a2 aO hfr
      have a1 := hfr.at (k := 1) (by omega) h1
      have a3 := hfr.at (k := 3) (by omega) h3
      refine at_iload 5 dX9_giveLeft_3 rfl rfl ?_
      refine at_iload_n 6 dX9_giveLeft_5 rfl rfl rfl ?_
      refine at_icmp_geN 82 9 dX9_giveLeft_6 rfl rfl (by omega) (by omega) (fun cc => ?_) (fun cc => ?_)
      · omega
      · refine at_iload 11 dX9_giveLeft_9 rfl rfl ?_
        refine at_iload_n 12 dX9_giveLeft_11 rfl rfl rfl ?_
        refine at_icmp_geN 82 15 dX9_giveLeft_12 rfl rfl (by omega) (by omega) (fun cc => ?_) (fun cc => ?_)
        · omega
        · refine at_iconst 16 (nI 0) dX9_giveLeft_15 rfl (by decide) ?_
          refine at_istore (L' := [_, _, _, _, _, _, _]) 18 dX9_giveLeft_16 rfl (by decide) rfl rfl ?_
          refine at_iconst 19 (nI 1) dX9_giveLeft_18 rfl (by decide) ?_
          refine at_istore (L' := [_, _, _, _, _, _, _]) 21 dX9_giveLeft_19 rfl (by decide) rfl rfl ?_
          have inner : ∀ (e i : Nat), i + e = m → 1 ≤ i → At mX9_giveLeft T0 21 [.ref 1, .int (nI left), .int (nI m), .ref ko, .int (nI g), .int (nI (best R' i)), .int (nI i)] [] h' 0 0 (ZM mX9_giveLeft (fun r h' => r = none ∧ (∃ R', h'[2]? = some (aL 32 R')) ∧ h'[ko]? = some (aI no (giveC m P left R o)) ∧ Fr (fun j => j = 2 ∨ j = ko) h h')) := by
            intro e
            induction e with
            | zero =>
              intro i hi h1i
              have hb := (best_spec R' i (by omega)).1
              have him : i = m := by omega
              refine at_iload 23 dX9_giveLeft_21 rfl rfl ?_
              refine at_iload_n 24 dX9_giveLeft_23 rfl rfl rfl ?_
              refine at_icmp_geN 55 27 dX9_giveLeft_24 rfl rfl (by omega) (by omega) (fun cc => ?_) (fun cc => ?_)
              · rw [him] at hb ⊢
                have hPb := hP (best R' m) hb
                refine at_aload_n 56 dX9_giveLeft_55 rfl rfl rfl ?_
                refine at_aload_n 57 dX9_giveLeft_56 rfl rfl rfl ?_
                refine at_g 60 dX9_giveLeft_57 rfl fl_X9_15 ⟨_, by assumption, ?_⟩
                refine ⟨_, rfl, ?_⟩
                refine at_iload 62 dX9_giveLeft_60 rfl rfl ?_
                first | refine at_ia 63 dX9_giveLeft_62 rfl ⟨_, _, by assumption, by omega, by first | decide | omega, ?_⟩ | refine at_iaG 63 dX9_giveLeft_62 rfl ⟨_, _, by assumption, by omega, by first | decide | omega, ?_⟩
                refine at_dup2 64 dX9_giveLeft_63 rfl rfl rfl ?_
                first | refine at_ia 65 dX9_giveLeft_64 rfl ⟨_, _, by assumption, by omega, by first | decide | omega, ?_⟩ | refine at_iaG 65 dX9_giveLeft_64 rfl ⟨_, _, by assumption, by omega, by first | decide | omega, ?_⟩
                refine at_iconst 66 (nI 1) dX9_giveLeft_65 rfl (by decide) ?_
                first | refine at_iaddN 67 dX9_giveLeft_66 rfl ?_ | refine at_iadd 67 dX9_giveLeft_66 rfl ?_
                first | refine at_is 68 dX9_giveLeft_67 rfl ⟨_, _, by assumption, by omega, by first | decide | omega, fun hh1 nn1 => ?_⟩ | refine at_isG 68 dX9_giveLeft_67 rfl ⟨_, _, by assumption, by omega, by first | decide | omega, fun hh1 nn1 => ?_⟩
                replace a1 := nn1.o (by first | decide | omega | assumption) a1
                replace a2 := nn1.o (by first | decide | omega | assumption) a2
                replace a3 := nn1.o (by first | decide | omega | assumption) a3
                replace aO := nn1.1
                replace hfr := hfr.nw nn1 (by first | (dsimp only; omega) | (dsimp only; done) | simp)
                clear nn1
                refine at_aload_n 69 dX9_giveLeft_68 rfl rfl rfl ?_
                refine at_g 72 dX9_giveLeft_69 rfl fl_X9_9 ⟨_, by assumption, ?_⟩
                refine ⟨_, rfl, ?_⟩
                refine at_iload 74 dX9_giveLeft_72 rfl rfl ?_
                refine at_lconst 75 (lN 0) dX9_giveLeft_74 rfl rfl ?_
                first | refine at_ls 76 dX9_giveLeft_75 rfl ⟨_, _, by assumption, by omega, by first | decide | omega, fun hh2 nn2 => ?_⟩ | refine at_lsJ 76 dX9_giveLeft_75 rfl ⟨_, _, by assumption, by omega, by first | decide | omega, fun hh2 nn2 => ?_⟩
                replace a1 := nn2.o (by first | decide | omega | assumption) a1
                replace a2 := nn2.1
                replace a3 := nn2.o (by first | decide | omega | assumption) a3
                replace aO := nn2.o (by first | decide | omega | assumption) aO
                replace hfr := hfr.nw nn2 (by first | (dsimp only; omega) | (dsimp only; done) | simp)
                clear nn2
                refine at_iincN (q := 1) (L' := [_, _, _, _, _, _, _]) 79 dX9_giveLeft_76 rfl (by decide) rfl (by decide) rfl rfl ?_
                refine at_goto 3 dX9_giveLeft_79 rfl ?_
                refine at_drop (L' := [_, _, _, _, _, _, _]) 5 rfl ?_
                refine at_drop (L' := [_, _, _, _, _, _, _]) 6 rfl ?_
                refine ih (g + 1) _ _ _ (by omega) hX (fun j hj => ?_) a2 aO hfr
                unfold updN
                by_cases e : j = best R' m
                · rw [if_pos e]; decide
                · rw [if_neg e]; exact hR' j hj
              · omega
            | succ e ih2 =>
              intro i hi h1i
              have hb := (best_spec R' i h1i).1
              refine at_iload 23 dX9_giveLeft_21 rfl rfl ?_
              refine at_iload_n 24 dX9_giveLeft_23 rfl rfl rfl ?_
              refine at_icmp_geN 55 27 dX9_giveLeft_24 rfl rfl (by omega) (by omega) (fun cc => ?_) (fun cc => ?_)
              · omega
              · refine at_aload_n 28 dX9_giveLeft_27 rfl rfl rfl ?_
                refine at_g 31 dX9_giveLeft_28 rfl fl_X9_9 ⟨_, by assumption, ?_⟩
                refine ⟨_, rfl, ?_⟩
                refine at_iload 33 dX9_giveLeft_31 rfl rfl ?_
                first | refine at_la 34 dX9_giveLeft_33 rfl ⟨_, _, by assumption, by omega, by first | decide | omega, ?_⟩ | refine at_laJ 34 dX9_giveLeft_33 rfl ⟨_, _, by assumption, by omega, by first | decide | omega, ?_⟩
                refine at_aload_n 35 dX9_giveLeft_34 rfl rfl rfl ?_
                refine at_g 38 dX9_giveLeft_35 rfl fl_X9_9 ⟨_, by assumption, ?_⟩
                refine ⟨_, rfl, ?_⟩
                refine at_iload 40 dX9_giveLeft_38 rfl rfl ?_
                first | refine at_la 41 dX9_giveLeft_40 rfl ⟨_, _, by assumption, by omega, by first | decide | omega, ?_⟩ | refine at_laJ 41 dX9_giveLeft_40 rfl ⟨_, _, by assumption, by omega, by first | decide | omega, ?_⟩
                refine at_lcmp_leN 42 49 45 dX9_giveLeft_41 rfl dX9_giveLeft_42 rfl rfl (hR' _ (by omega)) (hR' _ (by omega)) (fun cc => ?_) (fun cc => ?_)
                · refine at_iincN (q := 1) (L' := [_, _, _, _, _, _, _]) 52 dX9_giveLeft_49 rfl (by decide) rfl (by decide) rfl rfl ?_
                  refine at_goto 21 dX9_giveLeft_52 rfl ?_
                  have hn := ih2 (i + 1) (by omega) (by omega)
                  have e2 : best R' (i + 1) = best R' i := by
                    show (if R' (best R' i) < R' i then i else best R' i) = _
                    rw [if_neg (by omega)]
                  rw [e2] at hn
                  exact hn
                · refine at_iload 47 dX9_giveLeft_45 rfl rfl ?_
                  refine at_istore (L' := [_, _, _, _, _, _, _]) 49 dX9_giveLeft_47 rfl (by decide) rfl rfl ?_
                  refine at_iincN (q := 1) (L' := [_, _, _, _, _, _, _]) 52 dX9_giveLeft_49 rfl (by decide) rfl (by decide) rfl rfl ?_
                  refine at_goto 21 dX9_giveLeft_52 rfl ?_
                  have hn := ih2 (i + 1) (by omega) (by omega)
                  have e2 : best R' (i + 1) = i := by
                    show (if R' (best R' i) < R' i then i else best R' i) = _
                    rw [if_pos (by omega)]
                  rw [e2] at hn
                  exact hn
          have hn := inner (m - 1) 1 (by omega) (by omega)
          rw [show best R' 1 = 0 by simp [best]] at hn
          exact hn
  exact outer left 0 R o h (by omega) rfl hR h2 hO Fr.rf
theorem giveC_cg {m : Nat} {P P' : Nat → Nat} (hP : ∀ j, j < m → P j = P' j) : ∀ (k : Nat) (c o : Nat → Nat), k ≤ m → giveC m P k c o = giveC m P' k c o
  | 0, _, _, _ => rfl
  | k + 1, c, o, h => by
    show giveC m P k _ _ = giveC m P' k _ _
    rw [hP _ (best_spec c m (by omega)).1]
    exact giveC_cg hP k _ _ (by omega)
def shr (a n : Nat) (f o : Nat → Nat) : Nat → Nat := fun x => if a ≤ x ∧ x < a + n then f (x - a) else o x
theorem shr_0 (a : Nat) (f o : Nat → Nat) : shr a 0 f o = o := by
  funext x; unfold shr; rw [if_neg (by omega)]
theorem shr_s (a n : Nat) (f o : Nat → Nat) : updN (shr a n f o) (a + n) (f n) = shr a (n + 1) f o := by
  funext x
  unfold updN shr
  by_cases e : x = a + n
  · subst e
    rw [if_pos rfl, if_pos (by omega)]
    congr 1; omega
  · rw [if_neg e]
    by_cases e2 : a ≤ x ∧ x < a + n
    · rw [if_pos e2, if_pos (by omega)]
    · rw [if_neg e2, if_neg (by omega)]
theorem c_X9_split {h : List PC} {g n a kw nw ko no : Nat} {R P w o : Nat → Nat} (h1 : h[1]? = some oSharer) (h2 : h[2]? = some (aL 32 R)) (h3 : h[3]? = some (aI 32 P)) (hW : h[kw]? = some (aI nw w)) (hO : h[ko]? = some (aI no o)) (hko : ko ≠ 1 ∧ ko ≠ 2 ∧ ko ≠ 3) (hkw : kw ≠ 2 ∧ kw ≠ 3 ∧ kw ≠ ko) (hn : n ≤ 32) (hnw : n ≤ nw) (hna : a + n ≤ no) (hz : nw < 2 ^ 31 ∧ no < 2 ^ 31) (hT : 0 < sm w n) (hTb : sm w n < 2 ^ 31) (hg : g < 2 ^ 31) : Ct mX9_split [.ref 1, .int (nI g), .ref kw, .int (nI n), .ref ko, .int (nI a)] h (fun r h' => r = none ∧ (∃ R', h'[2]? = some (aL 32 R')) ∧ (∃ P', h'[3]? = some (aI 32 P')) ∧ h'[ko]? = some (aI no (shr a n (share g w n) o)) ∧ Fr (fun j => j = 2 ∨ j = 3 ∨ j = ko) h h') := by
  refine ct_at (L := [_, _, _, _, _, _, _, _, _, _, _, _, _, _, _, _]) (by decide +kernel) rfl rfl (Nat.le_of_ble_eq_true rfl) ?_
  refine at_iload_n 1 dX9_split_0 rfl rfl rfl ?_
  refine at_bipush 3 (nI 32) dX9_split_1 rfl (by decide) ?_
  refine at_icmp_gtN 27 6 dX9_split_3 rfl rfl (by omega) (by omega) (fun cc => ?_) (fun cc => ?_)
  · omega
  refine at_iload_n 7 dX9_split_6 rfl rfl rfl ?_
  refine at_aload_n 8 dX9_split_7 rfl rfl rfl ?_
  refine at_alen 9 .int dX9_split_8 rfl (hW) (fun _ => rfl) rfl ?_
  rw [show Int32.ofNat nw = nI nw from rfl]
  refine at_icmp_gtN 27 12 dX9_split_9 rfl rfl (by omega) (by omega) (fun cc => ?_) (fun cc => ?_)
  · omega
  refine at_iload 14 dX9_split_12 rfl rfl ?_
  refine at_if_ltN 27 17 dX9_split_14 rfl rfl (by omega) ?_
  refine at_iload 19 dX9_split_17 rfl rfl ?_
  refine at_aload 21 dX9_split_19 rfl rfl ?_
  refine at_alen 22 .int dX9_split_21 rfl (hO) (fun _ => rfl) rfl ?_
  refine at_iload_n 23 dX9_split_22 rfl rfl rfl ?_
  rw [show Int32.ofNat no = nI no from rfl]
  first | refine at_isubN 24 dX9_split_23 rfl (by omega) ?_ | refine at_isub 24 dX9_split_23 rfl ?_
  refine at_icmp_leN 28 27 dX9_split_24 rfl rfl (by omega) (by omega) (fun cc => ?_) (fun cc => ?_)
  rotate_left
  · omega
  refine at_lconst 29 (lN 0) dX9_split_28 rfl rfl ?_
  refine at_lstore (L' := [_, _, _, _, _, _, _, _, _, _, _, _, _, _, _, _]) 31 dX9_split_29 rfl (by decide) rfl rfl ?_
  refine at_iconst 32 (nI 0) dX9_split_31 rfl (by decide) ?_
  refine at_istore (L' := [_, _, _, _, _, _, _, _, _, _, _, _, _, _, _, _]) 34 dX9_split_32 rfl (by decide) rfl rfl ?_
  have loop1 : ∀ (d i : Nat), i + d = n → At mX9_split T0 34 [.ref 1, .int (nI g), .ref kw, .int (nI n), .ref ko, .int (nI a), .long (lN (sm w i)), .null, .int (nI i), .null, .null, .null, .null, .null, .null, .null] [] h 0 0 (ZM mX9_split (fun r h' => r = none ∧ (∃ R', h'[2]? = some (aL 32 R')) ∧ (∃ P', h'[3]? = some (aI 32 P')) ∧ h'[ko]? = some (aI no (shr a n (share g w n) o)) ∧ Fr (fun j => j = 2 ∨ j = 3 ∨ j = ko) h h')) := by
    intro d
    induction d with
    | zero =>
      intro i hi
      have hin : i = n := by omega
      refine at_iload 36 dX9_split_34 rfl rfl ?_
      refine at_iload_n 37 dX9_split_36 rfl rfl rfl ?_
      refine at_icmp_geN 56 40 dX9_split_37 rfl rfl (by omega) (by omega) (fun cc => ?_) (fun cc => ?_)
      · rw [hin]
        refine at_lload 58 dX9_split_56 rfl rfl ?_
        refine at_lconst 59 (lN 0) dX9_split_58 rfl rfl ?_
        refine at_lcmp_gtN 60 64 63 dX9_split_59 rfl dX9_split_60 rfl rfl (by omega) (by omega) (fun cc => ?_) (fun cc => ?_)
        rotate_left
        · omega
        refine at_iload_n 65 dX9_split_64 rfl rfl rfl ?_
        refine at_istore (L' := [_, _, _, _, _, _, _, _, _, _, _, _, _, _, _, _]) 67 dX9_split_65 rfl (by decide) rfl rfl ?_
        refine at_iconst 68 (nI 0) dX9_split_67 rfl (by decide) ?_
        refine at_istore (L' := [_, _, _, _, _, _, _, _, _, _, _, _, _, _, _, _]) 70 dX9_split_68 rfl (by decide) rfl rfl ?_
        refine at_iconst 71 (nI 0) dX9_split_70 rfl (by decide) ?_
        refine at_istore (L' := [_, _, _, _, _, _, _, _, _, _, _, _, _, _, _, _]) 73 dX9_split_71 rfl (by decide) rfl rfl ?_
        have hL := left_cnt (g := g) hT
        have loop2 : ∀ (d i m : Nat) (p R' P' : Nat → Nat) (h' : List PC), i + d = n → m ≤ i → m = cnt (rst g w (sm w n)) i → Cmp i (rst g w (sm w n)) m p → (∀ j, j < m → R' j = rst g w (sm w n) (p j)) → (∀ j, j < m → P' j = a + p j) → h'[2]? = some (aL 32 R') → h'[3]? = some (aI 32 P') → h'[ko]? = some (aI no (shr a i (prt g w (sm w n)) o)) → Fr (fun j => j = 2 ∨ j = 3 ∨ j = ko) h h' → At mX9_split T0 73 [.ref 1, .int (nI g), .ref kw, .int (nI n), .ref ko, .int (nI a), .long (lN (sm w n)), .null, .int (nI (g - sm (prt g w (sm w n)) i)), .int (nI m), .int (nI i), .null, .null, .null, .null, .null] [] h' 0 0 (ZM mX9_split (fun r h' => r = none ∧ (∃ R', h'[2]? = some (aL 32 R')) ∧ (∃ P', h'[3]? = some (aI 32 P')) ∧ h'[ko]? = some (aI no (shr a n (share g w n) o)) ∧ Fr (fun j => j = 2 ∨ j = 3 ∨ j = ko) h h')) := by
          intro d
          induction d with
          | zero =>
            intro i m p R' P' h' hi hm hmc hC hR' hP' a2 a3 aO hfr
            have hin2 : i = n := by omega
            have a1 := hfr.at (k := 1) (by omega) h1
            refine at_iload 75 dX9_split_73 rfl rfl ?_
            refine at_iload_n 76 dX9_split_75 rfl rfl rfl ?_
            refine at_icmp_geN 172 79 dX9_split_76 rfl rfl (by omega) (by omega) (fun cc => ?_) (fun cc => ?_)
            · rw [hin2] at hC aO hm ⊢
              refine at_aload_n 173 dX9_split_172 rfl rfl rfl ?_
              refine at_iload 175 dX9_split_173 rfl rfl ?_
              refine at_iload 177 dX9_split_175 rfl rfl ?_
              refine at_aload 179 dX9_split_177 rfl rfl ?_
              have hcm : g - sm (prt g w (sm w n)) n ≤ m := by
                rw [hmc, hin2]; exact hL.2
              refine at_invV (ci := 9) 182 [_, _, _] _ (c_X9_giveLeft a1 a2 a3 aO hko (by omega) hcm (fun j hj => by rw [hP' j hj]; have := hC.1 j hj; omega) (by omega) (fun j hj => by rw [hR' j hj]; have : rst g w (sm w n) (p j) < sm w n := Nat.mod_lt _ hT; omega)) dX9_split_179 rfl rfl (by assumption) rfl ml_X9_19 cl_X9_giveLeft vl_X9_giveLeft rfl (Nat.le_of_ble_eq_true rfl) ⟨by decide, by decide⟩ (by decide) (fun rr hh qq => ?_)
              obtain ⟨rfl, ⟨R2, b2⟩, bO, bfr⟩ := qq
              refine at_vret dX9_split_182 rfl (by decide) (by decide) ?_
              refine ⟨rfl, ⟨R2, b2⟩, ⟨P', bfr.at (k := 3) (by omega) a3⟩, ?_, hfr.tr bfr (fun j hj => by omega)⟩
              rw [bO]
              congr 2
              have key := giveC_eq (a := a) (n := n) (m := m) (p := p) (g - sm (prt g w (sm w n)) n) (rst g w (sm w n)) (prt g w (sm w n)) R' (shr a n (prt g w (sm w n)) o) hL.2 hC hR' (fun i hi => by unfold shr; rw [if_pos (by omega)]; congr 1; omega)
              rw [giveC_cg (P' := fun j => a + p j) hP' _ _ _ hcm]
              funext x
              by_cases e : a ≤ x ∧ x < a + n
              · have k1 := key.1 (x - a) (by omega)
                rw [show a + (x - a) = x by omega] at k1
                rw [k1]
                unfold shr
                rw [if_pos e]
                rfl
              · rw [key.2 x (by omega)]
                unfold shr
                rw [if_neg e, if_neg e]
            · omega
          | succ d ih =>
            intro i m p R' P' h' hi hm hmc hC hR' hP' a2 a3 aO hfr
            have a1 := hfr.at (k := 1) (by omega) h1
            have aW := hfr.at (k := kw) (by omega) hW
            have hwi : w i ≤ sm w n := sm_el w (by omega)
            have hpr : g * w i < 2 ^ 62 := by
              have : g * w i ≤ (2 ^ 31 - 1) * (2 ^ 31 - 1) := Nat.mul_le_mul (by omega) (by omega)
              omega
            have hpg : prt g w (sm w n) i ≤ g - sm (prt g w (sm w n)) i := by
              have e1 := sm_mono (prt g w (sm w n)) (m := i + 1) (n := n) (by omega)
              have e2 : sm (prt g w (sm w n)) (i + 1) = sm (prt g w (sm w n)) i + prt g w (sm w n) i := rfl
              omega
            have hlf : g - sm (prt g w (sm w n)) i - prt g w (sm w n) i = g - sm (prt g w (sm w n)) (i + 1) := by
              have e2 : sm (prt g w (sm w n)) (i + 1) = sm (prt g w (sm w n)) i + prt g w (sm w n) i := rfl
              omega
            refine at_iload 75 dX9_split_73 rfl rfl ?_
            refine at_iload_n 76 dX9_split_75 rfl rfl rfl ?_
            refine at_icmp_geN 172 79 dX9_split_76 rfl rfl (by omega) (by omega) (fun cc => ?_) (fun cc => ?_)
            · omega
            refine at_iconst 80 (nI 0) dX9_split_79 rfl (by decide) ?_
            refine at_istore (L' := [_, _, _, _, _, _, _, _, _, _, _, _, _, _, _, _]) 82 dX9_split_80 rfl (by decide) rfl rfl ?_
            refine at_aload_n 83 dX9_split_82 rfl rfl rfl ?_
            refine at_iload 85 dX9_split_83 rfl rfl ?_
            first | refine at_ia 86 dX9_split_85 rfl ⟨_, _, by assumption, by omega, by first | decide | omega, ?_⟩ | refine at_iaG 86 dX9_split_85 rfl ⟨_, _, by assumption, by omega, by first | decide | omega, ?_⟩
            refine at_if_eqN 149 89 dX9_split_86 rfl rfl (by omega) (fun cc => ?_) (fun cc => ?_)
            · have hp0 : prt g w (sm w n) i = 0 := by unfold prt; rw [cc]; simp
              have hr0 : rst g w (sm w n) i = 0 := by unfold rst; rw [cc]; simp
              refine at_aload 151 dX9_split_149 rfl rfl ?_
              refine at_iload 153 dX9_split_151 rfl rfl ?_
              refine at_iload 155 dX9_split_153 rfl rfl ?_
              first | refine at_iaddN 156 dX9_split_155 rfl ?_ | refine at_iadd 156 dX9_split_155 rfl ?_
              refine at_iload 158 dX9_split_156 rfl rfl ?_
              first | refine at_is 159 dX9_split_158 rfl ⟨_, _, by assumption, by omega, by first | decide | omega, fun hh3 nn3 => ?_⟩ | refine at_isG 159 dX9_split_158 rfl ⟨_, _, by assumption, by omega, by first | decide | omega, fun hh3 nn3 => ?_⟩
              replace a1 := nn3.o (by first | decide | omega | assumption) a1
              replace a2 := nn3.o (by first | decide | omega | assumption) a2
              replace a3 := nn3.o (by first | decide | omega | assumption) a3
              replace aW := nn3.o (by first | decide | omega | assumption) aW
              replace aO := nn3.1
              replace hfr := hfr.nw nn3 (by first | (dsimp only; omega) | (dsimp only; done) | simp)
              clear nn3
              refine at_iload 161 dX9_split_159 rfl rfl ?_
              refine at_iload 163 dX9_split_161 rfl rfl ?_
              first | refine at_isubN 164 dX9_split_163 rfl (by omega) ?_ | refine at_isub 164 dX9_split_163 rfl ?_
              rw [show g - sm (prt g w (sm w n)) i - 0 = g - sm (prt g w (sm w n)) (i + 1) by rw [← hlf, hp0]]
              refine at_istore (L' := [_, _, _, _, _, _, _, _, _, _, _, _, _, _, _, _]) 166 dX9_split_164 rfl (by decide) rfl rfl ?_
              refine at_iincN (q := 1) (L' := [_, _, _, _, _, _, _, _, _, _, _, _, _, _, _, _]) 169 dX9_split_166 rfl (by decide) rfl (by decide) rfl rfl ?_
              refine at_goto 73 dX9_split_169 rfl ?_
              refine at_drop (L' := [_, _, _, _, _, _, _, _, _, _, _, _, _, _, _, _]) 11 rfl ?_
              refine ih (i + 1) m p R' P' _ (by omega) (by omega) (by show _ = cnt _ i + _; rw [if_neg (by omega)]; exact hmc) ⟨fun j hj => by have := hC.1 j hj; omega, hC.2.1, fun x hx hx2 => ?_⟩ hR' hP' a2 a3 ?_ hfr
              · by_cases e : x = i
                · rw [e, hr0] at hx2; omega
                · exact hC.2.2 x (by omega) hx2
              · rw [aO, ← shr_s, hp0]
            · have hmod : g * w i - g * w i / sm w n * sm w n = rst g w (sm w n) i := by
                unfold rst
                rw [Nat.mod_def, Nat.mul_comm (sm w n)]
              have hdl : g * w i / sm w n * sm w n ≤ g * w i := Nat.div_mul_le_self _ _
              have hpi : g * w i / sm w n = prt g w (sm w n) i := rfl
              refine at_iload_n 90 dX9_split_89 rfl rfl rfl ?_
              first | refine at_i2lN 91 dX9_split_90 rfl (by omega) ?_ | refine at_i2l 91 dX9_split_90 rfl rfl ?_
              refine at_aload_n 92 dX9_split_91 rfl rfl rfl ?_
              refine at_iload 94 dX9_split_92 rfl rfl ?_
              first | refine at_ia 95 dX9_split_94 rfl ⟨_, _, by assumption, by omega, by first | decide | omega, ?_⟩ | refine at_iaG 95 dX9_split_94 rfl ⟨_, _, by assumption, by omega, by first | decide | omega, ?_⟩
              first | refine at_i2lN 96 dX9_split_95 rfl (by omega) ?_ | refine at_i2l 96 dX9_split_95 rfl rfl ?_
              first | refine at_lmulN 97 dX9_split_96 rfl ?_ | refine at_lmul 97 dX9_split_96 rfl ?_
              refine at_lstore (L' := [_, _, _, _, _, _, _, _, _, _, _, _, _, _, _, _]) 99 dX9_split_97 rfl (by decide) rfl rfl ?_
              refine at_lload 101 dX9_split_99 rfl rfl ?_
              refine at_lload 103 dX9_split_101 rfl rfl ?_
              refine at_ldivN 104 dX9_split_103 rfl (by omega) (by omega) (by omega) ?_
              first | refine at_l2iN 105 dX9_split_104 rfl ?_ | refine at_l2i 105 dX9_split_104 rfl rfl ?_
              refine at_istore (L' := [_, _, _, _, _, _, _, _, _, _, _, _, _, _, _, _]) 107 dX9_split_105 rfl (by decide) rfl rfl ?_
              refine at_lload 109 dX9_split_107 rfl rfl ?_
              refine at_iload 111 dX9_split_109 rfl rfl ?_
              first | refine at_i2lN 112 dX9_split_111 rfl (by rw [hpi]; omega) ?_ | refine at_i2l 112 dX9_split_111 rfl rfl ?_
              refine at_lload 114 dX9_split_112 rfl rfl ?_
              first | refine at_lmulN 115 dX9_split_114 rfl ?_ | refine at_lmul 115 dX9_split_114 rfl ?_
              first | refine at_lsubN 116 dX9_split_115 rfl (hdl) ?_ | refine at_lsub 116 dX9_split_115 rfl ?_
              rw [hmod, hpi]
              refine at_lstore (L' := [_, _, _, _, _, _, _, _, _, _, _, _, _, _, _, _]) 118 dX9_split_116 rfl (by decide) rfl rfl ?_
              refine at_lload 120 dX9_split_118 rfl rfl ?_
              refine at_lconst 121 (lN 0) dX9_split_120 rfl rfl ?_
              refine at_lcmp_leN 122 149 125 dX9_split_121 rfl dX9_split_122 rfl rfl (by have : rst g w (sm w n) i < sm w n := Nat.mod_lt _ hT; omega) (by omega) (fun cc => ?_) (fun cc => ?_)
              · refine at_aload 151 dX9_split_149 rfl rfl ?_
                refine at_iload 153 dX9_split_151 rfl rfl ?_
                refine at_iload 155 dX9_split_153 rfl rfl ?_
                first | refine at_iaddN 156 dX9_split_155 rfl ?_ | refine at_iadd 156 dX9_split_155 rfl ?_
                refine at_iload 158 dX9_split_156 rfl rfl ?_
                first | refine at_is 159 dX9_split_158 rfl ⟨_, _, by assumption, by omega, by first | decide | omega, fun hh4 nn4 => ?_⟩ | refine at_isG 159 dX9_split_158 rfl ⟨_, _, by assumption, by omega, by first | decide | omega, fun hh4 nn4 => ?_⟩
                replace a1 := nn4.o (by first | decide | omega | assumption) a1
                replace a2 := nn4.o (by first | decide | omega | assumption) a2
                replace a3 := nn4.o (by first | decide | omega | assumption) a3
                replace aW := nn4.o (by first | decide | omega | assumption) aW
                replace aO := nn4.1
                replace hfr := hfr.nw nn4 (by first | (dsimp only; omega) | (dsimp only; done) | simp)
                clear nn4
                refine at_iload 161 dX9_split_159 rfl rfl ?_
                refine at_iload 163 dX9_split_161 rfl rfl ?_
                first | refine at_isubN 164 dX9_split_163 rfl (by omega) ?_ | refine at_isub 164 dX9_split_163 rfl ?_
                rw [hlf]
                refine at_istore (L' := [_, _, _, _, _, _, _, _, _, _, _, _, _, _, _, _]) 166 dX9_split_164 rfl (by decide) rfl rfl ?_
                refine at_iincN (q := 1) (L' := [_, _, _, _, _, _, _, _, _, _, _, _, _, _, _, _]) 169 dX9_split_166 rfl (by decide) rfl (by decide) rfl rfl ?_
                refine at_goto 73 dX9_split_169 rfl ?_
                refine at_drop (L' := [_, _, _, _, _, _, _, _, _, _, _, _, _, _, _, _]) 11 rfl ?_
                refine at_drop (L' := [_, _, _, _, _, _, _, _, _, _, _, _, _, _, _, _]) 12 rfl ?_
                refine at_drop (L' := [_, _, _, _, _, _, _, _, _, _, _, _, _, _, _, _]) 14 rfl ?_
                refine ih (i + 1) m p R' P' _ (by omega) (by omega) (by show _ = cnt _ i + _; rw [if_neg (by omega)]; exact hmc) ⟨fun j hj => by have := hC.1 j hj; omega, hC.2.1, fun x hx hx2 => ?_⟩ hR' hP' a2 a3 ?_ hfr
                · by_cases e : x = i
                  · rw [e] at hx2; omega
                  · exact hC.2.2 x (by omega) hx2
                · rw [aO, ← shr_s]
              · refine at_aload_n 126 dX9_split_125 rfl rfl rfl ?_
                refine at_g 129 dX9_split_126 rfl fl_X9_9 ⟨_, by assumption, ?_⟩
                refine ⟨_, rfl, ?_⟩
                refine at_iload 131 dX9_split_129 rfl rfl ?_
                refine at_lload 133 dX9_split_131 rfl rfl ?_
                first | refine at_ls 134 dX9_split_133 rfl ⟨_, _, by assumption, by omega, by first | decide | omega, fun hh5 nn5 => ?_⟩ | refine at_lsJ 134 dX9_split_133 rfl ⟨_, _, by assumption, by omega, by first | decide | omega, fun hh5 nn5 => ?_⟩
                replace a1 := nn5.o (by first | decide | omega | assumption) a1
                replace a2 := nn5.1
                replace a3 := nn5.o (by first | decide | omega | assumption) a3
                replace aW := nn5.o (by first | decide | omega | assumption) aW
                replace aO := nn5.o (by first | decide | omega | assumption) aO
                replace hfr := hfr.nw nn5 (by first | (dsimp only; omega) | (dsimp only; done) | simp)
                clear nn5
                refine at_aload_n 135 dX9_split_134 rfl rfl rfl ?_
                refine at_g 138 dX9_split_135 rfl fl_X9_15 ⟨_, by assumption, ?_⟩
                refine ⟨_, rfl, ?_⟩
                refine at_iload 140 dX9_split_138 rfl rfl ?_
                refine at_iload 142 dX9_split_140 rfl rfl ?_
                refine at_iload 144 dX9_split_142 rfl rfl ?_
                first | refine at_iaddN 145 dX9_split_144 rfl ?_ | refine at_iadd 145 dX9_split_144 rfl ?_
                first | refine at_is 146 dX9_split_145 rfl ⟨_, _, by assumption, by omega, by first | decide | omega, fun hh6 nn6 => ?_⟩ | refine at_isG 146 dX9_split_145 rfl ⟨_, _, by assumption, by omega, by first | decide | omega, fun hh6 nn6 => ?_⟩
                replace a1 := nn6.o (by first | decide | omega | assumption) a1
                replace a2 := nn6.o (by first | decide | omega | assumption) a2
                replace a3 := nn6.1
                replace aW := nn6.o (by first | decide | omega | assumption) aW
                replace aO := nn6.o (by first | decide | omega | assumption) aO
                replace hfr := hfr.nw nn6 (by first | (dsimp only; omega) | (dsimp only; done) | simp)
                clear nn6
                refine at_iincN (q := 1) (L' := [_, _, _, _, _, _, _, _, _, _, _, _, _, _, _, _]) 149 dX9_split_146 rfl (by decide) rfl (by decide) rfl rfl ?_
                refine at_aload 151 dX9_split_149 rfl rfl ?_
                refine at_iload 153 dX9_split_151 rfl rfl ?_
                refine at_iload 155 dX9_split_153 rfl rfl ?_
                first | refine at_iaddN 156 dX9_split_155 rfl ?_ | refine at_iadd 156 dX9_split_155 rfl ?_
                refine at_iload 158 dX9_split_156 rfl rfl ?_
                first | refine at_is 159 dX9_split_158 rfl ⟨_, _, by assumption, by omega, by first | decide | omega, fun hh7 nn7 => ?_⟩ | refine at_isG 159 dX9_split_158 rfl ⟨_, _, by assumption, by omega, by first | decide | omega, fun hh7 nn7 => ?_⟩
                replace a1 := nn7.o (by first | decide | omega | assumption) a1
                replace a2 := nn7.o (by first | decide | omega | assumption) a2
                replace a3 := nn7.o (by first | decide | omega | assumption) a3
                replace aW := nn7.o (by first | decide | omega | assumption) aW
                replace aO := nn7.1
                replace hfr := hfr.nw nn7 (by first | (dsimp only; omega) | (dsimp only; done) | simp)
                clear nn7
                refine at_iload 161 dX9_split_159 rfl rfl ?_
                refine at_iload 163 dX9_split_161 rfl rfl ?_
                first | refine at_isubN 164 dX9_split_163 rfl (by omega) ?_ | refine at_isub 164 dX9_split_163 rfl ?_
                rw [hlf]
                refine at_istore (L' := [_, _, _, _, _, _, _, _, _, _, _, _, _, _, _, _]) 166 dX9_split_164 rfl (by decide) rfl rfl ?_
                refine at_iincN (q := 1) (L' := [_, _, _, _, _, _, _, _, _, _, _, _, _, _, _, _]) 169 dX9_split_166 rfl (by decide) rfl (by decide) rfl rfl ?_
                refine at_goto 73 dX9_split_169 rfl ?_
                refine at_drop (L' := [_, _, _, _, _, _, _, _, _, _, _, _, _, _, _, _]) 11 rfl ?_
                refine at_drop (L' := [_, _, _, _, _, _, _, _, _, _, _, _, _, _, _, _]) 12 rfl ?_
                refine at_drop (L' := [_, _, _, _, _, _, _, _, _, _, _, _, _, _, _, _]) 14 rfl ?_
                refine ih (i + 1) (m + 1) (fun j => if j = m then i else p j) _ _ _ (by omega) (by omega) (by show _ = cnt _ i + _; rw [if_pos (by omega), hmc]) ⟨fun j hj => ?_, fun x y hxy hy => ?_, fun x hx hx2 => ?_⟩ (fun j hj => ?_) (fun j hj => ?_) a2 a3 ?_ hfr
                · dsimp only
                  by_cases e : j = m
                  · rw [if_pos e]; omega
                  · rw [if_neg e]; have := hC.1 j (by omega); omega
                · dsimp only
                  rw [if_neg (show ¬ x = m by omega)]
                  by_cases e : y = m
                  · rw [if_pos e]; exact hC.1 x (by omega)
                  · rw [if_neg e]; exact hC.2.1 x y hxy (by omega)
                · by_cases e : x = i
                  · exact ⟨m, by omega, by dsimp only; rw [if_pos rfl, e]⟩
                  · obtain ⟨j, hj, e2⟩ := hC.2.2 x (by omega) hx2
                    exact ⟨j, by omega, by dsimp only; rw [if_neg (by omega), e2]⟩
                · by_cases e : j = m
                  · rw [e, updN_s, if_pos rfl]
                  · rw [updN_n _ _ e, if_neg e]; exact hR' j (by omega)
                · by_cases e : j = m
                  · rw [e, updN_s, if_pos rfl]
                  · rw [updN_n _ _ e, if_neg e]; exact hP' j (by omega)
                · rw [aO, ← shr_s]
        exact loop2 n 0 0 (fun _ => 0) R P h (by omega) (by omega) rfl ⟨fun j hj => by omega, fun i j _ hj => by omega, fun x hx => by omega⟩ (fun j hj => by omega) (fun j hj => by omega) h2 h3 (by rw [shr_0]; exact hO) Fr.rf
      · omega
    | succ d ih =>
      intro i hi
      have hwi : w i ≤ sm w n := sm_el w (by omega)
      refine at_iload 36 dX9_split_34 rfl rfl ?_
      refine at_iload_n 37 dX9_split_36 rfl rfl rfl ?_
      refine at_icmp_geN 56 40 dX9_split_37 rfl rfl (by omega) (by omega) (fun cc => ?_) (fun cc => ?_)
      · omega
      refine at_lload 42 dX9_split_40 rfl rfl ?_
      refine at_aload_n 43 dX9_split_42 rfl rfl rfl ?_
      refine at_iload 45 dX9_split_43 rfl rfl ?_
      first | refine at_ia 46 dX9_split_45 rfl ⟨_, _, by assumption, by omega, by first | decide | omega, ?_⟩ | refine at_iaG 46 dX9_split_45 rfl ⟨_, _, by assumption, by omega, by first | decide | omega, ?_⟩
      first | refine at_i2lN 47 dX9_split_46 rfl (by omega) ?_ | refine at_i2l 47 dX9_split_46 rfl rfl ?_
      first | refine at_laddN 48 dX9_split_47 rfl ?_ | refine at_ladd 48 dX9_split_47 rfl ?_
      refine at_lstore (L' := [_, _, _, _, _, _, _, _, _, _, _, _, _, _, _, _]) 50 dX9_split_48 rfl (by decide) rfl rfl ?_
      refine at_iincN (q := 1) (L' := [_, _, _, _, _, _, _, _, _, _, _, _, _, _, _, _]) 53 dX9_split_50 rfl (by decide) rfl (by decide) rfl rfl ?_
      refine at_goto 34 dX9_split_53 rfl ?_
      exact ih (i + 1) (by omega)
  exact loop1 n 0 (by omega)

