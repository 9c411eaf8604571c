theorem fb_rng (x : Int32) : -2147483648 ≤ x.toInt ∧ x.toInt < 2147483648 := by
  have h1 := Int32.le_toInt x
  have h2 := Int32.toInt_lt x
  omega
theorem fb_bmodL {z : Int} (h1 : -9223372036854775808 ≤ z) (h2 : z < 9223372036854775808) : z.bmod (2 ^ 64) = z := by
  rw [Int.bmod_eq_of_le (by omega) (by omega)]
theorem lNm_toInt {a : Nat} (h : a < 2 ^ 62) : (lN a - 1).toInt = (a : Int) - 1 := by
  rw [Int64.toInt_sub, pk_lT (by omega), show (1 : Int64).toInt = 1 by decide, fb_bmodL (by omega) (by omega)]
theorem lNm_le {a b : Nat} (ha : a < 2 ^ 62) (hb : b < 2 ^ 62) : lg_cmp (lN a - 1) (lN b - 1) ≤ 0 ↔ a ≤ b := by
  have h1 : lN a - 1 > lN b - 1 ↔ b < a := by
    show lN b - 1 < lN a - 1 ↔ _
    rw [Int64.lt_iff_toInt_lt, lNm_toInt ha, lNm_toInt hb]; omega
  have h2 : lN a - 1 = lN b - 1 ↔ a = b := by
    rw [← Int64.toInt_inj, lNm_toInt ha, lNm_toInt hb]; omega
  unfold lg_cmp
  by_cases c1 : b < a
  · rw [if_pos (h1.mpr c1)]
    exact ⟨fun q => absurd q (by decide), fun q => by omega⟩
  · rw [if_neg (fun q => c1 (h1.mp q))]
    by_cases c2 : a = b
    · rw [if_pos (h2.mpr c2)]
      exact ⟨fun _ => by omega, fun _ => by decide⟩
    · rw [if_neg (fun q => c2 (h2.mp q))]
      exact ⟨fun _ => by omega, fun _ => by decide⟩
theorem c_X12_shareOut {h : List PC} {fe co hm im ce wd pu ho wa cm rm : Nat} {wn : Int32} {g n : Nat} {w Gt : Nat → Nat} {Rj : Nat → Int64} (h0 : h[106]? = some (oModel fe co hm im ce wd pu wn ho wa cm rm)) (hw : h[127]? = some (aL 32 w)) (hr : h[128]? = some (aJ 32 Rj)) (hgt : h[129]? = some (aI 32 Gt)) (hn0 : 0 < n) (hn : n ≤ 32) (hT : 0 < sm w n) (hTb : sm w n < 2 ^ 31) (hg : g < 2 ^ 31) : Ct mX12_shareOut [.ref 106, .int (nI g), .int (nI n)] h (fun r h' => r = none ∧ (∃ Rj', h'[128]? = some (aJ 32 Rj')) ∧ h'[129]? = some (aI 32 (shr 0 n (share g w n) Gt)) ∧ Fr (fun j => j = 128 ∨ j = 129) h h') := by
  refine ct_at (L := [_, _, _, _, _, _, _, _]) (by decide +kernel) rfl rfl (Nat.le_of_ble_eq_true rfl) ?_
  refine at_lconst 1 (lN 0) dX12_shareOut_0 rfl rfl ?_
  refine at_lstore_n (L' := [_, _, _, _, _, _, _, _]) 2 dX12_shareOut_1 rfl rfl (by decide) rfl rfl ?_
  refine at_iconst 3 (nI 0) dX12_shareOut_2 rfl (by decide) ?_
  refine at_istore (L' := [_, _, _, _, _, _, _, _]) 5 dX12_shareOut_3 rfl (by decide) rfl rfl ?_
  have loop1 : ∀ (d i : Nat), i + d = n → At mX12_shareOut T0 5 [.ref 106, .int (nI g), .int (nI n), .long (lN (sm w i)), .null, .int (nI i), .null, .null] [] h 0 0 (ZM mX12_shareOut (fun r h' => r = none ∧ (∃ Rj', h'[128]? = some (aJ 32 Rj')) ∧ h'[129]? = some (aI 32 (shr 0 n (share g w n) Gt)) ∧ Fr (fun j => j = 128 ∨ j = 129) h h')) := by
    intro d
    induction d with
    | succ d ih =>
      intro i hi
      refine at_iload 7 dX12_shareOut_5 rfl rfl ?_
      refine at_iload_n 8 dX12_shareOut_7 rfl rfl rfl ?_
      refine at_icmp_geN 27 11 dX12_shareOut_8 rfl rfl (by omega) (by omega) (fun cc => ?_) (fun cc => ?_)
      · omega
      refine at_lload_n 12 dX12_shareOut_11 rfl rfl rfl ?_
      refine at_aload_n 13 dX12_shareOut_12 rfl rfl rfl ?_
      refine at_g 16 dX12_shareOut_13 rfl fl_X12_83 ⟨_, by assumption, ?_⟩
      refine ⟨_, rfl, ?_⟩
      refine at_iload 18 dX12_shareOut_16 rfl rfl ?_
      first | refine at_la 19 dX12_shareOut_18 rfl ⟨_, _, by assumption, by omega, by first | decide | omega, ?_⟩ | refine at_laJ 19 dX12_shareOut_18 rfl ⟨_, _, by assumption, by omega, by first | decide | omega, ?_⟩
      first | refine at_laddN 20 dX12_shareOut_19 rfl ?_ | refine at_ladd 20 dX12_shareOut_19 rfl ?_
      refine at_lstore_n (L' := [_, _, _, _, _, _, _, _]) 21 dX12_shareOut_20 rfl rfl (by decide) rfl rfl ?_
      refine at_iincN (q := 1) (L' := [_, _, _, _, _, _, _, _]) 24 dX12_shareOut_21 rfl (by decide) rfl (by decide) rfl rfl ?_
      refine at_goto 5 dX12_shareOut_24 rfl ?_
      exact ih (i + 1) (by omega)
    | zero =>
      intro i hi
      have hin : i = n := by omega
      refine at_iload 7 dX12_shareOut_5 rfl rfl ?_
      refine at_iload_n 8 dX12_shareOut_7 rfl rfl rfl ?_
      refine at_icmp_geN 27 11 dX12_shareOut_8 rfl rfl (by omega) (by omega) (fun cc => ?_) (fun cc => ?_)
      rotate_left
      · omega
      rw [hin]
      refine at_iload_n 28 dX12_shareOut_27 rfl rfl rfl ?_
      refine at_istore (L' := [_, _, _, _, _, _, _, _]) 30 dX12_shareOut_28 rfl (by decide) rfl rfl ?_
      refine at_iconst 31 (nI 0) dX12_shareOut_30 rfl (by decide) ?_
      refine at_istore (L' := [_, _, _, _, _, _, _, _]) 33 dX12_shareOut_31 rfl (by decide) rfl rfl ?_
      have hL := left_cnt (g := g) hT
      have loop2 : ∀ (d i : Nat) (f : Nat → Int64) (h' : List PC), i + d = n → (∀ j, j < i → f j = lN (rst g w (sm w n) j)) → h'[128]? = some (aJ 32 f) → h'[129]? = some (aI 32 (shr 0 i (prt g w (sm w n)) Gt)) → Fr (fun j => j = 128 ∨ j = 129) h h' → At mX12_shareOut T0 33 [.ref 106, .int (nI g), .int (nI n), .long (lN (sm w n)), .null, .int (nI (g - sm (prt g w (sm w n)) i)), .int (nI i), .null] [] h' 0 0 (ZM mX12_shareOut (fun r h' => r = none ∧ (∃ Rj', h'[128]? = some (aJ 32 Rj')) ∧ h'[129]? = some (aI 32 (shr 0 n (share g w n) Gt)) ∧ Fr (fun j => j = 128 ∨ j = 129) h h')) := by
        intro d
        induction d with
        | succ d ih =>
          intro i f h' hi hf aR aG hfr
          have a0 := hfr.at (k := 106) (by omega) h0
          have aW := hfr.at (k := 127) (by omega) hw
          have hwi : w i ≤ sm w n := sm_el w (by omega)
          have hpr : g * w i < 2 ^ 62 := by
            have : g * w i ≤ (2 ^ 31 - 1) * (2 ^ 31 - 1) := Nat.mul_le_mul (by omega) (by omega)
            omega
          have hpg : prt g w (sm w n) i ≤ g - sm (prt g w (sm w n)) i := by
            have e1 := sm_mono (prt g w (sm w n)) (m := i + 1) (n := n) (by omega)
            have e2 : sm (prt g w (sm w n)) (i + 1) = sm (prt g w (sm w n)) i + prt g w (sm w n) i := rfl
            omega
          have hlf : g - sm (prt g w (sm w n)) i - prt g w (sm w n) i = g - sm (prt g w (sm w n)) (i + 1) := by
            have e2 : sm (prt g w (sm w n)) (i + 1) = sm (prt g w (sm w n)) i + prt g w (sm w n) i := rfl
            omega
          refine at_iload 35 dX12_shareOut_33 rfl rfl ?_
          refine at_iload_n 36 dX12_shareOut_35 rfl rfl rfl ?_
          refine at_icmp_geN 96 39 dX12_shareOut_36 rfl rfl (by omega) (by omega) (fun cc => ?_) (fun cc => ?_)
          · omega
          refine at_aload_n 40 dX12_shareOut_39 rfl rfl rfl ?_
          refine at_g 43 dX12_shareOut_40 rfl fl_X12_90 ⟨_, by assumption, ?_⟩
          refine ⟨_, rfl, ?_⟩
          refine at_iload 45 dX12_shareOut_43 rfl rfl ?_
          refine at_iload_n 46 dX12_shareOut_45 rfl rfl rfl ?_
          first | refine at_i2lN 47 dX12_shareOut_46 rfl (by omega) ?_ | refine at_i2l 47 dX12_shareOut_46 rfl rfl ?_
          refine at_aload_n 48 dX12_shareOut_47 rfl rfl rfl ?_
          refine at_g 51 dX12_shareOut_48 rfl fl_X12_83 ⟨_, by assumption, ?_⟩
          refine ⟨_, rfl, ?_⟩
          refine at_iload 53 dX12_shareOut_51 rfl rfl ?_
          first | refine at_la 54 dX12_shareOut_53 rfl ⟨_, _, by assumption, by omega, by first | decide | omega, ?_⟩ | refine at_laJ 54 dX12_shareOut_53 rfl ⟨_, _, by assumption, by omega, by first | decide | omega, ?_⟩
          first | refine at_lmulN 55 dX12_shareOut_54 rfl ?_ | refine at_lmul 55 dX12_shareOut_54 rfl ?_
          refine at_lload_n 56 dX12_shareOut_55 rfl rfl rfl ?_
          refine at_ldivN 57 dX12_shareOut_56 rfl (by omega) (by omega) (by omega) ?_
          first | refine at_l2iN 58 dX12_shareOut_57 rfl ?_ | refine at_l2i 58 dX12_shareOut_57 rfl rfl ?_
          first | refine at_is 59 dX12_shareOut_58 rfl ⟨_, _, by assumption, by omega, by first | decide | omega, fun hh1 nn1 => ?_⟩ | refine at_isG 59 dX12_shareOut_58 rfl ⟨_, _, by assumption, by omega, by first | decide | omega, fun hh1 nn1 => ?_⟩
          replace a0 := nn1.o (by first | decide | omega | assumption) a0
          replace aR := nn1.o (by first | decide | omega | assumption) aR
          replace aG := nn1.1
          replace aW := nn1.o (by first | decide | omega | assumption) aW
          replace hfr := hfr.nw nn1 (by first | (dsimp only; omega) | (dsimp only; done) | simp)
          clear nn1
          have e9 : updN (shr 0 i (prt g w (sm w n)) Gt) i (g * w i / sm w n) = shr 0 (i + 1) (prt g w (sm w n)) Gt := by
            have := shr_s 0 i (prt g w (sm w n)) Gt
            rw [Nat.zero_add] at this
            exact this
          rw [e9] at aG
          refine at_aload_n 60 dX12_shareOut_59 rfl rfl rfl ?_
          refine at_g 63 dX12_shareOut_60 rfl fl_X12_87 ⟨_, by assumption, ?_⟩
          refine ⟨_, rfl, ?_⟩
          refine at_iload 65 dX12_shareOut_63 rfl rfl ?_
          refine at_iload_n 66 dX12_shareOut_65 rfl rfl rfl ?_
          first | refine at_i2lN 67 dX12_shareOut_66 rfl (by omega) ?_ | refine at_i2l 67 dX12_shareOut_66 rfl rfl ?_
          refine at_aload_n 68 dX12_shareOut_67 rfl rfl rfl ?_
          refine at_g 71 dX12_shareOut_68 rfl fl_X12_83 ⟨_, by assumption, ?_⟩
          refine ⟨_, rfl, ?_⟩
          refine at_iload 73 dX12_shareOut_71 rfl rfl ?_
          first | refine at_la 74 dX12_shareOut_73 rfl ⟨_, _, by assumption, by omega, by first | decide | omega, ?_⟩ | refine at_laJ 74 dX12_shareOut_73 rfl ⟨_, _, by assumption, by omega, by first | decide | omega, ?_⟩
          first | refine at_lmulN 75 dX12_shareOut_74 rfl ?_ | refine at_lmul 75 dX12_shareOut_74 rfl ?_
          refine at_lload_n 76 dX12_shareOut_75 rfl rfl rfl ?_
          refine at_lremN 77 dX12_shareOut_76 rfl (by omega) (by omega) (by omega) ?_
          first | refine at_ls 78 dX12_shareOut_77 rfl ⟨_, _, by assumption, by omega, by first | decide | omega, fun hh2 nn2 => ?_⟩ | refine at_lsJ 78 dX12_shareOut_77 rfl ⟨_, _, by assumption, by omega, by first | decide | omega, fun hh2 nn2 => ?_⟩
          replace a0 := nn2.o (by first | decide | omega | assumption) a0
          replace aR := nn2.1
          replace aG := nn2.o (by first | decide | omega | assumption) aG
          replace aW := nn2.o (by first | decide | omega | assumption) aW
          replace hfr := hfr.nw nn2 (by first | (dsimp only; omega) | (dsimp only; done) | simp)
          clear nn2
          refine at_iload 80 dX12_shareOut_78 rfl rfl ?_
          refine at_aload_n 81 dX12_shareOut_80 rfl rfl rfl ?_
          refine at_g 84 dX12_shareOut_81 rfl fl_X12_90 ⟨_, by assumption, ?_⟩
          refine ⟨_, rfl, ?_⟩
          refine at_iload 86 dX12_shareOut_84 rfl rfl ?_
          first | refine at_ia 87 dX12_shareOut_86 rfl ⟨_, _, by assumption, by omega, by first | decide | omega, ?_⟩ | refine at_iaG 87 dX12_shareOut_86 rfl ⟨_, _, by assumption, by omega, by first | decide | omega, ?_⟩
          have e3 : shr 0 (i + 1) (prt g w (sm w n)) Gt i = prt g w (sm w n) i := by unfold shr; rw [if_pos (by omega)]; rfl
          rw [e3]
          first | refine at_isubN 88 dX12_shareOut_87 rfl (by omega) ?_ | refine at_isub 88 dX12_shareOut_87 rfl ?_
          rw [hlf]
          refine at_istore (L' := [_, _, _, _, _, _, _, _]) 90 dX12_shareOut_88 rfl (by decide) rfl rfl ?_
          refine at_iincN (q := 1) (L' := [_, _, _, _, _, _, _, _]) 93 dX12_shareOut_90 rfl (by decide) rfl (by decide) rfl rfl ?_
          refine at_goto 33 dX12_shareOut_93 rfl ?_
          refine ih (i + 1) _ _ (by omega) (fun j hj => ?_) aR aG hfr
          by_cases e : j = i
          · rw [e, pk_uLs]; rfl
          · rw [pk_uLn e]; exact hf j (by omega)
        | zero =>
          intro i f h' hi hf aR aG hfr
          have hin2 : i = n := by omega
          refine at_iload 35 dX12_shareOut_33 rfl rfl ?_
          refine at_iload_n 36 dX12_shareOut_35 rfl rfl rfl ?_
          refine at_icmp_geN 96 39 dX12_shareOut_36 rfl rfl (by omega) (by omega) (fun cc => ?_) (fun cc => ?_)
          rotate_left
          · omega
          rw [hin2] at aG hf ⊢
          refine at_drop (L' := [_, _, _, _, _, _, _, _]) 6 rfl ?_
          have loop3 : ∀ (k : Nat) (r got W : Nat → Nat) (f : Nat → Int64) (h' : List PC), k ≤ cnt r n → k ≤ g → give n k r got = share g w n → (∀ i, i < n → W i ≤ r i + 1) → (∀ i, i < n → 0 < r i → W i = r i + 1) → (∀ i, i < n → r i < 2 ^ 31) → (∀ i, i < n → f i = lN (W i) - 1) → h'[128]? = some (aJ 32 f) → h'[129]? = some (aI 32 (shr 0 n got Gt)) → Fr (fun j => j = 128 ∨ j = 129) h h' → At mX12_shareOut T0 96 [.ref 106, .int (nI g), .int (nI n), .long (lN (sm w n)), .null, .int (nI k), .null, .null] [] h' 0 0 (ZM mX12_shareOut (fun r h' => r = none ∧ (∃ Rj', h'[128]? = some (aJ 32 Rj')) ∧ h'[129]? = some (aI 32 (shr 0 n (share g w n) Gt)) ∧ Fr (fun j => j = 128 ∨ j = 129) h h')) := by
            intro k
            induction k with
            | zero =>
              intro r got W f h' hc hkg hX hW1 hW2 hrb hf aR aG hfr
              refine at_iload 98 dX12_shareOut_96 rfl rfl ?_
              refine at_if_leN 168 101 dX12_shareOut_98 rfl rfl (by omega) (fun cc => ?_) (fun cc => ?_)
              · refine at_vret dX12_shareOut_168 rfl (by decide) (by decide) ?_
                refine ⟨rfl, ⟨_, aR⟩, ?_, hfr⟩
                rw [aG, ← hX]; rfl
              · omega
            | succ k ih =>
              intro r got W f h' hc hkg hX hW1 hW2 hrb hf aR aG hfr
              have a0 := hfr.at (k := 106) (by omega) h0
              refine at_iload 98 dX12_shareOut_96 rfl rfl ?_
              refine at_if_leN 168 101 dX12_shareOut_98 rfl rfl (by omega) (fun cc => ?_) (fun cc => ?_)
              · omega
              refine at_iconst 102 (nI 0) dX12_shareOut_101 rfl (by decide) ?_
              refine at_istore (L' := [_, _, _, _, _, _, _, _]) 104 dX12_shareOut_102 rfl (by decide) rfl rfl ?_
              refine at_iconst 105 (nI 0) dX12_shareOut_104 rfl (by decide) ?_
              refine at_istore (L' := [_, _, _, _, _, _, _, _]) 107 dX12_shareOut_105 rfl (by decide) rfl rfl ?_
              have inner : ∀ (e i : Nat), i + e = n → At mX12_shareOut T0 107 [.ref 106, .int (nI g), .int (nI n), .long (lN (sm w n)), .null, .int (nI (k + 1)), .int (nI (best W i)), .int (nI i)] [] h' 0 0 (ZM mX12_shareOut (fun r h' => r = none ∧ (∃ Rj', h'[128]? = some (aJ 32 Rj')) ∧ h'[129]? = some (aI 32 (shr 0 n (share g w n) Gt)) ∧ Fr (fun j => j = 128 ∨ j = 129) h h')) := by
                intro e
                induction e with
                | succ e ih2 =>
                  intro i hi
                  have hb : best W i < n := by
                    rcases Nat.eq_zero_or_pos i with q | q
                    · rw [q]; exact hn0
                    · have := (best_spec W i q).1; omega
                  have hWi := hW1 i (by omega)
                  have hWb := hW1 _ hb
                  have hri := hrb i (by omega)
                  have hrb2 := hrb _ hb
                  refine at_iload 109 dX12_shareOut_107 rfl rfl ?_
                  refine at_iload_n 110 dX12_shareOut_109 rfl rfl rfl ?_
                  refine at_icmp_geN 141 113 dX12_shareOut_110 rfl rfl (by omega) (by omega) (fun cc => ?_) (fun cc => ?_)
                  · omega
                  refine at_aload_n 114 dX12_shareOut_113 rfl rfl rfl ?_
                  refine at_g 117 dX12_shareOut_114 rfl fl_X12_87 ⟨_, by assumption, ?_⟩
                  refine ⟨_, rfl, ?_⟩
                  refine at_iload 119 dX12_shareOut_117 rfl rfl ?_
                  first | refine at_la 120 dX12_shareOut_119 rfl ⟨_, _, by assumption, by omega, by first | decide | omega, ?_⟩ | refine at_laJ 120 dX12_shareOut_119 rfl ⟨_, _, by assumption, by omega, by first | decide | omega, ?_⟩
                  refine at_aload_n 121 dX12_shareOut_120 rfl rfl rfl ?_
                  refine at_g 124 dX12_shareOut_121 rfl fl_X12_87 ⟨_, by assumption, ?_⟩
                  refine ⟨_, rfl, ?_⟩
                  refine at_iload 126 dX12_shareOut_124 rfl rfl ?_
                  first | refine at_la 127 dX12_shareOut_126 rfl ⟨_, _, by assumption, by omega, by first | decide | omega, ?_⟩ | refine at_laJ 127 dX12_shareOut_126 rfl ⟨_, _, by assumption, by omega, by first | decide | omega, ?_⟩
                  rw [hf i (by omega), hf _ hb]
                  refine at_lcmp 128 dX12_shareOut_127 rfl ?_
                  refine at_if_le 135 131 dX12_shareOut_128 rfl rfl (fun cc => ?_) (fun cc => ?_)
                  · rw [lNm_le (by omega) (by omega)] at cc
                    refine at_iincN (q := 1) (L' := [_, _, _, _, _, _, _, _]) 138 dX12_shareOut_135 rfl (by decide) rfl (by decide) rfl rfl ?_
                    refine at_goto 107 dX12_shareOut_138 rfl ?_
                    have hn2 := ih2 (i + 1) (by omega)
                    have e2 : best W (i + 1) = best W i := by
                      show (if W (best W i) < W i then i else best W i) = _
                      rw [if_neg (by omega)]
                    rw [e2] at hn2
                    exact hn2
                  · rw [lNm_le (by omega) (by omega)] at cc
                    refine at_iload 133 dX12_shareOut_131 rfl rfl ?_
                    refine at_istore (L' := [_, _, _, _, _, _, _, _]) 135 dX12_shareOut_133 rfl (by decide) rfl rfl ?_
                    refine at_iincN (q := 1) (L' := [_, _, _, _, _, _, _, _]) 138 dX12_shareOut_135 rfl (by decide) rfl (by decide) rfl rfl ?_
                    refine at_goto 107 dX12_shareOut_138 rfl ?_
                    have hn2 := ih2 (i + 1) (by omega)
                    have e2 : best W (i + 1) = i := by
                      show (if W (best W i) < W i then i else best W i) = _
                      rw [if_pos (by omega)]
                    rw [e2] at hn2
                    exact hn2
                | zero =>
                  intro i hi
                  have hin3 : i = n := by omega
                  refine at_iload 109 dX12_shareOut_107 rfl rfl ?_
                  refine at_iload_n 110 dX12_shareOut_109 rfl rfl rfl ?_
                  refine at_icmp_geN 141 113 dX12_shareOut_110 rfl rfl (by omega) (by omega) (fun cc => ?_) (fun cc => ?_)
                  rotate_left
                  · omega
                  rw [hin3]
                  have hbe := bestW hW1 hW2 (by omega)
                  obtain ⟨hb, hbp⟩ := best_pos (r := r) (n := n) (by omega)
                  have hcu := cnt_upd hbp hb
                  rw [hbe]
                  refine at_aload_n 142 dX12_shareOut_141 rfl rfl rfl ?_
                  refine at_g 145 dX12_shareOut_142 rfl fl_X12_90 ⟨_, by assumption, ?_⟩
                  refine ⟨_, rfl, ?_⟩
                  refine at_iload 147 dX12_shareOut_145 rfl rfl ?_
                  refine at_dup2 148 dX12_shareOut_147 rfl rfl rfl ?_
                  first | refine at_ia 149 dX12_shareOut_148 rfl ⟨_, _, by assumption, by omega, by first | decide | omega, ?_⟩ | refine at_iaG 149 dX12_shareOut_148 rfl ⟨_, _, by assumption, by omega, by first | decide | omega, ?_⟩
                  have e3 : shr 0 n got Gt (best r n) = got (best r n) := by unfold shr; rw [if_pos (by omega)]; rfl
                  rw [e3]
                  refine at_iconst 150 (nI 1) dX12_shareOut_149 rfl (by decide) ?_
                  first | refine at_iaddN 151 dX12_shareOut_150 rfl ?_ | refine at_iadd 151 dX12_shareOut_150 rfl ?_
                  first | refine at_is 152 dX12_shareOut_151 rfl ⟨_, _, by assumption, by omega, by first | decide | omega, fun hh3 nn3 => ?_⟩ | refine at_isG 152 dX12_shareOut_151 rfl ⟨_, _, by assumption, by omega, by first | decide | omega, fun hh3 nn3 => ?_⟩
                  replace a0 := nn3.o (by first | decide | omega | assumption) a0
                  replace aR := nn3.o (by first | decide | omega | assumption) aR
                  replace aG := nn3.1
                  replace hfr := hfr.nw nn3 (by first | (dsimp only; omega) | (dsimp only; done) | simp)
                  clear nn3
                  refine at_aload_n 153 dX12_shareOut_152 rfl rfl rfl ?_
                  refine at_g 156 dX12_shareOut_153 rfl fl_X12_87 ⟨_, by assumption, ?_⟩
                  refine ⟨_, rfl, ?_⟩
                  refine at_iload 158 dX12_shareOut_156 rfl rfl ?_
                  refine at_ldc2 161 (-1) dX12_shareOut_158 rfl cj_X12_128 ?_
                  first | refine at_ls 162 dX12_shareOut_161 rfl ⟨_, _, by assumption, by omega, by first | decide | omega, fun hh4 nn4 => ?_⟩ | refine at_lsJ 162 dX12_shareOut_161 rfl ⟨_, _, by assumption, by omega, by first | decide | omega, fun hh4 nn4 => ?_⟩
                  replace a0 := nn4.o (by first | decide | omega | assumption) a0
                  replace aR := nn4.1
                  replace aG := nn4.o (by first | decide | omega | assumption) aG
                  replace hfr := hfr.nw nn4 (by first | (dsimp only; omega) | (dsimp only; done) | simp)
                  clear nn4
                  refine at_idecN (L' := [_, _, _, _, _, _, _, _]) 165 dX12_shareOut_162 rfl rfl (by decide) rfl rfl ?_
                  refine at_goto 96 dX12_shareOut_165 rfl ?_
                  refine at_drop (L' := [_, _, _, _, _, _, _, _]) 6 rfl ?_
                  refine at_drop (L' := [_, _, _, _, _, _, _, _]) 7 rfl ?_
                  refine ih (updN r (best r n) 0) (updN got (best r n) (got (best r n) + 1)) (updN W (best r n) 0) _ _ (by omega) (by omega) hX (fun i hi => ?_) (fun i hi hp => ?_) (fun i hi => ?_) (fun i hi => ?_) aR ?_ hfr
                  · by_cases e : i = best r n
                    · rw [e, updN_s]; omega
                    · rw [updN_n _ _ e, updN_n _ _ e]; exact hW1 i hi
                  · by_cases e : i = best r n
                    · rw [e, updN_s] at hp; omega
                    · rw [updN_n _ _ e] at hp; rw [updN_n _ _ e, updN_n _ _ e]; exact hW2 i hi hp
                  · by_cases e : i = best r n
                    · rw [e, updN_s]; decide
                    · rw [updN_n _ _ e]; exact hrb i hi
                  · by_cases e : i = best r n
                    · rw [e, pk_uLs, updN_s]; decide
                    · rw [pk_uLn e, updN_n _ _ e]; exact hf i hi
                  · rw [aG]
                    congr 2
                    funext x
                    unfold updN shr
                    by_cases e : x = best r n
                    · subst e
                      simp [hb]
                    · simp [e]
              exact inner n 0 (by omega)
          refine loop3 (g - sm (prt g w (sm w n)) n) (rst g w (sm w n)) (prt g w (sm w n)) (fun i => rst g w (sm w n) i + 1) f h' hL.2 (by omega) rfl (fun i hi => by omega) (fun i hi _ => rfl) (fun i hi => ?_) (fun i hi => ?_) aR aG hfr
          · have : rst g w (sm w n) i < sm w n := Nat.mod_lt _ hT
            omega
          · rw [hf i hi]
            show _ = lN (_ + 1) - 1
            rw [← lN_1, Int64.add_sub_cancel]
      exact loop2 n 0 Rj h (by omega) (fun j hj => by omega) hr (by rw [shr_0]; exact hgt) Fr.rf
  exact loop1 n 0 (by omega)

