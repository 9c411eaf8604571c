def lotN (tk mk : Nat → Nat) (n : Nat) (l0 : Nat → Nat) : Nat → Nat := fun i => if i < 4 * n then share (tk (i / 4)) (fun t => mk (4 * (i / 4) + t)) 4 (i % 4) else l0 i
/-- the weights of an hour: shares, and a dose of s to the feed ti - 1 -/
def doseW (sh : Nat → Nat) (s ti : Nat) : Nat → Nat := fun f => sh f * (1000 - s) + (if f + 1 = ti then s * 1000 else 0)
theorem a_X0_measure {h h1 : List PC} {q n g sz m : Nat} {ti ds : Int32} {R P W mk l0 wc tk lt : Nat → Nat} (hq : 40 ≤ q) (h1s : h[1]? = some oSharer) (hF : h[4]? = some (oFeeds n)) (hr : h[6]? = some (aR 8 (rowsAt 6 8))) (hmk : ∀ f, f < 8 → Ar h (7 + f) 4 (fun t => mk (4 * f + t))) (hM : h[18]? = some (oMix m)) (hn : n ≤ 8) (hg : g < 2 ^ 31) (hT : 0 < sm W 8) (hTb : sm W 8 < 2 ^ 31) (hms : ∀ f, f < n → sm (fun t => mk (4 * f + t)) 4 = 1000)
    (a2 : h1[2]? = some (aL 32 R)) (a3 : h1[3]? = some (aI 32 P)) (aq : h1[q]? = some (oCharge q sz)) (aw : h1[q + 1]? = some (aI 8 wc)) (at2 : h1[q + 2]? = some (aI 8 tk)) (al : h1[q + 3]? = some (aI 32 lt)) (hwc : ∀ i, i < 8 → wc i = W i) (hlt : ∀ i, i < 32 → lt i = l0 i) (hfr : Fr (fun j => j = 2 ∨ j = 3 ∨ (q ≤ j ∧ j ≤ q + 3)) h h1) : At mX0_measure T0 64 [.ref q, .int (nI g), .int ti, .int ds, .int (nI 8)] [] h1 0 0 (ZM mX0_measure (fun r h' => r = none ∧ (∃ R', h'[2]? = some (aL 32 R')) ∧ (∃ P', h'[3]? = some (aI 32 P')) ∧ h'[q]? = some (oCharge q (n * 4)) ∧ (∃ w, h'[q + 1]? = some (aI 8 w)) ∧ Ar h' (q + 2) 8 (share g W 8) ∧ Ar h' (q + 3) 32 (lotN (share g W 8) mk n l0) ∧ Fr (fun j => j = 2 ∨ j = 3 ∨ (q ≤ j ∧ j ≤ q + 3)) h h')) := by
  have b1 := hfr.at (k := 1) (by omega) h1s
  have hWs : sm wc 8 = sm W 8 := sm_congr hwc
  refine at_aload_n 65 dX0_measure_64 rfl rfl rfl ?_
  refine at_g 68 dX0_measure_65 rfl fl_X0_29 ⟨_, by assumption, ?_⟩
  refine ⟨_, rfl, ?_⟩
  refine at_iload_n 69 dX0_measure_68 rfl rfl rfl ?_
  refine at_aload_n 70 dX0_measure_69 rfl rfl rfl ?_
  refine at_g 73 dX0_measure_70 rfl fl_X0_9 ⟨_, by assumption, ?_⟩
  refine ⟨_, rfl, ?_⟩
  refine at_bipush 75 (nI 8) dX0_measure_73 rfl (by decide) ?_
  refine at_aload_n 76 dX0_measure_75 rfl rfl rfl ?_
  refine at_g 79 dX0_measure_76 rfl fl_X0_15 ⟨_, by assumption, ?_⟩
  refine ⟨_, rfl, ?_⟩
  refine at_iconst 80 (nI 0) dX0_measure_79 rfl (by decide) ?_
  refine at_invV (ci := 9) 83 [_, _, _, _, _] _ (c_X9_split b1 a2 a3 aw at2 (by omega) (by omega) (by decide) (by decide) (by decide) (by decide) (by omega) (by omega) hg) dX0_measure_80 rfl rfl (by assumption) rfl ml_X0_44 cl_X9_split vl_X9_split rfl (Nat.le_of_ble_eq_true rfl) ⟨by decide, by decide⟩ (by decide) (fun rr hh qq => ?_)
  obtain ⟨rfl, ⟨R2, c2⟩, ⟨P2, c3⟩, ct, cfr⟩ := qq
  have htk : ∀ i, i < 8 → shr 0 8 (share g wc 8) tk i = share g W 8 i := fun i hi => by
    unfold shr
    rw [if_pos (by omega)]
    exact share_congr (by decide) hwc i hi
  generalize shr 0 8 (share g wc 8) tk = tk2 at ct htk
  have hfr2 : Fr (fun j => j = 2 ∨ j = 3 ∨ (q ≤ j ∧ j ≤ q + 3)) h hh := hfr.tr cfr (fun j hj => by omega)
  have cq := cfr.at (k := q) (by omega) aq
  have cw := cfr.at (k := q + 1) (by omega) aw
  have cl := cfr.at (k := q + 3) (by omega) al
  refine at_iconst 84 (nI 0) dX0_measure_83 rfl (by decide) ?_
  refine at_istore (L' := [_, _, _, _, _]) 86 dX0_measure_84 rfl (by decide) rfl rfl ?_
  have loop : ∀ (d f : Nat) (R P lt : Nat → Nat) (h2 : List PC), f + d = n → h2[2]? = some (aL 32 R) → h2[3]? = some (aI 32 P) → h2[q]? = some (oCharge q sz) → h2[q + 1]? = some (aI 8 wc) → h2[q + 2]? = some (aI 8 tk2) → h2[q + 3]? = some (aI 32 lt) → (∀ i, i < 32 → lt i = lotN (share g W 8) mk f l0 i) → Fr (fun j => j = 2 ∨ j = 3 ∨ (q ≤ j ∧ j ≤ q + 3)) h h2 → At mX0_measure T0 86 [.ref q, .int (nI g), .int ti, .int ds, .int (nI f)] [] h2 0 0 (ZM mX0_measure (fun r h' => r = none ∧ (∃ R', h'[2]? = some (aL 32 R')) ∧ (∃ P', h'[3]? = some (aI 32 P')) ∧ h'[q]? = some (oCharge q (n * 4)) ∧ (∃ w, h'[q + 1]? = some (aI 8 w)) ∧ Ar h' (q + 2) 8 (share g W 8) ∧ Ar h' (q + 3) 32 (lotN (share g W 8) mk n l0) ∧ Fr (fun j => j = 2 ∨ j = 3 ∨ (q ≤ j ∧ j ≤ q + 3)) h h')) := by
    intro d
    induction d with
    | zero =>
      intro f R P lt h2 hf a2 a3 aq aw at2 al hlt hfr
      have b4 := hfr.at (k := 4) (by omega) hF
      refine at_iload 88 dX0_measure_86 rfl rfl ?_
      refine at_aload_n 89 dX0_measure_88 rfl rfl rfl ?_
      refine at_g 92 dX0_measure_89 rfl fl_X0_21 ⟨_, by assumption, ?_⟩
      refine ⟨_, rfl, ?_⟩
      refine at_g 95 dX0_measure_92 rfl fl_X0_50 ⟨_, by assumption, ?_⟩
      refine ⟨_, rfl, ?_⟩
      refine at_icmp_geN 137 98 dX0_measure_95 rfl rfl (by omega) (by omega) (fun cc => ?_) (fun cc => ?_)
      rotate_left
      · omega
      refine at_aload_n 138 dX0_measure_137 rfl rfl rfl ?_
      refine at_aload_n 139 dX0_measure_138 rfl rfl rfl ?_
      refine at_g 142 dX0_measure_139 rfl fl_X0_21 ⟨_, by assumption, ?_⟩
      refine ⟨_, rfl, ?_⟩
      refine at_g 145 dX0_measure_142 rfl fl_X0_50 ⟨_, by assumption, ?_⟩
      refine ⟨_, rfl, ?_⟩
      refine at_iconst 146 (nI 4) dX0_measure_145 rfl (by decide) ?_
      first | refine at_imulN 147 dX0_measure_146 rfl ?_ | refine at_imul 147 dX0_measure_146 rfl ?_
      refine at_pi 150 dX0_measure_147 rfl pl_X0_58 (rfl) (rfl) ⟨_, by assumption, ?_⟩
      refine ⟨(Nat.le_of_ble_eq_true rfl), [_, _, _, _, _, _, _], rfl, fun hh1 nn1 => ?_⟩
      replace a2 := nn1.o (by first | decide | omega | assumption) a2
      replace a3 := nn1.o (by first | decide | omega | assumption) a3
      replace aq := nn1.1
      replace aw := nn1.o (by first | decide | omega | assumption) aw
      replace at2 := nn1.o (by first | decide | omega | assumption) at2
      replace al := nn1.o (by first | decide | omega | assumption) al
      replace b4 := nn1.o (by first | decide | omega | assumption) b4
      replace hfr := hfr.nw nn1 (by first | (dsimp only; omega) | (dsimp only; done) | simp)
      clear nn1
      refine at_vret dX0_measure_150 rfl (by decide) (by decide) ?_
      exact ⟨rfl, ⟨R, a2⟩, ⟨P, a3⟩, aq, ⟨wc, aw⟩, ⟨tk2, at2, htk⟩, ⟨lt, al, fun i hi => by rw [hlt i hi, show f = n by omega]⟩, hfr⟩
    | succ d ih =>
      intro f R P lt h2 hf a2 a3 aq aw at2 al hlt hfr
      have b1 := hfr.at (k := 1) (by omega) h1s
      have b4 := hfr.at (k := 4) (by omega) hF
      have b6 := hfr.at (k := 6) (by omega) hr
      obtain ⟨wk, ak, ek⟩ := (hmk f (by omega)).fr hfr (by omega)
      replace ek : ∀ i, i < 4 → wk i = mk (4 * f + i) := ek
      have hsk : sm wk 4 = 1000 := by rw [sm_congr (g := fun t => mk (4 * f + t)) ek]; exact hms f (by omega)
      have htf : tk2 f ≤ g := by rw [htk f (by omega)]; exact share_le_g hT (by omega)
      refine at_iload 88 dX0_measure_86 rfl rfl ?_
      refine at_aload_n 89 dX0_measure_88 rfl rfl rfl ?_
      refine at_g 92 dX0_measure_89 rfl fl_X0_21 ⟨_, by assumption, ?_⟩
      refine ⟨_, rfl, ?_⟩
      refine at_g 95 dX0_measure_92 rfl fl_X0_50 ⟨_, by assumption, ?_⟩
      refine ⟨_, rfl, ?_⟩
      refine at_icmp_geN 137 98 dX0_measure_95 rfl rfl (by omega) (by omega) (fun cc => ?_) (fun cc => ?_)
      · omega
      refine at_aload_n 99 dX0_measure_98 rfl rfl rfl ?_
      refine at_g 102 dX0_measure_99 rfl fl_X0_29 ⟨_, by assumption, ?_⟩
      refine ⟨_, rfl, ?_⟩
      refine at_aload_n 103 dX0_measure_102 rfl rfl rfl ?_
      refine at_g 106 dX0_measure_103 rfl fl_X0_15 ⟨_, by assumption, ?_⟩
      refine ⟨_, rfl, ?_⟩
      refine at_iload 108 dX0_measure_106 rfl rfl ?_
      first | refine at_ia 109 dX0_measure_108 rfl ⟨_, _, by assumption, by omega, by first | decide | omega, ?_⟩ | refine at_iaG 109 dX0_measure_108 rfl ⟨_, _, by assumption, by omega, by first | decide | omega, ?_⟩
      refine at_aload_n 110 dX0_measure_109 rfl rfl rfl ?_
      refine at_g 113 dX0_measure_110 rfl fl_X0_21 ⟨_, by assumption, ?_⟩
      refine ⟨_, rfl, ?_⟩
      refine at_g 116 dX0_measure_113 rfl fl_X0_54 ⟨_, by assumption, ?_⟩
      refine ⟨_, rfl, ?_⟩
      refine at_iload 118 dX0_measure_116 rfl rfl ?_
      refine at_aa 119 dX0_measure_118 rfl ⟨_, _, by assumption, by omega, by first | decide | omega, ?_⟩
      refine ⟨_, rowsAt_in (by omega), ?_⟩
      refine at_iconst 120 (nI 4) dX0_measure_119 rfl (by decide) ?_
      refine at_aload_n 121 dX0_measure_120 rfl rfl rfl ?_
      refine at_g 124 dX0_measure_121 rfl fl_X0_18 ⟨_, by assumption, ?_⟩
      refine ⟨_, rfl, ?_⟩
      refine at_iload 126 dX0_measure_124 rfl rfl ?_
      refine at_iconst 127 (nI 4) dX0_measure_126 rfl (by decide) ?_
      first | refine at_imulN 128 dX0_measure_127 rfl ?_ | refine at_imul 128 dX0_measure_127 rfl ?_
      refine at_invV (ci := 9) 131 [_, _, _, _, _] _ (c_X9_split (kw := 6 + 1 + f) b1 a2 a3 ak al (by omega) (by omega) (by decide) (by decide) (by omega) (by decide) (by omega) (by omega) (by omega)) dX0_measure_128 rfl rfl (by assumption) rfl ml_X0_44 cl_X9_split vl_X9_split rfl (Nat.le_of_ble_eq_true rfl) ⟨by decide, by decide⟩ (by decide) (fun rr hh qq => ?_)
      obtain ⟨rfl, ⟨R2, c2⟩, ⟨P2, c3⟩, cl, cfr⟩ := qq
      refine at_iincN (q := 1) (L' := [_, _, _, _, _]) 134 dX0_measure_131 rfl (by decide) rfl (by decide) rfl rfl ?_
      refine at_goto 86 dX0_measure_134 rfl ?_
      refine ih (f + 1) R2 P2 _ hh (by omega) c2 c3 (cfr.at (k := q) (by omega) aq) (cfr.at (k := q + 1) (by omega) aw) (cfr.at (k := q + 2) (by omega) at2) cl (fun i hi => ?_) (hfr.tr cfr (fun j hj => by omega))
      unfold shr
      by_cases e : f * 4 ≤ i ∧ i < f * 4 + 4
      · rw [if_pos e]
        unfold lotN
        rw [if_pos (by omega), show i / 4 = f by omega, show i % 4 = i - f * 4 by omega, htk f (by omega)]
        exact share_congr (by decide) ek _ (by omega)
      · rw [if_neg e, hlt i hi]
        unfold lotN
        by_cases e2 : i < 4 * f
        · rw [if_pos e2, if_pos (by omega)]
        · rw [if_neg e2, if_neg (by omega)]
  refine loop n 0 R2 P2 lt hh (by omega) c2 c3 cq cw ct cl (fun i hi => ?_) hfr2
  rw [hlt i hi]
  unfold lotN
  rw [if_neg (by omega)]
theorem c_X0_measure {h : List PC} {q n g sz m s ti : Nat} {ti0 : Int32} {R P mk l0 wc tk sh : Nat → Nat} (hti : (ti = 0 ∧ ti0 = -1) ∨ (∃ f, f < n ∧ ti = f + 1 ∧ ti0 = nI f)) (hq : 40 ≤ q) (h1s : h[1]? = some oSharer) (h2 : h[2]? = some (aL 32 R)) (h3 : h[3]? = some (aI 32 P)) (hF : h[4]? = some (oFeeds n)) (hr : h[6]? = some (aR 8 (rowsAt 6 8))) (hmk : ∀ f, f < 8 → Ar h (7 + f) 4 (fun t => mk (4 * f + t))) (hM : h[18]? = some (oMix m)) (hs : h[19]? = some (aI 8 sh)) (hQ : h[q]? = some (oCharge q sz)) (hw : h[q + 1]? = some (aI 8 wc)) (ht : h[q + 2]? = some (aI 8 tk)) (hl : h[q + 3]? = some (aI 32 l0)) (hn : n ≤ 8) (hg : g < 2 ^ 31) (hsd : s ≤ 1000) (hT : 0 < sm (doseW sh s ti) 8) (hTb : sm (doseW sh s ti) 8 < 2 ^ 31) (hms : ∀ f, f < n → sm (fun t => mk (4 * f + t)) 4 = 1000) : Ct mX0_measure [.ref q, .int (nI g), .int ti0, .int (nI s)] h (fun r h' => r = none ∧ (∃ R', h'[2]? = some (aL 32 R')) ∧ (∃ P', h'[3]? = some (aI 32 P')) ∧ h'[q]? = some (oCharge q (n * 4)) ∧ (∃ w, h'[q + 1]? = some (aI 8 w)) ∧ Ar h' (q + 2) 8 (share g (doseW sh s ti) 8) ∧ Ar h' (q + 3) 32 (lotN (share g (doseW sh s ti) 8) mk n l0) ∧ Fr (fun j => j = 2 ∨ j = 3 ∨ (q ≤ j ∧ j ≤ q + 3)) h h') := by
  refine ct_at (L := [_, _, _, _, _]) (by decide +kernel) rfl rfl (Nat.le_of_ble_eq_true rfl) ?_
  refine at_iconst 1 (nI 0) dX0_measure_0 rfl (by decide) ?_
  refine at_istore (L' := [_, _, _, _, _]) 3 dX0_measure_1 rfl (by decide) rfl rfl ?_
  have loop : ∀ (d i : Nat) (wc : Nat → Nat) (h1 : List PC), i + d = 8 → h1[q + 1]? = some (aI 8 wc) → (∀ j, j < i → wc j = sh j * (1000 - s)) → Fr (fun j => j = q + 1) h h1 → At mX0_measure T0 3 [.ref q, .int (nI g), .int ti0, .int (nI s), .int (nI i)] [] h1 0 0 (ZM mX0_measure (fun r h' => r = none ∧ (∃ R', h'[2]? = some (aL 32 R')) ∧ (∃ P', h'[3]? = some (aI 32 P')) ∧ h'[q]? = some (oCharge q (n * 4)) ∧ (∃ w, h'[q + 1]? = some (aI 8 w)) ∧ Ar h' (q + 2) 8 (share g (doseW sh s ti) 8) ∧ Ar h' (q + 3) 32 (lotN (share g (doseW sh s ti) 8) mk n l0) ∧ Fr (fun j => j = 2 ∨ j = 3 ∨ (q ≤ j ∧ j ≤ q + 3)) h h')) := by
    intro d
    induction d with
    | succ d ih =>
      intro i wc h1 hi hw hwc hfr
      have bq := hfr.at (k := q) (by omega) hQ
      have b18 := hfr.at (k := 18) (by omega) hM
      have b19 := hfr.at (k := 19) (by omega) hs
      refine at_iload 5 dX0_measure_3 rfl rfl ?_
      refine at_bipush 7 (nI 8) dX0_measure_5 rfl (by decide) ?_
      refine at_icmp_geN 39 10 dX0_measure_7 rfl rfl (by omega) (by omega) (fun cc => ?_) (fun cc => ?_)
      · omega
      refine at_aload_n 11 dX0_measure_10 rfl rfl rfl ?_
      refine at_g 14 dX0_measure_11 rfl fl_X0_9 ⟨_, by assumption, ?_⟩
      refine ⟨_, rfl, ?_⟩
      refine at_iload 16 dX0_measure_14 rfl rfl ?_
      refine at_aload_n 17 dX0_measure_16 rfl rfl rfl ?_
      refine at_g 20 dX0_measure_17 rfl fl_X0_25 ⟨_, by assumption, ?_⟩
      refine ⟨_, rfl, ?_⟩
      refine at_g 23 dX0_measure_20 rfl fl_X0_33 ⟨_, by assumption, ?_⟩
      refine ⟨_, rfl, ?_⟩
      refine at_iload 25 dX0_measure_23 rfl rfl ?_
      first | refine at_ia 26 dX0_measure_25 rfl ⟨_, _, by assumption, by omega, by first | decide | omega, ?_⟩ | refine at_iaG 26 dX0_measure_25 rfl ⟨_, _, by assumption, by omega, by first | decide | omega, ?_⟩
      refine at_sipush 29 (nI 1000) dX0_measure_26 rfl (by decide) ?_
      refine at_iload_n 30 dX0_measure_29 rfl rfl rfl ?_
      first | refine at_isubN 31 dX0_measure_30 rfl (by omega) ?_ | refine at_isub 31 dX0_measure_30 rfl ?_
      first | refine at_imulN 32 dX0_measure_31 rfl ?_ | refine at_imul 32 dX0_measure_31 rfl ?_
      first | refine at_is 33 dX0_measure_32 rfl ⟨_, _, by assumption, by omega, by first | decide | omega, fun hh2 nn2 => ?_⟩ | refine at_isG 33 dX0_measure_32 rfl ⟨_, _, by assumption, by omega, by first | decide | omega, fun hh2 nn2 => ?_⟩
      replace bq := nn2.o (by first | decide | omega | assumption) bq
      replace b18 := nn2.o (by first | decide | omega | assumption) b18
      replace b19 := nn2.o (by first | decide | omega | assumption) b19
      replace hw := nn2.1
      replace hfr := hfr.nw nn2 (by first | (dsimp only; omega) | (dsimp only; done) | simp)
      clear nn2
      refine at_iincN (q := 1) (L' := [_, _, _, _, _]) 36 dX0_measure_33 rfl (by decide) rfl (by decide) rfl rfl ?_
      refine at_goto 3 dX0_measure_36 rfl ?_
      refine ih (i + 1) _ _ (by omega) hw (fun j hj => ?_) hfr
      by_cases e : j = i
      · subst e; rw [updN_s]
      · rw [updN_n _ _ e]; exact hwc j (by omega)
    | zero =>
      intro i wc h1 hi hw hwc hfr
      have bq := hfr.at (k := q) (by omega) hQ
      have b4 := hfr.at (k := 4) (by omega) hF
      refine at_iload 5 dX0_measure_3 rfl rfl ?_
      refine at_bipush 7 (nI 8) dX0_measure_5 rfl (by decide) ?_
      refine at_icmp_geN 39 10 dX0_measure_7 rfl rfl (by omega) (by omega) (fun cc => ?_) (fun cc => ?_)
      rotate_left
      · omega
      rw [show i = 8 by omega]
      refine at_aload_n 40 dX0_measure_39 rfl rfl rfl ?_
      refine at_g 43 dX0_measure_40 rfl fl_X0_21 ⟨_, by assumption, ?_⟩
      refine ⟨_, rfl, ?_⟩
      refine at_iload_n 44 dX0_measure_43 rfl rfl rfl ?_
      refine at_invV (ci := 2) 47 [_] _ (c_X2_has ti0 b4) dX0_measure_44 rfl rfl (by assumption) rfl ml_X0_38 cl_X2_has vl_X2_has rfl (Nat.le_of_ble_eq_true rfl) ⟨by decide, by decide⟩ (by decide) (fun rr hh qq => ?_)
      obtain ⟨rfl, rfl⟩ := qq
      refine at_if_eqB 64 50 dX0_measure_47 rfl rfl (fun cc => ?_) (fun cc => ?_)
      · have e0 : ti = 0 := by
          rcases hti with q1 | ⟨f, q1, q2, q3⟩
          · exact q1.1
          · rw [q3] at cc
            have := of_decide_eq_false cc
            exact absurd ⟨nI_pos' (by omega), (nI_ltI (by omega) (by omega)).mpr q1⟩ this
        refine a_X0_measure (l0 := l0) (h := h) hq h1s hF hr hmk hM hn hg hT hTb hms (hfr.at (k := 2) (by omega) h2) (hfr.at (k := 3) (by omega) h3) bq hw (hfr.at (k := q + 2) (by omega) ht) (hfr.at (k := q + 3) (by omega) hl) (fun j hj => ?_) (fun _ _ => rfl) (hfr.wk (fun j hj => by omega))
        rw [hwc j (by omega)]
        unfold doseW
        rw [if_neg (by omega)]
        rfl
      · obtain ⟨f, q1, q2, q3⟩ : ∃ f, f < n ∧ ti = f + 1 ∧ ti0 = nI f := by
          rcases hti with q1 | q1
          · rw [q1.2] at cc
            have := (of_decide_eq_true cc).1
            exact absurd this (by decide)
          · exact q1
        subst q3
        refine at_aload_n 51 dX0_measure_50 rfl rfl rfl ?_
        refine at_g 54 dX0_measure_51 rfl fl_X0_9 ⟨_, by assumption, ?_⟩
        refine ⟨_, rfl, ?_⟩
        refine at_iload_n 55 dX0_measure_54 rfl rfl rfl ?_
        refine at_dup2 56 dX0_measure_55 rfl rfl rfl ?_
        first | refine at_ia 57 dX0_measure_56 rfl ⟨_, _, by assumption, by omega, by first | decide | omega, ?_⟩ | refine at_iaG 57 dX0_measure_56 rfl ⟨_, _, by assumption, by omega, by first | decide | omega, ?_⟩
        refine at_iload_n 58 dX0_measure_57 rfl rfl rfl ?_
        refine at_sipush 61 (nI 1000) dX0_measure_58 rfl (by decide) ?_
        first | refine at_imulN 62 dX0_measure_61 rfl ?_ | refine at_imul 62 dX0_measure_61 rfl ?_
        first | refine at_iaddN 63 dX0_measure_62 rfl ?_ | refine at_iadd 63 dX0_measure_62 rfl ?_
        first | refine at_is 64 dX0_measure_63 rfl ⟨_, _, by assumption, by omega, by first | decide | omega, fun hh3 nn3 => ?_⟩ | refine at_isG 64 dX0_measure_63 rfl ⟨_, _, by assumption, by omega, by first | decide | omega, fun hh3 nn3 => ?_⟩
        replace bq := nn3.o (by first | decide | omega | assumption) bq
        replace hw := nn3.1
        replace hfr := hfr.nw nn3 (by first | (dsimp only; omega) | (dsimp only; done) | simp)
        clear nn3
        refine a_X0_measure (l0 := l0) (h := h) hq h1s hF hr hmk hM hn hg hT hTb hms (hfr.at (k := 2) (by omega) h2) (hfr.at (k := 3) (by omega) h3) bq hw (hfr.at (k := q + 2) (by omega) ht) (hfr.at (k := q + 3) (by omega) hl) (fun j hj => ?_) (fun _ _ => rfl) (hfr.wk (fun j hj => by omega))
        unfold doseW
        by_cases e : j = f
        · subst e
          rw [updN_s, if_pos (by omega), hwc j (by omega)]
        · rw [updN_n _ _ e, if_neg (by omega), hwc j (by omega)]
          rfl
  exact loop 8 0 wc h (by omega) hw (fun j hj => by omega) Fr.rf

