def s1H (s : St) : St := up (up (up0 s 9 (s 0 9 + s 0 5)) 4 (hSt s)) 8 (passL (s 8) (hLo s) (s 0 5) (s 0 3))
theorem oM_step {s : St} {h : List PC} (e : h[106]? = some (oModel (s 0 0) (s 0 6) (s 0 1) (s 0 2) (s 0 3) (s 0 4) (s 0 5) (nI (s 0 11) - 1) (s 0 7 + 1) (s 0 8 + (if hBad s = 0 then 0 else s 0 5)) (s 0 9 + s 0 5) (s 0 10))) : h[106]? = some (oM (stepH s)) := e
theorem a_goesBy {s : St} {h h0 : List PC} (hI : Inv s) (hm : s 0 2 = 1) (hx : s 0 1 = 1) (h7 : s 0 7 < 400) (hcan : canH s = true) (hR : RepM (s1H s) h) (h118 : Ar h 118 32 (hOut s)) (hfr0 : Fr (fun j => 106 ≤ j) h0 h) : At mX12_goesBy T0 97 [.ref 106, .int (nI (hNm s) - 1), .null, .null] [] h 0 0 (ZM mX12_goesBy (fun r h' => r = some (.int (bI (canH s))) ∧ RepM (if canH s = true then stepH s else s) h' ∧ Fr (fun j => 106 ≤ j) h0 h')) := by
  obtain ⟨m0, mF, mL, mC, mH, mR, mS⟩ := id hR; obtain ⟨⟨i0, i1, i2, i3, i4, i5, i6, i7, i8, i9, i10, i11⟩, k1, k2, k3, k4, k5, k5z, k5s, k6, k6z, k7, k7s, k8s, k8z, k9, k10, k11, k11z, k50, k15, k16⟩ := id hI; obtain ⟨⟨mk, f107, e107⟩, ⟨kd, f108, e108⟩, ⟨db, f109, e109⟩, ⟨pr, f110, e110⟩, ⟨st, f111, e111⟩, ⟨tc, f112, e112⟩, ⟨sh, f113, e113⟩⟩ := id mF; obtain ⟨⟨th, f122, e122⟩, ⟨ld, f123, e123⟩, ⟨gr, f126, e126⟩, ⟨nm, f124, e124⟩, ⟨ws, f125, e125⟩⟩ := id mH
  rw [hcan]
  obtain ⟨G, f118, e118⟩ := h118
  have m0' : h[106]? = some (oModel (s 0 0) (s 0 6) (s 0 1) (s 0 2) (s 0 3) (s 0 4) (s 0 5) (nI (s 0 11) - 1) (s 0 7) (s 0 8) (s 0 9 + s 0 5) (s 0 10)) := m0
  have hnm : hNm s ≤ 6 := by have := nameC_le (fun c => fitB (s 9) (s 10) c (thF (hOut s)) (s 0 5)) (s 0 6); unfold hNm; omega
  have hb1 := hBad_le s
  have e122' : ∀ i, i < 1600 → th i = s 12 i := e122
  have e123' : ∀ i, i < 3200 → ld i = s 13 i := e123
  have e124' : ∀ i, i < 400 → nm i = nI (s 15 i) - 1 := e124
  have e125' : ∀ i, i < 400 → ws i = s 16 i := e125
  have e126' : ∀ i, i < 400 → gr i = s 14 i := e126
  have e111' : ∀ i, i < 8 → st i = hSt s i := e111
  have e108' : ∀ i, i < 8 → kd i = s 1 i := e108
  refine at_iconst 98 (nI 0) dX12_goesBy_97 rfl (by decide) ?_
  refine at_istore_n (L' := [_, _, _, _]) 99 dX12_goesBy_98 rfl rfl (by decide) rfl rfl ?_
  -- what is left once all rows stand
  have fin : ∀ (h' : List PC) (v : Value), h'[106]? = some (oModel (s 0 0) (s 0 6) (s 0 1) (s 0 2) (s 0 3) (s 0 4) (s 0 5) (nI (s 0 11) - 1) (s 0 7 + 1) (s 0 8 + (if hBad s = 0 then 0 else s 0 5)) (s 0 9 + s 0 5) (s 0 10)) → Ar h' 122 1600 (shr (s 0 7 * 4) 4 (thF (hOut s)) (s 12)) → Ar h' 123 3200 (shr (s 0 7 * 8) 8 (ldF (hOut s)) (s 13)) → Ar h' 126 400 (updN (s 14) (s 0 7) (s 0 5)) → h'[124]? = some (aG 400 (upd nm (s 0 7) (nI (hNm s) - 1))) → Ar h' 125 400 (updN (s 16) (s 0 7) (hBad s)) → Ar h' 111 8 (hStk s) → Fr (fun j => j = 106 ∨ j = 111 ∨ (122 ≤ j ∧ j ≤ 126)) h h' → (fun (r : Option Value) (h' : List PC) => r = some (.int (bI true)) ∧ RepM (if true = true then stepH s else s) h' ∧ Fr (fun j => 106 ≤ j) h0 h') (some (.int (nI 1))) h' := by
    intro h' v a0 a122 a123 a126 a124 a125 a111 hfr
    refine ⟨rfl, ?_, hfr0.tr hfr (fun j hj => by omega)⟩
    rw [if_pos rfl]
    refine ⟨oM_step a0, ⟨mF.1.gt hfr (fun j h1 h2 => by omega), mF.2.1.gt hfr (fun j h1 h2 => by omega), mF.2.2.1.gt hfr (fun j h1 h2 => by omega), mF.2.2.2.1.gt hfr (fun j h1 h2 => by omega), a111, mF.2.2.2.2.2.1.gt hfr (fun j h1 h2 => by omega), mF.2.2.2.2.2.2.gt hfr (fun j h1 h2 => by omega)⟩, mL.fr hfr (fun j h1 h2 => by omega), mC.fr hfr (fun j h1 h2 => by omega), ⟨a122, a123, a126, ⟨_, a124, fun i hi => ?_⟩, a125⟩, mR.gt hfr (fun j h1 h2 => by omega), mS.fr hfr (fun j h1 => by omega)⟩
    show (if i = s 0 7 then nI (hNm s) - 1 else nm i) = nI (if i = s 0 7 then hNm s else s 15 i) - 1
    split
    · rfl
    · exact e124' i hi
  have loopF : ∀ (d i : Nat) (h' : List PC), i + d = 8 → h'[106]? = some (oModel (s 0 0) (s 0 6) (s 0 1) (s 0 2) (s 0 3) (s 0 4) (s 0 5) (nI (s 0 11) - 1) (s 0 7) (s 0 8) (s 0 9 + s 0 5) (s 0 10)) → Ar h' 122 1600 (shr (s 0 7 * 4) 4 (thF (hOut s)) (s 12)) → h'[123]? = some (aI 3200 (shr (8 * s 0 7) i (ldF G) ld)) → Fr (fun j => j = 122 ∨ j = 123) h h' → At mX12_goesBy T0 130 [.ref 106, .int (nI (hNm s) - 1), .int (nI i), .null] [] h' 0 0 (ZM mX12_goesBy (fun r h' => r = some (.int (bI true)) ∧ RepM (if true = true then stepH s else s) h' ∧ Fr (fun j => 106 ≤ j) h0 h')) := by
    intro d
    induction d with
    | zero =>
      intro i h' hi a0 a122 a123 hfr
      have : i = 8 := by omega
      subst this
      have a123' : Ar h' 123 3200 (shr (s 0 7 * 8) 8 (ldF (hOut s)) (s 13)) := ⟨_, a123, fun x hx => by
        rw [Nat.mul_comm 8]
        unfold shr
        split
        · exact ldF_cg e118 (by omega)
        · exact e123' x hx⟩
      have a124 := hfr.at (k := 124) (by omega) f124
      have a125 := hfr.at (k := 125) (by omega) f125
      have a126 := hfr.at (k := 126) (by omega) f126
      have hfr2 : Fr (fun j => j = 106 ∨ j = 111 ∨ (122 ≤ j ∧ j ≤ 126)) h h' := hfr.wk (fun j hj => by omega)
      have hfr1 : Fr (fun j => j = 106 ∨ j = 124 ∨ j = 125 ∨ j = 126) h' h' := Fr.rf
      refine at_iload_n 131 dX12_goesBy_130 rfl rfl rfl ?_
      refine at_bipush 133 (nI 8) dX12_goesBy_131 rfl (by decide) ?_
      refine at_icmp_geN 197 136 dX12_goesBy_133 rfl rfl (by omega) (by omega) (fun cc => ?_) (fun cc => ?_)
      rotate_left
      · omega
      refine at_aload_n 198 dX12_goesBy_197 rfl rfl rfl ?_
      refine at_g 201 dX12_goesBy_198 rfl fl_X12_74 ⟨_, by assumption, ?_⟩
      refine ⟨_, rfl, ?_⟩
      refine at_aload_n 202 dX12_goesBy_201 rfl rfl rfl ?_
      refine at_g 205 dX12_goesBy_202 rfl fl_X12_138 ⟨_, by assumption, ?_⟩
      refine ⟨_, rfl, ?_⟩
      refine at_iload_n 206 dX12_goesBy_205 rfl rfl rfl ?_
      first | refine at_is 207 dX12_goesBy_206 rfl ⟨_, _, by assumption, by omega, by first | decide | omega, fun hh1 nn1 => ?_⟩ | refine at_isG 207 dX12_goesBy_206 rfl ⟨_, _, by assumption, by omega, by first | decide | omega, fun hh1 nn1 => ?_⟩
      replace a0 := nn1.o (by first | decide | omega | assumption) a0
      replace a124 := nn1.1
      replace a125 := nn1.o (by first | decide | omega | assumption) a125
      replace a126 := nn1.o (by first | decide | omega | assumption) a126
      replace hfr2 := hfr2.nw nn1 (by first | (dsimp only; omega) | (dsimp only; done) | simp)
      replace hfr1 := hfr1.nw nn1 (by first | (dsimp only; omega) | (dsimp only; done) | simp)
      clear nn1
      refine at_aload_n 208 dX12_goesBy_207 rfl rfl rfl ?_
      refine at_g 211 dX12_goesBy_208 rfl fl_X12_80 ⟨_, by assumption, ?_⟩
      refine ⟨_, rfl, ?_⟩
      refine at_aload_n 212 dX12_goesBy_211 rfl rfl rfl ?_
      refine at_g 215 dX12_goesBy_212 rfl fl_X12_138 ⟨_, by assumption, ?_⟩
      refine ⟨_, rfl, ?_⟩
      refine at_aload_n 216 dX12_goesBy_215 rfl rfl rfl ?_
      refine at_g 219 dX12_goesBy_216 rfl fl_X12_38 ⟨_, by assumption, ?_⟩
      refine ⟨_, rfl, ?_⟩
      first | refine at_is 220 dX12_goesBy_219 rfl ⟨_, _, by assumption, by omega, by first | decide | omega, fun hh2 nn2 => ?_⟩ | refine at_isG 220 dX12_goesBy_219 rfl ⟨_, _, by assumption, by omega, by first | decide | omega, fun hh2 nn2 => ?_⟩
      replace a0 := nn2.o (by first | decide | omega | assumption) a0
      replace a124 := nn2.o (by first | decide | omega | assumption) a124
      replace a125 := nn2.o (by first | decide | omega | assumption) a125
      replace a126 := nn2.1
      replace hfr2 := hfr2.nw nn2 (by first | (dsimp only; omega) | (dsimp only; done) | simp)
      replace hfr1 := hfr1.nw nn2 (by first | (dsimp only; omega) | (dsimp only; done) | simp)
      clear nn2
      have bad : ∀ bd, bd = hBad s → At mX12_goesBy T0 240 [.ref 106, .int (nI (hNm s) - 1), .int (nI 8), .null] [.int (nI bd)] hh2 0 0 (ZM mX12_goesBy (fun r h' => r = some (.int (bI true)) ∧ RepM (if true = true then stepH s else s) h' ∧ Fr (fun j => 106 ≤ j) h0 h')) := by
        intro bd hbd
        have st2 : ∀ wv (h2 : List PC), wv = hBad s → h2[106]? = some (oModel (s 0 0) (s 0 6) (s 0 1) (s 0 2) (s 0 3) (s 0 4) (s 0 5) (nI (s 0 11) - 1) (s 0 7) (s 0 8) (s 0 9 + s 0 5) (s 0 10)) → h2[125]? = some (aI 400 (updN ws (s 0 7) wv)) → Fr (fun j => j = 125) hh2 h2 → At mX12_goesBy T0 259 [.ref 106, .int (nI (hNm s) - 1), .int (nI bd), .null] [] h2 0 0 (ZM mX12_goesBy (fun r h' => r = some (.int (bI true)) ∧ RepM (if true = true then stepH s else s) h' ∧ Fr (fun j => 106 ≤ j) h0 h')) := by
          intro wv h2 hwv b0 b125 bfr
          have b122 := (a122.fr hfr1 (by omega)).fr bfr (by omega)
          have b123 := (a123'.fr hfr1 (by omega)).fr bfr (by omega)
          have b124 := bfr.at (k := 124) (by omega) a124
          have b126 := bfr.at (k := 126) (by omega) a126
          have hfr3 : Fr (fun j => j = 106 ∨ j = 111 ∨ (122 ≤ j ∧ j ≤ 126)) h h2 := hfr2.tr bfr (fun j hj => by omega)
          have hfr4 : Fr (fun j => j = 106) h2 h2 := Fr.rf
          have b111 : h2[111]? = some (aI 8 st) := bfr.at (k := 111) (by omega) (hfr1.at (k := 111) (by omega) (hfr.at (k := 111) (by omega) f111))
          have b108 : h2[108]? = some (aI 8 kd) := hfr3.at (k := 108) (by omega) f108
          have b125' : Ar h2 125 400 (updN (s 16) (s 0 7) (hBad s)) := Ar.up b125 e125' hwv
          have b126' : Ar h2 126 400 (updN (s 14) (s 0 7) (s 0 5)) := Ar.up b126 e126' rfl
          refine at_aload_n 260 dX12_goesBy_259 rfl rfl rfl ?_
          refine at_dup 261 dX12_goesBy_260 rfl rfl ?_
          refine at_g 264 dX12_goesBy_261 rfl fl_X12_138 ⟨_, by assumption, ?_⟩
          refine ⟨_, rfl, ?_⟩
          refine at_iconst 265 (nI 1) dX12_goesBy_264 rfl (by decide) ?_
          first | refine at_iaddN 266 dX12_goesBy_265 rfl ?_ | refine at_iadd 266 dX12_goesBy_265 rfl ?_
          refine at_pi 269 dX12_goesBy_266 rfl pl_X12_138 (rfl) (rfl) ⟨_, by assumption, ?_⟩
          refine ⟨(Nat.le_of_ble_eq_true rfl), [_, _, _, _, _, _, _, _, _, _, _, _, _, _, _, _, _, _, _, _, _, _, _, _, _, _, _, _, _, _, _, _, _, _, _, _, _, _, _, _], rfl, fun hh3 nn3 => ?_⟩
          replace b0 := nn3.1
          replace b108 := nn3.o (by first | decide | omega | assumption) b108
          replace b111 := nn3.o (by first | decide | omega | assumption) b111
          replace b124 := nn3.o (by first | decide | omega | assumption) b124
          replace hfr3 := hfr3.nw nn3 (by first | (dsimp only; omega) | (dsimp only; done) | simp)
          replace hfr4 := hfr4.nw nn3 (by first | (dsimp only; omega) | (dsimp only; done) | simp)
          clear nn3
          refine at_iload_n 270 dX12_goesBy_269 rfl rfl rfl ?_
          refine at_if_neN 275 273 dX12_goesBy_270 rfl rfl (by omega) (fun cc => ?_) (fun cc => ?_)
          rotate_left
          · refine at_iconst 274 (nI 1) dX12_goesBy_273 rfl (by decide) ?_
            refine at_zret dX12_goesBy_274 rfl (by first | rfl | decide) (by decide) (by decide) ?_
            refine fin _ .null ?_ (b122.fr hfr4 (by omega)) (b123.fr hfr4 (by omega)) (b126'.fr hfr4 (by omega)) b124 (b125'.fr hfr4 (by omega)) ⟨st, b111, fun i hi => ?_⟩ hfr3
            · rw [if_pos (by omega)]; exact b0
            · rw [e111' i hi]
              unfold hStk
              rw [if_pos (by omega)]
          refine at_aload_n 276 dX12_goesBy_275 rfl rfl rfl ?_
          refine at_dup 277 dX12_goesBy_276 rfl rfl ?_
          refine at_g 280 dX12_goesBy_277 rfl fl_X12_141 ⟨_, by assumption, ?_⟩
          refine ⟨_, rfl, ?_⟩
          refine at_aload_n 281 dX12_goesBy_280 rfl rfl rfl ?_
          refine at_g 284 dX12_goesBy_281 rfl fl_X12_38 ⟨_, by assumption, ?_⟩
          refine ⟨_, rfl, ?_⟩
          first | refine at_i2lN 285 dX12_goesBy_284 rfl (by omega) ?_ | refine at_i2l 285 dX12_goesBy_284 rfl rfl ?_
          first | refine at_laddN 286 dX12_goesBy_285 rfl ?_ | refine at_ladd 286 dX12_goesBy_285 rfl ?_
          refine at_pl 289 dX12_goesBy_286 rfl pl_X12_141 ⟨_, by assumption, ?_⟩
          refine ⟨(Nat.le_of_ble_eq_true rfl), [_, _, _, _, _, _, _, _, _, _, _, _, _, _, _, _, _, _, _, _, _, _, _, _, _, _, _, _, _, _, _, _, _, _, _, _, _, _, _, _], rfl, fun hh4 nn4 => ?_⟩
          replace b0 := nn4.1
          replace b108 := nn4.o (by first | decide | omega | assumption) b108
          replace b111 := nn4.o (by first | decide | omega | assumption) b111
          replace b124 := nn4.o (by first | decide | omega | assumption) b124
          replace hfr3 := hfr3.nw nn4 (by first | (dsimp only; omega) | (dsimp only; done) | simp)
          replace hfr4 := hfr4.nw nn4 (by first | (dsimp only; omega) | (dsimp only; done) | simp)
          clear nn4
          refine at_iconst 290 (nI 0) dX12_goesBy_289 rfl (by decide) ?_
          refine at_istore_n (L' := [_, _, _, _]) 291 dX12_goesBy_290 rfl rfl (by decide) rfl rfl ?_
          rename List PC => h6
          have hbs : hBad s ≠ 0 := by omega
          have c0 : h6[106]? = some (oModel (s 0 0) (s 0 6) (s 0 1) (s 0 2) (s 0 3) (s 0 4) (s 0 5) (nI (s 0 11) - 1) (s 0 7 + 1) (s 0 8 + (if hBad s = 0 then 0 else s 0 5)) (s 0 9 + s 0 5) (s 0 10)) := by rw [if_neg hbs]; exact b0
          have c122 := b122.fr hfr4 (by omega)
          have c123 := b123.fr hfr4 (by omega)
          have c126 := b126'.fr hfr4 (by omega)
          have c125 := b125'.fr hfr4 (by omega)
          have hz : hStk s = backS (s 1) (hSt s) (s 0 0) (s 0 5) := by unfold hStk; rw [if_neg hbs]
          have loopO : ∀ (d i : Nat), i + d = s 0 0 → ownF (s 1) (s 0 0) d i = ownF (s 1) (s 0 0) (s 0 0) 0 → At mX12_goesBy T0 291 [.ref 106, .int (nI (hNm s) - 1), .int (nI bd), .int (nI i)] [] h6 0 0 (ZM mX12_goesBy (fun r h' => r = some (.int (bI true)) ∧ RepM (if true = true then stepH s else s) h' ∧ Fr (fun j => 106 ≤ j) h0 h')) := by
            intro d
            induction d with
            | zero =>
              intro i hi ho
              refine at_iload_n 292 dX12_goesBy_291 rfl rfl rfl ?_
              refine at_aload_n 293 dX12_goesBy_292 rfl rfl rfl ?_
              refine at_g 296 dX12_goesBy_293 rfl fl_X12_108 ⟨_, by assumption, ?_⟩
              refine ⟨_, rfl, ?_⟩
              refine at_icmp_geN 358 299 dX12_goesBy_296 rfl rfl (by omega) (by omega) (fun cc => ?_) (fun cc => ?_)
              rotate_left
              · omega
              refine at_iconst 359 (nI 1) dX12_goesBy_358 rfl (by decide) ?_
              refine at_zret dX12_goesBy_359 rfl (by first | rfl | decide) (by decide) (by decide) ?_
              refine fin _ .null c0 c122 c123 c126 b124 c125 ⟨st, b111, fun j hj => ?_⟩ hfr3
              rw [e111' j hj, hz]
              unfold backS
              rw [← ho]
              unfold ownF
              rw [if_neg (by omega)]
            | succ d ih =>
              intro i hi ho
              have hki : kd i = s 1 i := e108' i (by omega)
              have hkb := k1 i (by omega)
              have hsi : st i = hSt s i := e111' i (by omega)
              have hsb : hSt s i ≤ 10000000 := by have := k4 i (by omega); unfold hSt; omega
              refine at_iload_n 292 dX12_goesBy_291 rfl rfl rfl ?_
              refine at_aload_n 293 dX12_goesBy_292 rfl rfl rfl ?_
              refine at_g 296 dX12_goesBy_293 rfl fl_X12_108 ⟨_, by assumption, ?_⟩
              refine ⟨_, rfl, ?_⟩
              refine at_icmp_geN 358 299 dX12_goesBy_296 rfl rfl (by omega) (by omega) (fun cc => ?_) (fun cc => ?_)
              · omega
              refine at_aload_n 300 dX12_goesBy_299 rfl rfl rfl ?_
              refine at_g 303 dX12_goesBy_300 rfl fl_X12_13 ⟨_, by assumption, ?_⟩
              refine ⟨_, rfl, ?_⟩
              refine at_iload_n 304 dX12_goesBy_303 rfl rfl rfl ?_
              first | refine at_ia 305 dX12_goesBy_304 rfl ⟨_, _, by assumption, by omega, by first | decide | omega, ?_⟩ | refine at_iaG 305 dX12_goesBy_304 rfl ⟨_, _, by assumption, by omega, by first | decide | omega, ?_⟩
              refine at_iconst 306 (nI 3) dX12_goesBy_305 rfl (by decide) ?_
              refine at_icmp_eqN 312 309 dX12_goesBy_306 rfl rfl (by omega) (by omega) (fun cc => ?_) (fun cc => ?_)
              rotate_left
              · refine at_goto 352 dX12_goesBy_309 rfl ?_
                refine at_iincN (q := 1) (L' := [_, _, _, _]) 355 dX12_goesBy_352 rfl (by decide) rfl (by decide) rfl rfl ?_
                refine at_goto 291 dX12_goesBy_355 rfl ?_
                refine ih (i + 1) (by omega) ?_
                rw [← ho]
                show _ = if s 1 i = 3 then i else ownF (s 1) (s 0 0) d (i + 1)
                rw [if_neg (by omega)]
              have ho2 : ownF (s 1) (s 0 0) (s 0 0) 0 = i := by
                rw [← ho]
                show (if s 1 i = 3 then i else ownF (s 1) (s 0 0) d (i + 1)) = i
                rw [if_pos (by omega)]
              have last : ∀ (v : Nat) (h7 : List PC), v = (if 10000000 < hSt s i + s 0 5 then 10000000 else hSt s i + s 0 5) → h7[106]? = some (oModel (s 0 0) (s 0 6) (s 0 1) (s 0 2) (s 0 3) (s 0 4) (s 0 5) (nI (s 0 11) - 1) (s 0 7 + 1) (s 0 8 + (if hBad s = 0 then 0 else s 0 5)) (s 0 9 + s 0 5) (s 0 10)) → h7[111]? = some (aI 8 (updN st i v)) → Fr (fun j => j = 111) h6 h7 → At mX12_goesBy T0 350 [.ref 106, .int (nI (hNm s) - 1), .int (nI bd), .int (nI i)] [] h7 0 0 (ZM mX12_goesBy (fun r h' => r = some (.int (bI true)) ∧ RepM (if true = true then stepH s else s) h' ∧ Fr (fun j => 106 ≤ j) h0 h')) := by
                intro v h7 hv d0 d111 dfr
                refine at_iconst 351 (nI 1) dX12_goesBy_350 rfl (by decide) ?_
                refine at_zret dX12_goesBy_351 rfl (by first | rfl | decide) (by decide) (by decide) ?_
                refine fin _ .null d0 (c122.fr dfr (by omega)) (c123.fr dfr (by omega)) (c126.fr dfr (by omega)) (dfr.at (by omega) b124) (c125.fr dfr (by omega)) ⟨_, d111, fun j hj => ?_⟩ (hfr3.tr dfr (fun j hj => by omega))
                rw [hz]
                unfold backS
                rw [ho2, if_pos (by omega), ← hv]
                unfold updN
                split
                · rfl
                · exact e111' j hj
              have dfr : Fr (fun j => j = 111) h6 h6 := Fr.rf
              refine at_aload_n 313 dX12_goesBy_312 rfl rfl rfl ?_
              refine at_g 316 dX12_goesBy_313 rfl fl_X12_22 ⟨_, by assumption, ?_⟩
              refine ⟨_, rfl, ?_⟩
              refine at_iload_n 317 dX12_goesBy_316 rfl rfl rfl ?_
              refine at_aload_n 318 dX12_goesBy_317 rfl rfl rfl ?_
              refine at_g 321 dX12_goesBy_318 rfl fl_X12_22 ⟨_, by assumption, ?_⟩
              refine ⟨_, rfl, ?_⟩
              refine at_iload_n 322 dX12_goesBy_321 rfl rfl rfl ?_
              first | refine at_ia 323 dX12_goesBy_322 rfl ⟨_, _, by assumption, by omega, by first | decide | omega, ?_⟩ | refine at_iaG 323 dX12_goesBy_322 rfl ⟨_, _, by assumption, by omega, by first | decide | omega, ?_⟩
              refine at_aload_n 324 dX12_goesBy_323 rfl rfl rfl ?_
              refine at_g 327 dX12_goesBy_324 rfl fl_X12_38 ⟨_, by assumption, ?_⟩
              refine ⟨_, rfl, ?_⟩
              first | refine at_iaddN 328 dX12_goesBy_327 rfl ?_ | refine at_iadd 328 dX12_goesBy_327 rfl ?_
              refine at_ldc 330 (nI 10000000) dX12_goesBy_328 rfl cn_X12_123 ?_
              refine at_icmp_leN 338 333 dX12_goesBy_330 rfl rfl (by omega) (by omega) (fun cc => ?_) (fun cc => ?_)
              · refine at_aload_n 339 dX12_goesBy_338 rfl rfl rfl ?_
                refine at_g 342 dX12_goesBy_339 rfl fl_X12_22 ⟨_, by assumption, ?_⟩
                refine ⟨_, rfl, ?_⟩
                refine at_iload_n 343 dX12_goesBy_342 rfl rfl rfl ?_
                first | refine at_ia 344 dX12_goesBy_343 rfl ⟨_, _, by assumption, by omega, by first | decide | omega, ?_⟩ | refine at_iaG 344 dX12_goesBy_343 rfl ⟨_, _, by assumption, by omega, by first | decide | omega, ?_⟩
                refine at_aload_n 345 dX12_goesBy_344 rfl rfl rfl ?_
                refine at_g 348 dX12_goesBy_345 rfl fl_X12_38 ⟨_, by assumption, ?_⟩
                refine ⟨_, rfl, ?_⟩
                first | refine at_iaddN 349 dX12_goesBy_348 rfl ?_ | refine at_iadd 349 dX12_goesBy_348 rfl ?_
                first | refine at_is 350 dX12_goesBy_349 rfl ⟨_, _, by assumption, by omega, by first | decide | omega, fun hh5 nn5 => ?_⟩ | refine at_isG 350 dX12_goesBy_349 rfl ⟨_, _, by assumption, by omega, by first | decide | omega, fun hh5 nn5 => ?_⟩
                replace c0 := nn5.o (by first | decide | omega | assumption) c0
                replace b111 := nn5.1
                replace dfr := dfr.nw nn5 (by first | (dsimp only; omega) | (dsimp only; done) | simp)
                clear nn5
                exact last _ _ (by rw [if_neg (by omega), hsi]) c0 b111 dfr
              · refine at_ldc 335 (nI 10000000) dX12_goesBy_333 rfl cn_X12_123 ?_
                refine at_goto 349 dX12_goesBy_335 rfl ?_
                first | refine at_is 350 dX12_goesBy_349 rfl ⟨_, _, by assumption, by omega, by first | decide | omega, fun hh6 nn6 => ?_⟩ | refine at_isG 350 dX12_goesBy_349 rfl ⟨_, _, by assumption, by omega, by first | decide | omega, fun hh6 nn6 => ?_⟩
                replace c0 := nn6.o (by first | decide | omega | assumption) c0
                replace b111 := nn6.1
                replace dfr := dfr.nw nn6 (by first | (dsimp only; omega) | (dsimp only; done) | simp)
                clear nn6
                exact last _ _ (by rw [if_pos (by omega)]) c0 b111 dfr
          exact loopO (s 0 0) 0 (by omega) rfl
        have bfr : Fr (fun j => j = 125) hh2 hh2 := Fr.rf
        refine at_istore_n (L' := [_, _, _, _]) 241 dX12_goesBy_240 rfl rfl (by decide) rfl rfl ?_
        refine at_aload_n 242 dX12_goesBy_241 rfl rfl rfl ?_
        refine at_g 245 dX12_goesBy_242 rfl fl_X12_77 ⟨_, by assumption, ?_⟩
        refine ⟨_, rfl, ?_⟩
        refine at_aload_n 246 dX12_goesBy_245 rfl rfl rfl ?_
        refine at_g 249 dX12_goesBy_246 rfl fl_X12_138 ⟨_, by assumption, ?_⟩
        refine ⟨_, rfl, ?_⟩
        refine at_iload_n 250 dX12_goesBy_249 rfl rfl rfl ?_
        refine at_if_eqN 257 253 dX12_goesBy_250 rfl rfl (by omega) (fun cc => ?_) (fun cc => ?_)
        · refine at_iconst 258 (nI 0) dX12_goesBy_257 rfl (by decide) ?_
          first | refine at_is 259 dX12_goesBy_258 rfl ⟨_, _, by assumption, by omega, by first | decide | omega, fun hh7 nn7 => ?_⟩ | refine at_isG 259 dX12_goesBy_258 rfl ⟨_, _, by assumption, by omega, by first | decide | omega, fun hh7 nn7 => ?_⟩
          replace a0 := nn7.o (by first | decide | omega | assumption) a0
          replace a125 := nn7.1
          replace bfr := bfr.nw nn7 (by first | (dsimp only; omega) | (dsimp only; done) | simp)
          clear nn7
          exact st2 0 _ (by omega) a0 a125 bfr
        · refine at_iconst 254 (nI 1) dX12_goesBy_253 rfl (by decide) ?_
          refine at_goto 258 dX12_goesBy_254 rfl ?_
          first | refine at_is 259 dX12_goesBy_258 rfl ⟨_, _, by assumption, by omega, by first | decide | omega, fun hh8 nn8 => ?_⟩ | refine at_isG 259 dX12_goesBy_258 rfl ⟨_, _, by assumption, by omega, by first | decide | omega, fun hh8 nn8 => ?_⟩
          replace a0 := nn8.o (by first | decide | omega | assumption) a0
          replace a125 := nn8.1
          replace bfr := bfr.nw nn8 (by first | (dsimp only; omega) | (dsimp only; done) | simp)
          clear nn8
          exact st2 1 _ (by omega) a0 a125 bfr
      have hw := nm_m1 (k := s 0 11) (by omega)
      have hneg := nIp_neg (s 0 11) (by omega)
      have hnI := nIs_inj (a := hNm s) (b := s 0 11) (by omega) (by omega)
      refine at_aload_n 221 dX12_goesBy_220 rfl rfl rfl ?_
      refine at_g 224 dX12_goesBy_221 rfl fl_X12_41 ⟨_, by assumption, ?_⟩
      refine ⟨_, rfl, ?_⟩
      refine at_if_lt 235 227 dX12_goesBy_224 rfl rfl (fun cc => ?_) (fun cc => ?_)
      · refine at_iconst 236 (nI 1) dX12_goesBy_235 rfl (by decide) ?_
        refine at_goto 240 dX12_goesBy_236 rfl ?_
        exact bad 1 (by unfold hBad; rw [if_pos (Or.inl (hneg.mp cc))])
      have c1 := cc
      refine at_iload_n 228 dX12_goesBy_227 rfl rfl rfl ?_
      refine at_aload_n 229 dX12_goesBy_228 rfl rfl rfl ?_
      refine at_g 232 dX12_goesBy_229 rfl fl_X12_41 ⟨_, by assumption, ?_⟩
      refine ⟨_, rfl, ?_⟩
      refine at_icmp_eq 239 235 dX12_goesBy_232 rfl rfl (fun cc => ?_) (fun cc => ?_)
      · refine at_iconst 240 (nI 0) dX12_goesBy_239 rfl (by decide) ?_
        exact bad 0 (by unfold hBad; rw [if_neg (fun q => q.elim (fun q => c1 (hneg.mpr q)) (fun q => q (hnI.mp cc)))])
      · refine at_iconst 236 (nI 1) dX12_goesBy_235 rfl (by decide) ?_
        refine at_goto 240 dX12_goesBy_236 rfl ?_
        exact bad 1 (by unfold hBad; rw [if_pos (Or.inr (fun q => cc (hnI.mpr q)))])
    | succ d ih =>
      intro i h' hi a0 a122 a123 hfr
      have a118 := hfr.at (k := 118) (by omega) f118
      have hfr1 : Fr (fun j => j = 123) h' h' := Fr.rf
      have hld : ldF G i = G (4 * i) + G (4 * i + 1) + G (4 * i + 2) + G (4 * i + 3) := by
        show 0 + G (4 * i + 0) + G (4 * i + 1) + G (4 * i + 2) + G (4 * i + 3) = _
        rw [Nat.zero_add]; rfl
      refine at_iload_n 131 dX12_goesBy_130 rfl rfl rfl ?_
      refine at_bipush 133 (nI 8) dX12_goesBy_131 rfl (by decide) ?_
      refine at_icmp_geN 197 136 dX12_goesBy_133 rfl rfl (by omega) (by omega) (fun cc => ?_) (fun cc => ?_)
      · omega
      refine at_aload_n 137 dX12_goesBy_136 rfl rfl rfl ?_
      refine at_g 140 dX12_goesBy_137 rfl fl_X12_71 ⟨_, by assumption, ?_⟩
      refine ⟨_, rfl, ?_⟩
      refine at_bipush 142 (nI 8) dX12_goesBy_140 rfl (by decide) ?_
      refine at_aload_n 143 dX12_goesBy_142 rfl rfl rfl ?_
      refine at_g 146 dX12_goesBy_143 rfl fl_X12_138 ⟨_, by assumption, ?_⟩
      refine ⟨_, rfl, ?_⟩
      first | refine at_imulN 147 dX12_goesBy_146 rfl ?_ | refine at_imul 147 dX12_goesBy_146 rfl ?_
      refine at_iload_n 148 dX12_goesBy_147 rfl rfl rfl ?_
      first | refine at_iaddN 149 dX12_goesBy_148 rfl ?_ | refine at_iadd 149 dX12_goesBy_148 rfl ?_
      refine at_aload_n 150 dX12_goesBy_149 rfl rfl rfl ?_
      refine at_g 153 dX12_goesBy_150 rfl fl_X12_56 ⟨_, by assumption, ?_⟩
      refine ⟨_, rfl, ?_⟩
      refine at_iconst 154 (nI 4) dX12_goesBy_153 rfl (by decide) ?_
      refine at_iload_n 155 dX12_goesBy_154 rfl rfl rfl ?_
      first | refine at_imulN 156 dX12_goesBy_155 rfl ?_ | refine at_imul 156 dX12_goesBy_155 rfl ?_
      first | refine at_ia 157 dX12_goesBy_156 rfl ⟨_, _, by assumption, by omega, by first | decide | omega, ?_⟩ | refine at_iaG 157 dX12_goesBy_156 rfl ⟨_, _, by assumption, by omega, by first | decide | omega, ?_⟩
      refine at_aload_n 158 dX12_goesBy_157 rfl rfl rfl ?_
      refine at_g 161 dX12_goesBy_158 rfl fl_X12_56 ⟨_, by assumption, ?_⟩
      refine ⟨_, rfl, ?_⟩
      refine at_iconst 162 (nI 4) dX12_goesBy_161 rfl (by decide) ?_
      refine at_iload_n 163 dX12_goesBy_162 rfl rfl rfl ?_
      first | refine at_imulN 164 dX12_goesBy_163 rfl ?_ | refine at_imul 164 dX12_goesBy_163 rfl ?_
      refine at_iconst 165 (nI 1) dX12_goesBy_164 rfl (by decide) ?_
      first | refine at_iaddN 166 dX12_goesBy_165 rfl ?_ | refine at_iadd 166 dX12_goesBy_165 rfl ?_
      first | refine at_ia 167 dX12_goesBy_166 rfl ⟨_, _, by assumption, by omega, by first | decide | omega, ?_⟩ | refine at_iaG 167 dX12_goesBy_166 rfl ⟨_, _, by assumption, by omega, by first | decide | omega, ?_⟩
      first | refine at_iaddN 168 dX12_goesBy_167 rfl ?_ | refine at_iadd 168 dX12_goesBy_167 rfl ?_
      refine at_aload_n 169 dX12_goesBy_168 rfl rfl rfl ?_
      refine at_g 172 dX12_goesBy_169 rfl fl_X12_56 ⟨_, by assumption, ?_⟩
      refine ⟨_, rfl, ?_⟩
      refine at_iconst 173 (nI 4) dX12_goesBy_172 rfl (by decide) ?_
      refine at_iload_n 174 dX12_goesBy_173 rfl rfl rfl ?_
      first | refine at_imulN 175 dX12_goesBy_174 rfl ?_ | refine at_imul 175 dX12_goesBy_174 rfl ?_
      refine at_iconst 176 (nI 2) dX12_goesBy_175 rfl (by decide) ?_
      first | refine at_iaddN 177 dX12_goesBy_176 rfl ?_ | refine at_iadd 177 dX12_goesBy_176 rfl ?_
      first | refine at_ia 178 dX12_goesBy_177 rfl ⟨_, _, by assumption, by omega, by first | decide | omega, ?_⟩ | refine at_iaG 178 dX12_goesBy_177 rfl ⟨_, _, by assumption, by omega, by first | decide | omega, ?_⟩
      first | refine at_iaddN 179 dX12_goesBy_178 rfl ?_ | refine at_iadd 179 dX12_goesBy_178 rfl ?_
      refine at_aload_n 180 dX12_goesBy_179 rfl rfl rfl ?_
      refine at_g 183 dX12_goesBy_180 rfl fl_X12_56 ⟨_, by assumption, ?_⟩
      refine ⟨_, rfl, ?_⟩
      refine at_iconst 184 (nI 4) dX12_goesBy_183 rfl (by decide) ?_
      refine at_iload_n 185 dX12_goesBy_184 rfl rfl rfl ?_
      first | refine at_imulN 186 dX12_goesBy_185 rfl ?_ | refine at_imul 186 dX12_goesBy_185 rfl ?_
      refine at_iconst 187 (nI 3) dX12_goesBy_186 rfl (by decide) ?_
      first | refine at_iaddN 188 dX12_goesBy_187 rfl ?_ | refine at_iadd 188 dX12_goesBy_187 rfl ?_
      first | refine at_ia 189 dX12_goesBy_188 rfl ⟨_, _, by assumption, by omega, by first | decide | omega, ?_⟩ | refine at_iaG 189 dX12_goesBy_188 rfl ⟨_, _, by assumption, by omega, by first | decide | omega, ?_⟩
      first | refine at_iaddN 190 dX12_goesBy_189 rfl ?_ | refine at_iadd 190 dX12_goesBy_189 rfl ?_
      rw [← hld]
      first | refine at_is 191 dX12_goesBy_190 rfl ⟨_, _, by assumption, by omega, by first | decide | omega, fun hh9 nn9 => ?_⟩ | refine at_isG 191 dX12_goesBy_190 rfl ⟨_, _, by assumption, by omega, by first | decide | omega, fun hh9 nn9 => ?_⟩
      replace a0 := nn9.o (by first | decide | omega | assumption) a0
      replace a118 := nn9.o (by first | decide | omega | assumption) a118
      replace a123 := nn9.1
      replace hfr := hfr.nw nn9 (by first | (dsimp only; omega) | (dsimp only; done) | simp)
      replace hfr1 := hfr1.nw nn9 (by first | (dsimp only; omega) | (dsimp only; done) | simp)
      clear nn9
      refine at_iincN (q := 1) (L' := [_, _, _, _]) 194 dX12_goesBy_191 rfl (by decide) rfl (by decide) rfl rfl ?_
      refine at_goto 130 dX12_goesBy_194 rfl ?_
      rw [shr_s] at a123
      exact ih (i + 1) _ (by omega) a0 (a122.fr hfr1 (by omega)) a123 hfr
  have loopT : ∀ (d i : Nat) (h' : List PC), i + d = 4 → h'[106]? = some (oM (s1H s)) → h'[122]? = some (aI 1600 (shr (4 * s 0 7) i (thF G) th)) → Fr (fun j => j = 122) h h' → At mX12_goesBy T0 99 [.ref 106, .int (nI (hNm s) - 1), .int (nI i), .null] [] h' 0 0 (ZM mX12_goesBy (fun r h' => r = some (.int (bI true)) ∧ RepM (if true = true then stepH s else s) h' ∧ Fr (fun j => 106 ≤ j) h0 h')) := by
    intro d
    induction d with
    | zero =>
      intro i h' hi a0 a122 hfr
      have : i = 4 := by omega
      subst this
      refine at_iload_n 100 dX12_goesBy_99 rfl rfl rfl ?_
      refine at_iconst 101 (nI 4) dX12_goesBy_100 rfl (by decide) ?_
      refine at_icmp_geN 128 104 dX12_goesBy_101 rfl rfl (by omega) (by omega) (fun cc => ?_) (fun cc => ?_)
      rotate_left
      · omega
      refine at_iconst 129 (nI 0) dX12_goesBy_128 rfl (by decide) ?_
      refine at_istore_n (L' := [_, _, _, _]) 130 dX12_goesBy_129 rfl rfl (by decide) rfl rfl ?_
      refine loopF 8 0 h' (by omega) a0 ⟨_, a122, fun x hx => ?_⟩ (by rw [shr_0]; exact hfr.at (by omega) f123) (hfr.wk (fun j hj => by omega))
      rw [Nat.mul_comm 4]
      unfold shr
      split
      · exact thF_cg e118 (by omega)
      · exact e122' x hx
    | succ d ih =>
      intro i h' hi a0 a122 hfr
      have a118 := hfr.at (k := 118) (by omega) f118
      refine at_iload_n 100 dX12_goesBy_99 rfl rfl rfl ?_
      refine at_iconst 101 (nI 4) dX12_goesBy_100 rfl (by decide) ?_
      refine at_icmp_geN 128 104 dX12_goesBy_101 rfl rfl (by omega) (by omega) (fun cc => ?_) (fun cc => ?_)
      · omega
      refine at_aload_n 105 dX12_goesBy_104 rfl rfl rfl ?_
      refine at_g 108 dX12_goesBy_105 rfl fl_X12_68 ⟨_, by assumption, ?_⟩
      refine ⟨_, rfl, ?_⟩
      refine at_iconst 109 (nI 4) dX12_goesBy_108 rfl (by decide) ?_
      refine at_aload_n 110 dX12_goesBy_109 rfl rfl rfl ?_
      refine at_g 113 dX12_goesBy_110 rfl fl_X12_138 ⟨_, by assumption, ?_⟩
      refine ⟨_, rfl, ?_⟩
      first | refine at_imulN 114 dX12_goesBy_113 rfl ?_ | refine at_imul 114 dX12_goesBy_113 rfl ?_
      refine at_iload_n 115 dX12_goesBy_114 rfl rfl rfl ?_
      first | refine at_iaddN 116 dX12_goesBy_115 rfl ?_ | refine at_iadd 116 dX12_goesBy_115 rfl ?_
      refine at_aload_n 117 dX12_goesBy_116 rfl rfl rfl ?_
      refine at_iload_n 118 dX12_goesBy_117 rfl rfl rfl ?_
      refine at_invV (ci := 12) 121 [_] _ (c_glassOf (t := i) a0 a118 (by omega)) dX12_goesBy_118 rfl rfl (by assumption) rfl ml_X12_161 cl_X12_glassOf vl_X12_glassOf rfl (Nat.le_of_ble_eq_true rfl) ⟨by decide, by decide⟩ (by decide) (fun rr hh qq => ?_)
      obtain ⟨rfl, hq2⟩ := qq; rw [hq2]; clear hq2 hh
      rw [show s1H s 0 7 = s 0 7 from rfl]
      first | refine at_is 122 dX12_goesBy_121 rfl ⟨_, _, by assumption, by omega, by first | decide | omega, fun hh10 nn10 => ?_⟩ | refine at_isG 122 dX12_goesBy_121 rfl ⟨_, _, by assumption, by omega, by first | decide | omega, fun hh10 nn10 => ?_⟩
      replace a0 := nn10.o (by first | decide | omega | assumption) a0
      replace a122 := nn10.1
      replace hfr := hfr.nw nn10 (by first | (dsimp only; omega) | (dsimp only; done) | simp)
      clear nn10
      refine at_iincN (q := 1) (L' := [_, _, _, _]) 125 dX12_goesBy_122 rfl (by decide) rfl (by decide) rfl rfl ?_
      refine at_goto 99 dX12_goesBy_125 rfl ?_
      rw [shr_s] at a122
      exact ih (i + 1) _ (by omega) a0 a122 hfr
  exact loopT 4 0 h (by omega) m0 (by rw [shr_0]; exact f122) Fr.rf

