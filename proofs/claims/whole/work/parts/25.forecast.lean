def ShA (h : List PC) : Prop := h[1]? = some oSharer ∧ (∃ R, h[2]? = some (aL 32 R)) ∧ ∃ P, h[3]? = some (aI 32 P)
theorem ShA.fr {P : Nat → Prop} {h h' : List PC} (a : ShA h) (f : Fr P h h') (hp : ¬ P 1 ∧ ¬ P 2 ∧ ¬ P 3) : ShA h' := by
  obtain ⟨h1, ⟨R, h2⟩, ⟨Q, h3⟩⟩ := a
  exact ⟨f.at hp.1 h1, ⟨R, f.at hp.2.1 h2⟩, ⟨Q, f.at hp.2.2 h3⟩⟩
def GlA (h : List PC) (g : Nat) : Prop := (∃ x, h[g]? = some (oGlass g x)) ∧ (∃ w, h[g + 1]? = some (aI 4 w)) ∧ ∃ w, h[g + 2]? = some (aI 8 w)
theorem GlA.fr {P : Nat → Prop} {h h' : List PC} {g : Nat} (a : GlA h g) (f : Fr P h h') (hp : ¬ P g ∧ ¬ P (g + 1) ∧ ¬ P (g + 2)) : GlA h' g := by
  obtain ⟨⟨x, h1⟩, ⟨R, h2⟩, ⟨Q, h3⟩⟩ := a
  exact ⟨⟨x, f.at hp.1 h1⟩, ⟨R, f.at hp.2.1 h2⟩, ⟨Q, f.at hp.2.2 h3⟩⟩
/-- a tank whose cells are of no matter -/
def TankS (h : List PC) (t sz : Nat) : Prop := h[t + 1]? = some (aR 6 (rowsAt (t + 1) 6)) ∧ h[t + 8]? = some (aR 7 (rowsAt (t + 8) 7)) ∧ (∀ c, c < 6 → ∃ a, h[t + 1 + 1 + c]? = some (aI 32 a)) ∧ ∀ c, c < 7 → ∃ F, h[t + 8 + 1 + c]? = some (aI 32 F) ∧ ∀ i, sz ≤ i → i < 32 → F i = 0
theorem TankA.s {h : List PC} {t sz : Nat} {L : Nat → Nat} (a : TankA h t L sz) : TankS h t sz := ⟨a.1, a.2.1, fun c hc => by
  obtain ⟨w, h1, -⟩ := a.2.2.1 c hc
  exact ⟨w, h1⟩, a.2.2.2⟩
theorem TankS.fr {P : Nat → Prop} {h h' : List PC} {t sz : Nat} (a : TankS h t sz) (f : Fr P h h') (hp : ∀ j, t ≤ j → j ≤ t + 15 → ¬ P j) : TankS h' t sz := by
  refine ⟨f.at (hp _ (by omega) (by omega)) a.1, f.at (hp _ (by omega) (by omega)) a.2.1, fun c hc => ?_, fun c hc => ?_⟩
  · obtain ⟨w, h1⟩ := a.2.2.1 c hc
    exact ⟨w, f.at (hp _ (by omega) (by omega)) h1⟩
  · obtain ⟨w, h1, h2⟩ := a.2.2.2 c hc
    exact ⟨w, f.at (hp _ (by omega) (by omega)) h1, h2⟩
theorem TankA.fr {P : Nat → Prop} {h h' : List PC} {t sz : Nat} {L : Nat → Nat} (a : TankA h t L sz) (f : Fr P h h') (hp : ∀ j, t ≤ j → j ≤ t + 15 → ¬ P j) : TankA h' t L sz := by
  refine ⟨f.at (hp _ (by omega) (by omega)) a.1, f.at (hp _ (by omega) (by omega)) a.2.1, fun c hc => (a.2.2.1 c hc).fr f (hp _ (by omega) (by omega)), fun c hc => ?_⟩
  obtain ⟨w, h1, h2⟩ := a.2.2.2 c hc
  exact ⟨w, f.at (hp _ (by omega) (by omega)) h1, h2⟩
/-- rows for the cells that are told, whatever the others hold -/
theorem TankS.fill {h : List PC} {t sz n : Nat} {L : Nat → Nat} (a : TankS h t sz) (hr : ∀ c, c < n → Ar h (t + 1 + 1 + c) 32 (fun i => L (32 * c + i))) : ∃ L', (∀ x, x < 32 * n → L' x = L x) ∧ TankA h t L' sz := by
  obtain ⟨A, hA⟩ : ∃ A : Nat → Nat → Nat, ∀ c, c < 6 → h[t + 1 + 1 + c]? = some (aI 32 (A c)) := ⟨fun c => if hc : c < 6 then Classical.choose (a.2.2.1 c hc) else fun _ => 0, fun c hc => by show _ = some (aI 32 (if hc : c < 6 then Classical.choose (a.2.2.1 c hc) else fun _ => 0)); rw [dif_pos hc]; exact Classical.choose_spec (a.2.2.1 c hc)⟩
  refine ⟨fun x => if x < 32 * n then L x else A (x / 32) (x % 32), fun x hx => if_pos hx, a.1, a.2.1, fun c hc => ?_, a.2.2.2⟩
  by_cases e : c < n
  · refine (hr c e).cg (fun i hi => ?_)
    dsimp only
    rw [if_pos (by omega)]
  · refine ⟨A c, hA c hc, fun i hi => ?_⟩
    dsimp only
    rw [if_neg (by omega), show (32 * c + i) / 32 = c by omega, show (32 * c + i) % 32 = i by omega]
theorem POk.cg {L L' : Nat → Nat} {w p n sz : Nat} (h : POk L w p n sz) (hL : ∀ x, x < 32 * n → L' x = L x) : POk L' w p n sz := by
  refine ⟨h.1, h.2.1, h.2.2.1, fun c hc => ?_, fun c i hc hz hi => ?_⟩
  · rw [sm_congr (g := fun i => L (32 * c + i)) (fun i hi => hL _ (by omega))]
    exact h.2.2.2.1 c hc
  · rw [hL _ (by omega)]
    exact h.2.2.2.2 c i hc hz hi
theorem c_X3_passHour {h : List PC} {q md n w p st sz : Nat} {L lo : Nat → Nat} (hq : q = 69 ∨ q = 73) (hS : ShA h) (hf : h[68]? = some oForecast) (hT : h[77]? = some (oTank 77 md n w p st)) (hA : TankA h 77 L sz) (hG : GlA h 93) (hQ : h[q]? = some (oCharge q sz)) (hl : Ar h (q + 3) 32 lo) (hP : POk L w p n sz) (hlo : LoOk lo p sz) : Ct mX3_passHour [.ref 68, .ref q] h (fun r h' => r = none ∧ ShA h' ∧ h'[77]? = some (oTank 77 md n w p (if stillB L lo p n then 1 else 0)) ∧ TankA h' 77 (passL L lo p n) sz ∧ h'[93]? = some (oGlass 93 p) ∧ Ar h' 94 4 (thF (outF L p (n - 1))) ∧ Ar h' 95 8 (ldF (outF L p (n - 1))) ∧ Fr (fun j => j = 2 ∨ j = 3 ∨ (77 ≤ j ∧ j ≤ 95)) h h') := by
  obtain ⟨h1, ⟨R, h2⟩, ⟨P, h3⟩⟩ := hS
  obtain ⟨⟨g0, hg⟩, ⟨gt, hgt⟩, ⟨gl, hgl⟩⟩ := hG
  have hP1 := hP.1
  have hP2 := hP.2.2.1
  have hlt := hlo.lt
  refine ct_at (L := [_, _]) (by decide +kernel) rfl rfl (Nat.le_of_ble_eq_true rfl) ?_
  refine at_aload_n 1 dX3_passHour_0 rfl rfl rfl ?_
  refine at_g 4 dX3_passHour_1 rfl fl_X3_33 ⟨_, by assumption, ?_⟩
  refine ⟨_, rfl, ?_⟩
  refine at_aload_n 5 dX3_passHour_4 rfl rfl rfl ?_
  refine at_invV (ci := 10) 8 [_] _ (c_X10_pass (by omega) (by decide) h1 h2 h3 hT hA hQ hl hP1.2 hP.2.1 hlo.1 (fun i hi => by have := hlt i hi; omega) hP.2.2.2.1 hP.2.2.2.2 hP2.1 hP2.2.1 hP2.2.2) dX3_passHour_5 rfl rfl (by assumption) rfl ml_X3_79 cl_X10_pass vl_X10_pass rfl (Nat.le_of_ble_eq_true rfl) ⟨by decide, by decide⟩ (by decide) (fun rr hh qq => ?_)
  obtain ⟨rfl, ⟨R2, d2⟩, ⟨P2, d3⟩, dT, dA, dO, dfr⟩ := qq
  have df := dfr.at (k := 68) (by omega) hf
  have dg := dfr.at (k := 93) (by omega) hg
  have dgt := dfr.at (k := 94) (by omega) hgt
  have dgl := dfr.at (k := 95) (by omega) hgl
  have dOn := dO (n - 1) (by omega)
  rw [show 77 + 8 + 1 + (n - 1 + 1) = 77 + 8 + 1 + n by omega] at dOn
  refine at_aload_n 9 dX3_passHour_8 rfl rfl rfl ?_
  refine at_g 12 dX3_passHour_9 rfl fl_X3_12 ⟨_, by assumption, ?_⟩
  refine ⟨_, rfl, ?_⟩
  refine at_aload_n 13 dX3_passHour_12 rfl rfl rfl ?_
  refine at_g 16 dX3_passHour_13 rfl fl_X3_33 ⟨_, by assumption, ?_⟩
  refine ⟨_, rfl, ?_⟩
  refine at_invV (ci := 4) 19 [_] _ (c_X4_read (g := 93) (t := 77) (by omega) dg dgt dgl dT dA.2.1 dOn hP1.2) dX3_passHour_16 rfl rfl (by assumption) rfl ml_X3_82 cl_X4_read vl_X4_read rfl (Nat.le_of_ble_eq_true rfl) ⟨by decide, by decide⟩ (by decide) (fun rr hh qq => ?_)
  obtain ⟨rfl, eG, eth, eld, efr⟩ := qq
  refine at_vret dX3_passHour_19 rfl (by decide) (by decide) ?_
  exact ⟨rfl, ⟨efr.at (k := 1) (by omega) (dfr.at (k := 1) (by omega) h1), ⟨R2, efr.at (k := 2) (by omega) d2⟩, ⟨P2, efr.at (k := 3) (by omega) d3⟩⟩, efr.at (k := 77) (by omega) dT, dA.fr efr (fun j h1 h2 => by omega), eG, eth, eld, (dfr.wk (P' := (fun j => j = 2 ∨ j = 3 ∨ (77 ≤ j ∧ j ≤ 95))) (fun j hj => by omega)).tr efr (fun j hj => by omega)⟩
/-- what a forecast reads -/
def FcS (h : List PC) (nf mx nc md n w p st : Nat) (mk sh le mo L : Nat → Nat) : Prop := h[68]? = some oForecast ∧ (h[4]? = some (oFeeds nf) ∧ h[6]? = some (aR 8 (rowsAt 6 8)) ∧ ∀ f, f < 8 → Ar h (7 + f) 4 (fun t => mk (4 * f + t))) ∧ (h[18]? = some (oMix mx) ∧ Ar h 19 8 sh) ∧ (h[21]? = some (oColours nc) ∧ h[22]? = some (aR 6 (rowsAt 22 6)) ∧ h[29]? = some (aR 6 (rowsAt 29 6)) ∧ (∀ c, c < 6 → Ar h (23 + c) 4 (fun t => le (4 * c + t))) ∧ ∀ c, c < 6 → Ar h (30 + c) 4 (fun t => mo (4 * c + t))) ∧ h[39]? = some (oTank 39 md n w p st) ∧ h[40]? = some (aR 6 (rowsAt 40 6)) ∧ ∀ c, c < 6 → Ar h (39 + 1 + 1 + c) 32 (fun i => L (32 * c + i))
theorem FcS.fr {P : Nat → Prop} {h h' : List PC} {nf mx nc md n w p st : Nat} {mk sh le mo L : Nat → Nat} (a : FcS h nf mx nc md n w p st mk sh le mo L) (f : Fr P h h') (hp : ∀ j, P j → j = 2 ∨ j = 3 ∨ (69 ≤ j ∧ j ≤ 95)) : FcS h' nf mx nc md n w p st mk sh le mo L := by
  have q : ∀ j, (4 ≤ j ∧ j ≤ 68) → ¬ P j := fun j hj hP => by have := hp j hP; omega
  obtain ⟨a1, ⟨b1, b2, b3⟩, ⟨c1, c2⟩, ⟨d1, d2, d3, d4, d5⟩, e1, e2, e3⟩ := a
  exact ⟨f.at (q _ (by omega)) a1, ⟨f.at (q _ (by omega)) b1, f.at (q _ (by omega)) b2, fun i hi => (b3 i hi).fr f (q _ (by omega))⟩, ⟨f.at (q _ (by omega)) c1, c2.fr f (q _ (by omega))⟩, ⟨f.at (q _ (by omega)) d1, f.at (q _ (by omega)) d2, f.at (q _ (by omega)) d3, fun i hi => (d4 i hi).fr f (q _ (by omega)), fun i hi => (d5 i hi).fr f (q _ (by omega))⟩, f.at (q _ (by omega)) e1, f.at (q _ (by omega)) e2, fun i hi => (e3 i hi).fr f (q _ (by omega))⟩
/-- what a forecast writes into -/
def FcX (h : List PC) (sz : Nat) : Prop := ShA h ∧ (∃ a b c d e, h[77]? = some (oTank 77 a b c d e)) ∧ TankS h 77 sz ∧ GlA h 93
theorem Fx_fit (le mo : Nat → Nat) (c p : Nat) : Fx (fun th => fitB le mo c th p) := fun _ _ h => fitB_cg h
theorem c_X3_firstHourWithDose {h : List PC} {nf mx nc md n w p st sz c k lim : Nat} {mk sh le mo L loD loP : Nat → Nat} (hS : FcS h nf mx nc md n w p st mk sh le mo L) (hX : FcX h sz) (h69 : h[69]? = some (oCharge 69 sz)) (h72 : Ar h 72 32 loP) (hlP : LoOk loP p sz) (hD : 0 < k → h[73]? = some (oCharge 73 sz) ∧ Ar h 76 32 loD ∧ LoOk loD p sz) (hc : c < 6) (hk : k ≤ 1000) (hlim : lim ≤ 1000) (hP : POk L w p n sz) (hp : p ≤ 100000) (hmd : md ≤ 1) (hlb : ∀ i, i < 24 → le i ≤ 1000) (hmb : ∀ i, i < 24 → mo i ≤ 1000) : Ct mX3_firstHourWithDose [.ref 68, .int (nI c), .int (nI k), .int (nI lim)] h (fun r h' => r = some (.int (nI (tellN (fun th => fitB le mo c th p) p n loD loP k lim 1 L))) ∧ FcX h' sz ∧ Fr (fun j => j = 2 ∨ j = 3 ∨ (77 ≤ j ∧ j ≤ 95)) h h') := by
  have hS0 := hS
  obtain ⟨hfc, -, -, -, hT39, hO39, hR39⟩ := hS0
  obtain ⟨hSh, ⟨xa, xb, xc, xd, xe, hT77⟩, hTS, hGl⟩ := hX
  have hn := hP.1
  refine ct_at (L := [_, _, _, _, _]) (by decide +kernel) rfl rfl (Nat.le_of_ble_eq_true rfl) ?_
  refine at_aload_n 1 dX3_firstHourWithDose_0 rfl rfl rfl ?_
  refine at_g 4 dX3_firstHourWithDose_1 rfl fl_X3_33 ⟨_, by assumption, ?_⟩
  refine ⟨_, rfl, ?_⟩
  refine at_aload_n 5 dX3_firstHourWithDose_4 rfl rfl rfl ?_
  refine at_g 8 dX3_firstHourWithDose_5 rfl fl_X3_18 ⟨_, by assumption, ?_⟩
  refine ⟨_, rfl, ?_⟩
  refine at_invV (ci := 10) 11 [_] _ (c_X10_copy (u := 39) (by decide) hT77 hT39 hTS.1 hO39 hTS.2.2.1 hR39 hn.2 hmd) dX3_firstHourWithDose_8 rfl rfl (by assumption) rfl ml_X3_52 cl_X10_copy vl_X10_copy rfl (Nat.le_of_ble_eq_true rfl) ⟨by decide, by decide⟩ (by decide) (fun rr hh qq => ?_)
  obtain ⟨rfl, dT, dcr, dall, dfr⟩ := qq
  refine at_iconst 12 (nI 1) dX3_firstHourWithDose_11 rfl (by decide) ?_
  refine at_istore (L' := [_, _, _, _, _]) 14 dX3_firstHourWithDose_12 rfl (by decide) rfl rfl ?_
  have dTS : TankS hh 77 sz := ⟨dfr.at (k := 78) (by omega) hTS.1, dfr.at (k := 85) (by omega) hTS.2.1, dall, fun c hc => by
    obtain ⟨F, k1, k2⟩ := hTS.2.2.2 c hc
    exact ⟨F, dfr.at (by omega) k1, k2⟩⟩
  obtain ⟨L', eL', dA⟩ := dTS.fill dcr
  have loop : ∀ (d hr : Nat) (L1 : Nat → Nat) (s1 : Nat) (h' : List PC), hr + d = lim + 1 → 1 ≤ hr → tellN (fun th => fitB le mo c th p) p n loD loP k d hr L1 = (tellN (fun th => fitB le mo c th p) p n loD loP k lim 1 L) → POk L1 w p n sz → ShA h' → h'[77]? = some (oTank 77 md n w p s1) → TankA h' 77 L1 sz → GlA h' 93 → Fr (fun j => j = 2 ∨ j = 3 ∨ (77 ≤ j ∧ j ≤ 95)) h h' → At mX3_firstHourWithDose T0 14 [.ref 68, .int (nI c), .int (nI k), .int (nI lim), .int (nI hr)] [] h' 0 0 (ZM mX3_firstHourWithDose (fun r h' => r = some (.int (nI (tellN (fun th => fitB le mo c th p) p n loD loP k lim 1 L))) ∧ FcX h' sz ∧ Fr (fun j => j = 2 ∨ j = 3 ∨ (77 ≤ j ∧ j ≤ 95)) h h')) := by
    intro d
    induction d with
    | zero =>
      intro hr L1 s1 h' hd h1r htl hP1 aSh aT aA aG hfr
      refine at_iload 16 dX3_firstHourWithDose_14 rfl rfl ?_
      refine at_iload_n 17 dX3_firstHourWithDose_16 rfl rfl rfl ?_
      refine at_icmp_gtN 83 20 dX3_firstHourWithDose_17 rfl rfl (by omega) (by omega) (fun cc => ?_) (fun cc => ?_)
      rotate_left
      · omega
      refine at_iconst 84 (nI 0) dX3_firstHourWithDose_83 rfl (by decide) ?_
      refine at_iret dX3_firstHourWithDose_84 rfl (by decide) (by decide) ?_
      rw [← htl]
      exact ⟨rfl, ⟨aSh, ⟨_, _, _, _, _, aT⟩, aA.s, aG⟩, hfr⟩
    | succ d ih =>
      intro hr L1 s1 h' hd h1r htl hP1 aSh aT aA aG hfr
      have aS := hS.fr hfr (fun j hj => by omega)
      have aF := aS.1
      have tail : ∀ (q : Nat) (lo : Nat → Nat), (q = 69 ∨ q = 73) → lo = (if hr ≤ k then loD else loP) → h'[q]? = some (oCharge q sz) → Ar h' (q + 3) 32 lo → LoOk lo p sz → At mX3_firstHourWithDose T0 38 [.ref 68, .int (nI c), .int (nI k), .int (nI lim), .int (nI hr)] [.ref q, .ref 68] h' 0 0 (ZM mX3_firstHourWithDose (fun r h' => r = some (.int (nI (tellN (fun th => fitB le mo c th p) p n loD loP k lim 1 L))) ∧ FcX h' sz ∧ Fr (fun j => j = 2 ∨ j = 3 ∨ (77 ≤ j ∧ j ≤ 95)) h h')) := by
        intro q lo hq elo aq al hlo
        refine at_invV (ci := 3) 41 [_] _ (c_X3_passHour hq aSh aF aT aA aG aq al hP1 hlo) dX3_firstHourWithDose_38 rfl rfl (by assumption) rfl ml_X3_56 cl_X3_passHour vl_X3_passHour rfl (Nat.le_of_ble_eq_true rfl) ⟨by decide, by decide⟩ (by decide) (fun rr hh qq => ?_)
        obtain ⟨rfl, bSh, bT, bA, bG, bth, bld, bfr⟩ := qq
        have hfr2 : Fr (fun j => j = 2 ∨ j = 3 ∨ (77 ≤ j ∧ j ≤ 95)) h hh := hfr.tr bfr (fun j hj => hj)
        have bS := hS.fr hfr2 (fun j hj => by omega)
        have bF := bS.1
        obtain ⟨bC, bC2, bC3, bC4, bC5⟩ := bS.2.2.2.1
        have bGl : GlA hh 93 := by
          obtain ⟨w1, k1, -⟩ := bth
          obtain ⟨w2, k2, -⟩ := bld
          exact ⟨⟨_, bG⟩, ⟨w1, k1⟩, ⟨w2, k2⟩⟩
        obtain ⟨thw, kth, eth⟩ := bth
        have hthb : ∀ t, t < 4 → thw t ≤ 100000 := fun t ht => by
          rw [eth t ht]
          have := thF_le (t := t) hP1 (c := n - 1) (by omega) ht
          omega
        refine at_aload_n 42 dX3_firstHourWithDose_41 rfl rfl rfl ?_
        refine at_g 45 dX3_firstHourWithDose_42 rfl fl_X3_22 ⟨_, by assumption, ?_⟩
        refine ⟨_, rfl, ?_⟩
        refine at_iload_n 46 dX3_firstHourWithDose_45 rfl rfl rfl ?_
        refine at_aload_n 47 dX3_firstHourWithDose_46 rfl rfl rfl ?_
        refine at_g 50 dX3_firstHourWithDose_47 rfl fl_X3_12 ⟨_, by assumption, ?_⟩
        refine ⟨_, rfl, ?_⟩
        refine at_invV (ci := 1) 53 [_, _] _ (c_X1_fits bC bC2 bC3 (bC4 c hc) (bC5 c hc) bG kth hc hp hthb (fun t ht => hlb _ (by omega)) (fun t ht => hmb _ (by omega))) dX3_firstHourWithDose_50 rfl rfl (by assumption) rfl ml_X3_71 cl_X1_fits vl_X1_fits rfl (Nat.le_of_ble_eq_true rfl) ⟨by decide, by decide⟩ (by decide) (fun rr hh qq => ?_)
        obtain ⟨rfl, hq2⟩ := qq
        subst hq2
        rw [fitB_cg (th' := thF (outF L1 p (n - 1))) eth]
        have htl2 : tellN (fun th => fitB le mo c th p) p n loD loP k (d + 1) hr L1 = if fitB le mo c (thF (outF L1 p (n - 1))) p = true then hr else tellN (fun th => fitB le mo c th p) p n loD loP k d (hr + 1) (passL L1 lo p n) := by rw [elo]; rfl
        rw [htl2] at htl
        refine at_if_eqB 59 56 dX3_firstHourWithDose_53 rfl rfl (fun cc => ?_) (fun cc => ?_)
        · rw [if_neg (by rw [cc]; decide)] at htl
          have cF := cc
          have go : At mX3_firstHourWithDose T0 77 [.ref 68, .int (nI c), .int (nI k), .int (nI lim), .int (nI hr)] [] hh 0 0 (ZM mX3_firstHourWithDose (fun r h' => r = some (.int (nI (tellN (fun th => fitB le mo c th p) p n loD loP k lim 1 L))) ∧ FcX h' sz ∧ Fr (fun j => j = 2 ∨ j = 3 ∨ (77 ≤ j ∧ j ≤ 95)) h h')) := by
            refine at_iincN (q := 1) (L' := [_, _, _, _, _]) 80 dX3_firstHourWithDose_77 rfl (by decide) rfl (by decide) rfl rfl ?_
            refine at_goto 14 dX3_firstHourWithDose_80 rfl ?_
            exact ih (hr + 1) (passL L1 lo p n) _ hh (by omega) (by omega) htl (hP1.pass hlo) bSh bT bA bGl hfr2
          have hsb : (if stillB L1 lo p n = true then 1 else 0) ≤ 1 := by split <;> omega
          refine at_aload_n 60 dX3_firstHourWithDose_59 rfl rfl rfl ?_
          refine at_g 63 dX3_firstHourWithDose_60 rfl fl_X3_33 ⟨_, by assumption, ?_⟩
          refine ⟨_, rfl, ?_⟩
          refine at_g 66 dX3_firstHourWithDose_63 rfl fl_X3_75 ⟨_, by assumption, ?_⟩
          refine ⟨_, rfl, ?_⟩
          refine at_if_eqN 77 69 dX3_firstHourWithDose_66 rfl rfl (by omega) (fun cc => ?_) (fun cc => ?_)
          · exact go
          have cS := cc
          refine at_iload 71 dX3_firstHourWithDose_69 rfl rfl ?_
          refine at_iload_n 72 dX3_firstHourWithDose_71 rfl rfl rfl ?_
          refine at_icmp_leN 77 75 dX3_firstHourWithDose_72 rfl rfl (by omega) (by omega) (fun cc => ?_) (fun cc => ?_)
          · exact go
          · refine at_iconst 76 (nI 0) dX3_firstHourWithDose_75 rfl (by decide) ?_
            refine at_iret dX3_firstHourWithDose_76 rfl (by decide) (by decide) ?_
            have hst : stillB L1 lo p n = true := by
              cases hb : stillB L1 lo p n with
              | true => rfl
              | false => rw [hb] at cS; exact absurd rfl cS
            have elo2 : lo = loP := by rw [elo, if_neg (by omega)]
            rw [elo2] at hst htl
            have hz : tellN (fun th => fitB le mo c th p) p n loD loP k d (hr + 1) (passL L1 loP p n) = 0 := by
              rw [tellN_cg (Fx_fit le mo c p) hn.1 d (hr + 1) _ L1 (still_pass hst)]
              exact tellN_still (Fx_fit le mo c p) hn.1 hst cF d (hr + 1) (by omega)
            rw [hz] at htl
            rw [← htl]
            exact ⟨rfl, ⟨bSh, ⟨_, _, _, _, _, bT⟩, bA.s, bGl⟩, hfr2⟩
        · rw [if_pos cc] at htl
          refine at_iload 58 dX3_firstHourWithDose_56 rfl rfl ?_
          refine at_iret dX3_firstHourWithDose_58 rfl (by decide) (by decide) ?_
          rw [← htl]
          exact ⟨rfl, ⟨bSh, ⟨_, _, _, _, _, bT⟩, bA.s, bGl⟩, hfr2⟩
      refine at_iload 16 dX3_firstHourWithDose_14 rfl rfl ?_
      refine at_iload_n 17 dX3_firstHourWithDose_16 rfl rfl rfl ?_
      refine at_icmp_gtN 83 20 dX3_firstHourWithDose_17 rfl rfl (by omega) (by omega) (fun cc => ?_) (fun cc => ?_)
      · omega
      refine at_aload_n 21 dX3_firstHourWithDose_20 rfl rfl rfl ?_
      refine at_iload 23 dX3_firstHourWithDose_21 rfl rfl ?_
      refine at_iload_n 24 dX3_firstHourWithDose_23 rfl rfl rfl ?_
      refine at_icmp_gtN 34 27 dX3_firstHourWithDose_24 rfl rfl (by omega) (by omega) (fun cc => ?_) (fun cc => ?_)
      · refine at_aload_n 35 dX3_firstHourWithDose_34 rfl rfl rfl ?_
        refine at_g 38 dX3_firstHourWithDose_35 rfl fl_X3_26 ⟨_, by assumption, ?_⟩
        refine ⟨_, rfl, ?_⟩
        exact tail 69 loP (Or.inl rfl) (by rw [if_neg (by omega)]) (hfr.at (k := 69) (by omega) h69) (h72.fr hfr (by omega)) hlP
      · obtain ⟨q1, q2, q3⟩ := hD (by omega)
        refine at_aload_n 28 dX3_firstHourWithDose_27 rfl rfl rfl ?_
        refine at_g 31 dX3_firstHourWithDose_28 rfl fl_X3_30 ⟨_, by assumption, ?_⟩
        refine ⟨_, rfl, ?_⟩
        refine at_goto 38 dX3_firstHourWithDose_31 rfl ?_
        exact tail 73 loD (Or.inr rfl) (by rw [if_pos (by omega)]) (hfr.at (k := 73) (by omega) q1) (q2.fr hfr (by omega)) q3
  refine loop lim 1 L' _ hh (by omega) (by decide) ?_ (hP.cg eL') (hSh.fr dfr (by omega)) dT dA (hGl.fr dfr (by omega)) (dfr.wk (fun j hj => by omega))
  exact tellN_cg (Fx_fit le mo c p) hn.1 lim 1 L' L eL'

