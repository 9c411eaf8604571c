theorem Ct.mono {M : MI} {av : List Value} {h : List PC} {Q Q' : Option Value → List PC → Prop} (hc : Ct M av h Q) (hq : ∀ r h', Q r h' → Q' r h') : Ct M av h Q' := by
  intro l D cy B p e a1 a2 a3 s m args below hf ha hP hK
  obtain ⟨k, o, h1, h2, h3, ⟨⟨⟨r, h', e1, e2, e3⟩, hF⟩, hX⟩⟩ := hc l D cy B p e a1 a2 a3 s m args below hf ha hP hK
  exact ⟨k, o, h1, h2, h3, ⟨⟨⟨r, h', e1, hq r h' e2, e3⟩, hF⟩, hX⟩⟩
def ChS (h : List PC) (q sz : Nat) : Prop := (∃ s0, h[q]? = some (oCharge q s0)) ∧ (∃ w, h[q + 1]? = some (aI 8 w)) ∧ (∃ t, h[q + 2]? = some (aI 8 t)) ∧ ∃ l, h[q + 3]? = some (aI 32 l) ∧ ∀ i, sz ≤ i → i < 32 → l i = 0
theorem ChS.fr {P : Nat → Prop} {h h' : List PC} {q sz : Nat} (a : ChS h q sz) (f : Fr P h h') (hp : ∀ j, q ≤ j → j ≤ q + 3 → ¬ P j) : ChS h' q sz := by
  obtain ⟨⟨x, a1⟩, ⟨y, a2⟩, ⟨z, a3⟩, ⟨u, a4, a5⟩⟩ := a
  exact ⟨⟨x, f.at (hp _ (by omega) (by omega)) a1⟩, ⟨y, f.at (hp _ (by omega) (by omega)) a2⟩, ⟨z, f.at (hp _ (by omega) (by omega)) a3⟩, ⟨u, f.at (hp _ (by omega) (by omega)) a4, a5⟩⟩
/-- feeds and mix, as sharing needs them -/
def FmOk (nf : Nat) (mk sh : Nat → Nat) : Prop := nf ≤ 8 ∧ (∀ f, f < nf → sm (fun t => mk (4 * f + t)) 4 = 1000) ∧ sm sh 8 = 1000 ∧ ∀ f, nf ≤ f → f < 8 → sh f = 0
def FmA (h : List PC) (nf mx : Nat) (mk sh : Nat → Nat) : Prop := (h[4]? = some (oFeeds nf) ∧ h[6]? = some (aR 8 (rowsAt 6 8)) ∧ ∀ f, f < 8 → Ar h (7 + f) 4 (fun t => mk (4 * f + t))) ∧ (h[18]? = some (oMix mx) ∧ Ar h 19 8 sh)
theorem doseW_cg {a b : Nat → Nat} {s ti : Nat} (h : ∀ f, f < 8 → a f = b f) : ∀ f, f < 8 → doseW a s ti f = doseW b s ti f := fun f hf => by unfold doseW; rw [h f hf]
theorem c_meas {h : List PC} {q nf mx p s ti : Nat} {ti0 : Int32} {mk sh : Nat → Nat} (hq : 40 ≤ q) (hti : (ti = 0 ∧ ti0 = -1) ∨ (∃ f, f < nf ∧ ti = f + 1 ∧ ti0 = nI f)) (hs : s ≤ 1000) (h0 : ti = 0 → s = 0) (hF : FmA h nf mx mk sh) (hS : ShA h) (hC : ChS h q (nf * 4)) (hO : FmOk nf mk sh) (hp : p < 2 ^ 31) : Ct mX0_measure [.ref q, .int (nI p), .int ti0, .int (nI s)] h (fun r h' => r = none ∧ ShA h' ∧ h'[q]? = some (oCharge q (nf * 4)) ∧ (∃ w, h'[q + 1]? = some (aI 8 w)) ∧ Ar h' (q + 2) 8 (share p (doseW sh s ti) 8) ∧ Ar h' (q + 3) 32 (loN (share p (doseW sh s ti) 8) mk nf) ∧ Fr (fun j => j = 2 ∨ j = 3 ∨ (q ≤ j ∧ j ≤ q + 3)) h h') := by
  obtain ⟨⟨b1, b2, b3⟩, ⟨c1, ⟨sh', k19, e19⟩⟩⟩ := hF
  obtain ⟨s1, ⟨R, s2⟩, ⟨P, s3⟩⟩ := hS
  obtain ⟨⟨x, a1⟩, ⟨y, a2⟩, ⟨z, a3⟩, ⟨u, a4, a5⟩⟩ := hC
  obtain ⟨o1, o2, o3, o4⟩ := hO
  have hsum : sm (doseW sh s ti) 8 = 1000000 := by
    rcases hti with ⟨q1, q2⟩ | ⟨f, q1, q2, q3⟩
    · rw [q1, h0 q1]; exact doseW_sum0 o3
    · exact doseW_sum o3 hs (by omega) (by omega)
  have hsum' : sm (doseW sh' s ti) 8 = 1000000 := by rw [← hsum]; exact sm_congr (doseW_cg e19)
  have hcg : ∀ f, f < 8 → share p (doseW sh' s ti) 8 f = share p (doseW sh s ti) 8 f := share_congr (by decide) (doseW_cg e19)
  refine (c_X0_measure (s := s) (ti := ti) hti hq s1 s2 s3 b1 b2 b3 c1 k19 a1 a2 a3 a4 o1 hp hs (by omega) (by omega) o2).mono (fun r h' hQ => ?_)
  obtain ⟨r1, ⟨R', r2⟩, ⟨P', r3⟩, r4, r5, r6, r7, r8⟩ := hQ
  exact ⟨r1, ⟨r8.at (k := 1) (by omega) s1, ⟨R', r2⟩, ⟨P', r3⟩⟩, r4, r5, r6.cg hcg, r7.cg (lotN_cg o1 hcg (fun i h1 h2 => a5 i (by omega) h2)), r8⟩
theorem lo_ok {nf p : Nat} {mk sh : Nat → Nat} (hO : FmOk nf mk sh) : LoOk (loN (tkP sh p) mk nf) p (nf * 4) := by
  obtain ⟨o1, o2, o3, o4⟩ := hO
  exact ⟨fun i h1 _ => loN_z (by omega), (loN_sum o1 o2).trans (tkP_sum o3 o1 o4)⟩
theorem loD_ok {nf p s f : Nat} {mk sh : Nat → Nat} (hO : FmOk nf mk sh) (hf : f < nf) (hs : s ≤ 1000) : LoOk (loN (tkD sh p s f) mk nf) p (nf * 4) := by
  obtain ⟨o1, o2, o3, o4⟩ := hO
  exact ⟨fun i h1 _ => loN_z (by omega), (loN_sum o1 o2).trans (tkD_sum o3 o1 hf hs o4)⟩
theorem FcS.fm {h : List PC} {nf mx nc md n w p st : Nat} {mk sh le mo L : Nat → Nat} (a : FcS h nf mx nc md n w p st mk sh le mo L) : FmA h nf mx mk sh := ⟨a.2.1, a.2.2.1⟩
theorem FcX.fr {P : Nat → Prop} {h h' : List PC} {sz : Nat} (a : FcX h sz) (f : Fr P h h') (hs : ShA h') (hp : ∀ j, 77 ≤ j → j ≤ 95 → ¬ P j) : FcX h' sz := by
  obtain ⟨-, ⟨x1, x2, x3, x4, x5, a2⟩, a3, a4⟩ := a
  exact ⟨hs, ⟨x1, x2, x3, x4, x5, f.at (hp _ (by omega) (by omega)) a2⟩, a3.fr f (fun j h1 h2 => hp j h1 (by omega)), a4.fr f ⟨hp _ (by omega) (by omega), hp _ (by omega) (by omega), hp _ (by omega) (by omega)⟩⟩
theorem c_X3_firstHour {h : List PC} {nf mx nc md n w p st c : Nat} {mk sh le mo L : Nat → Nat} (hS : FcS h nf mx nc md n w p st mk sh le mo L) (hX : FcX h (nf * 4)) (h69 : ChS h 69 (nf * 4)) (hO : FmOk nf mk sh) (hc : c < 6) (hP : POk L w p n (nf * 4)) (hp : p ≤ 100000) (hmd : md ≤ 1) (hlb : ∀ i, i < 24 → le i ≤ 1000) (hmb : ∀ i, i < 24 → mo i ≤ 1000) : Ct mX3_firstHour [.ref 68, .int (nI c)] h (fun r h' => r = some (.int (nI (tellN (fun th => fitB le mo c th p) p n (loN (tkP sh p) mk nf) (loN (tkP sh p) mk nf) 0 100 1 L))) ∧ FcX h' (nf * 4) ∧ (h'[69]? = some (oCharge 69 (nf * 4)) ∧ (∃ w, h'[70]? = some (aI 8 w)) ∧ (∃ w, h'[71]? = some (aI 8 w)) ∧ Ar h' 72 32 (loN (tkP sh p) mk nf)) ∧ Fr (fun j => j = 2 ∨ j = 3 ∨ (69 ≤ j ∧ j ≤ 72) ∨ (77 ≤ j ∧ j ≤ 95)) h h') := by
  have hf := hS.1
  have hT := hS.2.2.2.2.1
  obtain ⟨⟨s0, k69⟩, -⟩ := id h69
  refine ct_at (L := [_, _]) (by decide +kernel) rfl rfl (Nat.le_of_ble_eq_true rfl) ?_
  refine at_aload_n 1 dX3_firstHour_0 rfl rfl rfl ?_
  refine at_g 4 dX3_firstHour_1 rfl fl_X3_26 ⟨_, by assumption, ?_⟩
  refine ⟨_, rfl, ?_⟩
  refine at_aload_n 5 dX3_firstHour_4 rfl rfl rfl ?_
  refine at_g 8 dX3_firstHour_5 rfl fl_X3_18 ⟨_, by assumption, ?_⟩
  refine ⟨_, rfl, ?_⟩
  refine at_g 11 dX3_firstHour_8 rfl fl_X3_36 ⟨_, by assumption, ?_⟩
  refine ⟨_, rfl, ?_⟩
  refine at_iconst 12 (-1) dX3_firstHour_11 rfl (by decide) ?_
  refine at_iconst 13 (nI 0) dX3_firstHour_12 rfl (by decide) ?_
  refine at_invV (ci := 0) 16 [_, _, _] _ (c_meas (q := 69) (s := 0) (ti := 0) (by decide) (Or.inl ⟨rfl, rfl⟩) (by decide) (fun _ => rfl) hS.fm hX.1 h69 hO (by omega)) dX3_firstHour_13 rfl rfl (by assumption) rfl ml_X3_42 cl_X0_measure vl_X0_measure rfl (Nat.le_of_ble_eq_true rfl) ⟨by decide, by decide⟩ (by decide) (fun rr hh qq => ?_)
  obtain ⟨rfl, dSh, dq, dw, dt, dl, dfr⟩ := qq
  rw [share_doseW_0] at dt dl
  have dS := hS.fr dfr (fun j hj => by omega)
  have dX := hX.fr dfr dSh (fun j h1 h2 => by omega)
  have df := dS.1
  refine at_aload_n 17 dX3_firstHour_16 rfl rfl rfl ?_
  refine at_iload_n 18 dX3_firstHour_17 rfl rfl rfl ?_
  refine at_iconst 19 (nI 0) dX3_firstHour_18 rfl (by decide) ?_
  refine at_bipush 21 (nI 100) dX3_firstHour_19 rfl (by decide) ?_
  refine at_invV (ci := 3) 24 [_, _, _] _ (c_X3_firstHourWithDose (loD := loN (tkP sh p) mk nf) dS dX dq dl (lo_ok hO) (fun q => by omega) hc (by decide) (by decide) hP hp hmd hlb hmb) dX3_firstHour_21 rfl rfl (by assumption) rfl ml_X3_48 cl_X3_firstHourWithDose vl_X3_firstHourWithDose rfl (Nat.le_of_ble_eq_true rfl) ⟨by decide, by decide⟩ (by decide) (fun rr hh qq => ?_)
  obtain ⟨rfl, eX, efr⟩ := qq
  refine at_iret dX3_firstHour_24 rfl (by decide) (by decide) ?_
  obtain ⟨w1, dw⟩ := dw
  obtain ⟨w2, dt, -⟩ := dt
  exact ⟨rfl, eX, ⟨efr.at (k := 69) (by omega) dq, ⟨w1, efr.at (k := 70) (by omega) dw⟩, ⟨w2, efr.at (k := 71) (by omega) dt⟩, dl.fr efr (by omega)⟩, (dfr.wk (P' := (fun j => j = 2 ∨ j = 3 ∨ (69 ≤ j ∧ j ≤ 72) ∨ (77 ≤ j ∧ j ≤ 95))) (fun j hj => by omega)).tr efr (fun j hj => by omega)⟩
def noneN (F : (Nat → Nat) → Nat) (p n : Nat) (lo : Nat → Nat) : Nat → (Nat → Nat) → Nat
  | 0, _ => 0
  | d + 1, L => (if F (thF (outF L p (n - 1))) = 0 then 1 else 0) + noneN F p n lo d (passL L lo p n)
theorem noneN_cg {F : (Nat → Nat) → Nat} (hF : ∀ a b : Nat → Nat, (∀ t, t < 4 → a t = b t) → F a = F b) {p n : Nat} {lo : Nat → Nat} (hn : 1 ≤ n) : ∀ (d : Nat) (L L' : Nat → Nat), (∀ x, x < 32 * n → L x = L' x) → noneN F p n lo d L = noneN F p n lo d L'
  | 0, _, _, _ => rfl
  | d + 1, L, L', hL => by
    unfold noneN
    rw [hF (thF (outF L p (n - 1))) (thF (outF L' p (n - 1))) (fun t ht => thF_cg (outF_cg hL (by omega)) ht)]
    rw [noneN_cg hF hn d (passL L lo p n) (passL L' lo p n) (passL_cg hL (fun _ _ => rfl))]
theorem noneN_le (F : (Nat → Nat) → Nat) (p n : Nat) (lo : Nat → Nat) : ∀ (d : Nat) (L : Nat → Nat), noneN F p n lo d L ≤ d
  | 0, _ => Nat.le_refl _
  | d + 1, L => by
    have := noneN_le F p n lo d (passL L lo p n)
    unfold noneN
    split <;> omega
theorem nm_m1 {k : Nat} (hk : k < 2 ^ 30) : nI k - 1 = -1 ↔ k = 0 := by
  rcases Nat.eq_zero_or_pos k with q | q
  · subst q; exact ⟨fun _ => rfl, fun _ => by decide⟩
  · obtain ⟨j, rfl⟩ : ∃ j, k = j + 1 := ⟨k - 1, by omega⟩
    rw [nI_pred]
    refine ⟨fun e => ?_, fun e => by omega⟩
    have := nI_pos (n := j) (by omega)
    rw [e] at this
    exact absurd (by decide) this
theorem nameC_le (F : Nat → Bool) (n : Nat) : nameC F n ≤ n := by
  unfold nameC
  split <;> omega
theorem c_X3_hoursWithoutName {h : List PC} {nf mx nc md n w p st : Nat} {mk sh le mo L : Nat → Nat} (hS : FcS h nf mx nc md n w p st mk sh le mo L) (hX : FcX h (nf * 4)) (h69 : ChS h 69 (nf * 4)) (hO : FmOk nf mk sh) (hnc : nc ≤ 6) (hP : POk L w p n (nf * 4)) (hp : p ≤ 100000) (hmd : md ≤ 1) (hlb : ∀ i, i < 24 → le i ≤ 1000) (hmb : ∀ i, i < 24 → mo i ≤ 1000) : Ct mX3_hoursWithoutName [.ref 68] h (fun r h' => r = some (.int (nI (noneN (fun th => nameC (fun c => fitB le mo c th p) nc) p n (loN (tkP sh p) mk nf) 100 L))) ∧ FcX h' (nf * 4) ∧ (h'[69]? = some (oCharge 69 (nf * 4)) ∧ (∃ w, h'[70]? = some (aI 8 w)) ∧ (∃ w, h'[71]? = some (aI 8 w)) ∧ Ar h' 72 32 (loN (tkP sh p) mk nf)) ∧ Fr (fun j => j = 2 ∨ j = 3 ∨ (69 ≤ j ∧ j ≤ 72) ∨ (77 ≤ j ∧ j ≤ 95)) h h') := by
  have hf := hS.1
  have hT := hS.2.2.2.2.1
  have hn := hP.1
  obtain ⟨⟨s0, k69⟩, -⟩ := id h69
  refine ct_at (L := [_, _, _]) (by decide +kernel) rfl rfl (Nat.le_of_ble_eq_true rfl) ?_
  refine at_aload_n 1 dX3_hoursWithoutName_0 rfl rfl rfl ?_
  refine at_g 4 dX3_hoursWithoutName_1 rfl fl_X3_26 ⟨_, by assumption, ?_⟩
  refine ⟨_, rfl, ?_⟩
  refine at_aload_n 5 dX3_hoursWithoutName_4 rfl rfl rfl ?_
  refine at_g 8 dX3_hoursWithoutName_5 rfl fl_X3_18 ⟨_, by assumption, ?_⟩
  refine ⟨_, rfl, ?_⟩
  refine at_g 11 dX3_hoursWithoutName_8 rfl fl_X3_36 ⟨_, by assumption, ?_⟩
  refine ⟨_, rfl, ?_⟩
  refine at_iconst 12 (-1) dX3_hoursWithoutName_11 rfl (by decide) ?_
  refine at_iconst 13 (nI 0) dX3_hoursWithoutName_12 rfl (by decide) ?_
  refine at_invV (ci := 0) 16 [_, _, _] _ (c_meas (q := 69) (s := 0) (ti := 0) (by decide) (Or.inl ⟨rfl, rfl⟩) (by decide) (fun _ => rfl) hS.fm hX.1 h69 hO (by omega)) dX3_hoursWithoutName_13 rfl rfl (by assumption) rfl ml_X3_42 cl_X0_measure vl_X0_measure rfl (Nat.le_of_ble_eq_true rfl) ⟨by decide, by decide⟩ (by decide) (fun rr hh qq => ?_)
  obtain ⟨rfl, dSh, dq, ⟨w1, dw⟩, dt, dl, dfr⟩ := qq
  rw [share_doseW_0] at dt dl
  obtain ⟨w2, dt, -⟩ := dt
  have dS := hS.fr dfr (fun j hj => by omega)
  have dX := hX.fr dfr dSh (fun j h1 h2 => by omega)
  obtain ⟨df, -, -, -, dT39, dO39, dR39⟩ := id dS
  obtain ⟨dSh, ⟨xa, xb, xc, xd, xe, dT77⟩, dTS, dGl⟩ := dX
  refine at_aload_n 17 dX3_hoursWithoutName_16 rfl rfl rfl ?_
  refine at_g 20 dX3_hoursWithoutName_17 rfl fl_X3_33 ⟨_, by assumption, ?_⟩
  refine ⟨_, rfl, ?_⟩
  refine at_aload_n 21 dX3_hoursWithoutName_20 rfl rfl rfl ?_
  refine at_g 24 dX3_hoursWithoutName_21 rfl fl_X3_18 ⟨_, by assumption, ?_⟩
  refine ⟨_, rfl, ?_⟩
  refine at_invV (ci := 10) 27 [_] _ (c_X10_copy (u := 39) (by decide) dT77 dT39 dTS.1 dO39 dTS.2.2.1 dR39 hn.2 hmd) dX3_hoursWithoutName_24 rfl rfl (by assumption) rfl ml_X3_52 cl_X10_copy vl_X10_copy rfl (Nat.le_of_ble_eq_true rfl) ⟨by decide, by decide⟩ (by decide) (fun rr hh qq => ?_)
  obtain ⟨rfl, eT, ecr, eall, efr⟩ := qq
  have eTS : TankS hh 77 (nf * 4) := ⟨efr.at (k := 78) (by omega) dTS.1, efr.at (k := 85) (by omega) dTS.2.1, eall, fun c hc => by
    obtain ⟨F, k1, k2⟩ := dTS.2.2.2 c hc
    exact ⟨F, efr.at (by omega) k1, k2⟩⟩
  obtain ⟨L', eL', eA⟩ := eTS.fill ecr
  have hfr0 : Fr (fun j => j = 2 ∨ j = 3 ∨ (69 ≤ j ∧ j ≤ 72) ∨ (77 ≤ j ∧ j ≤ 95)) h hh := (dfr.wk (P' := (fun j => j = 2 ∨ j = 3 ∨ (69 ≤ j ∧ j ≤ 72) ∨ (77 ≤ j ∧ j ≤ 95))) (fun j hj => by omega)).tr efr (fun j hj => by omega)
  have eq := efr.at (k := 69) (by omega) dq
  have ew := efr.at (k := 70) (by omega) dw
  have et := efr.at (k := 71) (by omega) dt
  have el := dl.fr efr (by omega)
  have eSh := dSh.fr efr (by omega)
  have eGl := dGl.fr efr (by omega)
  refine at_iconst 28 (nI 0) dX3_hoursWithoutName_27 rfl (by decide) ?_
  refine at_istore_n (L' := [_, _, _]) 29 dX3_hoursWithoutName_28 rfl rfl (by decide) rfl rfl ?_
  refine at_iconst 30 (nI 1) dX3_hoursWithoutName_29 rfl (by decide) ?_
  refine at_istore_n (L' := [_, _, _]) 31 dX3_hoursWithoutName_30 rfl rfl (by decide) rfl rfl ?_
  have loop : ∀ (d hr acc : Nat) (L1 : Nat → Nat) (s1 : Nat) (h' : List PC), hr + d = 101 → acc + noneN (fun th => nameC (fun c => fitB le mo c th p) nc) p n (loN (tkP sh p) mk nf) d L1 = (noneN (fun th => nameC (fun c => fitB le mo c th p) nc) p n (loN (tkP sh p) mk nf) 100 L) → POk L1 w p n (nf * 4) → ShA h' → h'[77]? = some (oTank 77 md n w p s1) → TankA h' 77 L1 (nf * 4) → GlA h' 93 → Fr (fun j => j = 2 ∨ j = 3 ∨ (77 ≤ j ∧ j ≤ 95)) hh h' → At mX3_hoursWithoutName T0 31 [.ref 68, .int (nI acc), .int (nI hr)] [] h' 0 0 (ZM mX3_hoursWithoutName (fun r h' => r = some (.int (nI (noneN (fun th => nameC (fun c => fitB le mo c th p) nc) p n (loN (tkP sh p) mk nf) 100 L))) ∧ FcX h' (nf * 4) ∧ (h'[69]? = some (oCharge 69 (nf * 4)) ∧ (∃ w, h'[70]? = some (aI 8 w)) ∧ (∃ w, h'[71]? = some (aI 8 w)) ∧ Ar h' 72 32 (loN (tkP sh p) mk nf)) ∧ Fr (fun j => j = 2 ∨ j = 3 ∨ (69 ≤ j ∧ j ≤ 72) ∨ (77 ≤ j ∧ j ≤ 95)) h h')) := by
    intro d
    induction d with
    | zero =>
      intro hr acc L1 s1 h' hd hac hP1 aSh aT aA aG afr
      refine at_iload_n 32 dX3_hoursWithoutName_31 rfl rfl rfl ?_
      refine at_bipush 34 (nI 100) dX3_hoursWithoutName_32 rfl (by decide) ?_
      refine at_icmp_gtN 69 37 dX3_hoursWithoutName_34 rfl rfl (by omega) (by omega) (fun cc => ?_) (fun cc => ?_)
      rotate_left
      · omega
      refine at_iload_n 70 dX3_hoursWithoutName_69 rfl rfl rfl ?_
      refine at_iret dX3_hoursWithoutName_70 rfl (by decide) (by decide) ?_
      rw [← hac]
      exact ⟨rfl, ⟨aSh, ⟨_, _, _, _, _, aT⟩, aA.s, aG⟩, ⟨afr.at (k := 69) (by omega) eq, ⟨w1, afr.at (k := 70) (by omega) ew⟩, ⟨w2, afr.at (k := 71) (by omega) et⟩, el.fr afr (by omega)⟩, hfr0.tr afr (fun j hj => by omega)⟩
    | succ d ih =>
      intro hr acc L1 s1 h' hd hac hP1 aSh aT aA aG afr
      have hfr1 : Fr (fun j => j = 2 ∨ j = 3 ∨ (69 ≤ j ∧ j ≤ 72) ∨ (77 ≤ j ∧ j ≤ 95)) h h' := hfr0.tr afr (fun j hj => by omega)
      have aS := hS.fr hfr1 (fun j hj => by omega)
      have aF := aS.1
      have aq := afr.at (k := 69) (by omega) eq
      refine at_iload_n 32 dX3_hoursWithoutName_31 rfl rfl rfl ?_
      refine at_bipush 34 (nI 100) dX3_hoursWithoutName_32 rfl (by decide) ?_
      refine at_icmp_gtN 69 37 dX3_hoursWithoutName_34 rfl rfl (by omega) (by omega) (fun cc => ?_) (fun cc => ?_)
      · omega
      refine at_aload_n 38 dX3_hoursWithoutName_37 rfl rfl rfl ?_
      refine at_aload_n 39 dX3_hoursWithoutName_38 rfl rfl rfl ?_
      refine at_g 42 dX3_hoursWithoutName_39 rfl fl_X3_26 ⟨_, by assumption, ?_⟩
      refine ⟨_, rfl, ?_⟩
      refine at_invV (ci := 3) 45 [_] _ (c_X3_passHour (q := 69) (Or.inl rfl) aSh aF aT aA aG aq (el.fr afr (by omega)) hP1 (lo_ok hO)) dX3_hoursWithoutName_42 rfl rfl (by assumption) rfl ml_X3_56 cl_X3_passHour vl_X3_passHour rfl (Nat.le_of_ble_eq_true rfl) ⟨by decide, by decide⟩ (by decide) (fun rr hh qq => ?_)
      obtain ⟨rfl, bSh, bT, bA, bG, bth, bld, bfr⟩ := qq
      have hfr2 : Fr (fun j => j = 2 ∨ j = 3 ∨ (69 ≤ j ∧ j ≤ 72) ∨ (77 ≤ j ∧ j ≤ 95)) h hh := hfr1.tr bfr (fun j hj => by omega)
      have bS := hS.fr hfr2 (fun j hj => by omega)
      have bF := bS.1
      obtain ⟨bC, bC2, bC3, bC4, bC5⟩ := bS.2.2.2.1
      have bGl : GlA hh 93 := by
        obtain ⟨w1, k1, -⟩ := bth
        obtain ⟨w2, k2, -⟩ := bld
        exact ⟨⟨_, bG⟩, ⟨w1, k1⟩, ⟨w2, k2⟩⟩
      obtain ⟨thw, kth, eth⟩ := bth
      have hthb : ∀ t, t < 4 → thw t ≤ 100000 := fun t ht => by
        rw [eth t ht]
        have := thF_le (t := t) hP1 (c := n - 1) (by omega) ht
        omega
      refine at_aload_n 46 dX3_hoursWithoutName_45 rfl rfl rfl ?_
      refine at_g 49 dX3_hoursWithoutName_46 rfl fl_X3_22 ⟨_, by assumption, ?_⟩
      refine ⟨_, rfl, ?_⟩
      refine at_aload_n 50 dX3_hoursWithoutName_49 rfl rfl rfl ?_
      refine at_g 53 dX3_hoursWithoutName_50 rfl fl_X3_12 ⟨_, by assumption, ?_⟩
      refine ⟨_, rfl, ?_⟩
      refine at_invV (ci := 1) 56 [_] _ (c_X1_nameOf bC bC2 bC3 bC4 bC5 bG kth hnc hp hthb hlb hmb) dX3_hoursWithoutName_53 rfl rfl (by assumption) rfl ml_X3_60 cl_X1_nameOf vl_X1_nameOf rfl (Nat.le_of_ble_eq_true rfl) ⟨by decide, by decide⟩ (by decide) (fun rr hh qq => ?_)
      obtain ⟨rfl, hq2⟩ := qq
      subst hq2
      rw [nameC_cg (F' := fun c => fitB le mo c (thF (outF L1 p (n - 1))) p) (fun c _ => fitB_cg eth)]
      have hnl := nameC_le (fun c => fitB le mo c (thF (outF L1 p (n - 1))) p) nc
      have hstep : noneN (fun th => nameC (fun c => fitB le mo c th p) nc) p n (loN (tkP sh p) mk nf) (d + 1) L1 = (if nameC (fun c => fitB le mo c (thF (outF L1 p (n - 1))) p) nc = 0 then 1 else 0) + noneN (fun th => nameC (fun c => fitB le mo c th p) nc) p n (loN (tkP sh p) mk nf) d (passL L1 (loN (tkP sh p) mk nf) p n) := rfl
      have bfr2 := afr.tr bfr (fun j hj => hj)
      refine at_iconst 57 (-1) dX3_hoursWithoutName_56 rfl (by decide) ?_
      refine at_icmp_ne 63 60 dX3_hoursWithoutName_57 rfl rfl (fun cc => ?_) (fun cc => ?_)
      · rw [nm_m1 (by omega)] at cc
        rw [if_neg cc] at hstep
        refine at_iincN (q := 1) (L' := [_, _, _]) 66 dX3_hoursWithoutName_63 rfl (by decide) rfl (by decide) rfl rfl ?_
        refine at_goto 31 dX3_hoursWithoutName_66 rfl ?_
        exact ih (hr + 1) acc (passL L1 (loN (tkP sh p) mk nf) p n) _ hh (by omega) (by omega) (hP1.pass (lo_ok hO)) bSh bT bA bGl bfr2
      · rw [nm_m1 (by omega)] at cc
        rw [if_pos cc] at hstep
        refine at_iincN (q := 1) (L' := [_, _, _]) 63 dX3_hoursWithoutName_60 rfl (by decide) rfl (by decide) rfl rfl ?_
        refine at_iincN (q := 1) (L' := [_, _, _]) 66 dX3_hoursWithoutName_63 rfl (by decide) rfl (by decide) rfl rfl ?_
        refine at_goto 31 dX3_hoursWithoutName_66 rfl ?_
        exact ih (hr + 1) (acc + 1) (passL L1 (loN (tkP sh p) mk nf) p n) _ hh (by omega) (by omega) (hP1.pass (lo_ok hO)) bSh bT bA bGl bfr2
  refine loop 100 1 0 L' _ hh (by omega) ?_ (hP.cg eL') eSh eT eA eGl Fr.rf
  have hz : ∀ x : Nat, 0 + x = x := Nat.zero_add
  rw [hz]
  have hcg := noneN_cg (F := (fun th => nameC (fun c => fitB le mo c th p) nc)) (p := p) (n := n) (lo := loN (tkP sh p) mk nf) (fun a b hab => nameC_cg (fun c _ => fitB_cg hab)) hn.1 100 L' L eL'
  rw [hcg]

