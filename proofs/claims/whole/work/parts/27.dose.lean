def stepD (T : Nat → Nat → Nat) (S : Nat × Nat) (s k : Nat) : Nat × Nat := if T s k ≠ 0 ∧ (S.1 = 0 ∨ T s k < S.1) then (T s k, 100000 * T s k + 100 * s + k) else S
def innerD (T : Nat → Nat → Nat) (s : Nat) : Nat → Nat → Nat × Nat → Nat × Nat
  | 0, _, S => S
  | d + 1, k, S => innerD T s d (k + 1) (stepD T S s k)
def outerD (T : Nat → Nat → Nat) : Nat → Nat → Nat × Nat → Nat × Nat
  | 0, _, S => S
  | d + 1, s, S => outerD T d (s + 100) (innerD T s 10 1 S)
theorem ChS.of {h : List PC} {q sz : Nat} {lo : Nat → Nat} {p : Nat} (h1 : h[q]? = some (oCharge q sz)) (h2 : ∃ w, h[q + 1]? = some (aI 8 w)) (h3 : ∃ w, h[q + 2]? = some (aI 8 w)) (h4 : Ar h (q + 3) 32 lo) (hl : LoOk lo p sz) : ChS h q sz := by
  obtain ⟨w, k1, k2⟩ := h4
  exact ⟨⟨sz, h1⟩, h2, h3, ⟨w, k1, fun i a b => by rw [k2 i b]; exact hl.1 i a b⟩⟩
theorem c_X3_bestDose {h : List PC} {nf mx nc md n w p st c f : Nat} {mk sh le mo L : Nat → Nat} (hS : FcS h nf mx nc md n w p st mk sh le mo L) (hX : FcX h (nf * 4)) (h69 : ChS h 69 (nf * 4)) (h73 : ChS h 73 (nf * 4)) (hO : FmOk nf mk sh) (hc : c < 6) (hf : f < nf) (hP : POk L w p n (nf * 4)) (hp : p ≤ 100000) (hmd : md ≤ 1) (hlb : ∀ i, i < 24 → le i ≤ 1000) (hmb : ∀ i, i < 24 → mo i ≤ 1000) : Ct mX3_bestDose [.ref 68, .int (nI c), .int (nI f)] h (fun r h' => r = some (.int (nI (outerD (fun s k => tellN (fun th => fitB le mo c th p) p n (loN (tkD sh p s f) mk nf) (loN (tkP sh p) mk nf) k 100 1 L) 5 100 ((tellN (fun th => fitB le mo c th p) p n (loN (tkP sh p) mk nf) (loN (tkP sh p) mk nf) 0 100 1 L), 100000 * (tellN (fun th => fitB le mo c th p) p n (loN (tkP sh p) mk nf) (loN (tkP sh p) mk nf) 0 100 1 L))).2)) ∧ FcX h' (nf * 4) ∧ (h'[69]? = some (oCharge 69 (nf * 4)) ∧ (∃ w, h'[70]? = some (aI 8 w)) ∧ (∃ w, h'[71]? = some (aI 8 w)) ∧ Ar h' 72 32 (loN (tkP sh p) mk nf)) ∧ ChS h' 73 (nf * 4) ∧ Fr (fun j => j = 2 ∨ j = 3 ∨ (69 ≤ j ∧ j ≤ 95)) h h') := by
  have hfc := hS.1
  have hT := hS.2.2.2.2.1
  have hnf := hO.1
  refine ct_at (L := [_, _, _, _, _, _, _, _, _]) (by decide +kernel) rfl rfl (Nat.le_of_ble_eq_true rfl) ?_
  refine at_aload_n 1 dX3_bestDose_0 rfl rfl rfl ?_
  refine at_iload_n 2 dX3_bestDose_1 rfl rfl rfl ?_
  refine at_invV (ci := 3) 5 [_] _ (c_X3_firstHour hS hX h69 hO hc hP hp hmd hlb hmb) dX3_bestDose_2 rfl rfl (by assumption) rfl ml_X3_66 cl_X3_firstHour vl_X3_firstHour rfl (Nat.le_of_ble_eq_true rfl) ⟨by decide, by decide⟩ (by decide) (fun rr hh qq => ?_)
  obtain ⟨rfl, dX, dP, dfr⟩ := qq
  have d73 := h73.fr dfr (fun j h1 h2 => by omega)
  have hr0 := tellN_rng (fun th => fitB le mo c th p) p n 0 (loN (tkP sh p) mk nf) (loN (tkP sh p) mk nf) 100 1 L
  refine at_istore_n (L' := [_, _, _, _, _, _, _, _, _]) 6 dX3_bestDose_5 rfl rfl (by decide) rfl rfl ?_
  refine at_ldc 8 (nI 100000) dX3_bestDose_6 rfl cn_X3_70 ?_
  refine at_iload_n 9 dX3_bestDose_8 rfl rfl rfl ?_
  first | refine at_imulN 10 dX3_bestDose_9 rfl ?_ | refine at_imul 10 dX3_bestDose_9 rfl ?_
  refine at_istore (L' := [_, _, _, _, _, _, _, _, _]) 12 dX3_bestDose_10 rfl (by decide) rfl rfl ?_
  refine at_bipush 14 (nI 100) dX3_bestDose_12 rfl (by decide) ?_
  refine at_istore (L' := [_, _, _, _, _, _, _, _, _]) 16 dX3_bestDose_14 rfl (by decide) rfl rfl ?_
  have outer : ∀ (d s : Nat) (S : Nat × Nat) (h' : List PC), s + 100 * d = 600 → 100 ≤ s → S.1 ≤ 100 → (outerD (fun s k => tellN (fun th => fitB le mo c th p) p n (loN (tkD sh p s f) mk nf) (loN (tkP sh p) mk nf) k 100 1 L) d s S).2 = (outerD (fun s k => tellN (fun th => fitB le mo c th p) p n (loN (tkD sh p s f) mk nf) (loN (tkP sh p) mk nf) k 100 1 L) 5 100 ((tellN (fun th => fitB le mo c th p) p n (loN (tkP sh p) mk nf) (loN (tkP sh p) mk nf) 0 100 1 L), 100000 * (tellN (fun th => fitB le mo c th p) p n (loN (tkP sh p) mk nf) (loN (tkP sh p) mk nf) 0 100 1 L))).2 → FcX h' (nf * 4) → (h'[69]? = some (oCharge 69 (nf * 4)) ∧ (∃ w, h'[70]? = some (aI 8 w)) ∧ (∃ w, h'[71]? = some (aI 8 w)) ∧ Ar h' 72 32 (loN (tkP sh p) mk nf)) → ChS h' 73 (nf * 4) → Fr (fun j => j = 2 ∨ j = 3 ∨ (69 ≤ j ∧ j ≤ 95)) h h' → At mX3_bestDose T0 16 [.ref 68, .int (nI c), .int (nI f), .int (nI S.1), .int (nI S.2), .int (nI s), .null, .null, .null] [] h' 0 0 (ZM mX3_bestDose (fun r h' => r = some (.int (nI (outerD (fun s k => tellN (fun th => fitB le mo c th p) p n (loN (tkD sh p s f) mk nf) (loN (tkP sh p) mk nf) k 100 1 L) 5 100 ((tellN (fun th => fitB le mo c th p) p n (loN (tkP sh p) mk nf) (loN (tkP sh p) mk nf) 0 100 1 L), 100000 * (tellN (fun th => fitB le mo c th p) p n (loN (tkP sh p) mk nf) (loN (tkP sh p) mk nf) 0 100 1 L))).2)) ∧ FcX h' (nf * 4) ∧ (h'[69]? = some (oCharge 69 (nf * 4)) ∧ (∃ w, h'[70]? = some (aI 8 w)) ∧ (∃ w, h'[71]? = some (aI 8 w)) ∧ Ar h' 72 32 (loN (tkP sh p) mk nf)) ∧ ChS h' 73 (nf * 4) ∧ Fr (fun j => j = 2 ∨ j = 3 ∨ (69 ≤ j ∧ j ≤ 95)) h h')) := by
    intro d
    induction d with
    | zero =>
      intro s S h' hs h100 hS1 hres aX aP a73 afr
      refine at_iload 18 dX3_bestDose_16 rfl rfl ?_
      refine at_sipush 21 (nI 500) dX3_bestDose_18 rfl (by decide) ?_
      refine at_icmp_gtN 112 24 dX3_bestDose_21 rfl rfl (by omega) (by omega) (fun cc => ?_) (fun cc => ?_)
      rotate_left
      · omega
      refine at_iload 114 dX3_bestDose_112 rfl rfl ?_
      refine at_iret dX3_bestDose_114 rfl (by decide) (by decide) ?_
      rw [← hres]
      exact ⟨rfl, aX, aP, a73, afr⟩
    | succ d ih =>
      intro s S h' hs h100 hS1 hres aX aP a73 afr
      have aS := hS.fr afr (fun j hj => by omega)
      have aF := aS.1
      have aT := aS.2.2.2.2.1
      obtain ⟨⟨s0, k73⟩, -⟩ := id a73
      refine at_iload 18 dX3_bestDose_16 rfl rfl ?_
      refine at_sipush 21 (nI 500) dX3_bestDose_18 rfl (by decide) ?_
      refine at_icmp_gtN 112 24 dX3_bestDose_21 rfl rfl (by omega) (by omega) (fun cc => ?_) (fun cc => ?_)
      · omega
      refine at_aload_n 25 dX3_bestDose_24 rfl rfl rfl ?_
      refine at_g 28 dX3_bestDose_25 rfl fl_X3_30 ⟨_, by assumption, ?_⟩
      refine ⟨_, rfl, ?_⟩
      refine at_aload_n 29 dX3_bestDose_28 rfl rfl rfl ?_
      refine at_g 32 dX3_bestDose_29 rfl fl_X3_18 ⟨_, by assumption, ?_⟩
      refine ⟨_, rfl, ?_⟩
      refine at_g 35 dX3_bestDose_32 rfl fl_X3_36 ⟨_, by assumption, ?_⟩
      refine ⟨_, rfl, ?_⟩
      refine at_iload_n 36 dX3_bestDose_35 rfl rfl rfl ?_
      refine at_iload 38 dX3_bestDose_36 rfl rfl ?_
      refine at_invV (ci := 0) 41 [_, _, _] _ (c_meas (q := 73) (s := s) (ti := f + 1) (by decide) (Or.inr ⟨f, hf, rfl, rfl⟩) (by omega) (fun q => by omega) aS.fm aX.1 a73 hO (by omega)) dX3_bestDose_38 rfl rfl (by assumption) rfl ml_X3_42 cl_X0_measure vl_X0_measure rfl (Nat.le_of_ble_eq_true rfl) ⟨by decide, by decide⟩ (by decide) (fun rr hh qq => ?_)
      obtain ⟨rfl, bSh, bq, bw, bt, bl, bfr⟩ := qq
      have bX := aX.fr bfr bSh (fun j h1 h2 => by omega)
      obtain ⟨p1, ⟨pw, p2⟩, ⟨pt, p3⟩, p4⟩ := aP
      have q1 := bfr.at (k := 69) (by omega) p1
      have q2 := bfr.at (k := 70) (by omega) p2
      have q3 := bfr.at (k := 71) (by omega) p3
      have q4 := p4.fr bfr (by omega)
      obtain ⟨bw, kbw⟩ := bw
      obtain ⟨bt, kbt, -⟩ := bt
      have hfr1 : Fr (fun j => j = 2 ∨ j = 3 ∨ (69 ≤ j ∧ j ≤ 95)) h hh := afr.tr bfr (fun j hj => by omega)
      refine at_iconst 42 (nI 1) dX3_bestDose_41 rfl (by decide) ?_
      refine at_istore (L' := [_, _, _, _, _, _, _, _, _]) 44 dX3_bestDose_42 rfl (by decide) rfl rfl ?_
      have inner : ∀ (e k : Nat) (S : Nat × Nat) (h2 : List PC), k + e = 11 → 1 ≤ k → S.1 ≤ 100 → (outerD (fun s k => tellN (fun th => fitB le mo c th p) p n (loN (tkD sh p s f) mk nf) (loN (tkP sh p) mk nf) k 100 1 L) d (s + 100) (innerD (fun s k => tellN (fun th => fitB le mo c th p) p n (loN (tkD sh p s f) mk nf) (loN (tkP sh p) mk nf) k 100 1 L) s e k S)).2 = (outerD (fun s k => tellN (fun th => fitB le mo c th p) p n (loN (tkD sh p s f) mk nf) (loN (tkP sh p) mk nf) k 100 1 L) 5 100 ((tellN (fun th => fitB le mo c th p) p n (loN (tkP sh p) mk nf) (loN (tkP sh p) mk nf) 0 100 1 L), 100000 * (tellN (fun th => fitB le mo c th p) p n (loN (tkP sh p) mk nf) (loN (tkP sh p) mk nf) 0 100 1 L))).2 → FcX h2 (nf * 4) → Fr (fun j => j = 2 ∨ j = 3 ∨ (77 ≤ j ∧ j ≤ 95)) hh h2 → At mX3_bestDose T0 44 [.ref 68, .int (nI c), .int (nI f), .int (nI S.1), .int (nI S.2), .int (nI s), .int (nI k), .null, .null] [] h2 0 0 (ZM mX3_bestDose (fun r h' => r = some (.int (nI (outerD (fun s k => tellN (fun th => fitB le mo c th p) p n (loN (tkD sh p s f) mk nf) (loN (tkP sh p) mk nf) k 100 1 L) 5 100 ((tellN (fun th => fitB le mo c th p) p n (loN (tkP sh p) mk nf) (loN (tkP sh p) mk nf) 0 100 1 L), 100000 * (tellN (fun th => fitB le mo c th p) p n (loN (tkP sh p) mk nf) (loN (tkP sh p) mk nf) 0 100 1 L))).2)) ∧ FcX h' (nf * 4) ∧ (h'[69]? = some (oCharge 69 (nf * 4)) ∧ (∃ w, h'[70]? = some (aI 8 w)) ∧ (∃ w, h'[71]? = some (aI 8 w)) ∧ Ar h' 72 32 (loN (tkP sh p) mk nf)) ∧ ChS h' 73 (nf * 4) ∧ Fr (fun j => j = 2 ∨ j = 3 ∨ (69 ≤ j ∧ j ≤ 95)) h h')) := by
        intro e
        induction e with
        | zero =>
          intro k S h2 hk h1k hS1 hres cX cfr
          have hfr2 : Fr (fun j => j = 2 ∨ j = 3 ∨ (69 ≤ j ∧ j ≤ 95)) h h2 := hfr1.tr cfr (fun j hj => by omega)
          refine at_iload 46 dX3_bestDose_44 rfl rfl ?_
          refine at_bipush 48 (nI 10) dX3_bestDose_46 rfl (by decide) ?_
          refine at_icmp_gtN 106 51 dX3_bestDose_48 rfl rfl (by omega) (by omega) (fun cc => ?_) (fun cc => ?_)
          rotate_left
          · omega
          refine at_iincN (q := 100) (L' := [_, _, _, _, _, _, _, _, _]) 109 dX3_bestDose_106 rfl (by decide) rfl (by decide) rfl rfl ?_
          refine at_goto 16 dX3_bestDose_109 rfl ?_
          refine at_drop (L' := [_, _, _, _, _, _, _, _, _]) 6 rfl ?_
          exact ih (s + 100) S h2 (by omega) (by omega) hS1 hres cX ⟨cfr.at (k := 69) (by omega) q1, ⟨_, cfr.at (k := 70) (by omega) q2⟩, ⟨_, cfr.at (k := 71) (by omega) q3⟩, q4.fr cfr (by omega)⟩ (ChS.of (cfr.at (k := 73) (by omega) bq) ⟨_, cfr.at (k := 74) (by omega) kbw⟩ ⟨_, cfr.at (k := 75) (by omega) kbt⟩ (bl.fr cfr (by omega)) (loD_ok (p := p) (s := s) hO hf (by omega))) hfr2
        | succ e ih2 =>
          intro k S h2 hk h1k hS1 hres cX cfr
          have hfr2 : Fr (fun j => j = 2 ∨ j = 3 ∨ (69 ≤ j ∧ j ≤ 95)) h h2 := hfr1.tr cfr (fun j hj => by omega)
          have cS := hS.fr hfr2 (fun j hj => by omega)
          have cF := cS.1
          have hrg := tellN_rng (fun th => fitB le mo c th p) p n k (loN (tkD sh p s f) mk nf) (loN (tkP sh p) mk nf) 100 1 L
          have tail : ∀ lim, lim = (if S.1 = 0 then 100 else S.1 - 1) → At mX3_bestDose T0 63 [.ref 68, .int (nI c), .int (nI f), .int (nI S.1), .int (nI S.2), .int (nI s), .int (nI k), .null, .null] [.int (nI lim)] h2 0 0 (ZM mX3_bestDose (fun r h' => r = some (.int (nI (outerD (fun s k => tellN (fun th => fitB le mo c th p) p n (loN (tkD sh p s f) mk nf) (loN (tkP sh p) mk nf) k 100 1 L) 5 100 ((tellN (fun th => fitB le mo c th p) p n (loN (tkP sh p) mk nf) (loN (tkP sh p) mk nf) 0 100 1 L), 100000 * (tellN (fun th => fitB le mo c th p) p n (loN (tkP sh p) mk nf) (loN (tkP sh p) mk nf) 0 100 1 L))).2)) ∧ FcX h' (nf * 4) ∧ (h'[69]? = some (oCharge 69 (nf * 4)) ∧ (∃ w, h'[70]? = some (aI 8 w)) ∧ (∃ w, h'[71]? = some (aI 8 w)) ∧ Ar h' 72 32 (loN (tkP sh p) mk nf)) ∧ ChS h' 73 (nf * 4) ∧ Fr (fun j => j = 2 ∨ j = 3 ∨ (69 ≤ j ∧ j ≤ 95)) h h')) := by
            intro lim elim
            have hlim : lim ≤ 100 := by rw [elim]; split <;> omega
            have hlm := tellN_lim (fun th => fitB le mo c th p) p n k (loN (tkD sh p s f) mk nf) (loN (tkP sh p) mk nf) lim (100 - lim) 1 L (by decide)
            rw [show lim + (100 - lim) = 100 by omega] at hlm
            refine at_istore (L' := [_, _, _, _, _, _, _, _, _]) 65 dX3_bestDose_63 rfl (by decide) rfl rfl ?_
            refine at_aload_n 66 dX3_bestDose_65 rfl rfl rfl ?_
            refine at_iload_n 67 dX3_bestDose_66 rfl rfl rfl ?_
            refine at_iload 69 dX3_bestDose_67 rfl rfl ?_
            refine at_iload 71 dX3_bestDose_69 rfl rfl ?_
            refine at_invV (ci := 3) 74 [_, _, _] _ (c_X3_firstHourWithDose (loD := loN (tkD sh p s f) mk nf) (loP := (loN (tkP sh p) mk nf)) cS cX (cfr.at (k := 69) (by omega) q1) (q4.fr cfr (by omega)) (lo_ok hO) (fun _ => ⟨cfr.at (k := 73) (by omega) bq, bl.fr cfr (by omega), loD_ok hO hf (by omega)⟩) hc (by omega) (by omega) hP hp hmd hlb hmb) dX3_bestDose_71 rfl rfl (by assumption) rfl ml_X3_48 cl_X3_firstHourWithDose vl_X3_firstHourWithDose rfl (Nat.le_of_ble_eq_true rfl) ⟨by decide, by decide⟩ (by decide) (fun rr hh qq => ?_)
            obtain ⟨rfl, eX, efr⟩ := qq
            rw [hlm]
            have cfr2 := cfr.tr efr (fun j hj => hj)
            have hstep : innerD (fun s k => tellN (fun th => fitB le mo c th p) p n (loN (tkD sh p s f) mk nf) (loN (tkP sh p) mk nf) k 100 1 L) s (e + 1) k S = innerD (fun s k => tellN (fun th => fitB le mo c th p) p n (loN (tkD sh p s f) mk nf) (loN (tkP sh p) mk nf) k 100 1 L) s e (k + 1) (stepD (fun s k => tellN (fun th => fitB le mo c th p) p n (loN (tkD sh p s f) mk nf) (loN (tkP sh p) mk nf) k 100 1 L) S s k) := rfl
            rw [hstep] at hres
            have hTT : ((fun s k => tellN (fun th => fitB le mo c th p) p n (loN (tkD sh p s f) mk nf) (loN (tkP sh p) mk nf) k 100 1 L)) s k = tellN (fun th => fitB le mo c th p) p n (loN (tkD sh p s f) mk nf) (loN (tkP sh p) mk nf) k 100 1 L := rfl
            generalize hgen : tellN (fun th => fitB le mo c th p) p n (loN (tkD sh p s f) mk nf) (loN (tkP sh p) mk nf) k 100 1 L = x at *
            refine at_istore (L' := [_, _, _, _, _, _, _, _, _]) 76 dX3_bestDose_74 rfl (by decide) rfl rfl ?_
            refine at_iload 78 dX3_bestDose_76 rfl rfl ?_
            refine at_if_eqN 100 81 dX3_bestDose_78 rfl rfl (by split <;> omega) (fun cc => ?_) (fun cc => ?_)
            · have hst : stepD (fun s k => tellN (fun th => fitB le mo c th p) p n (loN (tkD sh p s f) mk nf) (loN (tkP sh p) mk nf) k 100 1 L) S s k = S := by
                unfold stepD
                rw [hTT]
                rw [if_neg]
                rintro ⟨z1, z2⟩
                rw [elim] at cc
                by_cases e0 : S.1 = 0
                · rw [if_pos e0] at cc
                  rw [if_pos (by omega)] at cc
                  omega
                · rw [if_neg e0] at cc
                  rw [if_pos (by omega)] at cc
                  omega
              rw [hst] at hres
              refine at_iincN (q := 1) (L' := [_, _, _, _, _, _, _, _, _]) 103 dX3_bestDose_100 rfl (by decide) rfl (by decide) rfl rfl ?_
              refine at_goto 44 dX3_bestDose_103 rfl ?_
              refine at_drop (L' := [_, _, _, _, _, _, _, _, _]) 7 rfl ?_
              refine at_drop (L' := [_, _, _, _, _, _, _, _, _]) 8 rfl ?_
              exact ih2 (k + 1) S hh (by omega) (by omega) hS1 hres eX cfr2
            · have hx : x < 1 + lim ∧ x ≠ 0 := by
                by_cases z : x < 1 + lim
                · rw [if_pos z] at cc; exact ⟨z, cc⟩
                · rw [if_neg z] at cc; exact absurd rfl cc
              rw [if_pos hx.1]
              have hst : stepD (fun s k => tellN (fun th => fitB le mo c th p) p n (loN (tkD sh p s f) mk nf) (loN (tkP sh p) mk nf) k 100 1 L) S s k = (x, 100000 * x + 100 * s + k) := by
                unfold stepD
                rw [hTT]
                rw [if_pos]
                refine ⟨hx.2, ?_⟩
                by_cases e0 : S.1 = 0
                · exact Or.inl e0
                · rw [if_neg e0] at elim
                  right; omega
              rw [hst] at hres
              refine at_iload 83 dX3_bestDose_81 rfl rfl ?_
              refine at_istore_n (L' := [_, _, _, _, _, _, _, _, _]) 84 dX3_bestDose_83 rfl rfl (by decide) rfl rfl ?_
              refine at_ldc 86 (nI 100000) dX3_bestDose_84 rfl cn_X3_70 ?_
              refine at_iload 88 dX3_bestDose_86 rfl rfl ?_
              first | refine at_imulN 89 dX3_bestDose_88 rfl ?_ | refine at_imul 89 dX3_bestDose_88 rfl ?_
              refine at_bipush 91 (nI 100) dX3_bestDose_89 rfl (by decide) ?_
              refine at_iload 93 dX3_bestDose_91 rfl rfl ?_
              first | refine at_imulN 94 dX3_bestDose_93 rfl ?_ | refine at_imul 94 dX3_bestDose_93 rfl ?_
              first | refine at_iaddN 95 dX3_bestDose_94 rfl ?_ | refine at_iadd 95 dX3_bestDose_94 rfl ?_
              refine at_iload 97 dX3_bestDose_95 rfl rfl ?_
              first | refine at_iaddN 98 dX3_bestDose_97 rfl ?_ | refine at_iadd 98 dX3_bestDose_97 rfl ?_
              refine at_istore (L' := [_, _, _, _, _, _, _, _, _]) 100 dX3_bestDose_98 rfl (by decide) rfl rfl ?_
              refine at_iincN (q := 1) (L' := [_, _, _, _, _, _, _, _, _]) 103 dX3_bestDose_100 rfl (by decide) rfl (by decide) rfl rfl ?_
              refine at_goto 44 dX3_bestDose_103 rfl ?_
              refine at_drop (L' := [_, _, _, _, _, _, _, _, _]) 7 rfl ?_
              refine at_drop (L' := [_, _, _, _, _, _, _, _, _]) 8 rfl ?_
              exact ih2 (k + 1) (x, 100000 * x + 100 * s + k) hh (by omega) (by omega) (by show x ≤ 100; omega) hres eX cfr2
          refine at_iload 46 dX3_bestDose_44 rfl rfl ?_
          refine at_bipush 48 (nI 10) dX3_bestDose_46 rfl (by decide) ?_
          refine at_icmp_gtN 106 51 dX3_bestDose_48 rfl rfl (by omega) (by omega) (fun cc => ?_) (fun cc => ?_)
          · omega
          refine at_iload_n 52 dX3_bestDose_51 rfl rfl rfl ?_
          refine at_if_neN 60 55 dX3_bestDose_52 rfl rfl (by omega) (fun cc => ?_) (fun cc => ?_)
          · refine at_iload_n 61 dX3_bestDose_60 rfl rfl rfl ?_
            refine at_iconst 62 (nI 1) dX3_bestDose_61 rfl (by decide) ?_
            first | refine at_isubN 63 dX3_bestDose_62 rfl (by omega) ?_ | refine at_isub 63 dX3_bestDose_62 rfl ?_
            exact tail (S.1 - 1) (by rw [if_neg cc])
          · refine at_bipush 57 (nI 100) dX3_bestDose_55 rfl (by decide) ?_
            refine at_goto 63 dX3_bestDose_57 rfl ?_
            exact tail 100 (by rw [if_pos cc])
      exact inner 10 1 S hh (by omega) (by decide) hS1 hres bX Fr.rf
  exact outer 5 100 ((tellN (fun th => fitB le mo c th p) p n (loN (tkP sh p) mk nf) (loN (tkP sh p) mk nf) 0 100 1 L), 100000 * (tellN (fun th => fitB le mo c th p) p n (loN (tkP sh p) mk nf) (loN (tkP sh p) mk nf) 0 100 1 L)) hh (by decide) (by decide) (by show (tellN (fun th => fitB le mo c th p) p n (loN (tkP sh p) mk nf) (loN (tkP sh p) mk nf) 0 100 1 L) ≤ 100; omega) rfl dX dP d73 (dfr.wk (fun j hj => by omega))

