/-! ===== the search for a mix ends ===== -/
def chs : Nat → Nat → Nat
  | 0, _ => 1
  | i + 1, s => sm (fun j => chs i (j + 1)) s
theorem chs_hockey (s : Nat) : ∀ q, sm (fun i => chs (i + 1) s) q + 1 = chs q (s + 1)
  | 0 => rfl
  | q + 1 => by
    have ih := chs_hockey s q
    have e1 : sm (fun i => chs (i + 1) s) (q + 1) = sm (fun i => chs (i + 1) s) q + chs (q + 1) s := rfl
    have e2 : chs (q + 1) (s + 1) = chs (q + 1) s + chs q (s + 1) := rfl
    omega
theorem chs_mono {i s t : Nat} (h : s ≤ t) : chs i s ≤ chs i t := by
  cases i with
  | zero => exact Nat.le_refl _
  | succ i => exact sm_mono _ h
theorem chs_z (i : Nat) : chs (i + 1) 0 = 0 := rfl
def sufN (tr : Nat → Nat) (n i : Nat) : Nat := sm (fun j => tr (n - 1 - j) / 100) i
def posN (n : Nat) (tr : Nat → Nat) : Nat := sm (fun i => chs (i + 1) (sufN tr n (i + 1))) (n - 1)
theorem sm_rev (tr : Nat → Nat) (n : Nat) : ∀ i, i ≤ n → sm (fun j => tr (n - 1 - j)) i + sm tr (n - i) = sm tr n
  | 0, _ => by show 0 + sm tr n = sm tr n; omega
  | i + 1, h => by
    have ih := sm_rev tr n i (by omega)
    have e1 : sm (fun j => tr (n - 1 - j)) (i + 1) = sm (fun j => tr (n - 1 - j)) i + tr (n - 1 - i) := rfl
    have e2 : sm tr (n - i) = sm tr (n - (i + 1)) + tr (n - 1 - i) := by
      rw [show n - i = (n - (i + 1)) + 1 by omega, show n - 1 - i = n - (i + 1) by omega]; rfl
    omega
theorem sufN_le {n : Nat} {tr : Nat → Nat} (h : tIv n tr) {i : Nat} (hi : i ≤ n) : sufN tr n i ≤ 10 := by
  have h1 := sm_rev tr n i hi
  have h2 := h.2.1
  have h3 : sm (fun j => 100 * (tr (n - 1 - j) / 100)) i ≤ sm (fun j => tr (n - 1 - j)) i := sm_le (fun j _ => by omega)
  rw [sm_mul] at h3
  unfold sufN
  omega
theorem pos_top : sm (fun i => chs (i + 1) 10) 7 = 19447 := by decide +kernel
theorem posN_lt {n : Nat} {tr : Nat → Nat} (h : tIv n tr) (hn : n ≤ 8) : posN n tr < 19448 := by
  have h1 : posN n tr ≤ sm (fun i => chs (i + 1) 10) (n - 1) := sm_le (fun i hi => chs_mono (sufN_le h (by omega)))
  have h2 : sm (fun i => chs (i + 1) 10) (n - 1) ≤ sm (fun i => chs (i + 1) 10) 7 := sm_mono _ (by omega)
  rw [pos_top] at h2
  omega
theorem posN_step {n : Nat} {tr : Nat → Nat} (h : tIv n tr) (hg : 0 < giverN tr (n - 1)) : posN n (nxtT n tr) = posN n tr + 1 := by
  obtain ⟨g1, g2, g3⟩ := giverN_spec tr (n - 1)
  have g3 := g3 hg
  unfold nxtT
  generalize giverN tr (n - 1) = g at *
  have hg1 : tr (g - 1) % 100 = 0 := h.1 (g - 1) (by omega)
  generalize hs : tr (n - 1) / 100 = s
  generalize ht : updN (updN (updN tr (n - 1) 0) (g - 1) (tr (g - 1) - 100)) g (tr (n - 1) + 100) = tr'
  have t1 : ∀ x, g < x → x ≤ n - 1 → tr' x = 0 := fun x h1 h2 => by
    rw [← ht, updN_n _ _ (by omega), updN_n _ _ (by omega)]
    by_cases e : x = n - 1
    · rw [e, updN_s]
    · rw [updN_n _ _ e]; exact g2 x (by omega) (by omega)
  have t2 : tr' g = tr (n - 1) + 100 := by rw [← ht, updN_s]
  have t3 : tr' (g - 1) = tr (g - 1) - 100 := by rw [← ht, updN_n _ _ (by omega), updN_s]
  have t4 : ∀ x, x < g - 1 → tr' x = tr x := fun x hx => by rw [← ht, updN_n _ _ (by omega), updN_n _ _ (by omega), updN_n _ _ (by omega)]
  -- the last entries of tr
  have a1 : ∀ i, i + 1 ≤ n - g → sufN tr n (i + 1) = s := by
    intro i
    induction i with
    | zero =>
      intro _
      show 0 + tr (n - 1 - 0) / 100 = s
      rw [Nat.sub_zero, hs]; omega
    | succ i ih =>
      intro hi
      have e1 : sufN tr n (i + 1 + 1) = sufN tr n (i + 1) + tr (n - 1 - (i + 1)) / 100 := rfl
      rw [e1, ih (by omega), g2 (n - 1 - (i + 1)) (by omega) (by omega)]
      omega
  have a2 : ∀ i, i + 1 ≤ n - g → sufN tr' n i = 0 := by
    intro i
    induction i with
    | zero => intro _; rfl
    | succ i ih =>
      intro hi
      have e1 : sufN tr' n (i + 1) = sufN tr' n i + tr' (n - 1 - i) / 100 := rfl
      rw [e1, ih (by omega), t1 (n - 1 - i) (by omega) (by omega)]
  have a3 : sufN tr' n (n - g) = s + 1 := by
    have e1 : sufN tr' n (n - g - 1 + 1) = sufN tr' n (n - g - 1) + tr' (n - 1 - (n - g - 1)) / 100 := rfl
    rw [show n - g - 1 + 1 = n - g by omega] at e1
    rw [e1, a2 _ (by omega), show n - 1 - (n - g - 1) = g by omega, t2]
    omega
  have a4 : ∀ k, n - g + 1 + k ≤ n → sufN tr' n (n - g + 1 + k) = sufN tr n (n - g + 1 + k) := by
    intro k
    induction k with
    | zero =>
      intro _
      have e1 : sufN tr' n (n - g + 1) = sufN tr' n (n - g) + tr' (n - 1 - (n - g)) / 100 := rfl
      have e2 : sufN tr n (n - g + 1) = sufN tr n (n - g) + tr (n - 1 - (n - g)) / 100 := rfl
      have e3 : sufN tr n (n - g) = s := by have := a1 (n - g - 1) (by omega); rw [show n - g - 1 + 1 = n - g by omega] at this; exact this
      show sufN tr' n (n - g + 1) = sufN tr n (n - g + 1)
      rw [e1, e2, a3, e3, show n - 1 - (n - g) = g - 1 by omega, t3]
      omega
    | succ k ih =>
      intro hk
      have e1 : sufN tr' n (n - g + 1 + k + 1) = sufN tr' n (n - g + 1 + k) + tr' (n - 1 - (n - g + 1 + k)) / 100 := rfl
      have e2 : sufN tr n (n - g + 1 + k + 1) = sufN tr n (n - g + 1 + k) + tr (n - 1 - (n - g + 1 + k)) / 100 := rfl
      show sufN tr' n (n - g + 1 + k + 1) = sufN tr n (n - g + 1 + k + 1)
      rw [e1, e2, ih (by omega), t4 _ (by omega)]
  have b1 : sm (fun i => chs (i + 1) (sufN tr n (i + 1))) (n - g) = sm (fun i => chs (i + 1) s) (n - g) := sm_congr (fun i hi => by rw [a1 i (by omega)])
  have b2 : sm (fun i => chs (i + 1) (sufN tr' n (i + 1))) (n - g) = chs (n - g) (s + 1) := by
    have e0 : sm (fun i => chs (i + 1) (sufN tr' n (i + 1))) (n - g - 1) = 0 := by
      rw [← sm_zero (n - g - 1)]
      exact sm_congr (fun i hi => by rw [a2 (i + 1) (by omega)]; rfl)
    have e1 : sm (fun i => chs (i + 1) (sufN tr' n (i + 1))) (n - g - 1 + 1) = sm (fun i => chs (i + 1) (sufN tr' n (i + 1))) (n - g - 1) + chs (n - g - 1 + 1) (sufN tr' n (n - g - 1 + 1)) := rfl
    rw [show n - g - 1 + 1 = n - g by omega, e0, a3] at e1
    rw [e1]; omega
  have b3 : ∀ k, n - g + k ≤ n - 1 → sm (fun i => chs (i + 1) (sufN tr' n (i + 1))) (n - g + k) = sm (fun i => chs (i + 1) (sufN tr n (i + 1))) (n - g + k) + 1 := by
    intro k
    induction k with
    | zero =>
      intro _
      have := chs_hockey s (n - g)
      show sm (fun i => chs (i + 1) (sufN tr' n (i + 1))) (n - g) = sm (fun i => chs (i + 1) (sufN tr n (i + 1))) (n - g) + 1
      rw [b1, b2]; omega
    | succ k ih =>
      intro hk
      have e1 : sm (fun i => chs (i + 1) (sufN tr' n (i + 1))) (n - g + k + 1) = sm (fun i => chs (i + 1) (sufN tr' n (i + 1))) (n - g + k) + chs (n - g + k + 1) (sufN tr' n (n - g + k + 1)) := rfl
      have e2 : sm (fun i => chs (i + 1) (sufN tr n (i + 1))) (n - g + k + 1) = sm (fun i => chs (i + 1) (sufN tr n (i + 1))) (n - g + k) + chs (n - g + k + 1) (sufN tr n (n - g + k + 1)) := rfl
      have e3 := a4 k (by omega)
      rw [show n - g + 1 + k = n - g + k + 1 by omega] at e3
      show sm _ (n - g + k + 1) = sm _ (n - g + k + 1) + 1
      rw [e1, e2, ih (by omega), e3]
      omega
  have := b3 (g - 1) (by omega)
  rw [show n - g + (g - 1) = n - 1 by omega] at this
  exact this
theorem m_cheapest {s : St} {h : List PC} (hI : Inv s) (hR : RepM s h) (c : Int32) : Ct mX12_cheapest [.ref 106, .int c] h (RM (fCheapest s c) h) := by
  obtain ⟨m0, mF, mL, mC, mH, mR, mS⟩ := id hR; obtain ⟨⟨i0, i1, i2, i3, i4, i5, i6, i7, i8, i9, i10, i11⟩, k1, k2, k3, k4, k5, k5z, k5s, k6, k6z, k7, k7s, k8s, k8z, k9, k10, k11, k11z, k50, k15, k16⟩ := id hI; obtain ⟨⟨mk, f107, e107⟩, ⟨kd, f108, e108⟩, ⟨db, f109, e109⟩, ⟨pr, f110, e110⟩, ⟨st, f111, e111⟩, ⟨tc, f112, e112⟩, ⟨sh, f113, e113⟩⟩ := id mF; obtain ⟨⟨le, f119, e119⟩, ⟨mo, f120, e120⟩, ⟨ch, f121, e121⟩⟩ := id mC
  refine ct_at (L := [_, _, _, _, _, _, _]) (by decide +kernel) rfl rfl (Nat.le_of_ble_eq_true rfl) ?_
  refine at_aload_n 1 dX12_cheapest_0 rfl rfl rfl ?_
  refine at_iload_n 2 dX12_cheapest_1 rfl rfl rfl ?_
  refine at_invV (ci := 12) 5 [_] _ (c_isColour c m0 (by omega)) dX12_cheapest_2 rfl rfl (by assumption) rfl ml_X12_152 cl_X12_isColour vl_X12_isColour rfl (Nat.le_of_ble_eq_true rfl) ⟨by decide, by decide⟩ (by decide) (fun rr hh qq => ?_)
  obtain ⟨rfl, hq2⟩ := qq; rw [hq2]; clear hq2 hh
  refine at_if_eqB 15 8 dX12_cheapest_5 rfl rfl (fun cc => ?_) (fun cc => ?_)
  · refine at_ldc 17 (-1000000000) dX12_cheapest_15 rfl cn_X12_118 ?_
    refine at_iret dX12_cheapest_17 rfl (by decide) (by decide) ?_
    exact rm_no (fun ⟨c', q1, q2, q3⟩ => has_f cc (by omega) ⟨c', q1, q2⟩) hR
  obtain ⟨c', hc, rfl⟩ := has_t cc (by omega)
  clear cc
  refine at_aload_n 9 dX12_cheapest_8 rfl rfl rfl ?_
  refine at_g 12 dX12_cheapest_9 rfl fl_X12_108 ⟨_, by assumption, ?_⟩
  refine ⟨_, rfl, ?_⟩
  refine at_if_neN 18 15 dX12_cheapest_12 rfl rfl (by omega) (fun cc => ?_) (fun cc => ?_)
  rotate_left
  · refine at_ldc 17 (-1000000000) dX12_cheapest_15 rfl cn_X12_118 ?_
    refine at_iret dX12_cheapest_17 rfl (by decide) (by decide) ?_
    exact rm_no (fun ⟨c', q1, q2, q3, q4⟩ => by omega) hR
  have hn0 := cc
  clear cc
  obtain ⟨x115, x116, x117, x118, hSH, ⟨w130, f130⟩, ⟨w131, f131⟩, x132, x133⟩ := id mS
  have hcb : ∀ (tr : Nat → Nat) (m : Nat), tIv (s 0 0) tr → m ≤ s 0 0 → costT (s 3) tr m ≤ 80000000 := fun tr m ht hm => by
    have := sm_bound (f := fun f => tr f * s 3 f) (c := 10000000) (n := m) (fun f hf => by
      have h1 := tIv_le ht f (by omega)
      have h2 := k3 f (by omega)
      have : tr f * s 3 f ≤ 1000 * 10000 := Nat.mul_le_mul h1 h2
      exact this)
    unfold costT
    omega
  -- behind the search
  have done : ∀ (S : SS) (lv : Int32) (h' : List PC) (v4 v5 v6 : Value), S = SRn s c' → ((S.1 = 0 ∧ lv = -1) ∨ (S.1 ≠ 0 ∧ lv = nI S.2.1)) → S.2.1 ≤ 80000000 → (∃ w, h'[130]? = some (aI 8 w)) → (∃ w, h'[131]? = some (aI 8 w) ∧ (S.1 ≠ 0 → ∀ i, i < 8 → w i = S.2.2 i)) → Fr (fun j => j = 130 ∨ j = 131) h h' → At mX12_cheapest T0 271 [.ref 106, .int (nI c'), .int lv, .int (nI 0), .null, .null, .null] [] h' 0 0 (ZM mX12_cheapest (RM (fCheapest s (nI c')) h)) := by
    intro S lv h' v4 v5 v6 hS hlv hb a130 ⟨w31, a131, e131⟩ hfr
    have a0 := hfr.at (k := 106) (by omega) m0
    have scr : ∀ (h2 : List PC) (P : Nat → Prop), Fr P h h2 → (∀ j, P j → j = 106 ∨ j = 112 ∨ j = 113 ∨ j = 130 ∨ j = 131) → (∃ w, h2[130]? = some (aI 8 w)) → (∃ w, h2[131]? = some (aI 8 w)) → MS h2 := by
      intro h2 P fr hp y130 y131
      refine ⟨?_, ?_, ?_, ?_, hSH.fr fr (fun j h1 h2 h3 => by have := hp j h3; omega), y130, y131, ?_, ?_⟩
      · obtain ⟨v, hv⟩ := x115; exact ⟨v, fr.at (fun q => by have := hp _ q; omega) hv⟩
      · obtain ⟨v, hv⟩ := x116; exact ⟨v, fr.at (fun q => by have := hp _ q; omega) hv⟩
      · obtain ⟨v, hv⟩ := x117; exact ⟨v, fr.at (fun q => by have := hp _ q; omega) hv⟩
      · obtain ⟨v, hv⟩ := x118; exact ⟨v, fr.at (fun q => by have := hp _ q; omega) hv⟩
      · obtain ⟨v, hv⟩ := x132; exact ⟨v, fr.at (fun q => by have := hp _ q; omega) hv⟩
      · obtain ⟨v, hv⟩ := x133; exact ⟨v, fr.at (fun q => by have := hp _ q; omega) hv⟩
    rcases hlv with ⟨z1, rfl⟩ | ⟨z1, rfl⟩
    · refine at_iload_n 272 dX12_cheapest_271 rfl rfl rfl ?_
      refine at_if_ge 278 275 dX12_cheapest_272 rfl rfl (fun cc => ?_) (fun cc => ?_)
      · exact absurd cc (by decide)
      refine at_ldc 277 (-1000000000) dX12_cheapest_275 rfl cn_X12_118 ?_
      refine at_iret dX12_cheapest_277 rfl (by decide) (by decide) ?_
      show RM (gx _ _ (NOi, s)) h _ h'
      rw [gx_f (fun ⟨c2, q1, q2, q3, q4⟩ => by
        have e1 := nI_inj q2 (by omega) (by omega)
        subst e1
        rw [← hS] at q4
        exact q4 z1)]
      refine ⟨rfl, ?_, hfr.wk (fun j hj => by omega)⟩
      refine ⟨at_fr m0 hfr (fun j h1 h2 => by omega), mF.fr hfr (fun j h1 h2 => by omega), mL.fr hfr (fun j h1 h2 => by omega), mC.fr hfr (fun j h1 h2 => by omega), mH.fr hfr (fun j h1 h2 => by omega), mR.gt hfr (fun j h1 h2 => by omega), scr h' _ hfr (fun j hj => by omega) a130 ⟨w31, a131⟩⟩
    · have yes : ∃ c2, c2 < s 0 6 ∧ nI c' = nI c2 ∧ 0 < s 0 0 ∧ (SRn s c2).1 ≠ 0 := ⟨c', hc, rfl, by omega, by rw [← hS]; exact z1⟩
      refine at_iload_n 272 dX12_cheapest_271 rfl rfl rfl ?_
      refine at_if_geN 278 275 dX12_cheapest_272 rfl rfl (by omega) ?_
      refine at_iconst 279 (nI 0) dX12_cheapest_278 rfl (by decide) ?_
      refine at_istore (L' := [_, _, _, _, _, _, _]) 281 dX12_cheapest_279 rfl (by decide) rfl rfl ?_
      have loop : ∀ (d i : Nat) (a b : Nat → Nat) (h2 : List PC), i + d = 8 → h2[106]? = some (oM s) → h2[113]? = some (aI 8 a) → h2[112]? = some (aI 8 b) → h2[131]? = some (aI 8 w31) → (∀ j, j < i → a j = S.2.2 j ∧ b j = S.2.2 j) → (∃ w, h2[130]? = some (aI 8 w)) → Fr (fun j => j = 106 ∨ j = 112 ∨ j = 113 ∨ j = 130 ∨ j = 131) h h2 → At mX12_cheapest T0 281 [.ref 106, .int (nI c'), .int (nI S.2.1), .int (nI 0), .int (nI i), .null, .null] [] h2 0 0 (ZM mX12_cheapest (RM (fCheapest s (nI c')) h)) := by
        intro d
        induction d with
        | zero =>
          intro i a b h2 hi b0 b113 b112 b131 hab b130 bfr
          have hfr1 : Fr (fun j => j = 106) h2 h2 := Fr.rf
          refine at_iload 283 dX12_cheapest_281 rfl rfl ?_
          refine at_bipush 285 (nI 8) dX12_cheapest_283 rfl (by decide) ?_
          refine at_icmp_geN 322 288 dX12_cheapest_285 rfl rfl (by omega) (by omega) (fun cc => ?_) (fun cc => ?_)
          rotate_left
          · omega
          refine at_aload_n 323 dX12_cheapest_322 rfl rfl rfl ?_
          refine at_iconst 324 (nI 1) dX12_cheapest_323 rfl (by decide) ?_
          refine at_pi 327 dX12_cheapest_324 rfl pl_X12_124 (by first | rfl | decide | assumption) (by first | rfl | decide | assumption) ⟨_, by assumption, ?_⟩
          refine ⟨(Nat.le_of_ble_eq_true rfl), [_, _, _, _, _, _, _, _, _, _, _, _, _, _, _, _, _, _, _, _, _, _, _, _, _, _, _, _, _, _, _, _, _, _, _, _, _, _, _, _], rfl, fun hh1 nn1 => ?_⟩
          replace b0 := nn1.1
          replace b113 := nn1.o (by first | decide | omega | assumption) b113
          replace b112 := nn1.o (by first | decide | omega | assumption) b112
          replace b131 := nn1.o (by first | decide | omega | assumption) b131
          replace bfr := bfr.nw nn1 (by first | (dsimp only; omega) | (dsimp only; done) | simp)
          replace hfr1 := hfr1.nw nn1 (by first | (dsimp only; omega) | (dsimp only; done) | simp)
          clear nn1
          refine at_iload_n 328 dX12_cheapest_327 rfl rfl rfl ?_
          refine at_iret dX12_cheapest_328 rfl (by decide) (by decide) ?_
          refine rm_yes yes (by rw [tn_nI (by omega), ← hS]) ?_ (bfr.wk (fun j hj => by omega))
          rw [tn_nI (by omega), ← hS]
          obtain ⟨w3, b130⟩ := b130
          refine ⟨b0, ⟨mF.1.gt bfr (fun j h1 h2 => by omega), mF.2.1.gt bfr (fun j h1 h2 => by omega), mF.2.2.1.gt bfr (fun j h1 h2 => by omega), mF.2.2.2.1.gt bfr (fun j h1 h2 => by omega), mF.2.2.2.2.1.gt bfr (fun j h1 h2 => by omega), ⟨b, b112, fun j hj => (hab j (by omega)).2⟩, ⟨a, b113, fun j hj => (hab j (by omega)).1⟩⟩, mL.fr bfr (fun j h1 h2 => by omega), mC.fr bfr (fun j h1 h2 => by omega), mH.fr bfr (fun j h1 h2 => by omega), mR.gt bfr (fun j h1 h2 => by omega), scr _ _ bfr (fun j hj => by omega) ⟨w3, hfr1.at (by omega) b130⟩ ⟨w31, b131⟩⟩
        | succ d ih =>
          intro i a b h2 hi b0 b113 b112 b131 hab b130 bfr
          have hfr1 : Fr (fun j => j = 112 ∨ j = 113) h2 h2 := Fr.rf
          refine at_iload 283 dX12_cheapest_281 rfl rfl ?_
          refine at_bipush 285 (nI 8) dX12_cheapest_283 rfl (by decide) ?_
          refine at_icmp_geN 322 288 dX12_cheapest_285 rfl rfl (by omega) (by omega) (fun cc => ?_) (fun cc => ?_)
          · omega
          refine at_aload_n 289 dX12_cheapest_288 rfl rfl rfl ?_
          refine at_g 292 dX12_cheapest_289 rfl fl_X12_28 ⟨_, by assumption, ?_⟩
          refine ⟨_, rfl, ?_⟩
          refine at_iload 294 dX12_cheapest_292 rfl rfl ?_
          refine at_aload_n 295 dX12_cheapest_294 rfl rfl rfl ?_
          refine at_g 298 dX12_cheapest_295 rfl fl_X12_96 ⟨_, by assumption, ?_⟩
          refine ⟨_, rfl, ?_⟩
          refine at_iload 300 dX12_cheapest_298 rfl rfl ?_
          first | refine at_ia 301 dX12_cheapest_300 rfl ⟨_, _, by assumption, by omega, by first | decide | omega, ?_⟩ | refine at_iaG 301 dX12_cheapest_300 rfl ⟨_, _, by assumption, by omega, by first | decide | omega, ?_⟩
          first | refine at_is 302 dX12_cheapest_301 rfl ⟨_, _, by assumption, by omega, by first | decide | omega, fun hh2 nn2 => ?_⟩ | refine at_isG 302 dX12_cheapest_301 rfl ⟨_, _, by assumption, by omega, by first | decide | omega, fun hh2 nn2 => ?_⟩
          replace b0 := nn2.o (by first | decide | omega | assumption) b0
          replace b113 := nn2.1
          replace b112 := nn2.o (by first | decide | omega | assumption) b112
          replace b131 := nn2.o (by first | decide | omega | assumption) b131
          replace bfr := bfr.nw nn2 (by first | (dsimp only; omega) | (dsimp only; done) | simp)
          replace hfr1 := hfr1.nw nn2 (by first | (dsimp only; omega) | (dsimp only; done) | simp)
          clear nn2
          refine at_aload_n 303 dX12_cheapest_302 rfl rfl rfl ?_
          refine at_g 306 dX12_cheapest_303 rfl fl_X12_25 ⟨_, by assumption, ?_⟩
          refine ⟨_, rfl, ?_⟩
          refine at_iload 308 dX12_cheapest_306 rfl rfl ?_
          refine at_aload_n 309 dX12_cheapest_308 rfl rfl rfl ?_
          refine at_g 312 dX12_cheapest_309 rfl fl_X12_96 ⟨_, by assumption, ?_⟩
          refine ⟨_, rfl, ?_⟩
          refine at_iload 314 dX12_cheapest_312 rfl rfl ?_
          first | refine at_ia 315 dX12_cheapest_314 rfl ⟨_, _, by assumption, by omega, by first | decide | omega, ?_⟩ | refine at_iaG 315 dX12_cheapest_314 rfl ⟨_, _, by assumption, by omega, by first | decide | omega, ?_⟩
          first | refine at_is 316 dX12_cheapest_315 rfl ⟨_, _, by assumption, by omega, by first | decide | omega, fun hh3 nn3 => ?_⟩ | refine at_isG 316 dX12_cheapest_315 rfl ⟨_, _, by assumption, by omega, by first | decide | omega, fun hh3 nn3 => ?_⟩
          replace b0 := nn3.o (by first | decide | omega | assumption) b0
          replace b113 := nn3.o (by first | decide | omega | assumption) b113
          replace b112 := nn3.1
          replace b131 := nn3.o (by first | decide | omega | assumption) b131
          replace bfr := bfr.nw nn3 (by first | (dsimp only; omega) | (dsimp only; done) | simp)
          replace hfr1 := hfr1.nw nn3 (by first | (dsimp only; omega) | (dsimp only; done) | simp)
          clear nn3
          refine at_iincN (q := 1) (L' := [_, _, _, _, _, _, _]) 319 dX12_cheapest_316 rfl (by decide) rfl (by decide) rfl rfl ?_
          refine at_goto 281 dX12_cheapest_319 rfl ?_
          obtain ⟨w3, b130⟩ := b130
          refine ih (i + 1) _ _ _ (by omega) b0 b113 b112 b131 (fun j hj => ?_) ⟨w3, hfr1.at (by omega) b130⟩ bfr
          by_cases q : j = i
          · rw [q, updN_s, updN_s]; exact ⟨e131 z1 i (by omega), e131 z1 i (by omega)⟩
          · rw [updN_n _ _ q, updN_n _ _ q]; exact hab j (by omega)
      exact loop 8 0 sh tc h' (by omega) a0 (hfr.at (by omega) f113) (hfr.at (by omega) f112) a131 (fun j hj => by omega) a130 (hfr.wk (fun j hj => by omega))
  have main : ∀ (k : Nat) (a tr : Nat → Nat) (S : SS) (lv : Int32) (h' : List PC), 19448 ≤ k + posN (s 0 0) tr → srch (s 0 0) (fun tr => sureB (s 9) (s 10) (s 7) (s 2) tr (s 0 0) c') (fun tr => costT (s 3) tr (s 0 0)) k tr S = SRn s c' → tIv (s 0 0) tr → (∀ j, j < 8 → a j = tr j) → ((S.1 = 0 ∧ lv = -1) ∨ (S.1 ≠ 0 ∧ lv = nI S.2.1)) → S.2.1 ≤ 80000000 → h'[130]? = some (aI 8 a) → (∃ w, h'[131]? = some (aI 8 w) ∧ (S.1 ≠ 0 → ∀ i, i < 8 → w i = S.2.2 i)) → Fr (fun j => j = 130 ∨ j = 131) h h' → At mX12_cheapest T0 53 [.ref 106, .int (nI c'), .int lv, .int (nI 1), .null, .null, .null] [] h' 0 0 (ZM mX12_cheapest (RM (fCheapest s (nI c')) h)) := by
    intro k
    induction k with
    | zero =>
      intro a tr S lv h' hk hsr hiv ha hlv hb a130 a131 hfr
      have := posN_lt hiv i0
      omega
    | succ k ih =>
      intro a tr S lv h' hk hsr hiv ha hlv hb a130 ⟨w31, a131, e131⟩ hfr
      have a0 := hfr.at (k := 106) (by omega) m0
      have a110 := hfr.at (k := 110) (by omega) f110
      have hcost := hcb tr (s 0 0) hiv (Nat.le_refl _)
      -- on to the next trial
      have tail : ∀ (lv : Int32) (w : Nat → Nat) (h2 : List PC), ((((stpS (fun tr => sureB (s 9) (s 10) (s 7) (s 2) tr (s 0 0) c') (fun tr => costT (s 3) tr (s 0 0)) S tr).1 = 0 ∧ lv = -1) ∨ ((stpS (fun tr => sureB (s 9) (s 10) (s 7) (s 2) tr (s 0 0) c') (fun tr => costT (s 3) tr (s 0 0)) S tr).1 ≠ 0 ∧ lv = nI (stpS (fun tr => sureB (s 9) (s 10) (s 7) (s 2) tr (s 0 0) c') (fun tr => costT (s 3) tr (s 0 0)) S tr).2.1))) → (stpS (fun tr => sureB (s 9) (s 10) (s 7) (s 2) tr (s 0 0) c') (fun tr => costT (s 3) tr (s 0 0)) S tr).2.1 ≤ 80000000 → h2[130]? = some (aI 8 a) → h2[131]? = some (aI 8 w) → ((stpS (fun tr => sureB (s 9) (s 10) (s 7) (s 2) tr (s 0 0) c') (fun tr => costT (s 3) tr (s 0 0)) S tr).1 ≠ 0 → ∀ i, i < 8 → w i = (stpS (fun tr => sureB (s 9) (s 10) (s 7) (s 2) tr (s 0 0) c') (fun tr => costT (s 3) tr (s 0 0)) S tr).2.2 i) → Fr (fun j => j = 130 ∨ j = 131) h h2 → At mX12_cheapest T0 153 [.ref 106, .int (nI c'), .int lv, .int (nI 1), .null, .null, .null] [] h2 0 0 (ZM mX12_cheapest (RM (fCheapest s (nI c')) h)) := by
        intro lv w h2 hlv hb b130 b131 hw bfr
        have b0 := bfr.at (k := 106) (by omega) m0
        have hsr2 : srch (s 0 0) (fun tr => sureB (s 9) (s 10) (s 7) (s 2) tr (s 0 0) c') (fun tr => costT (s 3) tr (s 0 0)) (k + 1) tr S = if giverN tr (s 0 0 - 1) = 0 then stpS (fun tr => sureB (s 9) (s 10) (s 7) (s 2) tr (s 0 0) c') (fun tr => costT (s 3) tr (s 0 0)) S tr else srch (s 0 0) (fun tr => sureB (s 9) (s 10) (s 7) (s 2) tr (s 0 0) c') (fun tr => costT (s 3) tr (s 0 0)) k (nxtT (s 0 0) tr) (stpS (fun tr => sureB (s 9) (s 10) (s 7) (s 2) tr (s 0 0) c') (fun tr => costT (s 3) tr (s 0 0)) S tr) := rfl
        rw [hsr2] at hsr
        have hge : giverN a (s 0 0 - 1) = giverN tr (s 0 0 - 1) := giverN_congr (fun j hj => ha j (by omega))
        generalize stpS (fun tr => sureB (s 9) (s 10) (s 7) (s 2) tr (s 0 0) c') (fun tr => costT (s 3) tr (s 0 0)) S tr = S' at *
        have e2 : nI (s 0 0) - nI 2 = nI (s 0 0 - 1) - 1 := by
          rcases (by omega : s 0 0 = 1 ∨ 2 ≤ s 0 0) with q | q
          · rw [q]; decide
          · rw [pk_sub q, show s 0 0 - 1 = (s 0 0 - 2) + 1 by omega, nI_pred]
        refine at_aload_n 154 dX12_cheapest_153 rfl rfl rfl ?_
        refine at_g 157 dX12_cheapest_154 rfl fl_X12_108 ⟨_, by assumption, ?_⟩
        refine ⟨_, rfl, ?_⟩
        refine at_iconst 158 (nI 2) dX12_cheapest_157 rfl (by decide) ?_
        refine at_isub 159 dX12_cheapest_158 rfl ?_
        rw [e2]
        refine at_istore (L' := [_, _, _, _, _, _, _]) 161 dX12_cheapest_159 rfl (by decide) rfl rfl ?_
        have fin : ∀ g, g = giverN tr (s 0 0 - 1) → At mX12_cheapest T0 182 [.ref 106, .int (nI c'), .int lv, .int (nI 1), .int (nI g - 1), .null, .null] [] h2 0 0 (ZM mX12_cheapest (RM (fCheapest s (nI c')) h)) := by
          intro g hg
          have hgl := (giverN_spec tr (s 0 0 - 1)).1
          have hneg := nIp_neg g (by omega)
          refine at_iload 184 dX12_cheapest_182 rfl rfl ?_
          refine at_if_lt 191 187 dX12_cheapest_184 rfl rfl (fun cc => ?_) (fun cc => ?_)
          · have g0 : g = 0 := hneg.mp cc
            rw [if_pos (by omega)] at hsr
            refine at_iconst 192 (nI 0) dX12_cheapest_191 rfl (by decide) ?_
            refine at_istore_n (L' := [_, _, _, _, _, _, _]) 193 dX12_cheapest_192 rfl rfl (by decide) rfl rfl ?_
            refine at_iload_n 194 dX12_cheapest_193 rfl rfl rfl ?_
            refine at_if_neN 200 197 dX12_cheapest_194 rfl rfl (by omega) (fun cc => ?_) (fun cc => ?_)
            · omega
            refine at_goto 53 dX12_cheapest_197 rfl ?_
            refine at_iload_n 54 dX12_cheapest_53 rfl rfl rfl ?_
            refine at_if_eqN 271 57 dX12_cheapest_54 rfl rfl (by omega) (fun cc => ?_) (fun cc => ?_)
            rotate_left
            · omega
            refine at_drop (L' := [_, _, _, _, _, _, _]) 4 rfl ?_
            exact done S' lv h2 .null .null .null hsr hlv hb ⟨a, b130⟩ ⟨w, b131, hw⟩ bfr
          have g0 : g ≠ 0 := fun q => cc (hneg.mpr q)
          rw [if_neg (by omega)] at hsr
          obtain ⟨j, rfl⟩ : ∃ j, g = j + 1 := ⟨g - 1, by omega⟩
          rw [nI_pred]
          have sp := giverN_spec tr (s 0 0 - 1)
          rw [← hg] at sp
          obtain ⟨sp1, sp2, sp3⟩ := sp
          have sp3 := sp3 (by omega)
          rw [Nat.add_sub_cancel] at sp3
          have hjm : tr j % 100 = 0 := hiv.1 j (by omega)
          refine at_iconst 188 (nI 1) dX12_cheapest_187 rfl (by decide) ?_
          refine at_goto 192 dX12_cheapest_188 rfl ?_
          refine at_istore_n (L' := [_, _, _, _, _, _, _]) 193 dX12_cheapest_192 rfl rfl (by decide) rfl rfl ?_
          refine at_iload_n 194 dX12_cheapest_193 rfl rfl rfl ?_
          refine at_if_neN 200 197 dX12_cheapest_194 rfl rfl (by omega) (fun cc => ?_) (fun cc => ?_)
          rotate_left
          · omega
          refine at_bipush 202 (nI 100) dX12_cheapest_200 rfl (by decide) ?_
          refine at_istore (L' := [_, _, _, _, _, _, _]) 204 dX12_cheapest_202 rfl (by decide) rfl rfl ?_
          refine at_iload 206 dX12_cheapest_204 rfl rfl ?_
          refine at_iconst 207 (nI 1) dX12_cheapest_206 rfl (by decide) ?_
          first | refine at_iaddN 208 dX12_cheapest_207 rfl ?_ | refine at_iadd 208 dX12_cheapest_207 rfl ?_
          refine at_istore (L' := [_, _, _, _, _, _, _]) 210 dX12_cheapest_208 rfl (by decide) rfl rfl ?_
          have loopL : ∀ (d f : Nat) (b : Nat → Nat) (h3 : List PC), f + d = s 0 0 → j + 1 ≤ f → h3[106]? = some (oM s) → h3[130]? = some (aI 8 b) → h3[131]? = some (aI 8 w) → (∀ x, x < 8 → b x = if j + 1 ≤ x ∧ x < f then 0 else tr x) → Fr (fun j => j = 130 ∨ j = 131) h h3 → At mX12_cheapest T0 210 [.ref 106, .int (nI c'), .int lv, .int (nI 1), .int (nI j), .int (nI (100 + (if f = s 0 0 then tr (s 0 0 - 1) else 0))), .int (nI f)] [] h3 0 0 (ZM mX12_cheapest (RM (fCheapest s (nI c')) h)) := by
            intro d
            induction d with
            | zero =>
              intro f b h3 hf hjf c0 c130 c131 hbx cfr
              have : f = s 0 0 := by omega
              subst this
              have hbj : b j = tr j := by rw [hbx j (by omega), if_neg (by omega)]
              rw [if_pos rfl]
              refine at_iload 212 dX12_cheapest_210 rfl rfl ?_
              refine at_aload_n 213 dX12_cheapest_212 rfl rfl rfl ?_
              refine at_g 216 dX12_cheapest_213 rfl fl_X12_108 ⟨_, by assumption, ?_⟩
              refine ⟨_, rfl, ?_⟩
              refine at_icmp_geN 245 219 dX12_cheapest_216 rfl rfl (by omega) (by omega) (fun cc => ?_) (fun cc => ?_)
              rotate_left
              · omega
              refine at_aload_n 246 dX12_cheapest_245 rfl rfl rfl ?_
              refine at_g 249 dX12_cheapest_246 rfl fl_X12_93 ⟨_, by assumption, ?_⟩
              refine ⟨_, rfl, ?_⟩
              refine at_iload 251 dX12_cheapest_249 rfl rfl ?_
              refine at_dup2 252 dX12_cheapest_251 rfl rfl rfl ?_
              first | refine at_ia 253 dX12_cheapest_252 rfl ⟨_, _, by assumption, by omega, by first | decide | omega, ?_⟩ | refine at_iaG 253 dX12_cheapest_252 rfl ⟨_, _, by assumption, by omega, by first | decide | omega, ?_⟩
              refine at_bipush 255 (nI 100) dX12_cheapest_253 rfl (by decide) ?_
              first | refine at_isubN 256 dX12_cheapest_255 rfl (by omega) ?_ | refine at_isub 256 dX12_cheapest_255 rfl ?_
              first | refine at_is 257 dX12_cheapest_256 rfl ⟨_, _, by assumption, by omega, by first | decide | omega, fun hh4 nn4 => ?_⟩ | refine at_isG 257 dX12_cheapest_256 rfl ⟨_, _, by assumption, by omega, by first | decide | omega, fun hh4 nn4 => ?_⟩
              replace c0 := nn4.o (by first | decide | omega | assumption) c0
              replace c130 := nn4.1
              replace c131 := nn4.o (by first | decide | omega | assumption) c131
              replace cfr := cfr.nw nn4 (by first | (dsimp only; omega) | (dsimp only; done) | simp)
              clear nn4
              refine at_aload_n 258 dX12_cheapest_257 rfl rfl rfl ?_
              refine at_g 261 dX12_cheapest_258 rfl fl_X12_93 ⟨_, by assumption, ?_⟩
              refine ⟨_, rfl, ?_⟩
              refine at_iload 263 dX12_cheapest_261 rfl rfl ?_
              refine at_iconst 264 (nI 1) dX12_cheapest_263 rfl (by decide) ?_
              first | refine at_iaddN 265 dX12_cheapest_264 rfl ?_ | refine at_iadd 265 dX12_cheapest_264 rfl ?_
              refine at_iload 267 dX12_cheapest_265 rfl rfl ?_
              first | refine at_is 268 dX12_cheapest_267 rfl ⟨_, _, by assumption, by omega, by first | decide | omega, fun hh5 nn5 => ?_⟩ | refine at_isG 268 dX12_cheapest_267 rfl ⟨_, _, by assumption, by omega, by first | decide | omega, fun hh5 nn5 => ?_⟩
              replace c0 := nn5.o (by first | decide | omega | assumption) c0
              replace c130 := nn5.1
              replace c131 := nn5.o (by first | decide | omega | assumption) c131
              replace cfr := cfr.nw nn5 (by first | (dsimp only; omega) | (dsimp only; done) | simp)
              clear nn5
              refine at_goto 53 dX12_cheapest_268 rfl ?_
              refine at_drop (L' := [_, _, _, _, _, _, _]) 4 rfl ?_
              refine at_drop (L' := [_, _, _, _, _, _, _]) 5 rfl ?_
              refine at_drop (L' := [_, _, _, _, _, _, _]) 6 rfl ?_
              refine ih _ (nxtT (s 0 0) tr) S' lv _ (by rw [posN_step hiv (by omega)]; omega) hsr (nxtT_iv hiv (by omega)) (fun x hx => ?_) hlv hb c130 ⟨w, c131, hw⟩ cfr
              unfold nxtT
              rw [← hg, Nat.add_sub_cancel]
              unfold updN
              by_cases q1 : x = j + 1
              · rw [if_pos q1, if_pos q1, Nat.add_comm]
              · rw [if_neg q1, if_neg q1]
                by_cases q2 : x = j
                · rw [if_pos q2, if_pos q2, hbj]
                · rw [if_neg q2, if_neg q2, hbx x hx]
                  by_cases q3 : x = s 0 0 - 1
                  · rw [if_pos q3, if_pos (by omega)]
                  · rw [if_neg q3]
                    by_cases q4 : j + 1 ≤ x ∧ x < s 0 0
                    · rw [if_pos q4, sp2 x q4.1 (by omega)]
                    · rw [if_neg q4]
            | succ d ih2 =>
              intro f b h3 hf hjf c0 c130 c131 hbx cfr
              have hbf : b f = tr f := by rw [hbx f (by omega), if_neg (by omega)]
              have hl : 100 + (if f = s 0 0 then tr (s 0 0 - 1) else 0) + b f = 100 + (if f + 1 = s 0 0 then tr (s 0 0 - 1) else 0) := by
                rw [if_neg (by omega), hbf]
                by_cases q : f + 1 = s 0 0
                · rw [if_pos q, show f = s 0 0 - 1 by omega]
                · rw [if_neg q, sp2 f (by omega) (by omega)]
              refine at_iload 212 dX12_cheapest_210 rfl rfl ?_
              refine at_aload_n 213 dX12_cheapest_212 rfl rfl rfl ?_
              refine at_g 216 dX12_cheapest_213 rfl fl_X12_108 ⟨_, by assumption, ?_⟩
              refine ⟨_, rfl, ?_⟩
              refine at_icmp_geN 245 219 dX12_cheapest_216 rfl rfl (by omega) (by omega) (fun cc => ?_) (fun cc => ?_)
              · omega
              refine at_iload 221 dX12_cheapest_219 rfl rfl ?_
              refine at_aload_n 222 dX12_cheapest_221 rfl rfl rfl ?_
              refine at_g 225 dX12_cheapest_222 rfl fl_X12_93 ⟨_, by assumption, ?_⟩
              refine ⟨_, rfl, ?_⟩
              refine at_iload 227 dX12_cheapest_225 rfl rfl ?_
              first | refine at_ia 228 dX12_cheapest_227 rfl ⟨_, _, by assumption, by omega, by first | decide | omega, ?_⟩ | refine at_iaG 228 dX12_cheapest_227 rfl ⟨_, _, by assumption, by omega, by first | decide | omega, ?_⟩
              refine at_iaddN 229 dX12_cheapest_228 rfl ?_
              rw [hl]
              refine at_istore (L' := [_, _, _, _, _, _, _]) 231 dX12_cheapest_229 rfl (by decide) rfl rfl ?_
              refine at_aload_n 232 dX12_cheapest_231 rfl rfl rfl ?_
              refine at_g 235 dX12_cheapest_232 rfl fl_X12_93 ⟨_, by assumption, ?_⟩
              refine ⟨_, rfl, ?_⟩
              refine at_iload 237 dX12_cheapest_235 rfl rfl ?_
              refine at_iconst 238 (nI 0) dX12_cheapest_237 rfl (by decide) ?_
              first | refine at_is 239 dX12_cheapest_238 rfl ⟨_, _, by assumption, by omega, by first | decide | omega, fun hh6 nn6 => ?_⟩ | refine at_isG 239 dX12_cheapest_238 rfl ⟨_, _, by assumption, by omega, by first | decide | omega, fun hh6 nn6 => ?_⟩
              replace c0 := nn6.o (by first | decide | omega | assumption) c0
              replace c130 := nn6.1
              replace c131 := nn6.o (by first | decide | omega | assumption) c131
              replace cfr := cfr.nw nn6 (by first | (dsimp only; omega) | (dsimp only; done) | simp)
              clear nn6
              refine at_iincN (q := 1) (L' := [_, _, _, _, _, _, _]) 242 dX12_cheapest_239 rfl (by decide) rfl (by decide) rfl rfl ?_
              refine at_goto 210 dX12_cheapest_242 rfl ?_
              refine ih2 (f + 1) _ _ (by omega) (by omega) c0 c130 c131 (fun x hx => ?_) cfr
              unfold updN
              by_cases q : x = f
              · rw [if_pos q, if_pos (by omega)]
              · rw [if_neg q, hbx x hx]
                by_cases q2 : j + 1 ≤ x ∧ x < f
                · rw [if_pos q2, if_pos (by omega)]
                · rw [if_neg q2, if_neg (by omega)]
          have hl0 : (100 : Nat) = 100 + (if j + 1 = s 0 0 then tr (s 0 0 - 1) else 0) := by rw [if_neg (by omega)]
          have hfin := loopL (s 0 0 - (j + 1)) (j + 1) a h2 (by omega) (Nat.le_refl _) b0 b130 b131 (fun x hx => by rw [if_neg (by omega)]; exact ha x hx) bfr
          rw [← hl0] at hfin
          exact hfin
        have loopG : ∀ g, g ≤ s 0 0 - 1 → giverN tr g = giverN tr (s 0 0 - 1) → At mX12_cheapest T0 161 [.ref 106, .int (nI c'), .int lv, .int (nI 1), .int (nI g - 1), .null, .null] [] h2 0 0 (ZM mX12_cheapest (RM (fCheapest s (nI c')) h)) := by
          intro g
          induction g with
          | zero =>
            intro hg he
            refine at_iload 163 dX12_cheapest_161 rfl rfl ?_
            refine at_if_lt 182 166 dX12_cheapest_163 rfl rfl (fun cc => ?_) (fun cc => ?_)
            · exact fin 0 he
            · exact absurd (by decide) cc
          | succ j ihg =>
            intro hg he
            rw [nI_pred]
            have haj : a j = tr j := ha j (by omega)
            have hjb := tIv_le hiv j (by omega)
            have hgd : giverN tr (j + 1) = if tr j = 0 then giverN tr j else j + 1 := rfl
            refine at_iload 163 dX12_cheapest_161 rfl rfl ?_
            refine at_if_ltN 182 166 dX12_cheapest_163 rfl rfl (by omega) ?_
            refine at_aload_n 167 dX12_cheapest_166 rfl rfl rfl ?_
            refine at_g 170 dX12_cheapest_167 rfl fl_X12_93 ⟨_, by assumption, ?_⟩
            refine ⟨_, rfl, ?_⟩
            refine at_iload 172 dX12_cheapest_170 rfl rfl ?_
            first | refine at_ia 173 dX12_cheapest_172 rfl ⟨_, _, by assumption, by omega, by first | decide | omega, ?_⟩ | refine at_iaG 173 dX12_cheapest_172 rfl ⟨_, _, by assumption, by omega, by first | decide | omega, ?_⟩
            refine at_if_neN 182 176 dX12_cheapest_173 rfl rfl (by omega) (fun cc => ?_) (fun cc => ?_)
            · have := fin (j + 1) (by rw [← he, hgd, if_neg (by omega)])
              rw [nI_pred] at this
              exact this
            · refine at_iinc (L' := [_, _, _, _, _, _, _]) 179 dX12_cheapest_176 rfl (nIm1 _) rfl (by decide) rfl rfl ?_
              refine at_goto 161 dX12_cheapest_179 rfl ?_
              exact ihg (by omega) (by rw [← he, hgd, if_pos (by omega)])
        exact loopG (s 0 0 - 1) (Nat.le_refl _) rfl
      refine at_iload_n 54 dX12_cheapest_53 rfl rfl rfl ?_
      refine at_if_eqN 271 57 dX12_cheapest_54 rfl rfl (by omega) (fun cc => ?_) (fun cc => ?_)
      · omega
      refine at_aload_n 58 dX12_cheapest_57 rfl rfl rfl ?_
      refine at_iload_n 59 dX12_cheapest_58 rfl rfl rfl ?_
      refine at_aload_n 60 dX12_cheapest_59 rfl rfl rfl ?_
      refine at_g 63 dX12_cheapest_60 rfl fl_X12_93 ⟨_, by assumption, ?_⟩
      refine ⟨_, rfl, ?_⟩
      refine at_invV (ci := 12) 66 [_, _] _ (c_isSureM (s := s) (c := c') a0 (hfr.at (by omega) f107) (hfr.at (by omega) f109) (hfr.at (by omega) f119) (hfr.at (by omega) f120) a130 (by omega) i0 (fun f hf => by rw [ha f hf]; exact tIv_le hiv f hf) (fun i hi => by rw [e107 i hi]; exact k7 i hi) (fun f hf => by rw [e109 f hf]; exact k2 f hf) (fun i hi => by rw [e119 i hi]; exact k9 i hi) (fun i hi => by rw [e120 i hi]; exact k10 i hi)) dX12_cheapest_63 rfl rfl (by assumption) rfl ml_X12_155 cl_X12_isSure vl_X12_isSure rfl (Nat.le_of_ble_eq_true rfl) ⟨by decide, by decide⟩ (by decide) (fun rr hh qq => ?_)
      obtain ⟨rfl, hq2⟩ := qq; rw [hq2]; clear hq2 hh
      rw [sureB_cg (by omega) i0 e119 e120 e107 e109 (fun f hf => ha f (by omega))]
      refine at_if_eqB 153 69 dX12_cheapest_66 rfl rfl (fun cc => ?_) (fun cc => ?_)
      · have hst : stpS (fun tr => sureB (s 9) (s 10) (s 7) (s 2) tr (s 0 0) c') (fun tr => costT (s 3) tr (s 0 0)) S tr = S := by
          unfold stpS
          rw [if_neg (fun q => by have := q.2; dsimp only at this; rw [cc] at this; cases this)]
        refine tail lv w31 h' ?_ ?_ a130 a131 ?_ hfr
        · rw [hst]; exact hlv
        · rw [hst]; exact hb
        · rw [hst]; exact e131
      have hsure := cc
      clear cc
      have kept : ¬ (S.1 = 0 ∨ costT (s 3) tr (s 0 0) < S.2.1) → At mX12_cheapest T0 153 [.ref 106, .int (nI c'), .int lv, .int (nI 1), .null, .null, .null] [] h' 0 0 (ZM mX12_cheapest (RM (fCheapest s (nI c')) h)) := by
        intro hno
        have hst : stpS (fun tr => sureB (s 9) (s 10) (s 7) (s 2) tr (s 0 0) c') (fun tr => costT (s 3) tr (s 0 0)) S tr = S := by
          unfold stpS
          rw [if_neg (fun q => hno q.1)]
        refine tail lv w31 h' ?_ ?_ a130 a131 ?_ hfr
        · rw [hst]; exact hlv
        · rw [hst]; exact hb
        · rw [hst]; exact e131
      have took : (S.1 = 0 ∨ costT (s 3) tr (s 0 0) < S.2.1) → At mX12_cheapest T0 120 [.ref 106, .int (nI c'), .int lv, .int (nI 1), .int (nI (costT (s 3) tr (s 0 0))), .int (nI (s 0 0)), .null] [] h' 0 0 (ZM mX12_cheapest (RM (fCheapest s (nI c')) h)) := by
        intro hyes
        have hst : stpS (fun tr => sureB (s 9) (s 10) (s 7) (s 2) tr (s 0 0) c') (fun tr => costT (s 3) tr (s 0 0)) S tr = (1, costT (s 3) tr (s 0 0), tr) := by
          unfold stpS
          rw [if_pos ⟨hyes, hsure⟩]
        refine at_iload 122 dX12_cheapest_120 rfl rfl ?_
        refine at_istore_n (L' := [_, _, _, _, _, _, _]) 123 dX12_cheapest_122 rfl rfl (by decide) rfl rfl ?_
        refine at_iconst 124 (nI 0) dX12_cheapest_123 rfl (by decide) ?_
        refine at_istore (L' := [_, _, _, _, _, _, _]) 126 dX12_cheapest_124 rfl (by decide) rfl rfl ?_
        have loopK : ∀ (d i : Nat) (w : Nat → Nat) (h2 : List PC), i + d = 8 → h2[106]? = some (oM s) → h2[130]? = some (aI 8 a) → h2[131]? = some (aI 8 w) → (∀ j, j < i → w j = tr j) → Fr (fun j => j = 130 ∨ j = 131) h h2 → At mX12_cheapest T0 126 [.ref 106, .int (nI c'), .int (nI (costT (s 3) tr (s 0 0))), .int (nI 1), .int (nI (costT (s 3) tr (s 0 0))), .int (nI i), .null] [] h2 0 0 (ZM mX12_cheapest (RM (fCheapest s (nI c')) h)) := by
          intro d
          induction d with
          | zero =>
            intro i w h2 hi b0 b130 b131 hw bfr
            refine at_iload 128 dX12_cheapest_126 rfl rfl ?_
            refine at_bipush 130 (nI 8) dX12_cheapest_128 rfl (by decide) ?_
            refine at_icmp_geN 153 133 dX12_cheapest_130 rfl rfl (by omega) (by omega) (fun cc => ?_) (fun cc => ?_)
            rotate_left
            · omega
            refine at_drop (L' := [_, _, _, _, _, _, _]) 4 rfl ?_
            refine at_drop (L' := [_, _, _, _, _, _, _]) 5 rfl ?_
            refine tail _ w h2 ?_ ?_ b130 b131 ?_ bfr
            · rw [hst]; exact Or.inr ⟨Nat.one_ne_zero, rfl⟩
            · rw [hst]; exact hcost
            · rw [hst]; exact fun _ i hi => hw i (by omega)
          | succ d ihk =>
            intro i w h2 hi b0 b130 b131 hw bfr
            refine at_iload 128 dX12_cheapest_126 rfl rfl ?_
            refine at_bipush 130 (nI 8) dX12_cheapest_128 rfl (by decide) ?_
            refine at_icmp_geN 153 133 dX12_cheapest_130 rfl rfl (by omega) (by omega) (fun cc => ?_) (fun cc => ?_)
            · omega
            refine at_aload_n 134 dX12_cheapest_133 rfl rfl rfl ?_
            refine at_g 137 dX12_cheapest_134 rfl fl_X12_96 ⟨_, by assumption, ?_⟩
            refine ⟨_, rfl, ?_⟩
            refine at_iload 139 dX12_cheapest_137 rfl rfl ?_
            refine at_aload_n 140 dX12_cheapest_139 rfl rfl rfl ?_
            refine at_g 143 dX12_cheapest_140 rfl fl_X12_93 ⟨_, by assumption, ?_⟩
            refine ⟨_, rfl, ?_⟩
            refine at_iload 145 dX12_cheapest_143 rfl rfl ?_
            first | refine at_ia 146 dX12_cheapest_145 rfl ⟨_, _, by assumption, by omega, by first | decide | omega, ?_⟩ | refine at_iaG 146 dX12_cheapest_145 rfl ⟨_, _, by assumption, by omega, by first | decide | omega, ?_⟩
            first | refine at_is 147 dX12_cheapest_146 rfl ⟨_, _, by assumption, by omega, by first | decide | omega, fun hh7 nn7 => ?_⟩ | refine at_isG 147 dX12_cheapest_146 rfl ⟨_, _, by assumption, by omega, by first | decide | omega, fun hh7 nn7 => ?_⟩
            replace b0 := nn7.o (by first | decide | omega | assumption) b0
            replace b130 := nn7.o (by first | decide | omega | assumption) b130
            replace b131 := nn7.1
            replace bfr := bfr.nw nn7 (by first | (dsimp only; omega) | (dsimp only; done) | simp)
            clear nn7
            refine at_iincN (q := 1) (L' := [_, _, _, _, _, _, _]) 150 dX12_cheapest_147 rfl (by decide) rfl (by decide) rfl rfl ?_
            refine at_goto 126 dX12_cheapest_150 rfl ?_
            refine ihk (i + 1) _ _ (by omega) b0 b130 b131 (fun j hj => ?_) bfr
            by_cases q : j = i
            · rw [q, updN_s]; exact ha i (by omega)
            · rw [updN_n _ _ q]; exact hw j (by omega)
        exact loopK 8 0 w31 h' (by omega) a0 a130 a131 (fun j hj => by omega) hfr
      refine at_iconst 70 (nI 0) dX12_cheapest_69 rfl (by decide) ?_
      refine at_istore (L' := [_, _, _, _, _, _, _]) 72 dX12_cheapest_70 rfl (by decide) rfl rfl ?_
      refine at_iconst 73 (nI 0) dX12_cheapest_72 rfl (by decide) ?_
      refine at_istore (L' := [_, _, _, _, _, _, _]) 75 dX12_cheapest_73 rfl (by decide) rfl rfl ?_
      have loopP : ∀ (d i : Nat), i + d = s 0 0 → At mX12_cheapest T0 75 [.ref 106, .int (nI c'), .int lv, .int (nI 1), .int (nI (costT (s 3) tr i)), .int (nI i), .null] [] h' 0 0 (ZM mX12_cheapest (RM (fCheapest s (nI c')) h)) := by
        intro d
        induction d with
        | zero =>
          intro i hi
          have : i = s 0 0 := by omega
          subst this
          refine at_iload 77 dX12_cheapest_75 rfl rfl ?_
          refine at_aload_n 78 dX12_cheapest_77 rfl rfl rfl ?_
          refine at_g 81 dX12_cheapest_78 rfl fl_X12_108 ⟨_, by assumption, ?_⟩
          refine ⟨_, rfl, ?_⟩
          refine at_icmp_geN 110 84 dX12_cheapest_81 rfl rfl (by omega) (by omega) (fun cc => ?_) (fun cc => ?_)
          rotate_left
          · omega
          rcases hlv with ⟨z1, rfl⟩ | ⟨z1, rfl⟩
          · refine at_iload_n 111 dX12_cheapest_110 rfl rfl rfl ?_
            refine at_if_lt 120 114 dX12_cheapest_111 rfl rfl (fun cc => ?_) (fun cc => ?_)
            · exact took (Or.inl z1)
            · exact absurd (by decide) cc
          · refine at_iload_n 111 dX12_cheapest_110 rfl rfl rfl ?_
            refine at_if_ltN 120 114 dX12_cheapest_111 rfl rfl (by omega) ?_
            refine at_iload 116 dX12_cheapest_114 rfl rfl ?_
            refine at_iload_n 117 dX12_cheapest_116 rfl rfl rfl ?_
            refine at_icmp_geN 153 120 dX12_cheapest_117 rfl rfl (by omega) (by omega) (fun cc => ?_) (fun cc => ?_)
            · refine at_drop (L' := [_, _, _, _, _, _, _]) 4 rfl ?_
              refine at_drop (L' := [_, _, _, _, _, _, _]) 5 rfl ?_
              exact kept (fun q => q.elim z1 (fun q => by omega))
            · exact took (Or.inr cc)
        | succ d ihp =>
          intro i hi
          have e1 : costT (s 3) tr (i + 1) = costT (s 3) tr i + a i * pr i := by rw [ha i (by omega), e110 i (by omega)]; rfl
          refine at_iload 77 dX12_cheapest_75 rfl rfl ?_
          refine at_aload_n 78 dX12_cheapest_77 rfl rfl rfl ?_
          refine at_g 81 dX12_cheapest_78 rfl fl_X12_108 ⟨_, by assumption, ?_⟩
          refine ⟨_, rfl, ?_⟩
          refine at_icmp_geN 110 84 dX12_cheapest_81 rfl rfl (by omega) (by omega) (fun cc => ?_) (fun cc => ?_)
          · omega
          refine at_iload 86 dX12_cheapest_84 rfl rfl ?_
          refine at_aload_n 87 dX12_cheapest_86 rfl rfl rfl ?_
          refine at_g 90 dX12_cheapest_87 rfl fl_X12_93 ⟨_, by assumption, ?_⟩
          refine ⟨_, rfl, ?_⟩
          refine at_iload 92 dX12_cheapest_90 rfl rfl ?_
          first | refine at_ia 93 dX12_cheapest_92 rfl ⟨_, _, by assumption, by omega, by first | decide | omega, ?_⟩ | refine at_iaG 93 dX12_cheapest_92 rfl ⟨_, _, by assumption, by omega, by first | decide | omega, ?_⟩
          refine at_aload_n 94 dX12_cheapest_93 rfl rfl rfl ?_
          refine at_g 97 dX12_cheapest_94 rfl fl_X12_19 ⟨_, by assumption, ?_⟩
          refine ⟨_, rfl, ?_⟩
          refine at_iload 99 dX12_cheapest_97 rfl rfl ?_
          first | refine at_ia 100 dX12_cheapest_99 rfl ⟨_, _, by assumption, by omega, by first | decide | omega, ?_⟩ | refine at_iaG 100 dX12_cheapest_99 rfl ⟨_, _, by assumption, by omega, by first | decide | omega, ?_⟩
          first | refine at_imulN 101 dX12_cheapest_100 rfl ?_ | refine at_imul 101 dX12_cheapest_100 rfl ?_
          first | refine at_iaddN 102 dX12_cheapest_101 rfl ?_ | refine at_iadd 102 dX12_cheapest_101 rfl ?_
          rw [← e1]
          refine at_istore (L' := [_, _, _, _, _, _, _]) 104 dX12_cheapest_102 rfl (by decide) rfl rfl ?_
          refine at_iincN (q := 1) (L' := [_, _, _, _, _, _, _]) 107 dX12_cheapest_104 rfl (by decide) rfl (by decide) rfl rfl ?_
          refine at_goto 75 dX12_cheapest_107 rfl ?_
          exact ihp (i + 1) (by omega)
      exact loopP (s 0 0) 0 (by omega)
  refine at_iconst 19 (-1) dX12_cheapest_18 rfl (by decide) ?_
  refine at_istore_n (L' := [_, _, _, _, _, _, _]) 20 dX12_cheapest_19 rfl rfl (by decide) rfl rfl ?_
  refine at_iconst 21 (nI 0) dX12_cheapest_20 rfl (by decide) ?_
  refine at_istore_n (L' := [_, _, _, _, _, _, _]) 22 dX12_cheapest_21 rfl rfl (by decide) rfl rfl ?_
  have loopI : ∀ (d i : Nat) (w : Nat → Nat) (h' : List PC), i + d = 8 → h'[106]? = some (oM s) → h'[130]? = some (aI 8 w) → (∀ j, j < i → w j = tr0 j) → Fr (fun j => j = 130) h h' → At mX12_cheapest T0 22 [.ref 106, .int (nI c'), .int (-1), .int (nI i), .null, .null, .null] [] h' 0 0 (ZM mX12_cheapest (RM (fCheapest s (nI c')) h)) := by
    intro d
    induction d with
    | zero =>
      intro i w h' hi a0 a130 hw hfr
      refine at_iload_n 23 dX12_cheapest_22 rfl rfl rfl ?_
      refine at_bipush 25 (nI 8) dX12_cheapest_23 rfl (by decide) ?_
      refine at_icmp_geN 51 28 dX12_cheapest_25 rfl rfl (by omega) (by omega) (fun cc => ?_) (fun cc => ?_)
      rotate_left
      · omega
      refine at_iconst 52 (nI 1) dX12_cheapest_51 rfl (by decide) ?_
      refine at_istore_n (L' := [_, _, _, _, _, _, _]) 53 dX12_cheapest_52 rfl rfl (by decide) rfl rfl ?_
      refine main 20000 w tr0 (0, 0, fun _ => 0) (-1) h' (by omega) rfl (tIv0 (by omega)) (fun j hj => hw j (by omega)) (Or.inl ⟨rfl, rfl⟩) (Nat.zero_le _) a130 ⟨w131, hfr.at (by omega) f131, fun q => absurd rfl q⟩ (hfr.wk (fun j hj => by omega))
    | succ d ih =>
      intro i w h' hi a0 a130 hw hfr
      have nxt : ∀ v h2, v = tr0 i → h2[106]? = some (oM s) → h2[130]? = some (aI 8 (updN w i v)) → Fr (fun j => j = 130) h h2 → At mX12_cheapest T0 45 [.ref 106, .int (nI c'), .int (-1), .int (nI i), .null, .null, .null] [] h2 0 0 (ZM mX12_cheapest (RM (fCheapest s (nI c')) h)) := by
        intro v h2 hv b0 b130 bfr
        refine at_iincN (q := 1) (L' := [_, _, _, _, _, _, _]) 48 dX12_cheapest_45 rfl (by decide) rfl (by decide) rfl rfl ?_
        refine at_goto 22 dX12_cheapest_48 rfl ?_
        refine ih (i + 1) _ h2 (by omega) b0 b130 (fun x hx => ?_) bfr
        by_cases q : x = i
        · rw [q, updN_s, hv]
        · rw [updN_n _ _ q]; exact hw x (by omega)
      refine at_iload_n 23 dX12_cheapest_22 rfl rfl rfl ?_
      refine at_bipush 25 (nI 8) dX12_cheapest_23 rfl (by decide) ?_
      refine at_icmp_geN 51 28 dX12_cheapest_25 rfl rfl (by omega) (by omega) (fun cc => ?_) (fun cc => ?_)
      · omega
      refine at_aload_n 29 dX12_cheapest_28 rfl rfl rfl ?_
      refine at_g 32 dX12_cheapest_29 rfl fl_X12_93 ⟨_, by assumption, ?_⟩
      refine ⟨_, rfl, ?_⟩
      refine at_iload_n 33 dX12_cheapest_32 rfl rfl rfl ?_
      refine at_iload_n 34 dX12_cheapest_33 rfl rfl rfl ?_
      refine at_if_neN 43 37 dX12_cheapest_34 rfl rfl (by omega) (fun cc => ?_) (fun cc => ?_)
      · refine at_iconst 44 (nI 0) dX12_cheapest_43 rfl (by decide) ?_
        first | refine at_is 45 dX12_cheapest_44 rfl ⟨_, _, by assumption, by omega, by first | decide | omega, fun hh8 nn8 => ?_⟩ | refine at_isG 45 dX12_cheapest_44 rfl ⟨_, _, by assumption, by omega, by first | decide | omega, fun hh8 nn8 => ?_⟩
        replace a0 := nn8.o (by first | decide | omega | assumption) a0
        replace a130 := nn8.1
        replace hfr := hfr.nw nn8 (by first | (dsimp only; omega) | (dsimp only; done) | simp)
        clear nn8
        exact nxt 0 _ (by unfold tr0; rw [if_neg cc]) a0 a130 hfr
      · refine at_sipush 40 (nI 1000) dX12_cheapest_37 rfl (by decide) ?_
        refine at_goto 44 dX12_cheapest_40 rfl ?_
        first | refine at_is 45 dX12_cheapest_44 rfl ⟨_, _, by assumption, by omega, by first | decide | omega, fun hh9 nn9 => ?_⟩ | refine at_isG 45 dX12_cheapest_44 rfl ⟨_, _, by assumption, by omega, by first | decide | omega, fun hh9 nn9 => ?_⟩
        replace a0 := nn9.o (by first | decide | omega | assumption) a0
        replace a130 := nn9.1
        replace hfr := hfr.nw nn9 (by first | (dsimp only; omega) | (dsimp only; done) | simp)
        clear nn9
        exact nxt 1000 _ (by unfold tr0; rw [if_pos cc]) a0 a130 hfr
  exact loopI 8 0 w130 h (by omega) m0 f130 (fun j hj => by omega) Fr.rf

