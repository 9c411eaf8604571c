/-- the last place from k down to 1 whose value isn't above the next one; 0: none -/
def pivN (o : Nat → Nat) : Nat → Nat
  | 0 => 0
  | k + 1 => if o (k + 2) < o (k + 1) then pivN o k else k + 1
theorem pivN_le (o : Nat → Nat) : ∀ k, pivN o k ≤ k
  | 0 => Nat.le_refl _
  | k + 1 => by
    unfold pivN
    split
    · have := pivN_le o k; omega
    · omega
/-- from k down: the first place that isn't below the value at i -/
def swpN (o : Nat → Nat) (i : Nat) : Nat → Nat
  | 0 => 0
  | k + 1 => if i < k + 1 ∧ o (k + 1) < o i then swpN o i k else k + 1
theorem swpN_le (o : Nat → Nat) (i : Nat) : ∀ k, i ≤ k → i ≤ swpN o i k ∧ swpN o i k ≤ k
  | 0, h => ⟨h, Nat.le_refl _⟩
  | k + 1, h => by
    unfold swpN
    split
    · next e => have := swpN_le o i k (by omega); omega
    · omega
def swapF (o : Nat → Nat) (i j : Nat) : Nat → Nat := updN (updN o i (o j)) j (o i)
/-- s swaps from both ends of a .. b -/
def revS (a b s : Nat) (o : Nat → Nat) : Nat → Nat := fun x => if (a ≤ x ∧ x < a + s) ∨ (b < x + s ∧ x ≤ b) then o (a + b - x) else o x
def nxtO (m : Nat) (o : Nat → Nat) : Nat → Nat := fun x => if pivN o (m - 2) + 1 ≤ x ∧ x < m then swapF o (pivN o (m - 2)) (swpN o (pivN o (m - 2)) (m - 1)) (m + pivN o (m - 2) - x) else swapF o (pivN o (m - 2)) (swpN o (pivN o (m - 2)) (m - 1)) x
theorem pivN_congr {a b : Nat → Nat} : ∀ {k : Nat}, (∀ j, j < k + 2 → a j = b j) → pivN a k = pivN b k
  | 0, _ => rfl
  | k + 1, h => by
    unfold pivN
    rw [h (k + 2) (by omega), h (k + 1) (by omega), pivN_congr (fun j hj => h j (by omega))]
theorem swpN_congr {a b : Nat → Nat} {i : Nat} : ∀ {k : Nat}, (∀ j, j ≤ k → a j = b j) → i ≤ k → swpN a i k = swpN b i k
  | 0, _, _ => rfl
  | k + 1, h, hi => by
    unfold swpN
    rw [h (k + 1) (Nat.le_refl _), h i hi]
    by_cases e : i < k + 1 ∧ b (k + 1) < b i
    · rw [if_pos e, if_pos e]; exact swpN_congr (fun j hj => h j (by omega)) (by omega)
    · rw [if_neg e, if_neg e]
theorem swapF_congr {a b : Nat → Nat} {i j m : Nat} (h : ∀ x, x < m → a x = b x) (hi : i < m) (hj : j < m) : ∀ x, x < m → swapF a i j x = swapF b i j x := by
  intro x hx
  unfold swapF updN
  rw [h i hi, h j hj, h x hx]
theorem nxtO_congr {a b : Nat → Nat} {m : Nat} (h : ∀ x, x < m → a x = b x) (hm : 2 ≤ m) : ∀ x, x < m → nxtO m a x = nxtO m b x := by
  intro x hx
  unfold nxtO
  have e1 : pivN a (m - 2) = pivN b (m - 2) := pivN_congr (fun j hj => h j (by omega))
  have hp := pivN_le b (m - 2)
  rw [e1]
  generalize pivN b (m - 2) = p at *
  have e2 : swpN a p (m - 1) = swpN b p (m - 1) := swpN_congr (fun j hj => h j (by omega)) (by omega)
  have hs := swpN_le b p (m - 1) (by omega)
  rw [e2]
  have e3 := swapF_congr (i := p) (j := swpN b p (m - 1)) h (by omega) (by omega)
  by_cases e : p + 1 ≤ x ∧ x < m
  · rw [if_pos e, if_pos e]; exact e3 _ (by omega)
  · rw [if_neg e, if_neg e]; exact e3 _ hx
def sumO (ch o : Nat → Nat) (m : Nat) : Nat := sm (fun i => ch (6 * o i + (if i + 1 < m then o (i + 1) else o 0))) m
theorem sumO_congr {ch a b : Nat → Nat} {m : Nat} (h : ∀ x, x < m → a x = b x) : sumO ch a m = sumO ch b m := sm_congr (fun i hi => by
  rw [h i hi]
  by_cases e : i + 1 < m
  · rw [if_pos e, if_pos e, h _ e]
  · rw [if_neg e, if_neg e, h 0 (by omega)])
def rsrch (m : Nat) (ch : Nat → Nat) : Nat → (Nat → Nat) → Nat × (Nat → Nat) → Nat × (Nat → Nat)
  | 0, _, S => S
  | k + 1, o, S => if pivN o (m - 2) = 0 then S else rsrch m ch k (nxtO m o) (if sumO ch (nxtO m o) m < S.1 then (sumO ch (nxtO m o) m, nxtO m o) else S)
theorem c_X8_swap {h : List PC} {z i j : Nat} {o : Nat → Nat} (hR : h[96]? = some (oRing z)) (ho : h[105]? = some (aI 6 o)) (hi : i < 6) (hj : j < 6) : Ct mX8_swap [.ref 96, .int (nI i), .int (nI j)] h (fun r h' => r = none ∧ h'[105]? = some (aI 6 (swapF o i j)) ∧ Fr (fun j => j = 105) h h') := by
  refine ct_at (L := [_, _, _, _]) (by decide +kernel) rfl rfl (Nat.le_of_ble_eq_true rfl) ?_
  have hfr : Fr (fun j => j = 105) h h := Fr.rf
  refine at_aload_n 1 dX8_swap_0 rfl rfl rfl ?_
  refine at_g 4 dX8_swap_1 rfl fl_X8_20 ⟨_, by assumption, ?_⟩
  refine ⟨_, rfl, ?_⟩
  refine at_iload_n 5 dX8_swap_4 rfl rfl rfl ?_
  first | refine at_ia 6 dX8_swap_5 rfl ⟨_, _, by assumption, by omega, by first | decide | omega, ?_⟩ | refine at_iaG 6 dX8_swap_5 rfl ⟨_, _, by assumption, by omega, by first | decide | omega, ?_⟩
  refine at_istore_n (L' := [_, _, _, _]) 7 dX8_swap_6 rfl rfl (by decide) rfl rfl ?_
  refine at_aload_n 8 dX8_swap_7 rfl rfl rfl ?_
  refine at_g 11 dX8_swap_8 rfl fl_X8_20 ⟨_, by assumption, ?_⟩
  refine ⟨_, rfl, ?_⟩
  refine at_iload_n 12 dX8_swap_11 rfl rfl rfl ?_
  refine at_aload_n 13 dX8_swap_12 rfl rfl rfl ?_
  refine at_g 16 dX8_swap_13 rfl fl_X8_20 ⟨_, by assumption, ?_⟩
  refine ⟨_, rfl, ?_⟩
  refine at_iload_n 17 dX8_swap_16 rfl rfl rfl ?_
  first | refine at_ia 18 dX8_swap_17 rfl ⟨_, _, by assumption, by omega, by first | decide | omega, ?_⟩ | refine at_iaG 18 dX8_swap_17 rfl ⟨_, _, by assumption, by omega, by first | decide | omega, ?_⟩
  first | refine at_is 19 dX8_swap_18 rfl ⟨_, _, by assumption, by omega, by first | decide | omega, fun hh1 nn1 => ?_⟩ | refine at_isG 19 dX8_swap_18 rfl ⟨_, _, by assumption, by omega, by first | decide | omega, fun hh1 nn1 => ?_⟩
  replace hR := nn1.o (by first | decide | omega | assumption) hR
  replace ho := nn1.1
  replace hfr := hfr.nw nn1 (by first | (dsimp only; omega) | (dsimp only; done) | simp)
  clear nn1
  refine at_aload_n 20 dX8_swap_19 rfl rfl rfl ?_
  refine at_g 23 dX8_swap_20 rfl fl_X8_20 ⟨_, by assumption, ?_⟩
  refine ⟨_, rfl, ?_⟩
  refine at_iload_n 24 dX8_swap_23 rfl rfl rfl ?_
  refine at_iload_n 25 dX8_swap_24 rfl rfl rfl ?_
  first | refine at_is 26 dX8_swap_25 rfl ⟨_, _, by assumption, by omega, by first | decide | omega, fun hh2 nn2 => ?_⟩ | refine at_isG 26 dX8_swap_25 rfl ⟨_, _, by assumption, by omega, by first | decide | omega, fun hh2 nn2 => ?_⟩
  replace hR := nn2.o (by first | decide | omega | assumption) hR
  replace ho := nn2.1
  replace hfr := hfr.nw nn2 (by first | (dsimp only; omega) | (dsimp only; done) | simp)
  clear nn2
  refine at_vret dX8_swap_26 rfl (by decide) (by decide) ?_
  exact ⟨rfl, ho, hfr⟩
theorem orb {o : Nat → Nat} (h : ∀ x, x < 6 → o x < 6) {i j : Nat} (hi : i < 6) (hj : j < 6) : ∀ x, x < 6 → swapF o i j x < 6 := fun x hx => by
  unfold swapF updN
  split
  · exact h i hi
  · split
    · exact h j hj
    · exact h x hx
theorem revS_0 (a b : Nat) (o : Nat → Nat) : revS a b 0 o = o := by
  funext x; unfold revS; rw [if_neg (by omega)]
theorem revS_s {a b s : Nat} {o : Nat → Nat} (h : a + s < b - s) : swapF (revS a b s o) (a + s) (b - s) = revS a b (s + 1) o := by
  funext x
  unfold swapF updN revS
  by_cases e1 : x = b - s
  · subst e1
    rw [if_pos rfl, if_neg (by omega), if_pos (by omega)]
    congr 1; omega
  · rw [if_neg e1]
    by_cases e2 : x = a + s
    · subst e2
      rw [if_pos rfl, if_neg (by omega), if_pos (by omega)]
      congr 1; omega
    · rw [if_neg e2]
      by_cases e3 : (a ≤ x ∧ x < a + s) ∨ (b < x + s ∧ x ≤ b)
      · rw [if_pos e3, if_pos (by omega)]
      · rw [if_neg e3, if_neg (by omega)]
theorem nI_k2 (k : Nat) : nI (k + 2) - nI 2 = nI k := by rw [pk_sub (by omega)]; rfl
theorem c_X8_advance {h : List PC} {z m : Nat} {o : Nat → Nat} (hR : h[96]? = some (oRing z)) (ho : h[105]? = some (aI 6 o)) (hm : m ≤ 6) (hm0 : 0 < m) (hb : ∀ x, x < 6 → o x < 6) : Ct mX8_advance [.ref 96, .int (nI m)] h (fun r h' => r = some (.int (bI (decide (pivN o (m - 2) ≠ 0)))) ∧ Ar h' 105 6 (if pivN o (m - 2) = 0 then o else nxtO m o) ∧ Fr (fun j => j = 105) h h') := by
  refine ct_at (L := [_, _, _, _, _, _]) (by decide +kernel) rfl rfl (Nat.le_of_ble_eq_true rfl) ?_
  refine at_iload_n 1 dX8_advance_0 rfl rfl rfl ?_
  refine at_iconst 2 (nI 2) dX8_advance_1 rfl (by decide) ?_
  rcases Nat.lt_or_ge m 2 with q | q
  · have hm1 : m = 1 := by omega
    subst hm1
    refine at_isub 3 dX8_advance_2 rfl ?_
    rw [show nI 1 - nI 2 = -1 by decide]
    refine at_istore_n (L' := [_, _, _, _, _, _]) 4 dX8_advance_3 rfl rfl (by decide) rfl rfl ?_
    refine at_iload_n 5 dX8_advance_4 rfl rfl rfl ?_
    refine at_iconst 6 (nI 1) dX8_advance_5 rfl (by decide) ?_
    refine at_icmp_lt 32 9 dX8_advance_6 rfl rfl (fun cc => ?_) (fun cc => ?_)
    rotate_left
    · exact absurd (by decide) cc
    refine at_iload_n 33 dX8_advance_32 rfl rfl rfl ?_
    refine at_iconst 34 (nI 1) dX8_advance_33 rfl (by decide) ?_
    refine at_icmp_ge 39 37 dX8_advance_34 rfl rfl (fun cc => ?_) (fun cc => ?_)
    · exact absurd cc (by decide)
    refine at_iconst 38 (nI 0) dX8_advance_37 rfl (by decide) ?_
    refine at_zret dX8_advance_38 rfl (by first | rfl | decide) (by decide) (by decide) ?_
    exact ⟨bI_f (fun q => q rfl), ⟨o, ho, fun x hx => by rw [if_pos (show pivN o (1 - 2) = 0 from rfl)]⟩, Fr.rf⟩
  first | refine at_isubN 3 dX8_advance_2 rfl (by omega) ?_ | refine at_isub 3 dX8_advance_2 rfl ?_
  refine at_istore_n (L' := [_, _, _, _, _, _]) 4 dX8_advance_3 rfl rfl (by decide) rfl rfl ?_
  have fin : ∀ k, k ≤ m - 2 → pivN o (m - 2) = k → At mX8_advance T0 32 [.ref 96, .int (nI m), .int (nI k), .null, .null, .null] [] h 0 0 (ZM mX8_advance (fun r h' => r = some (.int (bI (decide (pivN o (m - 2) ≠ 0)))) ∧ Ar h' 105 6 (if pivN o (m - 2) = 0 then o else nxtO m o) ∧ Fr (fun j => j = 105) h h')) := by
    intro k hk hp
    refine at_iload_n 33 dX8_advance_32 rfl rfl rfl ?_
    refine at_iconst 34 (nI 1) dX8_advance_33 rfl (by decide) ?_
    refine at_icmp_geN 39 37 dX8_advance_34 rfl rfl (by omega) (by omega) (fun cc => ?_) (fun cc => ?_)
    · refine at_iload_n 40 dX8_advance_39 rfl rfl rfl ?_
      refine at_iconst 41 (nI 1) dX8_advance_40 rfl (by decide) ?_
      first | refine at_isubN 42 dX8_advance_41 rfl (by omega) ?_ | refine at_isub 42 dX8_advance_41 rfl ?_
      refine at_istore_n (L' := [_, _, _, _, _, _]) 43 dX8_advance_42 rfl rfl (by decide) rfl rfl ?_
      have hs := swpN_le o k (m - 1) (by omega)
      have go : ∀ j, k ≤ j → j ≤ m - 1 → swpN o k (m - 1) = j → At mX8_advance T0 69 [.ref 96, .int (nI m), .int (nI k), .int (nI j), .null, .null] [] h 0 0 (ZM mX8_advance (fun r h' => r = some (.int (bI (decide (pivN o (m - 2) ≠ 0)))) ∧ Ar h' 105 6 (if pivN o (m - 2) = 0 then o else nxtO m o) ∧ Fr (fun j => j = 105) h h')) := by
        intro j hj1 hj2 hsj
        refine at_aload_n 70 dX8_advance_69 rfl rfl rfl ?_
        refine at_iload_n 71 dX8_advance_70 rfl rfl rfl ?_
        refine at_iload_n 72 dX8_advance_71 rfl rfl rfl ?_
        refine at_invV (ci := 8) 75 [_, _] _ (c_X8_swap hR ho (by omega) (by omega)) dX8_advance_72 rfl rfl (by assumption) rfl ml_X8_48 cl_X8_swap vl_X8_swap rfl (Nat.le_of_ble_eq_true rfl) ⟨by decide, by decide⟩ (by decide) (fun rr hh qq => ?_)
        obtain ⟨rfl, d5, dfr⟩ := qq
        refine at_iload_n 76 dX8_advance_75 rfl rfl rfl ?_
        refine at_iconst 77 (nI 1) dX8_advance_76 rfl (by decide) ?_
        first | refine at_iaddN 78 dX8_advance_77 rfl ?_ | refine at_iadd 78 dX8_advance_77 rfl ?_
        refine at_istore (L' := [_, _, _, _, _, _]) 80 dX8_advance_78 rfl (by decide) rfl rfl ?_
        refine at_iload_n 81 dX8_advance_80 rfl rfl rfl ?_
        refine at_iconst 82 (nI 1) dX8_advance_81 rfl (by decide) ?_
        first | refine at_isubN 83 dX8_advance_82 rfl (by omega) ?_ | refine at_isub 83 dX8_advance_82 rfl ?_
        refine at_istore (L' := [_, _, _, _, _, _]) 85 dX8_advance_83 rfl (by decide) rfl rfl ?_
        have rev : ∀ (d s : Nat) (h' : List PC), (m - 1 - s) - (k + 1 + s) ≤ d → k + 1 + 2 * s ≤ m → h'[105]? = some (aI 6 (revS (k + 1) (m - 1) s (swapF o k j))) → Fr (fun j => j = 105) h h' → At mX8_advance T0 85 [.ref 96, .int (nI m), .int (nI k), .int (nI j), .int (nI (k + 1 + s)), .int (nI (m - 1 - s))] [] h' 0 0 (ZM mX8_advance (fun r h' => r = some (.int (bI (decide (pivN o (m - 2) ≠ 0)))) ∧ Ar h' 105 6 (if pivN o (m - 2) = 0 then o else nxtO m o) ∧ Fr (fun j => j = 105) h h')) := by
          intro d
          induction d with
          | zero =>
            intro s h' hd hsm a5 hfr
            refine at_iload 87 dX8_advance_85 rfl rfl ?_
            refine at_iload 89 dX8_advance_87 rfl rfl ?_
            refine at_icmp_geN 109 92 dX8_advance_89 rfl rfl (by omega) (by omega) (fun cc => ?_) (fun cc => ?_)
            rotate_left
            · omega
            refine at_iconst 110 (nI 1) dX8_advance_109 rfl (by decide) ?_
            refine at_zret dX8_advance_110 rfl (by first | rfl | decide) (by decide) (by decide) ?_
            refine ⟨bI_t (by omega), ⟨_, a5, fun x hx => ?_⟩, hfr⟩
            rw [if_neg (by omega)]
            unfold nxtO revS
            rw [hp, hsj]
            by_cases e : k + 1 ≤ x ∧ x < m
            · rw [if_pos e]
              by_cases e2 : (k + 1 ≤ x ∧ x < k + 1 + s) ∨ (m - 1 < x + s ∧ x ≤ m - 1)
              · rw [if_pos e2]; congr 1; omega
              · rw [if_neg e2]; congr 1; omega
            · rw [if_neg e, if_neg (by omega)]
          | succ d ih =>
            intro s h' hd hsm a5 hfr
            have aR := hfr.at (k := 96) (by omega) hR
            refine at_iload 87 dX8_advance_85 rfl rfl ?_
            refine at_iload 89 dX8_advance_87 rfl rfl ?_
            refine at_icmp_geN 109 92 dX8_advance_89 rfl rfl (by omega) (by omega) (fun cc => ?_) (fun cc => ?_)
            · refine at_iconst 110 (nI 1) dX8_advance_109 rfl (by decide) ?_
              refine at_zret dX8_advance_110 rfl (by first | rfl | decide) (by decide) (by decide) ?_
              refine ⟨bI_t (by omega), ⟨_, a5, fun x hx => ?_⟩, hfr⟩
              rw [if_neg (by omega)]
              unfold nxtO revS
              rw [hp, hsj]
              by_cases e : k + 1 ≤ x ∧ x < m
              · rw [if_pos e]
                by_cases e2 : (k + 1 ≤ x ∧ x < k + 1 + s) ∨ (m - 1 < x + s ∧ x ≤ m - 1)
                · rw [if_pos e2]; congr 1; omega
                · rw [if_neg e2]; congr 1; omega
              · rw [if_neg e, if_neg (by omega)]
            refine at_aload_n 93 dX8_advance_92 rfl rfl rfl ?_
            refine at_iload 95 dX8_advance_93 rfl rfl ?_
            refine at_iload 97 dX8_advance_95 rfl rfl ?_
            refine at_invV (ci := 8) 100 [_, _] _ (c_X8_swap aR a5 (by omega) (by omega)) dX8_advance_97 rfl rfl (by assumption) rfl ml_X8_48 cl_X8_swap vl_X8_swap rfl (Nat.le_of_ble_eq_true rfl) ⟨by decide, by decide⟩ (by decide) (fun rr hh qq => ?_)
            obtain ⟨rfl, e5, efr⟩ := qq
            rw [revS_s (by omega)] at e5
            rw [show m - 1 - s = (m - 1 - (s + 1)) + 1 by omega]
            refine at_iincN (q := 1) (L' := [_, _, _, _, _, _]) 103 dX8_advance_100 rfl (by decide) rfl (by decide) rfl rfl ?_
            refine at_idecN (L' := [_, _, _, _, _, _]) 106 dX8_advance_103 rfl rfl (by decide) rfl rfl ?_
            refine at_goto 85 dX8_advance_106 rfl ?_
            exact ih (s + 1) hh (by omega) (by omega) e5 (hfr.tr efr (fun j hj => by omega))
        exact rev 10 0 hh (by omega) (by omega) (by rw [revS_0]; exact d5) dfr
      have look : ∀ j, k ≤ j → j ≤ m - 1 → swpN o k (m - 1) = swpN o k j → At mX8_advance T0 43 [.ref 96, .int (nI m), .int (nI k), .int (nI j), .null, .null] [] h 0 0 (ZM mX8_advance (fun r h' => r = some (.int (bI (decide (pivN o (m - 2) ≠ 0)))) ∧ Ar h' 105 6 (if pivN o (m - 2) = 0 then o else nxtO m o) ∧ Fr (fun j => j = 105) h h')) := by
        intro j
        induction j with
        | zero =>
          intro hj1 hj2 hsj
          omega
        | succ j ih =>
          intro hj1 hj2 hsj
          have b1 := hb (j + 1) (by omega)
          have b2 := hb k (by omega)
          refine at_iload_n 44 dX8_advance_43 rfl rfl rfl ?_
          refine at_iload_n 45 dX8_advance_44 rfl rfl rfl ?_
          refine at_icmp_leN 69 48 dX8_advance_45 rfl rfl (by omega) (by omega) (fun cc => ?_) (fun cc => ?_)
          · refine go (j + 1) hj1 hj2 ?_
            rw [hsj]
            show (if k < j + 1 ∧ o (j + 1) < o k then swpN o k j else j + 1) = j + 1
            rw [if_neg (by omega)]
          refine at_aload_n 49 dX8_advance_48 rfl rfl rfl ?_
          refine at_g 52 dX8_advance_49 rfl fl_X8_20 ⟨_, by assumption, ?_⟩
          refine ⟨_, rfl, ?_⟩
          refine at_iload_n 53 dX8_advance_52 rfl rfl rfl ?_
          first | refine at_ia 54 dX8_advance_53 rfl ⟨_, _, by assumption, by omega, by first | decide | omega, ?_⟩ | refine at_iaG 54 dX8_advance_53 rfl ⟨_, _, by assumption, by omega, by first | decide | omega, ?_⟩
          refine at_aload_n 55 dX8_advance_54 rfl rfl rfl ?_
          refine at_g 58 dX8_advance_55 rfl fl_X8_20 ⟨_, by assumption, ?_⟩
          refine ⟨_, rfl, ?_⟩
          refine at_iload_n 59 dX8_advance_58 rfl rfl rfl ?_
          first | refine at_ia 60 dX8_advance_59 rfl ⟨_, _, by assumption, by omega, by first | decide | omega, ?_⟩ | refine at_iaG 60 dX8_advance_59 rfl ⟨_, _, by assumption, by omega, by first | decide | omega, ?_⟩
          refine at_icmp_geN 69 63 dX8_advance_60 rfl rfl (by omega) (by omega) (fun cc => ?_) (fun cc => ?_)
          · refine go (j + 1) hj1 hj2 ?_
            rw [hsj]
            show (if k < j + 1 ∧ o (j + 1) < o k then swpN o k j else j + 1) = j + 1
            rw [if_neg (by omega)]
          · refine at_idecN (L' := [_, _, _, _, _, _]) 66 dX8_advance_63 rfl rfl (by decide) rfl rfl ?_
            refine at_goto 43 dX8_advance_66 rfl ?_
            refine ih (by omega) (by omega) ?_
            rw [hsj]
            show (if k < j + 1 ∧ o (j + 1) < o k then swpN o k j else j + 1) = swpN o k j
            rw [if_pos (by omega)]
      exact look (m - 1) (by omega) (by omega) rfl
    · refine at_iconst 38 (nI 0) dX8_advance_37 rfl (by decide) ?_
      refine at_zret dX8_advance_38 rfl (by first | rfl | decide) (by decide) (by decide) ?_
      exact ⟨bI_f (by omega), ⟨o, ho, fun x hx => by rw [if_pos (by omega)]⟩, Fr.rf⟩
  have loop : ∀ k, k ≤ m - 2 → pivN o (m - 2) = pivN o k → At mX8_advance T0 4 [.ref 96, .int (nI m), .int (nI k), .null, .null, .null] [] h 0 0 (ZM mX8_advance (fun r h' => r = some (.int (bI (decide (pivN o (m - 2) ≠ 0)))) ∧ Ar h' 105 6 (if pivN o (m - 2) = 0 then o else nxtO m o) ∧ Fr (fun j => j = 105) h h')) := by
    intro k
    induction k with
    | zero =>
      intro hk hp
      refine at_iload_n 5 dX8_advance_4 rfl rfl rfl ?_
      refine at_iconst 6 (nI 1) dX8_advance_5 rfl (by decide) ?_
      refine at_icmp_ltN 32 9 dX8_advance_6 rfl rfl (by omega) (by omega) (fun cc => ?_) (fun cc => ?_)
      · exact fin 0 (by omega) hp
      · omega
    | succ k ih =>
      intro hk hp
      have b1 := hb (k + 1) (by omega)
      have b2 := hb (k + 1 + 1) (by omega)
      refine at_iload_n 5 dX8_advance_4 rfl rfl rfl ?_
      refine at_iconst 6 (nI 1) dX8_advance_5 rfl (by decide) ?_
      refine at_icmp_ltN 32 9 dX8_advance_6 rfl rfl (by omega) (by omega) (fun cc => ?_) (fun cc => ?_)
      · omega
      refine at_aload_n 10 dX8_advance_9 rfl rfl rfl ?_
      refine at_g 13 dX8_advance_10 rfl fl_X8_20 ⟨_, by assumption, ?_⟩
      refine ⟨_, rfl, ?_⟩
      refine at_iload_n 14 dX8_advance_13 rfl rfl rfl ?_
      first | refine at_ia 15 dX8_advance_14 rfl ⟨_, _, by assumption, by omega, by first | decide | omega, ?_⟩ | refine at_iaG 15 dX8_advance_14 rfl ⟨_, _, by assumption, by omega, by first | decide | omega, ?_⟩
      refine at_aload_n 16 dX8_advance_15 rfl rfl rfl ?_
      refine at_g 19 dX8_advance_16 rfl fl_X8_20 ⟨_, by assumption, ?_⟩
      refine ⟨_, rfl, ?_⟩
      refine at_iload_n 20 dX8_advance_19 rfl rfl rfl ?_
      refine at_iconst 21 (nI 1) dX8_advance_20 rfl (by decide) ?_
      first | refine at_iaddN 22 dX8_advance_21 rfl ?_ | refine at_iadd 22 dX8_advance_21 rfl ?_
      first | refine at_ia 23 dX8_advance_22 rfl ⟨_, _, by assumption, by omega, by first | decide | omega, ?_⟩ | refine at_iaG 23 dX8_advance_22 rfl ⟨_, _, by assumption, by omega, by first | decide | omega, ?_⟩
      refine at_icmp_leN 32 26 dX8_advance_23 rfl rfl (by omega) (by omega) (fun cc => ?_) (fun cc => ?_)
      · replace cc : o (k + 1) ≤ o (k + 2) := cc
        refine fin (k + 1) hk ?_
        rw [hp]
        show (if o (k + 2) < o (k + 1) then pivN o k else k + 1) = k + 1
        rw [if_neg (by omega)]
      · refine at_idecN (L' := [_, _, _, _, _, _]) 29 dX8_advance_26 rfl rfl (by decide) rfl rfl ?_
        refine at_goto 4 dX8_advance_29 rfl ?_
        refine ih (by omega) ?_
        rw [hp]
        show (if o (k + 2) < o (k + 1) then pivN o k else k + 1) = pivN o k
        rw [if_pos cc]
  exact loop (m - 2) (by omega) rfl
theorem c_X8_sumOfOrder {h : List PC} {z m : Nat} {o ch : Nat → Nat} (hR : h[96]? = some (oRing z)) (hc : h[97]? = some (aR 6 (rowsAt 97 6))) (hch : ∀ a, a < 6 → Ar h (97 + 1 + a) 6 (fun b => ch (6 * a + b))) (ho : h[105]? = some (aI 6 o)) (hm : m ≤ 6) (hb : ∀ x, x < 6 → o x < 6) : Ct mX8_sumOfOrder [.ref 96, .int (nI m)] h (fun r h' => r = some (.int (nI (sumO ch o m))) ∧ h' = h) := by
  refine ct_at (L := [_, _, _, _, _]) (by decide +kernel) rfl rfl (Nat.le_of_ble_eq_true rfl) ?_
  refine at_iconst 1 (nI 0) dX8_sumOfOrder_0 rfl (by decide) ?_
  refine at_istore_n (L' := [_, _, _, _, _]) 2 dX8_sumOfOrder_1 rfl rfl (by decide) rfl rfl ?_
  refine at_iconst 3 (nI 0) dX8_sumOfOrder_2 rfl (by decide) ?_
  refine at_istore_n (L' := [_, _, _, _, _]) 4 dX8_sumOfOrder_3 rfl rfl (by decide) rfl rfl ?_
  have loop : ∀ (d i : Nat), i + d = m → At mX8_sumOfOrder T0 4 [.ref 96, .int (nI m), .int (nI (sm (fun i => ch (6 * o i + (if i + 1 < m then o (i + 1) else o 0))) i)), .int (nI i), .null] [] h 0 0 (ZM mX8_sumOfOrder (fun r h' => r = some (.int (nI (sumO ch o m))) ∧ h' = h)) := by
    intro d
    induction d with
    | zero =>
      intro i hi
      refine at_iload_n 5 dX8_sumOfOrder_4 rfl rfl rfl ?_
      refine at_iload_n 6 dX8_sumOfOrder_5 rfl rfl rfl ?_
      refine at_icmp_geN 58 9 dX8_sumOfOrder_6 rfl rfl (by omega) (by omega) (fun cc => ?_) (fun cc => ?_)
      rotate_left
      · omega
      rw [show i = m by omega]
      refine at_iload_n 59 dX8_sumOfOrder_58 rfl rfl rfl ?_
      refine at_iret dX8_sumOfOrder_59 rfl (by decide) (by decide) ?_
      exact ⟨rfl, rfl⟩
    | succ d ih =>
      intro i hi
      have b1 := hb i (by omega)
      have tail : ∀ x, x < 6 → x = (if i + 1 < m then o (i + 1) else o 0) → At mX8_sumOfOrder T0 33 [.ref 96, .int (nI m), .int (nI (sm (fun i => ch (6 * o i + (if i + 1 < m then o (i + 1) else o 0))) i)), .int (nI i), .null] [.int (nI x)] h 0 0 (ZM mX8_sumOfOrder (fun r h' => r = some (.int (nI (sumO ch o m))) ∧ h' = h)) := by
        intro x hx ex
        obtain ⟨w, kw, ew⟩ := hch (o i) b1
        refine at_istore (L' := [_, _, _, _, _]) 35 dX8_sumOfOrder_33 rfl (by decide) rfl rfl ?_
        refine at_iload_n 36 dX8_sumOfOrder_35 rfl rfl rfl ?_
        refine at_aload_n 37 dX8_sumOfOrder_36 rfl rfl rfl ?_
        refine at_g 40 dX8_sumOfOrder_37 rfl fl_X8_11 ⟨_, by assumption, ?_⟩
        refine ⟨_, rfl, ?_⟩
        refine at_aload_n 41 dX8_sumOfOrder_40 rfl rfl rfl ?_
        refine at_g 44 dX8_sumOfOrder_41 rfl fl_X8_20 ⟨_, by assumption, ?_⟩
        refine ⟨_, rfl, ?_⟩
        refine at_iload_n 45 dX8_sumOfOrder_44 rfl rfl rfl ?_
        first | refine at_ia 46 dX8_sumOfOrder_45 rfl ⟨_, _, by assumption, by omega, by first | decide | omega, ?_⟩ | refine at_iaG 46 dX8_sumOfOrder_45 rfl ⟨_, _, by assumption, by omega, by first | decide | omega, ?_⟩
        refine at_aa 47 dX8_sumOfOrder_46 rfl ⟨_, _, by assumption, by omega, by first | decide | omega, ?_⟩
        refine ⟨_, rowsAt_in (by omega), ?_⟩
        refine at_iload 49 dX8_sumOfOrder_47 rfl rfl ?_
        first | refine at_ia 50 dX8_sumOfOrder_49 rfl ⟨_, _, by assumption, by omega, by first | decide | omega, ?_⟩ | refine at_iaG 50 dX8_sumOfOrder_49 rfl ⟨_, _, by assumption, by omega, by first | decide | omega, ?_⟩
        rw [ew x hx]
        have hn := ih (i + 1) (by omega)
        have e2 : sm (fun i => ch (6 * o i + (if i + 1 < m then o (i + 1) else o 0))) (i + 1) = sm (fun i => ch (6 * o i + (if i + 1 < m then o (i + 1) else o 0))) i + ch (6 * o i + x) := by rw [ex]; rfl
        rw [e2] at hn
        first | refine at_iaddN 51 dX8_sumOfOrder_50 rfl ?_ | refine at_iadd 51 dX8_sumOfOrder_50 rfl ?_
        refine at_istore_n (L' := [_, _, _, _, _]) 52 dX8_sumOfOrder_51 rfl rfl (by decide) rfl rfl ?_
        refine at_iincN (q := 1) (L' := [_, _, _, _, _]) 55 dX8_sumOfOrder_52 rfl (by decide) rfl (by decide) rfl rfl ?_
        refine at_goto 4 dX8_sumOfOrder_55 rfl ?_
        refine at_drop (L' := [_, _, _, _, _]) 4 rfl ?_
        exact hn
      refine at_iload_n 5 dX8_sumOfOrder_4 rfl rfl rfl ?_
      refine at_iload_n 6 dX8_sumOfOrder_5 rfl rfl rfl ?_
      refine at_icmp_geN 58 9 dX8_sumOfOrder_6 rfl rfl (by omega) (by omega) (fun cc => ?_) (fun cc => ?_)
      · omega
      refine at_iload_n 10 dX8_sumOfOrder_9 rfl rfl rfl ?_
      refine at_iconst 11 (nI 1) dX8_sumOfOrder_10 rfl (by decide) ?_
      first | refine at_iaddN 12 dX8_sumOfOrder_11 rfl ?_ | refine at_iadd 12 dX8_sumOfOrder_11 rfl ?_
      refine at_iload_n 13 dX8_sumOfOrder_12 rfl rfl rfl ?_
      refine at_icmp_geN 27 16 dX8_sumOfOrder_13 rfl rfl (by omega) (by omega) (fun cc => ?_) (fun cc => ?_)
      · refine at_aload_n 28 dX8_sumOfOrder_27 rfl rfl rfl ?_
        refine at_g 31 dX8_sumOfOrder_28 rfl fl_X8_20 ⟨_, by assumption, ?_⟩
        refine ⟨_, rfl, ?_⟩
        refine at_iconst 32 (nI 0) dX8_sumOfOrder_31 rfl (by decide) ?_
        first | refine at_ia 33 dX8_sumOfOrder_32 rfl ⟨_, _, by assumption, by omega, by first | decide | omega, ?_⟩ | refine at_iaG 33 dX8_sumOfOrder_32 rfl ⟨_, _, by assumption, by omega, by first | decide | omega, ?_⟩
        exact tail _ (hb 0 (by omega)) (by rw [if_neg (by omega)])
      · refine at_aload_n 17 dX8_sumOfOrder_16 rfl rfl rfl ?_
        refine at_g 20 dX8_sumOfOrder_17 rfl fl_X8_20 ⟨_, by assumption, ?_⟩
        refine ⟨_, rfl, ?_⟩
        refine at_iload_n 21 dX8_sumOfOrder_20 rfl rfl rfl ?_
        refine at_iconst 22 (nI 1) dX8_sumOfOrder_21 rfl (by decide) ?_
        first | refine at_iaddN 23 dX8_sumOfOrder_22 rfl ?_ | refine at_iadd 23 dX8_sumOfOrder_22 rfl ?_
        first | refine at_ia 24 dX8_sumOfOrder_23 rfl ⟨_, _, by assumption, by omega, by first | decide | omega, ?_⟩ | refine at_iaG 24 dX8_sumOfOrder_23 rfl ⟨_, _, by assumption, by omega, by first | decide | omega, ?_⟩
        refine at_goto 33 dX8_sumOfOrder_24 rfl ?_
        exact tail _ (hb _ (by omega)) (by rw [if_pos (by omega)])
  exact loop m 0 (by omega)
theorem c_X8_keepOrder {h : List PC} {z m : Nat} {o lt : Nat → Nat} (hR : h[96]? = some (oRing z)) (ho : h[105]? = some (aI 6 o)) (hl : h[104]? = some (aI 6 lt)) (hm : m ≤ 6) : Ct mX8_keepOrder [.ref 96, .int (nI m)] h (fun r h' => r = none ∧ h'[96]? = some (oRing m) ∧ Ar h' 104 6 (fun x => if x < m then o x else lt x) ∧ Fr (fun j => j = 96 ∨ j = 104) h h') := by
  refine ct_at (L := [_, _]) (by decide +kernel) rfl rfl (Nat.le_of_ble_eq_true rfl) ?_
  have hfr : Fr (fun j => j = 96 ∨ j = 104) h h := Fr.rf
  refine at_aload_n 1 dX8_keepOrder_0 rfl rfl rfl ?_
  refine at_g 4 dX8_keepOrder_1 rfl fl_X8_20 ⟨_, by assumption, ?_⟩
  refine ⟨_, rfl, ?_⟩
  refine at_iconst 5 (nI 0) dX8_keepOrder_4 rfl (by decide) ?_
  refine at_aload_n 6 dX8_keepOrder_5 rfl rfl rfl ?_
  refine at_g 9 dX8_keepOrder_6 rfl fl_X8_16 ⟨_, by assumption, ?_⟩
  refine ⟨_, rfl, ?_⟩
  refine at_iconst 10 (nI 0) dX8_keepOrder_9 rfl (by decide) ?_
  refine at_iload_n 11 dX8_keepOrder_10 rfl rfl rfl ?_
  refine at_copy 14 dX8_keepOrder_11 rfl ml_X8_38 jw_copy ho hl (by decide) (by omega) (by omega) (Nat.le_of_ble_eq_true rfl) (by decide) (fun hh1 nn1 => ?_)
  rw [cpy_shr] at nn1
  replace hR := nn1.o (by decide) hR
  replace hl := nn1.1
  replace hfr := hfr.nw nn1 (by omega)
  clear nn1
  refine at_aload_n 15 dX8_keepOrder_14 rfl rfl rfl ?_
  refine at_iload_n 16 dX8_keepOrder_15 rfl rfl rfl ?_
  refine at_pi 19 dX8_keepOrder_16 rfl pl_X8_44 (rfl) (rfl) ⟨_, by assumption, ?_⟩
  refine ⟨(Nat.le_of_ble_eq_true rfl), [_, _, _, _], rfl, fun hh3 nn3 => ?_⟩
  replace hR := nn3.1
  replace hl := nn3.o (by first | decide | omega | assumption) hl
  replace hfr := hfr.nw nn3 (by first | (dsimp only; omega) | (dsimp only; done) | simp)
  clear nn3
  refine at_vret dX8_keepOrder_19 rfl (by decide) (by decide) ?_
  refine ⟨rfl, hR, ⟨_, hl, fun x hx => ?_⟩, hfr⟩
  unfold shr
  dsimp only
  by_cases e : x < m
  · rw [if_pos (show 0 ≤ x ∧ x < 0 + m by omega), if_pos e]; rfl
  · rw [if_neg (show ¬ (0 ≤ x ∧ x < 0 + m) by omega), if_neg e]
/-- the colours of a set, in their order: how many below k, and the j-th -/
def bitN (s c : Nat) : Nat := s / 2 ^ c % 2
def gatN (s : Nat) (f : Nat → Nat) : Nat → Nat × (Nat → Nat)
  | 0 => (0, f)
  | c + 1 => if bitN s c = 1 then ((gatN s f c).1 + 1, updN (gatN s f c).2 (gatN s f c).1 c) else gatN s f c
theorem gatN_le (s : Nat) (f : Nat → Nat) : ∀ c, (gatN s f c).1 ≤ c
  | 0 => Nat.le_refl _
  | c + 1 => by
    have := gatN_le s f c
    unfold gatN
    split
    · show _ + 1 ≤ _; omega
    · omega
theorem bit_shr {s c : Nat} (hs : s < 64) (hc : c < 6) : (nI s >>> (nI c &&& 31)) &&& nI 1 = nI (bitN s c) := by
  have e1 : ((nI c &&& 31).toBitVec.smod 32).toNat = c := by
    have : ∀ c : Fin 6, ((nI c.val &&& 31).toBitVec.smod 32).toNat = c.val := by decide
    exact this ⟨c, hc⟩
  rw [pk_shrN (by omega) _ c e1]
  have e2 := pk_andN (n := s / 2 ^ c) (m := nI 1) (by have := Nat.div_le_self s (2 ^ c); omega) 1 (by decide)
  rw [e2]
  rfl
theorem c_X8_gather {h : List PC} {z s : Nat} {o : Nat → Nat} (hR : h[96]? = some (oRing z)) (ho : h[105]? = some (aI 6 o)) (hs : s < 64) : Ct mX8_gather [.ref 96, .int (nI s)] h (fun r h' => r = some (.int (nI (gatN s o 6).1)) ∧ h'[105]? = some (aI 6 (gatN s o 6).2) ∧ Fr (fun j => j = 105) h h') := by
  refine ct_at (L := [_, _, _, _]) (by decide +kernel) rfl rfl (Nat.le_of_ble_eq_true rfl) ?_
  refine at_iconst 1 (nI 0) dX8_gather_0 rfl (by decide) ?_
  refine at_istore_n (L' := [_, _, _, _]) 2 dX8_gather_1 rfl rfl (by decide) rfl rfl ?_
  refine at_iconst 3 (nI 0) dX8_gather_2 rfl (by decide) ?_
  refine at_istore_n (L' := [_, _, _, _]) 4 dX8_gather_3 rfl rfl (by decide) rfl rfl ?_
  have loop : ∀ (d c : Nat) (h' : List PC), c + d = 6 → h'[105]? = some (aI 6 (gatN s o c).2) → Fr (fun j => j = 105) h h' → At mX8_gather T0 4 [.ref 96, .int (nI s), .int (nI (gatN s o c).1), .int (nI c)] [] h' 0 0 (ZM mX8_gather (fun r h' => r = some (.int (nI (gatN s o 6).1)) ∧ h'[105]? = some (aI 6 (gatN s o 6).2) ∧ Fr (fun j => j = 105) h h')) := by
    intro d
    induction d with
    | zero =>
      intro c h' hc a5 hfr
      refine at_iload_n 5 dX8_gather_4 rfl rfl rfl ?_
      refine at_bipush 7 (nI 6) dX8_gather_5 rfl (by decide) ?_
      refine at_icmp_geN 35 10 dX8_gather_7 rfl rfl (by omega) (by omega) (fun cc => ?_) (fun cc => ?_)
      rotate_left
      · omega
      rw [show c = 6 by omega] at a5 ⊢
      refine at_iload_n 36 dX8_gather_35 rfl rfl rfl ?_
      refine at_iret dX8_gather_36 rfl (by decide) (by decide) ?_
      exact ⟨rfl, a5, hfr⟩
    | succ d ih =>
      intro c h' hc a5 hfr
      have aR := hfr.at (k := 96) (by omega) hR
      have hgl := gatN_le s o c
      have hbit : bitN s c < 2 := Nat.mod_lt _ (by decide)
      refine at_iload_n 5 dX8_gather_4 rfl rfl rfl ?_
      refine at_bipush 7 (nI 6) dX8_gather_5 rfl (by decide) ?_
      refine at_icmp_geN 35 10 dX8_gather_7 rfl rfl (by omega) (by omega) (fun cc => ?_) (fun cc => ?_)
      · omega
      refine at_iload_n 11 dX8_gather_10 rfl rfl rfl ?_
      refine at_iload_n 12 dX8_gather_11 rfl rfl rfl ?_
      refine at_ishr 13 dX8_gather_12 rfl ?_
      refine at_iconst 14 (nI 1) dX8_gather_13 rfl (by decide) ?_
      refine at_iand 15 dX8_gather_14 rfl ?_
      rw [bit_shr hs (by omega)]
      refine at_iconst 16 (nI 1) dX8_gather_15 rfl (by decide) ?_
      refine at_icmp_neN 29 19 dX8_gather_16 rfl rfl (by omega) (by omega) (fun cc => ?_) (fun cc => ?_)
      · refine at_iincN (q := 1) (L' := [_, _, _, _]) 32 dX8_gather_29 rfl (by decide) rfl (by decide) rfl rfl ?_
        refine at_goto 4 dX8_gather_32 rfl ?_
        have hn := ih (c + 1) h' (by omega)
        have e : gatN s o (c + 1) = gatN s o c := by
          show (if bitN s c = 1 then _ else _) = _
          rw [if_neg cc]
        rw [e] at hn
        exact hn a5 hfr
      · refine at_aload_n 20 dX8_gather_19 rfl rfl rfl ?_
        refine at_g 23 dX8_gather_20 rfl fl_X8_20 ⟨_, by assumption, ?_⟩
        refine ⟨_, rfl, ?_⟩
        refine at_iload_n 24 dX8_gather_23 rfl rfl rfl ?_
        refine at_iload_n 25 dX8_gather_24 rfl rfl rfl ?_
        first | refine at_is 26 dX8_gather_25 rfl ⟨_, _, by assumption, by omega, by first | decide | omega, fun hh4 nn4 => ?_⟩ | refine at_isG 26 dX8_gather_25 rfl ⟨_, _, by assumption, by omega, by first | decide | omega, fun hh4 nn4 => ?_⟩
        replace aR := nn4.o (by first | decide | omega | assumption) aR
        replace a5 := nn4.1
        replace hfr := hfr.nw nn4 (by first | (dsimp only; omega) | (dsimp only; done) | simp)
        clear nn4
        refine at_iincN (q := 1) (L' := [_, _, _, _]) 29 dX8_gather_26 rfl (by decide) rfl (by decide) rfl rfl ?_
        refine at_iincN (q := 1) (L' := [_, _, _, _]) 32 dX8_gather_29 rfl (by decide) rfl (by decide) rfl rfl ?_
        refine at_goto 4 dX8_gather_32 rfl ?_
        have hn := ih (c + 1)
        have e : gatN s o (c + 1) = ((gatN s o c).1 + 1, updN (gatN s o c).2 (gatN s o c).1 c) := by
          show (if bitN s c = 1 then _ else _) = _
          rw [if_pos cc]
        rw [e] at hn
        exact hn _ (by omega) a5 hfr
  exact loop 6 0 h (by omega) ho Fr.rf
theorem gatN_b {s : Nat} {f : Nat → Nat} (h : ∀ x, x < 6 → f x < 6) : ∀ c, c ≤ 6 → ∀ x, x < 6 → (gatN s f c).2 x < 6
  | 0, _, x, hx => h x hx
  | c + 1, hc, x, hx => by
    have ih := gatN_b (s := s) h c (by omega) x hx
    unfold gatN
    split
    · show updN _ _ _ x < 6
      unfold updN
      split
      · omega
      · exact ih
    · exact ih
theorem nxtO_b {o : Nat → Nat} {m : Nat} (h : ∀ x, x < 6 → o x < 6) (hm : m ≤ 6) (hm2 : 2 ≤ m) : ∀ x, x < 6 → nxtO m o x < 6 := fun x hx => by
  have hp := pivN_le o (m - 2)
  have hs := swpN_le o (pivN o (m - 2)) (m - 1) (by omega)
  have hsw := orb h (i := pivN o (m - 2)) (j := swpN o (pivN o (m - 2)) (m - 1)) (by omega) (by omega)
  unfold nxtO
  split
  · exact hsw _ (by omega)
  · exact hsw x hx
theorem sumO_b {ch o : Nat → Nat} {m : Nat} (h : ∀ x, x < 6 → o x < 6) (hm : m ≤ 6) (hc : ∀ i, i < 36 → ch i ≤ 1000) : sumO ch o m ≤ 6000 := by
  unfold sumO
  have := sm_bound (f := fun i => ch (6 * o i + (if i + 1 < m then o (i + 1) else o 0))) (c := 1000) (n := m) (fun i hi => by
    refine hc _ ?_
    have h1 := h i (by omega)
    split
    · have := h (i + 1) (by omega); omega
    · have := h 0 (by omega); omega)
  omega
theorem c_X8_leastSum {h : List PC} {z s m : Nat} {o lt ch o0 : Nat → Nat} (hR : h[96]? = some (oRing z)) (hc : h[97]? = some (aR 6 (rowsAt 97 6))) (hch : ∀ a, a < 6 → Ar h (97 + 1 + a) 6 (fun b => ch (6 * a + b))) (hl : h[104]? = some (aI 6 lt)) (ho : h[105]? = some (aI 6 o)) (hs : s < 64) (hm : m = (gatN s o 6).1) (ho0 : o0 = (gatN s o 6).2) (hm0 : 0 < m) (hb : ∀ x, x < 6 → o x < 6) (hcb : ∀ i, i < 36 → ch i ≤ 1000) : Ct mX8_leastSum [.ref 96, .int (nI s)] h (fun r h' => r = some (.int (nI ((rsrch m ch 200 o0 (sumO ch o0 m, o0))).1)) ∧ h'[96]? = some (oRing m) ∧ Ar h' 104 6 (fun x => if x < m then ((rsrch m ch 200 o0 (sumO ch o0 m, o0))).2 x else lt x) ∧ (∃ o', h'[105]? = some (aI 6 o') ∧ ∀ x, x < 6 → o' x < 6) ∧ Fr (fun j => j = 96 ∨ j = 104 ∨ j = 105) h h') := by
  have hm6 : m ≤ 6 := by rw [hm]; exact gatN_le s o 6
  have hb0 : ∀ x, x < 6 → o0 x < 6 := by rw [ho0]; exact gatN_b hb 6 (Nat.le_refl _)
  refine ct_at (L := [_, _, _, _, _, _, _]) (by decide +kernel) rfl rfl (Nat.le_of_ble_eq_true rfl) ?_
  refine at_aload_n 1 dX8_leastSum_0 rfl rfl rfl ?_
  refine at_iload_n 2 dX8_leastSum_1 rfl rfl rfl ?_
  refine at_invV (ci := 8) 5 [_] _ (c_X8_gather hR ho hs) dX8_leastSum_2 rfl rfl (by assumption) rfl ml_X8_23 cl_X8_gather vl_X8_gather rfl (Nat.le_of_ble_eq_true rfl) ⟨by decide, by decide⟩ (by decide) (fun rr hh qq => ?_)
  obtain ⟨rfl, d5, dfr⟩ := qq
  rw [← ho0] at d5
  rw [← hm]
  have dR := dfr.at (k := 96) (by omega) hR
  have dc := dfr.at (k := 97) (by omega) hc
  have dl := dfr.at (k := 104) (by omega) hl
  refine at_istore_n (L' := [_, _, _, _, _, _, _]) 6 dX8_leastSum_5 rfl rfl (by decide) rfl rfl ?_
  refine at_aload_n 7 dX8_leastSum_6 rfl rfl rfl ?_
  refine at_iload_n 8 dX8_leastSum_7 rfl rfl rfl ?_
  refine at_invV (ci := 8) 11 [_] _ (c_X8_sumOfOrder dR dc (fun a ha => (hch a ha).fr dfr (by omega)) d5 hm6 hb0) dX8_leastSum_8 rfl rfl (by assumption) rfl ml_X8_27 cl_X8_sumOfOrder vl_X8_sumOfOrder rfl (Nat.le_of_ble_eq_true rfl) ⟨by decide, by decide⟩ (by decide) (fun rr hh qq => ?_)
  obtain ⟨rfl, hq2⟩ := qq
  rw [hq2]
  refine at_istore_n (L' := [_, _, _, _, _, _, _]) 12 dX8_leastSum_11 rfl rfl (by decide) rfl rfl ?_
  refine at_aload_n 13 dX8_leastSum_12 rfl rfl rfl ?_
  refine at_iload_n 14 dX8_leastSum_13 rfl rfl rfl ?_
  refine at_invV (ci := 8) 17 [_] _ (c_X8_keepOrder dR d5 dl hm6) dX8_leastSum_14 rfl rfl (by assumption) rfl ml_X8_30 cl_X8_keepOrder vl_X8_keepOrder rfl (Nat.le_of_ble_eq_true rfl) ⟨by decide, by decide⟩ (by decide) (fun rr hh qq => ?_)
  obtain ⟨rfl, eR, el, efr⟩ := qq
  have e5 := efr.at (k := 105) (by omega) d5
  refine at_aload_n 18 dX8_leastSum_17 rfl rfl rfl ?_
  refine at_iload_n 19 dX8_leastSum_18 rfl rfl rfl ?_
  have hfr0 : Fr (fun j => j = 96 ∨ j = 104 ∨ j = 105) h hh := (dfr.wk (P' := fun j => j = 96 ∨ j = 104 ∨ j = 105) (fun j hj => by omega)).tr efr (fun j hj => by omega)
  have done : ∀ (i mr : Nat) (a : Nat → Nat) (S : Nat × (Nat → Nat)) (h' : List PC), i ≤ 200 → (i = 200 ∨ mr = 0) → mr ≤ 1 → S = (rsrch m ch 200 o0 (sumO ch o0 m, o0)) → h'[96]? = some (oRing m) → Ar h' 104 6 (fun x => if x < m then S.2 x else lt x) → h'[105]? = some (aI 6 a) → (∀ x, x < 6 → a x < 6) → Fr (fun j => j = 96 ∨ j = 104 ∨ j = 105) h h' → At mX8_leastSum T0 27 [.ref 96, .int (nI s), .int (nI m), .int (nI S.1), .int (nI mr), .int (nI i), .null] [] h' 0 0 (ZM mX8_leastSum (fun r h' => r = some (.int (nI ((rsrch m ch 200 o0 (sumO ch o0 m, o0))).1)) ∧ h'[96]? = some (oRing m) ∧ Ar h' 104 6 (fun x => if x < m then ((rsrch m ch 200 o0 (sumO ch o0 m, o0))).2 x else lt x) ∧ (∃ o', h'[105]? = some (aI 6 o') ∧ ∀ x, x < 6 → o' x < 6) ∧ Fr (fun j => j = 96 ∨ j = 104 ∨ j = 105) h h')) := by
    intro i mr a S h' hi hor hmr hSR aR al a5 ha hfr
    have last : At mX8_leastSum T0 74 [.ref 96, .int (nI s), .int (nI m), .int (nI S.1), .int (nI mr), .int (nI i), .null] [] h' 0 0 (ZM mX8_leastSum (fun r h' => r = some (.int (nI ((rsrch m ch 200 o0 (sumO ch o0 m, o0))).1)) ∧ h'[96]? = some (oRing m) ∧ Ar h' 104 6 (fun x => if x < m then ((rsrch m ch 200 o0 (sumO ch o0 m, o0))).2 x else lt x) ∧ (∃ o', h'[105]? = some (aI 6 o') ∧ ∀ x, x < 6 → o' x < 6) ∧ Fr (fun j => j = 96 ∨ j = 104 ∨ j = 105) h h')) := by
      refine at_iload_n 75 dX8_leastSum_74 rfl rfl rfl ?_
      refine at_iret dX8_leastSum_75 rfl (by decide) (by decide) ?_
      rw [← hSR]
      exact ⟨rfl, aR, al, ⟨a, a5, ha⟩, hfr⟩
    refine at_iload 29 dX8_leastSum_27 rfl rfl ?_
    refine at_sipush 32 (nI 200) dX8_leastSum_29 rfl (by decide) ?_
    refine at_icmp_geN 74 35 dX8_leastSum_32 rfl rfl (by omega) (by omega) (fun cc => ?_) (fun cc => ?_)
    · exact last
    refine at_iload 37 dX8_leastSum_35 rfl rfl ?_
    refine at_if_eqN 74 40 dX8_leastSum_37 rfl rfl (by omega) (fun cc => ?_) (fun cc => ?_)
    · exact last
    · omega
  have main : ∀ (k i : Nat) (a tr : Nat → Nat) (S : Nat × (Nat → Nat)) (h' : List PC), i + k = 200 → (∀ x, x < 6 → a x = (if pivN tr (m - 2) = 0 then tr else nxtO m tr) x) → (∀ x, x < 6 → tr x < 6) → rsrch m ch k tr S = (rsrch m ch 200 o0 (sumO ch o0 m, o0)) → S.1 < 2 ^ 31 → h'[96]? = some (oRing m) → Ar h' 104 6 (fun x => if x < m then S.2 x else lt x) → h'[105]? = some (aI 6 a) → Fr (fun j => j = 96 ∨ j = 104 ∨ j = 105) h h' → At mX8_leastSum T0 27 [.ref 96, .int (nI s), .int (nI m), .int (nI S.1), .int (bI (decide (pivN tr (m - 2) ≠ 0))), .int (nI i), .null] [] h' 0 0 (ZM mX8_leastSum (fun r h' => r = some (.int (nI ((rsrch m ch 200 o0 (sumO ch o0 m, o0))).1)) ∧ h'[96]? = some (oRing m) ∧ Ar h' 104 6 (fun x => if x < m then ((rsrch m ch 200 o0 (sumO ch o0 m, o0))).2 x else lt x) ∧ (∃ o', h'[105]? = some (aI 6 o') ∧ ∀ x, x < 6 → o' x < 6) ∧ Fr (fun j => j = 96 ∨ j = 104 ∨ j = 105) h h')) := by
    intro k
    induction k with
    | zero =>
      intro i a tr S h' hi ha htr hsr hS1 aR al a5 hfr
      have hab : ∀ x, x < 6 → a x < 6 := fun x hx => by
        rw [ha x hx]
        split
        · exact htr x hx
        · have hpl := pivN_le tr (m - 2)
          exact nxtO_b htr hm6 (by omega) x hx
      by_cases eg : pivN tr (m - 2) = 0
      · rw [show bI (decide (pivN tr (m - 2) ≠ 0)) = nI 0 by rw [decide_eq_false (fun q => q eg)]; rfl]
        exact done i 0 a S h' (by omega) (Or.inr rfl) (by decide) hsr aR al a5 hab hfr
      · rw [show bI (decide (pivN tr (m - 2) ≠ 0)) = nI 1 by rw [decide_eq_true eg]; rfl]
        exact done i 1 a S h' (by omega) (Or.inl (by omega)) (by decide) hsr aR al a5 hab hfr
    | succ k ih =>
      intro i a tr S h' hi ha htr hsr hS1 aR al a5 hfr
      have hsr2 : rsrch m ch (k + 1) tr S = if pivN tr (m - 2) = 0 then S else rsrch m ch k (nxtO m tr) (if sumO ch (nxtO m tr) m < S.1 then (sumO ch (nxtO m tr) m, nxtO m tr) else S) := rfl
      rw [hsr2] at hsr
      by_cases eg : pivN tr (m - 2) = 0
      · rw [show bI (decide (pivN tr (m - 2) ≠ 0)) = nI 0 by rw [decide_eq_false (fun q => q eg)]; rfl]
        rw [if_pos eg] at hsr
        exact done i 0 a S h' (by omega) (Or.inr rfl) (by decide) hsr aR al a5 (fun x hx => by rw [ha x hx, if_pos eg]; exact htr x hx) hfr
      · rw [show bI (decide (pivN tr (m - 2) ≠ 0)) = nI 1 by rw [decide_eq_true eg]; rfl]
        rw [if_neg eg] at hsr
        have hpl := pivN_le tr (m - 2)
        have hnb := nxtO_b htr hm6 (by omega)
        have ha2 : ∀ x, x < 6 → a x = nxtO m tr x := fun x hx => by rw [ha x hx, if_neg eg]
        have hab : ∀ x, x < 6 → a x < 6 := fun x hx => by rw [ha2 x hx]; exact hnb x hx
        have ac := hfr.at (k := 97) (by omega) hc
        have hsb := sumO_b hnb hm6 hcb
        have hpa : pivN a (m - 2) = pivN (nxtO m tr) (m - 2) := pivN_congr (fun j hj => ha2 j (by omega))
        refine at_iload 29 dX8_leastSum_27 rfl rfl ?_
        refine at_sipush 32 (nI 200) dX8_leastSum_29 rfl (by decide) ?_
        refine at_icmp_geN 74 35 dX8_leastSum_32 rfl rfl (by omega) (by omega) (fun cc => ?_) (fun cc => ?_)
        · omega
        refine at_iload 37 dX8_leastSum_35 rfl rfl ?_
        refine at_if_eqN 74 40 dX8_leastSum_37 rfl rfl (by omega) (fun cc => ?_) (fun cc => ?_)
        · omega
        refine at_aload_n 41 dX8_leastSum_40 rfl rfl rfl ?_
        refine at_iload_n 42 dX8_leastSum_41 rfl rfl rfl ?_
        refine at_invV (ci := 8) 45 [_] _ (c_X8_sumOfOrder aR ac (fun a ha => (hch a ha).fr hfr (by omega)) a5 hm6 hab) dX8_leastSum_42 rfl rfl (by assumption) rfl ml_X8_27 cl_X8_sumOfOrder vl_X8_sumOfOrder rfl (Nat.le_of_ble_eq_true rfl) ⟨by decide, by decide⟩ (by decide) (fun rr hh qq => ?_)
        obtain ⟨rfl, hq2⟩ := qq
        rw [hq2, sumO_congr (b := nxtO m tr) (fun x hx => ha2 x (by omega))]
        have tail : ∀ (S' : Nat × (Nat → Nat)) (x6 : Nat) (h2 : List PC), rsrch m ch k (nxtO m tr) S' = (rsrch m ch 200 o0 (sumO ch o0 m, o0)) → S'.1 < 2 ^ 31 → h2[96]? = some (oRing m) → Ar h2 104 6 (fun x => if x < m then S'.2 x else lt x) → h2[105]? = some (aI 6 a) → Fr (fun j => j = 96 ∨ j = 104 ∨ j = 105) h h2 → At mX8_leastSum T0 61 [.ref 96, .int (nI s), .int (nI m), .int (nI S'.1), .int (nI 1), .int (nI i), .int (nI x6)] [] h2 0 0 (ZM mX8_leastSum (fun r h' => r = some (.int (nI ((rsrch m ch 200 o0 (sumO ch o0 m, o0))).1)) ∧ h'[96]? = some (oRing m) ∧ Ar h' 104 6 (fun x => if x < m then ((rsrch m ch 200 o0 (sumO ch o0 m, o0))).2 x else lt x) ∧ (∃ o', h'[105]? = some (aI 6 o') ∧ ∀ x, x < 6 → o' x < 6) ∧ Fr (fun j => j = 96 ∨ j = 104 ∨ j = 105) h h')) := by
          intro S' x6 h2 hsr' hS' bR bl b5 bfr
          refine at_aload_n 62 dX8_leastSum_61 rfl rfl rfl ?_
          refine at_iload_n 63 dX8_leastSum_62 rfl rfl rfl ?_
          refine at_invV (ci := 8) 66 [_] _ (c_X8_advance bR b5 hm6 hm0 hab) dX8_leastSum_63 rfl rfl (by assumption) rfl ml_X8_34 cl_X8_advance vl_X8_advance rfl (Nat.le_of_ble_eq_true rfl) ⟨by decide, by decide⟩ (by decide) (fun rr hh qq => ?_)
          obtain ⟨rfl, ⟨a2, k5, e5⟩, cfr⟩ := qq
          rw [hpa] at e5 ⊢
          refine at_istore (L' := [_, _, _, _, _, _, _]) 68 dX8_leastSum_66 rfl (by decide) rfl rfl ?_
          refine at_iincN (q := 1) (L' := [_, _, _, _, _, _, _]) 71 dX8_leastSum_68 rfl (by decide) rfl (by decide) rfl rfl ?_
          refine at_goto 27 dX8_leastSum_71 rfl ?_
          refine at_drop (L' := [_, _, _, _, _, _, _]) 6 rfl ?_
          refine ih (i + 1) a2 (nxtO m tr) S' hh (by omega) (fun x hx => ?_) hnb hsr' hS' (cfr.at (k := 96) (by omega) bR) (bl.fr cfr (by omega)) k5 (bfr.tr cfr (fun j hj => by omega))
          rw [e5 x hx]
          by_cases e : pivN (nxtO m tr) (m - 2) = 0
          · rw [if_pos e, if_pos e]; exact ha2 x hx
          · rw [if_neg e, if_neg e]
            by_cases ex : x < m
            · exact nxtO_congr (fun x hx => ha2 x (by omega)) (by omega) x ex
            · unfold nxtO
              rw [if_neg (by omega), if_neg (by omega)]
              have hpl2 := pivN_le (nxtO m tr) (m - 2)
              have hsw2 := swpN_le (nxtO m tr) (pivN (nxtO m tr) (m - 2)) (m - 1) (by omega)
              rw [show pivN a (m - 2) = pivN (nxtO m tr) (m - 2) from hpa]
              have hse : swpN a (pivN (nxtO m tr) (m - 2)) (m - 1) = swpN (nxtO m tr) (pivN (nxtO m tr) (m - 2)) (m - 1) := swpN_congr (fun j hj => ha2 j (by omega)) (by omega)
              rw [hse]
              exact swapF_congr (m := 6) ha2 (by omega) (by omega) x hx
        refine at_istore (L' := [_, _, _, _, _, _, _]) 47 dX8_leastSum_45 rfl (by decide) rfl rfl ?_
        refine at_iload 49 dX8_leastSum_47 rfl rfl ?_
        refine at_iload_n 50 dX8_leastSum_49 rfl rfl rfl ?_
        refine at_icmp_geN 61 53 dX8_leastSum_50 rfl rfl (by omega) (by omega) (fun cc => ?_) (fun cc => ?_)
        · rw [if_neg (by omega)] at hsr
          exact tail S _ h' hsr hS1 aR al a5 hfr
        · rw [if_pos cc] at hsr
          refine at_iload 55 dX8_leastSum_53 rfl rfl ?_
          refine at_istore_n (L' := [_, _, _, _, _, _, _]) 56 dX8_leastSum_55 rfl rfl (by decide) rfl rfl ?_
          refine at_aload_n 57 dX8_leastSum_56 rfl rfl rfl ?_
          refine at_iload_n 58 dX8_leastSum_57 rfl rfl rfl ?_
          obtain ⟨lt2, kl2, el2⟩ := al
          refine at_invV (ci := 8) 61 [_] _ (c_X8_keepOrder aR a5 kl2 hm6) dX8_leastSum_58 rfl rfl (by assumption) rfl ml_X8_30 cl_X8_keepOrder vl_X8_keepOrder rfl (Nat.le_of_ble_eq_true rfl) ⟨by decide, by decide⟩ (by decide) (fun rr hh qq => ?_)
          obtain ⟨rfl, bR, bl, bfr⟩ := qq
          refine tail (sumO ch (nxtO m tr) m, nxtO m tr) _ hh hsr (by show sumO _ _ _ < _; omega) bR (bl.cg (fun x hx => ?_)) (bfr.at (k := 105) (by omega) a5) (hfr.tr bfr (fun j hj => by omega))
          dsimp only
          by_cases e : x < m
          · rw [if_pos e, if_pos e]; exact ha2 x hx
          · rw [if_neg e, if_neg e, el2 x hx]; dsimp only; rw [if_neg e]
  refine at_invV (ci := 8) 22 [_] _ (c_X8_advance eR e5 hm6 hm0 hb0) dX8_leastSum_19 rfl rfl (by assumption) rfl ml_X8_34 cl_X8_advance vl_X8_advance rfl (Nat.le_of_ble_eq_true rfl) ⟨by decide, by decide⟩ (by decide) (fun rr hh qq => ?_)
  obtain ⟨rfl, ⟨a, k5, ea5⟩, gfr⟩ := qq
  refine at_istore (L' := [_, _, _, _, _, _, _]) 24 dX8_leastSum_22 rfl (by decide) rfl rfl ?_
  refine at_iconst 25 (nI 0) dX8_leastSum_24 rfl (by decide) ?_
  refine at_istore (L' := [_, _, _, _, _, _, _]) 27 dX8_leastSum_25 rfl (by decide) rfl rfl ?_
  exact main 200 0 a o0 (sumO ch o0 m, o0) _ (by omega) ea5 hb0 rfl (by show sumO _ _ _ < _; have := sumO_b hb0 hm6 hcb; omega) (gfr.at (k := 96) (by omega) eR) (el.fr gfr (by omega)) k5 (hfr0.tr gfr (fun j hj => by omega))

