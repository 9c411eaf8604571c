/-- the last place below k that isn't 0, and 1; 0: none -/
def giverN (tr : Nat → Nat) : Nat → Nat
  | 0 => 0
  | k + 1 => if tr k = 0 then giverN tr k else k + 1
theorem giverN_spec (tr : Nat → Nat) : ∀ k, giverN tr k ≤ k ∧ (∀ j, giverN tr k ≤ j → j < k → tr j = 0) ∧ (0 < giverN tr k → tr (giverN tr k - 1) ≠ 0)
  | 0 => ⟨Nat.le_refl _, fun j _ h => absurd h (Nat.not_lt_zero _), fun h => absurd h (Nat.lt_irrefl _)⟩
  | k + 1 => by
    unfold giverN
    obtain ⟨h1, h2, h3⟩ := giverN_spec tr k
    by_cases e : tr k = 0
    · rw [if_pos e]
      refine ⟨by omega, fun j hj hk => ?_, h3⟩
      by_cases q : j = k
      · rw [q]; exact e
      · exact h2 j hj (by omega)
    · rw [if_neg e]
      exact ⟨Nat.le_refl _, fun j hj hk => by omega, fun _ => e⟩
theorem giverN_congr {a b : Nat → Nat} : ∀ {k : Nat}, (∀ j, j < k → a j = b j) → giverN a k = giverN b k
  | 0, _ => rfl
  | k + 1, h => by
    unfold giverN
    rw [h k (by omega), giverN_congr (fun j hj => h j (by omega))]
def nxtT (n : Nat) (tr : Nat → Nat) : Nat → Nat := updN (updN (updN tr (n - 1) 0) (giverN tr (n - 1) - 1) (tr (giverN tr (n - 1) - 1) - 100)) (giverN tr (n - 1)) (tr (n - 1) + 100)
def tIv (n : Nat) (tr : Nat → Nat) : Prop := (∀ f, f < n → tr f % 100 = 0) ∧ sm tr n = 1000 ∧ ∀ f, n ≤ f → f < 8 → tr f = 0
theorem nxtT_iv {n : Nat} {tr : Nat → Nat} (h : tIv n tr) (hg : 0 < giverN tr (n - 1)) : tIv n (nxtT n tr) := by
  obtain ⟨h1, h2, h3⟩ := giverN_spec tr (n - 1)
  obtain ⟨i1, i2, i3⟩ := h
  have h3' := h3 hg
  have hgm := i1 (giverN tr (n - 1) - 1) (by omega)
  have hlm := i1 (n - 1) (by omega)
  have hnx : nxtT n tr = updN (updN (updN tr (n - 1) 0) (giverN tr (n - 1) - 1) (tr (giverN tr (n - 1) - 1) - 100)) (giverN tr (n - 1)) (tr (n - 1) + 100) := rfl
  have hz := h2 (giverN tr (n - 1)) (Nat.le_refl _)
  generalize giverN tr (n - 1) = G at *
  have s1 := sm_updN tr (n - 1) 0 (n := n) (by omega)
  have s2 := sm_updN (updN tr (n - 1) 0) (G - 1) (tr (G - 1) - 100) (n := n) (by omega)
  have s3 := sm_updN (updN (updN tr (n - 1) 0) (G - 1) (tr (G - 1) - 100)) G (tr (n - 1) + 100) (n := n) (by omega)
  rw [updN_n _ _ (show G - 1 ≠ n - 1 by omega)] at s2
  rw [updN_n _ _ (show G ≠ G - 1 by omega)] at s3
  have hG0 : updN tr (n - 1) 0 G = 0 := by
    by_cases e : G = n - 1
    · rw [e, updN_s]
    · rw [updN_n _ _ e]; exact hz (by omega)
  rw [hG0] at s3
  refine ⟨fun f hf => ?_, ?_, fun f hf hf2 => ?_⟩
  · rw [hnx]
    by_cases e1 : f = G
    · rw [e1, updN_s]; omega
    · rw [updN_n _ _ e1]
      by_cases e2 : f = G - 1
      · rw [e2, updN_s]; omega
      · rw [updN_n _ _ e2]
        by_cases e3 : f = n - 1
        · rw [e3, updN_s]
        · rw [updN_n _ _ e3]; exact i1 f hf
  · rw [hnx]
    omega
  · rw [hnx, updN_n _ _ (by omega), updN_n _ _ (by omega), updN_n _ _ (by omega)]
    exact i3 f hf hf2
def costT (pr tr : Nat → Nat) (n : Nat) : Nat := sm (fun f => tr f * pr f) n
theorem costT_congr {pr a b : Nat → Nat} {n : Nat} (h : ∀ j, j < n → a j = b j) : costT pr a n = costT pr b n := sm_congr (fun f hf => by rw [h f hf])
theorem sureB_congr {le mo mk db a b : Nat → Nat} {n c : Nat} (h : ∀ j, j < n → a j = b j) : sureB le mo mk db a n c = sureB le mo mk db b n c := by
  unfold sureB
  have e1 : ∀ t, lowS mk db a n t = lowS mk db b n t := fun t => sm_congr (fun f hf => by rw [h f hf])
  have e2 : ∀ t, highS mk db a n t = highS mk db b n t := fun t => sm_congr (fun f hf => by rw [h f hf])
  exact allB_congr (fun t _ => by rw [e1, e2])
abbrev SS : Type := Nat × Nat × (Nat → Nat)
def stpS (sure : (Nat → Nat) → Bool) (cost : (Nat → Nat) → Nat) (S : SS) (tr : Nat → Nat) : SS := if (S.1 = 0 ∨ cost tr < S.2.1) ∧ sure tr = true then (1, cost tr, tr) else S
def srch (n : Nat) (sure : (Nat → Nat) → Bool) (cost : (Nat → Nat) → Nat) : Nat → (Nat → Nat) → SS → SS
  | 0, _, S => S
  | k + 1, tr, S => if giverN tr (n - 1) = 0 then stpS sure cost S tr else srch n sure cost k (nxtT n tr) (stpS sure cost S tr)
theorem tIv_le {n : Nat} {tr : Nat → Nat} (h : tIv n tr) : ∀ f, f < 8 → tr f ≤ 1000 := fun f hf => by
  by_cases e : f < n
  · have := sm_el tr e
    have := h.2.1
    omega
  · rw [h.2.2 f (by omega) hf]; omega
theorem c_X7_costOfTrial {h : List PC} {n bc : Nat} {pr tr : Nat → Nat} (hS : h[36]? = some (oSearch bc)) (hF : h[4]? = some (oFeeds n)) (hp : h[16]? = some (aI 8 pr)) (ht : h[37]? = some (aI 8 tr)) (hn : n ≤ 8) : Ct mX7_costOfTrial [.ref 36] h (fun r h' => r = some (.int (nI (costT pr tr n))) ∧ h' = h) := by
  refine ct_at (L := [_, _, _]) (by decide +kernel) rfl rfl (Nat.le_of_ble_eq_true rfl) ?_
  refine at_iconst 1 (nI 0) dX7_costOfTrial_0 rfl (by decide) ?_
  refine at_istore_n (L' := [_, _, _]) 2 dX7_costOfTrial_1 rfl rfl (by decide) rfl rfl ?_
  refine at_iconst 3 (nI 0) dX7_costOfTrial_2 rfl (by decide) ?_
  refine at_istore_n (L' := [_, _, _]) 4 dX7_costOfTrial_3 rfl rfl (by decide) rfl rfl ?_
  have loop : ∀ (d i : Nat), i + d = n → At mX7_costOfTrial T0 4 [.ref 36, .int (nI (costT pr tr i)), .int (nI i)] [] h 0 0 (ZM mX7_costOfTrial (fun r h' => r = some (.int (nI (costT pr tr n))) ∧ h' = h)) := by
    intro d
    induction d with
    | zero =>
      intro i hi
      refine at_iload_n 5 dX7_costOfTrial_4 rfl rfl rfl ?_
      refine at_aload_n 6 dX7_costOfTrial_5 rfl rfl rfl ?_
      refine at_g 9 dX7_costOfTrial_6 rfl fl_X7_18 ⟨_, by assumption, ?_⟩
      refine ⟨_, rfl, ?_⟩
      refine at_g 12 dX7_costOfTrial_9 rfl fl_X7_26 ⟨_, by assumption, ?_⟩
      refine ⟨_, rfl, ?_⟩
      refine at_icmp_geN 40 15 dX7_costOfTrial_12 rfl rfl (by omega) (by omega) (fun cc => ?_) (fun cc => ?_)
      rotate_left
      · omega
      rw [show i = n by omega]
      refine at_iload_n 41 dX7_costOfTrial_40 rfl rfl rfl ?_
      refine at_iret dX7_costOfTrial_41 rfl (by decide) (by decide) ?_
      exact ⟨rfl, rfl⟩
    | succ d ih =>
      intro i hi
      refine at_iload_n 5 dX7_costOfTrial_4 rfl rfl rfl ?_
      refine at_aload_n 6 dX7_costOfTrial_5 rfl rfl rfl ?_
      refine at_g 9 dX7_costOfTrial_6 rfl fl_X7_18 ⟨_, by assumption, ?_⟩
      refine ⟨_, rfl, ?_⟩
      refine at_g 12 dX7_costOfTrial_9 rfl fl_X7_26 ⟨_, by assumption, ?_⟩
      refine ⟨_, rfl, ?_⟩
      refine at_icmp_geN 40 15 dX7_costOfTrial_12 rfl rfl (by omega) (by omega) (fun cc => ?_) (fun cc => ?_)
      · omega
      refine at_iload_n 16 dX7_costOfTrial_15 rfl rfl rfl ?_
      refine at_aload_n 17 dX7_costOfTrial_16 rfl rfl rfl ?_
      refine at_g 20 dX7_costOfTrial_17 rfl fl_X7_9 ⟨_, by assumption, ?_⟩
      refine ⟨_, rfl, ?_⟩
      refine at_iload_n 21 dX7_costOfTrial_20 rfl rfl rfl ?_
      first | refine at_ia 22 dX7_costOfTrial_21 rfl ⟨_, _, by assumption, by omega, by first | decide | omega, ?_⟩ | refine at_iaG 22 dX7_costOfTrial_21 rfl ⟨_, _, by assumption, by omega, by first | decide | omega, ?_⟩
      refine at_aload_n 23 dX7_costOfTrial_22 rfl rfl rfl ?_
      refine at_g 26 dX7_costOfTrial_23 rfl fl_X7_18 ⟨_, by assumption, ?_⟩
      refine ⟨_, rfl, ?_⟩
      refine at_g 29 dX7_costOfTrial_26 rfl fl_X7_53 ⟨_, by assumption, ?_⟩
      refine ⟨_, rfl, ?_⟩
      refine at_iload_n 30 dX7_costOfTrial_29 rfl rfl rfl ?_
      first | refine at_ia 31 dX7_costOfTrial_30 rfl ⟨_, _, by assumption, by omega, by first | decide | omega, ?_⟩ | refine at_iaG 31 dX7_costOfTrial_30 rfl ⟨_, _, by assumption, by omega, by first | decide | omega, ?_⟩
      first | refine at_imulN 32 dX7_costOfTrial_31 rfl ?_ | refine at_imul 32 dX7_costOfTrial_31 rfl ?_
      first | refine at_iaddN 33 dX7_costOfTrial_32 rfl ?_ | refine at_iadd 33 dX7_costOfTrial_32 rfl ?_
      refine at_istore_n (L' := [_, _, _]) 34 dX7_costOfTrial_33 rfl rfl (by decide) rfl rfl ?_
      refine at_iincN (q := 1) (L' := [_, _, _]) 37 dX7_costOfTrial_34 rfl (by decide) rfl (by decide) rfl rfl ?_
      refine at_goto 4 dX7_costOfTrial_37 rfl ?_
      exact ih (i + 1) (by omega)
  exact loop n 0 (by omega)
theorem c_X7_keepTrial {h : List PC} {bc c : Nat} {tr bs : Nat → Nat} (hS : h[36]? = some (oSearch bc)) (ht : h[37]? = some (aI 8 tr)) (hb : h[38]? = some (aI 8 bs)) : Ct mX7_keepTrial [.ref 36, .int (nI c)] h (fun r h' => r = none ∧ h'[36]? = some (oSearch c) ∧ Ar h' 38 8 tr ∧ Fr (fun j => j = 36 ∨ j = 38) h h') := by
  refine ct_at (L := [_, _, _]) (by decide +kernel) rfl rfl (Nat.le_of_ble_eq_true rfl) ?_
  have hfr : Fr (fun j => j = 36 ∨ j = 38) h h := Fr.rf
  refine at_aload_n 1 dX7_keepTrial_0 rfl rfl rfl ?_
  refine at_iload_n 2 dX7_keepTrial_1 rfl rfl rfl ?_
  refine at_pi 5 dX7_keepTrial_2 rfl pl_X7_36 (rfl) (rfl) ⟨_, by assumption, ?_⟩
  refine ⟨(Nat.le_of_ble_eq_true rfl), [_, _, _, _, _], rfl, fun hh1 nn1 => ?_⟩
  replace hS := nn1.1
  replace ht := nn1.o (by first | decide | omega | assumption) ht
  replace hb := nn1.o (by first | decide | omega | assumption) hb
  replace hfr := hfr.nw nn1 (by first | (dsimp only; omega) | (dsimp only; done) | simp)
  clear nn1
  refine at_iconst 6 (nI 0) dX7_keepTrial_5 rfl (by decide) ?_
  refine at_istore_n (L' := [_, _, _]) 7 dX7_keepTrial_6 rfl rfl (by decide) rfl rfl ?_
  have loop : ∀ (d i : Nat) (bs : Nat → Nat) (h' : List PC), i + d = 8 → h'[36]? = some (oSearch c) → h'[37]? = some (aI 8 tr) → h'[38]? = some (aI 8 bs) → (∀ j, j < i → bs j = tr j) → Fr (fun j => j = 36 ∨ j = 38) h h' → At mX7_keepTrial T0 7 [.ref 36, .int (nI c), .int (nI i)] [] h' 0 0 (ZM mX7_keepTrial (fun r h' => r = none ∧ h'[36]? = some (oSearch c) ∧ Ar h' 38 8 tr ∧ Fr (fun j => j = 36 ∨ j = 38) h h')) := by
    intro d
    induction d with
    | zero =>
      intro i bs h' hi hS ht hb eb hfr
      refine at_iload_n 8 dX7_keepTrial_7 rfl rfl rfl ?_
      refine at_bipush 10 (nI 8) dX7_keepTrial_8 rfl (by decide) ?_
      refine at_icmp_geN 31 13 dX7_keepTrial_10 rfl rfl (by omega) (by omega) (fun cc => ?_) (fun cc => ?_)
      rotate_left
      · omega
      refine at_vret dX7_keepTrial_31 rfl (by decide) (by decide) ?_
      exact ⟨rfl, hS, ⟨bs, hb, fun j hj => eb j (by omega)⟩, hfr⟩
    | succ d ih =>
      intro i bs h' hi hS ht hb eb hfr
      refine at_iload_n 8 dX7_keepTrial_7 rfl rfl rfl ?_
      refine at_bipush 10 (nI 8) dX7_keepTrial_8 rfl (by decide) ?_
      refine at_icmp_geN 31 13 dX7_keepTrial_10 rfl rfl (by omega) (by omega) (fun cc => ?_) (fun cc => ?_)
      · omega
      refine at_aload_n 14 dX7_keepTrial_13 rfl rfl rfl ?_
      refine at_g 17 dX7_keepTrial_14 rfl fl_X7_15 ⟨_, by assumption, ?_⟩
      refine ⟨_, rfl, ?_⟩
      refine at_iload_n 18 dX7_keepTrial_17 rfl rfl rfl ?_
      refine at_aload_n 19 dX7_keepTrial_18 rfl rfl rfl ?_
      refine at_g 22 dX7_keepTrial_19 rfl fl_X7_9 ⟨_, by assumption, ?_⟩
      refine ⟨_, rfl, ?_⟩
      refine at_iload_n 23 dX7_keepTrial_22 rfl rfl rfl ?_
      first | refine at_ia 24 dX7_keepTrial_23 rfl ⟨_, _, by assumption, by omega, by first | decide | omega, ?_⟩ | refine at_iaG 24 dX7_keepTrial_23 rfl ⟨_, _, by assumption, by omega, by first | decide | omega, ?_⟩
      first | refine at_is 25 dX7_keepTrial_24 rfl ⟨_, _, by assumption, by omega, by first | decide | omega, fun hh2 nn2 => ?_⟩ | refine at_isG 25 dX7_keepTrial_24 rfl ⟨_, _, by assumption, by omega, by first | decide | omega, fun hh2 nn2 => ?_⟩
      replace hS := nn2.o (by first | decide | omega | assumption) hS
      replace ht := nn2.o (by first | decide | omega | assumption) ht
      replace hb := nn2.1
      replace hfr := hfr.nw nn2 (by first | (dsimp only; omega) | (dsimp only; done) | simp)
      clear nn2
      refine at_iincN (q := 1) (L' := [_, _, _]) 28 dX7_keepTrial_25 rfl (by decide) rfl (by decide) rfl rfl ?_
      refine at_goto 7 dX7_keepTrial_28 rfl ?_
      refine ih (i + 1) _ _ (by omega) hS ht hb (fun j hj => ?_) hfr
      by_cases e : j = i
      · subst e; rw [updN_s]
      · rw [updN_n _ _ e]; exact eb j (by omega)
  exact loop 8 0 bs _ (by omega) hS ht hb (fun j hj => by omega) hfr
theorem nIm1 (j : Nat) : nI j + Int32.ofInt (-1) = nI j - 1 := by
  rw [show Int32.ofInt (-1) = -1 by decide, Int32.sub_eq_add_neg]
theorem nIp_neg (k : Nat) (hk : k < 2 ^ 30) : (nI k - 1 < 0) ↔ k = 0 := by
  rcases Nat.eq_zero_or_pos k with q | q
  · subst q; exact ⟨fun _ => rfl, fun _ => by decide⟩
  · obtain ⟨j, rfl⟩ : ∃ j, k = j + 1 := ⟨k - 1, by omega⟩
    rw [nI_pred]
    exact ⟨fun e => absurd e (nI_pos (by omega)), fun e => by omega⟩
theorem c_X7_advance {h : List PC} {bc n : Nat} {tr : Nat → Nat} (hS : h[36]? = some (oSearch bc)) (hF : h[4]? = some (oFeeds n)) (ht : h[37]? = some (aI 8 tr)) (hn : n ≤ 8) (hn0 : 0 < n) (htr : ∀ f, f < 8 → tr f ≤ 1000) (hmod : ∀ f, f < n → tr f % 100 = 0) : Ct mX7_advance [.ref 36] h (fun r h' => r = some (.int (bI (decide (giverN tr (n - 1) ≠ 0)))) ∧ h'[37]? = some (aI 8 (if giverN tr (n - 1) = 0 then tr else nxtT n tr)) ∧ Fr (fun j => j = 37) h h') := by
  obtain ⟨g1, g2, g3⟩ := giverN_spec tr (n - 1)
  refine ct_at (L := [_, _, _, _]) (by decide +kernel) rfl rfl (Nat.le_of_ble_eq_true rfl) ?_
  refine at_aload_n 1 dX7_advance_0 rfl rfl rfl ?_
  refine at_g 4 dX7_advance_1 rfl fl_X7_18 ⟨_, by assumption, ?_⟩
  refine ⟨_, rfl, ?_⟩
  refine at_g 7 dX7_advance_4 rfl fl_X7_26 ⟨_, by assumption, ?_⟩
  refine ⟨_, rfl, ?_⟩
  refine at_iconst 8 (nI 1) dX7_advance_7 rfl (by decide) ?_
  first | refine at_isubN 9 dX7_advance_8 rfl (by omega) ?_ | refine at_isub 9 dX7_advance_8 rfl ?_
  refine at_istore_n (L' := [_, _, _, _]) 10 dX7_advance_9 rfl rfl (by decide) rfl rfl ?_
  refine at_iload_n 11 dX7_advance_10 rfl rfl rfl ?_
  refine at_iconst 12 (nI 1) dX7_advance_11 rfl (by decide) ?_
  have e0 : nI (n - 1) - nI 1 = nI (n - 1) - 1 := rfl
  refine at_isub 13 dX7_advance_12 rfl ?_
  rw [e0]
  refine at_istore_n (L' := [_, _, _, _]) 14 dX7_advance_13 rfl rfl (by decide) rfl rfl ?_
  have fin : ∀ k, k ≤ n - 1 → giverN tr (n - 1) = giverN tr k → (k = 0 ∨ tr (k - 1) ≠ 0) → At mX7_advance T0 33 [.ref 36, .int (nI (n - 1)), .int (nI k - 1), .null] [] h 0 0 (ZM mX7_advance (fun r h' => r = some (.int (bI (decide (giverN tr (n - 1) ≠ 0)))) ∧ h'[37]? = some (aI 8 (if giverN tr (n - 1) = 0 then tr else nxtT n tr)) ∧ Fr (fun j => j = 37) h h')) := by
    intro k hk hgk hk0
    have hgk2 : giverN tr (n - 1) = k := by
      rw [hgk]
      cases k with
      | zero => rfl
      | succ k =>
        unfold giverN
        rw [if_neg (by rcases hk0 with q | q; omega; exact q)]
    refine at_iload_n 34 dX7_advance_33 rfl rfl rfl ?_
    refine at_if_ge 39 37 dX7_advance_34 rfl rfl (fun cc => ?_) (fun cc => ?_)
    · have hkp : 0 < k := by
        rcases Nat.eq_zero_or_pos k with q | q
        · subst q; exact absurd cc (by decide)
        · exact q
      obtain ⟨j, rfl⟩ : ∃ j, k = j + 1 := ⟨k - 1, by omega⟩
      rw [nI_pred]
      have hfr : Fr (fun j => j = 37) h h := Fr.rf
      have hj0 : tr j ≠ 0 := by
        rcases hk0 with q | q
        · omega
        · exact q
      have hjm := hmod j (by omega)
      refine at_aload_n 40 dX7_advance_39 rfl rfl rfl ?_
      refine at_g 43 dX7_advance_40 rfl fl_X7_9 ⟨_, by assumption, ?_⟩
      refine ⟨_, rfl, ?_⟩
      refine at_iload_n 44 dX7_advance_43 rfl rfl rfl ?_
      first | refine at_ia 45 dX7_advance_44 rfl ⟨_, _, by assumption, by omega, by first | decide | omega, ?_⟩ | refine at_iaG 45 dX7_advance_44 rfl ⟨_, _, by assumption, by omega, by first | decide | omega, ?_⟩
      refine at_istore_n (L' := [_, _, _, _]) 46 dX7_advance_45 rfl rfl (by decide) rfl rfl ?_
      refine at_aload_n 47 dX7_advance_46 rfl rfl rfl ?_
      refine at_g 50 dX7_advance_47 rfl fl_X7_9 ⟨_, by assumption, ?_⟩
      refine ⟨_, rfl, ?_⟩
      refine at_iload_n 51 dX7_advance_50 rfl rfl rfl ?_
      refine at_iconst 52 (nI 0) dX7_advance_51 rfl (by decide) ?_
      first | refine at_is 53 dX7_advance_52 rfl ⟨_, _, by assumption, by omega, by first | decide | omega, fun hh3 nn3 => ?_⟩ | refine at_isG 53 dX7_advance_52 rfl ⟨_, _, by assumption, by omega, by first | decide | omega, fun hh3 nn3 => ?_⟩
      replace hS := nn3.o (by first | decide | omega | assumption) hS
      replace ht := nn3.1
      replace hfr := hfr.nw nn3 (by first | (dsimp only; omega) | (dsimp only; done) | simp)
      clear nn3
      refine at_aload_n 54 dX7_advance_53 rfl rfl rfl ?_
      refine at_g 57 dX7_advance_54 rfl fl_X7_9 ⟨_, by assumption, ?_⟩
      refine ⟨_, rfl, ?_⟩
      refine at_iload_n 58 dX7_advance_57 rfl rfl rfl ?_
      refine at_dup2 59 dX7_advance_58 rfl rfl rfl ?_
      first | refine at_ia 60 dX7_advance_59 rfl ⟨_, _, by assumption, by omega, by first | decide | omega, ?_⟩ | refine at_iaG 60 dX7_advance_59 rfl ⟨_, _, by assumption, by omega, by first | decide | omega, ?_⟩
      rw [updN_n _ _ (show j ≠ n - 1 by omega)]
      refine at_bipush 62 (nI 100) dX7_advance_60 rfl (by decide) ?_
      first | refine at_isubN 63 dX7_advance_62 rfl (by omega) ?_ | refine at_isub 63 dX7_advance_62 rfl ?_
      first | refine at_is 64 dX7_advance_63 rfl ⟨_, _, by assumption, by omega, by first | decide | omega, fun hh4 nn4 => ?_⟩ | refine at_isG 64 dX7_advance_63 rfl ⟨_, _, by assumption, by omega, by first | decide | omega, fun hh4 nn4 => ?_⟩
      replace hS := nn4.o (by first | decide | omega | assumption) hS
      replace ht := nn4.1
      replace hfr := hfr.nw nn4 (by first | (dsimp only; omega) | (dsimp only; done) | simp)
      clear nn4
      refine at_aload_n 65 dX7_advance_64 rfl rfl rfl ?_
      refine at_g 68 dX7_advance_65 rfl fl_X7_9 ⟨_, by assumption, ?_⟩
      refine ⟨_, rfl, ?_⟩
      refine at_iload_n 69 dX7_advance_68 rfl rfl rfl ?_
      refine at_iconst 70 (nI 1) dX7_advance_69 rfl (by decide) ?_
      first | refine at_iaddN 71 dX7_advance_70 rfl ?_ | refine at_iadd 71 dX7_advance_70 rfl ?_
      refine at_iload_n 72 dX7_advance_71 rfl rfl rfl ?_
      refine at_bipush 74 (nI 100) dX7_advance_72 rfl (by decide) ?_
      first | refine at_iaddN 75 dX7_advance_74 rfl ?_ | refine at_iadd 75 dX7_advance_74 rfl ?_
      first | refine at_is 76 dX7_advance_75 rfl ⟨_, _, by assumption, by omega, by first | decide | omega, fun hh5 nn5 => ?_⟩ | refine at_isG 76 dX7_advance_75 rfl ⟨_, _, by assumption, by omega, by first | decide | omega, fun hh5 nn5 => ?_⟩
      replace hS := nn5.o (by first | decide | omega | assumption) hS
      replace ht := nn5.1
      replace hfr := hfr.nw nn5 (by first | (dsimp only; omega) | (dsimp only; done) | simp)
      clear nn5
      refine at_iconst 77 (nI 1) dX7_advance_76 rfl (by decide) ?_
      refine at_zret dX7_advance_77 rfl (by first | rfl | decide) (by decide) (by decide) ?_
      refine ⟨bI_t (by omega), ?_, hfr⟩
      rw [ht, if_neg (by omega)]
      unfold nxtT
      rw [hgk2]
      rfl
    · have hkz : k = 0 := by
        rcases Nat.eq_zero_or_pos k with q | q
        · exact q
        · obtain ⟨j, rfl⟩ : ∃ j, k = j + 1 := ⟨k - 1, by omega⟩
          rw [nI_pred] at cc
          exact absurd (nI_pos' (by omega)) cc
      refine at_iconst 38 (nI 0) dX7_advance_37 rfl (by decide) ?_
      refine at_zret dX7_advance_38 rfl (by first | rfl | decide) (by decide) (by decide) ?_
      refine ⟨bI_f (by omega), ?_, Fr.rf⟩
      rw [if_pos (by omega)]
      exact ht
  have loop : ∀ k, k ≤ n - 1 → giverN tr (n - 1) = giverN tr k → At mX7_advance T0 14 [.ref 36, .int (nI (n - 1)), .int (nI k - 1), .null] [] h 0 0 (ZM mX7_advance (fun r h' => r = some (.int (bI (decide (giverN tr (n - 1) ≠ 0)))) ∧ h'[37]? = some (aI 8 (if giverN tr (n - 1) = 0 then tr else nxtT n tr)) ∧ Fr (fun j => j = 37) h h')) := by
    intro k
    induction k with
    | zero =>
      intro hk hgk
      refine at_iload_n 15 dX7_advance_14 rfl rfl rfl ?_
      refine at_if_lt 33 18 dX7_advance_15 rfl rfl (fun cc => ?_) (fun cc => ?_)
      · exact fin 0 (by omega) hgk (Or.inl rfl)
      · rw [nIp_neg 0 (by decide)] at cc
        exact absurd rfl cc
    | succ k ih =>
      intro hk hgk
      refine at_iload_n 15 dX7_advance_14 rfl rfl rfl ?_
      refine at_if_lt 33 18 dX7_advance_15 rfl rfl (fun cc => ?_) (fun cc => ?_)
      · rw [nIp_neg (k + 1) (by omega)] at cc
        omega
      rw [nI_pred]
      have htk := htr k (by omega)
      refine at_aload_n 19 dX7_advance_18 rfl rfl rfl ?_
      refine at_g 22 dX7_advance_19 rfl fl_X7_9 ⟨_, by assumption, ?_⟩
      refine ⟨_, rfl, ?_⟩
      refine at_iload_n 23 dX7_advance_22 rfl rfl rfl ?_
      first | refine at_ia 24 dX7_advance_23 rfl ⟨_, _, by assumption, by omega, by first | decide | omega, ?_⟩ | refine at_iaG 24 dX7_advance_23 rfl ⟨_, _, by assumption, by omega, by first | decide | omega, ?_⟩
      refine at_if_neN 33 27 dX7_advance_24 rfl rfl (by omega) (fun cc => ?_) (fun cc => ?_)
      · have := fin (k + 1) hk hgk (Or.inr cc)
        rw [nI_pred] at this
        exact this
      · refine at_iinc (L' := [_, _, _, _]) 30 dX7_advance_27 rfl (nIm1 k) rfl (by decide) rfl rfl ?_
        refine at_goto 14 dX7_advance_30 rfl ?_
        refine ih (by omega) ?_
        rw [hgk]
        show (if tr k = 0 then giverN tr k else k + 1) = _
        rw [if_pos cc]
  exact loop (n - 1) (by omega) rfl
theorem nxtT_congr {n : Nat} {a b : Nat → Nat} (h : ∀ j, j < 8 → a j = b j) (hn0 : 0 < n) (hn : n ≤ 8) : ∀ j, j < 8 → nxtT n a j = nxtT n b j := by
  intro j hj
  have hg : giverN a (n - 1) = giverN b (n - 1) := giverN_congr (fun j hj => h j (by omega))
  have hgl := (giverN_spec b (n - 1)).1
  unfold nxtT
  rw [hg, h (n - 1) (by omega), h (giverN b (n - 1) - 1) (by omega)]
  unfold updN
  rw [h j hj]
def tr0 : Nat → Nat := fun i => if i = 0 then 1000 else 0
theorem tIv0 {n : Nat} (hn : 0 < n) : tIv n tr0 := by
  refine ⟨fun f hf => ?_, ?_, fun f hf hf2 => ?_⟩
  · unfold tr0; split <;> decide
  · have e : sm tr0 n = sm tr0 1 := sm_ext0 (by omega) (fun i h1 _ => by unfold tr0; rw [if_neg (by omega)])
    rw [e]; rfl
  · unfold tr0; rw [if_neg (by omega)]
theorem c_X7_find {h : List PC} {nc n c bc : Nat} {le mo mk db pr tr bs : Nat → Nat} (hbc : bc < 2 ^ 31) (hS : h[36]? = some (oSearch bc)) (ht : h[37]? = some (aI 8 tr)) (hb : h[38]? = some (aI 8 bs)) (hC : h[21]? = some (oColours nc)) (hl : h[22]? = some (aR 6 (rowsAt 22 6))) (hm : h[29]? = some (aR 6 (rowsAt 29 6))) (hle : Ar h (23 + c) 4 (fun t => le (4 * c + t))) (hmo : Ar h (30 + c) 4 (fun t => mo (4 * c + t))) (hF : h[4]? = some (oFeeds n)) (hr : h[6]? = some (aR 8 (rowsAt 6 8))) (hmk : ∀ f, f < 8 → Ar h (7 + f) 4 (fun t => mk (4 * f + t))) (hd : h[15]? = some (aI 8 db)) (hp : h[16]? = some (aI 8 pr)) (hc : c < 6) (hn : n ≤ 8) (hn0 : 0 < n) (hmb : ∀ i, i < 32 → mk i ≤ 1000) (hdb : ∀ f, f < 8 → db f ≤ 100) (hpb : ∀ f, f < 8 → pr f ≤ 10000) (hlb : ∀ t, t < 4 → le (4 * c + t) ≤ 1000) (hob : ∀ t, t < 4 → mo (4 * c + t) ≤ 1000) : Ct mX7_find [.ref 36, .int (nI c)] h (fun r h' => r = some (.int (nI ((srch n (fun tr => sureB le mo mk db tr n c) (fun tr => costT pr tr n) 20000 tr0 (0, 0, fun _ => 0))).1)) ∧ (∃ w, h'[37]? = some (aI 8 w)) ∧ (∃ bc bs, bc < 2 ^ 31 ∧ h'[36]? = some (oSearch bc) ∧ h'[38]? = some (aI 8 bs) ∧ (((srch n (fun tr => sureB le mo mk db tr n c) (fun tr => costT pr tr n) 20000 tr0 (0, 0, fun _ => 0))).1 ≠ 0 → bc = ((srch n (fun tr => sureB le mo mk db tr n c) (fun tr => costT pr tr n) 20000 tr0 (0, 0, fun _ => 0))).2.1 ∧ ∀ i, i < 8 → bs i = ((srch n (fun tr => sureB le mo mk db tr n c) (fun tr => costT pr tr n) 20000 tr0 (0, 0, fun _ => 0))).2.2 i)) ∧ Fr (fun j => j = 36 ∨ j = 37 ∨ j = 38) h h') := by
  refine ct_at (L := [_, _, _, _, _, _]) (by decide +kernel) rfl rfl (Nat.le_of_ble_eq_true rfl) ?_
  refine at_aload_n 1 dX7_find_0 rfl rfl rfl ?_
  refine at_g 4 dX7_find_1 rfl fl_X7_18 ⟨_, by assumption, ?_⟩
  refine ⟨_, rfl, ?_⟩
  refine at_g 7 dX7_find_4 rfl fl_X7_26 ⟨_, by assumption, ?_⟩
  refine ⟨_, rfl, ?_⟩
  refine at_if_neN 12 10 dX7_find_7 rfl rfl (by omega) (fun cc => ?_) (fun cc => ?_)
  rotate_left
  · omega
  refine at_iconst 13 (nI 0) dX7_find_12 rfl (by decide) ?_
  refine at_istore_n (L' := [_, _, _, _, _, _]) 14 dX7_find_13 rfl rfl (by decide) rfl rfl ?_
  have hcb : ∀ (tr : Nat → Nat) (m : Nat), tIv n tr → m ≤ n → costT pr tr m ≤ 80000000 := fun tr m ht hm => by
    have := sm_bound (f := fun f => tr f * pr f) (c := 10000000) (n := m) (fun f hf => by
      have h1 := tIv_le ht f (by omega)
      have h2 := hpb f (by omega)
      have : tr f * pr f ≤ 1000 * 10000 := Nat.mul_le_mul h1 h2
      exact this)
    unfold costT
    omega
  have done : ∀ (i mr bc : Nat) (a bs : Nat → Nat) (S : SS) (h' : List PC), i ≤ 20000 → (i = 20000 ∨ mr = 0) → mr ≤ 1 → S = (srch n (fun tr => sureB le mo mk db tr n c) (fun tr => costT pr tr n) 20000 tr0 (0, 0, fun _ => 0)) → S.1 ≤ 1 → (S.1 ≠ 0 → bc = S.2.1 ∧ ∀ i, i < 8 → bs i = S.2.2 i) → bc < 2 ^ 31 → h'[36]? = some (oSearch bc) → h'[37]? = some (aI 8 a) → h'[38]? = some (aI 8 bs) → Fr (fun j => j = 36 ∨ j = 37 ∨ j = 38) h h' → At mX7_find T0 49 [.ref 36, .int (nI c), .int (nI S.1), .int (nI mr), .int (nI i), .null] [] h' 0 0 (ZM mX7_find (fun r h' => r = some (.int (nI ((srch n (fun tr => sureB le mo mk db tr n c) (fun tr => costT pr tr n) 20000 tr0 (0, 0, fun _ => 0))).1)) ∧ (∃ w, h'[37]? = some (aI 8 w)) ∧ (∃ bc bs, bc < 2 ^ 31 ∧ h'[36]? = some (oSearch bc) ∧ h'[38]? = some (aI 8 bs) ∧ (((srch n (fun tr => sureB le mo mk db tr n c) (fun tr => costT pr tr n) 20000 tr0 (0, 0, fun _ => 0))).1 ≠ 0 → bc = ((srch n (fun tr => sureB le mo mk db tr n c) (fun tr => costT pr tr n) 20000 tr0 (0, 0, fun _ => 0))).2.1 ∧ ∀ i, i < 8 → bs i = ((srch n (fun tr => sureB le mo mk db tr n c) (fun tr => costT pr tr n) 20000 tr0 (0, 0, fun _ => 0))).2.2 i)) ∧ Fr (fun j => j = 36 ∨ j = 37 ∨ j = 38) h h')) := by
    intro i mr bc a bs S h' hi hor hmr hSR hS1 hSb hbc aS at7 ab hfr
    have last : At mX7_find T0 118 [.ref 36, .int (nI c), .int (nI S.1), .int (nI mr), .int (nI i), .null] [] h' 0 0 (ZM mX7_find (fun r h' => r = some (.int (nI ((srch n (fun tr => sureB le mo mk db tr n c) (fun tr => costT pr tr n) 20000 tr0 (0, 0, fun _ => 0))).1)) ∧ (∃ w, h'[37]? = some (aI 8 w)) ∧ (∃ bc bs, bc < 2 ^ 31 ∧ h'[36]? = some (oSearch bc) ∧ h'[38]? = some (aI 8 bs) ∧ (((srch n (fun tr => sureB le mo mk db tr n c) (fun tr => costT pr tr n) 20000 tr0 (0, 0, fun _ => 0))).1 ≠ 0 → bc = ((srch n (fun tr => sureB le mo mk db tr n c) (fun tr => costT pr tr n) 20000 tr0 (0, 0, fun _ => 0))).2.1 ∧ ∀ i, i < 8 → bs i = ((srch n (fun tr => sureB le mo mk db tr n c) (fun tr => costT pr tr n) 20000 tr0 (0, 0, fun _ => 0))).2.2 i)) ∧ Fr (fun j => j = 36 ∨ j = 37 ∨ j = 38) h h')) := by
      refine at_iload_n 119 dX7_find_118 rfl rfl rfl ?_
      refine at_zret dX7_find_119 rfl (nb hS1).1 (by decide) (by decide) ?_
      rw [← hSR]
      exact ⟨rfl, ⟨a, at7⟩, ⟨bc, bs, hbc, aS, ab, hSb⟩, hfr⟩
    refine at_iload 51 dX7_find_49 rfl rfl ?_
    refine at_sipush 54 (nI 20000) dX7_find_51 rfl (by decide) ?_
    refine at_icmp_geN 118 57 dX7_find_54 rfl rfl (by omega) (by omega) (fun cc => ?_) (fun cc => ?_)
    · exact last
    refine at_iload_n 58 dX7_find_57 rfl rfl rfl ?_
    refine at_if_eqN 118 61 dX7_find_58 rfl rfl (by omega) (fun cc => ?_) (fun cc => ?_)
    · exact last
    · omega
  have main : ∀ (k i : Nat) (a tr bs : Nat → Nat) (bc : Nat) (S : SS) (h' : List PC), i + k = 20000 → srch n (fun tr => sureB le mo mk db tr n c) (fun tr => costT pr tr n) k tr S = (srch n (fun tr => sureB le mo mk db tr n c) (fun tr => costT pr tr n) 20000 tr0 (0, 0, fun _ => 0)) → tIv n tr → (∀ j, j < 8 → a j = tr j) → S.1 ≤ 1 → (S.1 ≠ 0 → bc = S.2.1 ∧ ∀ i, i < 8 → bs i = S.2.2 i) → bc < 2 ^ 31 → h'[36]? = some (oSearch bc) → h'[37]? = some (aI 8 a) → h'[38]? = some (aI 8 bs) → Fr (fun j => j = 36 ∨ j = 37 ∨ j = 38) h h' → At mX7_find T0 49 [.ref 36, .int (nI c), .int (nI S.1), .int (nI 1), .int (nI i), .null] [] h' 0 0 (ZM mX7_find (fun r h' => r = some (.int (nI ((srch n (fun tr => sureB le mo mk db tr n c) (fun tr => costT pr tr n) 20000 tr0 (0, 0, fun _ => 0))).1)) ∧ (∃ w, h'[37]? = some (aI 8 w)) ∧ (∃ bc bs, bc < 2 ^ 31 ∧ h'[36]? = some (oSearch bc) ∧ h'[38]? = some (aI 8 bs) ∧ (((srch n (fun tr => sureB le mo mk db tr n c) (fun tr => costT pr tr n) 20000 tr0 (0, 0, fun _ => 0))).1 ≠ 0 → bc = ((srch n (fun tr => sureB le mo mk db tr n c) (fun tr => costT pr tr n) 20000 tr0 (0, 0, fun _ => 0))).2.1 ∧ ∀ i, i < 8 → bs i = ((srch n (fun tr => sureB le mo mk db tr n c) (fun tr => costT pr tr n) 20000 tr0 (0, 0, fun _ => 0))).2.2 i)) ∧ Fr (fun j => j = 36 ∨ j = 37 ∨ j = 38) h h')) := by
    intro k
    induction k with
    | zero =>
      intro i a tr bs bc S h' hi hsr hiv ha hS1 hSb hbc aS at7 ab hfr
      exact done i 1 bc a bs S h' (by omega) (Or.inl (by omega)) (by decide) hsr hS1 hSb hbc aS at7 ab hfr
    | succ k ih =>
      intro i a tr bs bc S h' hi hsr hiv ha hS1 hSb hbc aS at7 ab hfr
      have tailB : ∀ (bs : Nat → Nat) (bc cst : Nat) (h2 : List PC), (stpS (fun tr => sureB le mo mk db tr n c) (fun tr => costT pr tr n) S tr).1 ≤ 1 → ((stpS (fun tr => sureB le mo mk db tr n c) (fun tr => costT pr tr n) S tr).1 ≠ 0 → bc = (stpS (fun tr => sureB le mo mk db tr n c) (fun tr => costT pr tr n) S tr).2.1 ∧ ∀ i, i < 8 → bs i = (stpS (fun tr => sureB le mo mk db tr n c) (fun tr => costT pr tr n) S tr).2.2 i) → bc < 2 ^ 31 → h2[36]? = some (oSearch bc) → h2[37]? = some (aI 8 a) → h2[38]? = some (aI 8 bs) → Fr (fun j => j = 36 ∨ j = 37 ∨ j = 38) h h2 → At mX7_find T0 107 [.ref 36, .int (nI c), .int (nI (stpS (fun tr => sureB le mo mk db tr n c) (fun tr => costT pr tr n) S tr).1), .int (nI 1), .int (nI i), .int (nI cst)] [] h2 0 0 (ZM mX7_find (fun r h' => r = some (.int (nI ((srch n (fun tr => sureB le mo mk db tr n c) (fun tr => costT pr tr n) 20000 tr0 (0, 0, fun _ => 0))).1)) ∧ (∃ w, h'[37]? = some (aI 8 w)) ∧ (∃ bc bs, bc < 2 ^ 31 ∧ h'[36]? = some (oSearch bc) ∧ h'[38]? = some (aI 8 bs) ∧ (((srch n (fun tr => sureB le mo mk db tr n c) (fun tr => costT pr tr n) 20000 tr0 (0, 0, fun _ => 0))).1 ≠ 0 → bc = ((srch n (fun tr => sureB le mo mk db tr n c) (fun tr => costT pr tr n) 20000 tr0 (0, 0, fun _ => 0))).2.1 ∧ ∀ i, i < 8 → bs i = ((srch n (fun tr => sureB le mo mk db tr n c) (fun tr => costT pr tr n) 20000 tr0 (0, 0, fun _ => 0))).2.2 i)) ∧ Fr (fun j => j = 36 ∨ j = 37 ∨ j = 38) h h')) := by
        intro bs bc cst h2 hT1 hTb hbc bS b7 bb bfr
        have hsr2 : srch n (fun tr => sureB le mo mk db tr n c) (fun tr => costT pr tr n) (k + 1) tr S = if giverN tr (n - 1) = 0 then stpS (fun tr => sureB le mo mk db tr n c) (fun tr => costT pr tr n) S tr else srch n (fun tr => sureB le mo mk db tr n c) (fun tr => costT pr tr n) k (nxtT n tr) (stpS (fun tr => sureB le mo mk db tr n c) (fun tr => costT pr tr n) S tr) := rfl
        rw [hsr2] at hsr
        generalize stpS (fun tr => sureB le mo mk db tr n c) (fun tr => costT pr tr n) S tr = S' at *
        have bF := bfr.at (k := 4) (by omega) hF
        have hge : giverN a (n - 1) = giverN tr (n - 1) := giverN_congr (fun j hj => ha j (by omega))
        refine at_aload_n 108 dX7_find_107 rfl rfl rfl ?_
        refine at_invV (ci := 7) 111 [] _ (c_X7_advance bS bF b7 hn hn0 (fun f hf => by rw [ha f hf]; exact tIv_le hiv f hf) (fun f hf => by rw [ha f (by omega)]; exact hiv.1 f hf)) dX7_find_108 rfl rfl (by assumption) rfl ml_X7_49 cl_X7_advance vl_X7_advance rfl (Nat.le_of_ble_eq_true rfl) ⟨by decide, by decide⟩ (by decide) (fun rr hh qq => ?_)
        obtain ⟨rfl, d7, dfr⟩ := qq
        rw [hge] at d7 ⊢
        have dS := dfr.at (k := 36) (by omega) bS
        have db := dfr.at (k := 38) (by omega) bb
        have dfr2 : Fr (fun j => j = 36 ∨ j = 37 ∨ j = 38) h hh := bfr.tr dfr (fun j hj => by omega)
        by_cases eg : giverN tr (n - 1) = 0
        · rw [show bI (decide (giverN tr (n - 1) ≠ 0)) = nI 0 by rw [decide_eq_false (fun q => q eg)]; rfl]
          rw [if_pos eg] at hsr d7
          refine at_istore_n (L' := [_, _, _, _, _, _]) 112 dX7_find_111 rfl rfl (by decide) rfl rfl ?_
          refine at_iincN (q := 1) (L' := [_, _, _, _, _, _]) 115 dX7_find_112 rfl (by decide) rfl (by decide) rfl rfl ?_
          refine at_goto 49 dX7_find_115 rfl ?_
          refine at_drop (L' := [_, _, _, _, _, _]) 5 rfl ?_
          exact done (i + 1) 0 bc a bs S' hh (by omega) (Or.inr rfl) (by decide) hsr hT1 hTb hbc dS d7 db dfr2
        · rw [show bI (decide (giverN tr (n - 1) ≠ 0)) = nI 1 by rw [decide_eq_true eg]; rfl]
          rw [if_neg eg] at hsr d7
          refine at_istore_n (L' := [_, _, _, _, _, _]) 112 dX7_find_111 rfl rfl (by decide) rfl rfl ?_
          refine at_iincN (q := 1) (L' := [_, _, _, _, _, _]) 115 dX7_find_112 rfl (by decide) rfl (by decide) rfl rfl ?_
          refine at_goto 49 dX7_find_115 rfl ?_
          refine at_drop (L' := [_, _, _, _, _, _]) 5 rfl ?_
          exact ih (i + 1) _ (nxtT n tr) bs bc S' hh (by omega) hsr (nxtT_iv hiv (by omega)) (nxtT_congr ha hn0 hn) hT1 hTb hbc dS d7 db dfr2
      have aF := hfr.at (k := 4) (by omega) hF
      have ap := hfr.at (k := 16) (by omega) hp
      have hcost := hcb tr n hiv (Nat.le_refl n)
      refine at_iload 51 dX7_find_49 rfl rfl ?_
      refine at_sipush 54 (nI 20000) dX7_find_51 rfl (by decide) ?_
      refine at_icmp_geN 118 57 dX7_find_54 rfl rfl (by omega) (by omega) (fun cc => ?_) (fun cc => ?_)
      · omega
      refine at_iload_n 58 dX7_find_57 rfl rfl rfl ?_
      refine at_if_eqN 118 61 dX7_find_58 rfl rfl (by omega) (fun cc => ?_) (fun cc => ?_)
      · omega
      refine at_aload_n 62 dX7_find_61 rfl rfl rfl ?_
      refine at_invV (ci := 7) 65 [] _ (c_X7_costOfTrial aS aF ap at7 hn) dX7_find_62 rfl rfl (by assumption) rfl ml_X7_32 cl_X7_costOfTrial vl_X7_costOfTrial rfl (Nat.le_of_ble_eq_true rfl) ⟨by decide, by decide⟩ (by decide) (fun rr hh qq => ?_)
      obtain ⟨rfl, hq2⟩ := qq
      rw [hq2, costT_congr (b := tr) (fun j hj => ha j (by omega))]
      have tailA : (S.1 = 0 ∨ costT pr tr n < S.2.1) → At mX7_find T0 80 [.ref 36, .int (nI c), .int (nI S.1), .int (nI 1), .int (nI i), .int (nI (costT pr tr n))] [] h' 0 0 (ZM mX7_find (fun r h' => r = some (.int (nI ((srch n (fun tr => sureB le mo mk db tr n c) (fun tr => costT pr tr n) 20000 tr0 (0, 0, fun _ => 0))).1)) ∧ (∃ w, h'[37]? = some (aI 8 w)) ∧ (∃ bc bs, bc < 2 ^ 31 ∧ h'[36]? = some (oSearch bc) ∧ h'[38]? = some (aI 8 bs) ∧ (((srch n (fun tr => sureB le mo mk db tr n c) (fun tr => costT pr tr n) 20000 tr0 (0, 0, fun _ => 0))).1 ≠ 0 → bc = ((srch n (fun tr => sureB le mo mk db tr n c) (fun tr => costT pr tr n) 20000 tr0 (0, 0, fun _ => 0))).2.1 ∧ ∀ i, i < 8 → bs i = ((srch n (fun tr => sureB le mo mk db tr n c) (fun tr => costT pr tr n) 20000 tr0 (0, 0, fun _ => 0))).2.2 i)) ∧ Fr (fun j => j = 36 ∨ j = 37 ∨ j = 38) h h')) := by
        intro hor
        have aC := hfr.at (k := 21) (by omega) hC
        refine at_aload_n 81 dX7_find_80 rfl rfl rfl ?_
        refine at_g 84 dX7_find_81 rfl fl_X7_22 ⟨_, by assumption, ?_⟩
        refine ⟨_, rfl, ?_⟩
        refine at_iload_n 85 dX7_find_84 rfl rfl rfl ?_
        refine at_aload_n 86 dX7_find_85 rfl rfl rfl ?_
        refine at_g 89 dX7_find_86 rfl fl_X7_9 ⟨_, by assumption, ?_⟩
        refine ⟨_, rfl, ?_⟩
        refine at_aload_n 90 dX7_find_89 rfl rfl rfl ?_
        refine at_g 93 dX7_find_90 rfl fl_X7_18 ⟨_, by assumption, ?_⟩
        refine ⟨_, rfl, ?_⟩
        refine at_invV (ci := 1) 96 [_, _, _] _ (c_X1_isSure aC (hfr.at (k := 22) (by omega) hl) (hfr.at (k := 29) (by omega) hm) (hle.fr hfr (by omega)) (hmo.fr hfr (by omega)) aF (hfr.at (k := 6) (by omega) hr) (fun f hf => (hmk f hf).fr hfr (by omega)) (hfr.at (k := 15) (by omega) hd) at7 hc hn (fun f hf => by rw [ha f hf]; exact tIv_le hiv f hf) hmb hdb hlb hob) dX7_find_93 rfl rfl (by assumption) rfl ml_X7_39 cl_X1_isSure vl_X1_isSure rfl (Nat.le_of_ble_eq_true rfl) ⟨by decide, by decide⟩ (by decide) (fun rr hh qq => ?_)
        obtain ⟨rfl, hq2⟩ := qq
        rw [hq2, sureB_congr (b := tr) (fun j hj => ha j (by omega))]
        refine at_if_eqB 107 99 dX7_find_96 rfl rfl (fun cc => ?_) (fun cc => ?_)
        · have hst : stpS (fun tr => sureB le mo mk db tr n c) (fun tr => costT pr tr n) S tr = S := by
            unfold stpS
            rw [if_neg (fun q => by have := q.2; dsimp only at this; rw [cc] at this; cases this)]
          have := tailB bs bc (costT pr tr n) h' (by rw [hst]; exact hS1) (by rw [hst]; exact hSb) hbc aS at7 ab hfr
          rw [hst] at this
          exact this
        · have hst : stpS (fun tr => sureB le mo mk db tr n c) (fun tr => costT pr tr n) S tr = (1, costT pr tr n, tr) := by
            unfold stpS
            rw [if_pos ⟨hor, cc⟩]
          refine at_iconst 100 (nI 1) dX7_find_99 rfl (by decide) ?_
          refine at_istore_n (L' := [_, _, _, _, _, _]) 101 dX7_find_100 rfl rfl (by decide) rfl rfl ?_
          refine at_aload_n 102 dX7_find_101 rfl rfl rfl ?_
          refine at_iload 104 dX7_find_102 rfl rfl ?_
          refine at_invV (ci := 7) 107 [_] _ (c_X7_keepTrial aS at7 ab) dX7_find_104 rfl rfl (by assumption) rfl ml_X7_45 cl_X7_keepTrial vl_X7_keepTrial rfl (Nat.le_of_ble_eq_true rfl) ⟨by decide, by decide⟩ (by decide) (fun rr hh qq => ?_)
          obtain ⟨rfl, dS, ⟨b2, kb2, eb2⟩, dfr⟩ := qq
          have := tailB b2 (costT pr tr n) (costT pr tr n) hh (by rw [hst]; exact Nat.le_refl 1) (by rw [hst]; exact fun _ => ⟨rfl, fun j hj => by rw [eb2 j hj]; exact ha j hj⟩) (by omega) dS (dfr.at (k := 37) (by omega) at7) kb2 (hfr.tr dfr (fun j hj => by omega))
          rw [hst] at this
          exact this
      refine at_istore (L' := [_, _, _, _, _, _]) 67 dX7_find_65 rfl (by decide) rfl rfl ?_
      refine at_iload_n 68 dX7_find_67 rfl rfl rfl ?_
      refine at_if_eqN 80 71 dX7_find_68 rfl rfl (by omega) (fun cc => ?_) (fun cc => ?_)
      · exact tailA (Or.inl cc)
      have hb2 := hSb cc
      refine at_iload 73 dX7_find_71 rfl rfl ?_
      refine at_aload_n 74 dX7_find_73 rfl rfl rfl ?_
      refine at_g 77 dX7_find_74 rfl fl_X7_36 ⟨_, by assumption, ?_⟩
      refine ⟨_, rfl, ?_⟩
      refine at_icmp_geN 107 80 dX7_find_77 rfl rfl (by omega) (by omega) (fun cc => ?_) (fun cc => ?_)
      · have hst : stpS (fun tr => sureB le mo mk db tr n c) (fun tr => costT pr tr n) S tr = S := by
          unfold stpS
          rw [if_neg (fun q => by have := q.1; dsimp only at this; omega)]
        have := tailB bs bc (costT pr tr n) h' (by rw [hst]; exact hS1) (by rw [hst]; exact hSb) hbc aS at7 ab hfr
        rw [hst] at this
        exact this
      · exact tailA (Or.inr (by omega))
  have loop0 : ∀ (d i : Nat) (a : Nat → Nat) (h' : List PC), i + d = 8 → h'[37]? = some (aI 8 a) → (∀ j, j < i → a j = 0) → Fr (fun j => j = 37) h h' → At mX7_find T0 14 [.ref 36, .int (nI c), .int (nI i), .null, .null, .null] [] h' 0 0 (ZM mX7_find (fun r h' => r = some (.int (nI ((srch n (fun tr => sureB le mo mk db tr n c) (fun tr => costT pr tr n) 20000 tr0 (0, 0, fun _ => 0))).1)) ∧ (∃ w, h'[37]? = some (aI 8 w)) ∧ (∃ bc bs, bc < 2 ^ 31 ∧ h'[36]? = some (oSearch bc) ∧ h'[38]? = some (aI 8 bs) ∧ (((srch n (fun tr => sureB le mo mk db tr n c) (fun tr => costT pr tr n) 20000 tr0 (0, 0, fun _ => 0))).1 ≠ 0 → bc = ((srch n (fun tr => sureB le mo mk db tr n c) (fun tr => costT pr tr n) 20000 tr0 (0, 0, fun _ => 0))).2.1 ∧ ∀ i, i < 8 → bs i = ((srch n (fun tr => sureB le mo mk db tr n c) (fun tr => costT pr tr n) 20000 tr0 (0, 0, fun _ => 0))).2.2 i)) ∧ Fr (fun j => j = 36 ∨ j = 37 ∨ j = 38) h h')) := by
    intro d
    induction d with
    | succ d ih =>
      intro i a h' hi ha hz hfr
      have aS := hfr.at (k := 36) (by omega) hS
      refine at_iload_n 15 dX7_find_14 rfl rfl rfl ?_
      refine at_bipush 17 (nI 8) dX7_find_15 rfl (by decide) ?_
      refine at_icmp_geN 33 20 dX7_find_17 rfl rfl (by omega) (by omega) (fun cc => ?_) (fun cc => ?_)
      · omega
      refine at_aload_n 21 dX7_find_20 rfl rfl rfl ?_
      refine at_g 24 dX7_find_21 rfl fl_X7_9 ⟨_, by assumption, ?_⟩
      refine ⟨_, rfl, ?_⟩
      refine at_iload_n 25 dX7_find_24 rfl rfl rfl ?_
      refine at_iconst 26 (nI 0) dX7_find_25 rfl (by decide) ?_
      first | refine at_is 27 dX7_find_26 rfl ⟨_, _, by assumption, by omega, by first | decide | omega, fun hh6 nn6 => ?_⟩ | refine at_isG 27 dX7_find_26 rfl ⟨_, _, by assumption, by omega, by first | decide | omega, fun hh6 nn6 => ?_⟩
      replace aS := nn6.o (by first | decide | omega | assumption) aS
      replace ha := nn6.1
      replace hfr := hfr.nw nn6 (by first | (dsimp only; omega) | (dsimp only; done) | simp)
      clear nn6
      refine at_iincN (q := 1) (L' := [_, _, _, _, _, _]) 30 dX7_find_27 rfl (by decide) rfl (by decide) rfl rfl ?_
      refine at_goto 14 dX7_find_30 rfl ?_
      refine ih (i + 1) _ _ (by omega) ha (fun j hj => ?_) hfr
      by_cases e : j = i
      · subst e; rw [updN_s]
      · rw [updN_n _ _ e]; exact hz j (by omega)
    | zero =>
      intro i a h' hi ha hz hfr
      have aS := hfr.at (k := 36) (by omega) hS
      have ab := hfr.at (k := 38) (by omega) hb
      refine at_iload_n 15 dX7_find_14 rfl rfl rfl ?_
      refine at_bipush 17 (nI 8) dX7_find_15 rfl (by decide) ?_
      refine at_icmp_geN 33 20 dX7_find_17 rfl rfl (by omega) (by omega) (fun cc => ?_) (fun cc => ?_)
      rotate_left
      · omega
      refine at_aload_n 34 dX7_find_33 rfl rfl rfl ?_
      refine at_g 37 dX7_find_34 rfl fl_X7_9 ⟨_, by assumption, ?_⟩
      refine ⟨_, rfl, ?_⟩
      refine at_iconst 38 (nI 0) dX7_find_37 rfl (by decide) ?_
      refine at_sipush 41 (nI 1000) dX7_find_38 rfl (by decide) ?_
      first | refine at_is 42 dX7_find_41 rfl ⟨_, _, by assumption, by omega, by first | decide | omega, fun hh7 nn7 => ?_⟩ | refine at_isG 42 dX7_find_41 rfl ⟨_, _, by assumption, by omega, by first | decide | omega, fun hh7 nn7 => ?_⟩
      replace aS := nn7.o (by first | decide | omega | assumption) aS
      replace ha := nn7.1
      replace ab := nn7.o (by first | decide | omega | assumption) ab
      replace hfr := hfr.nw nn7 (by first | (dsimp only; omega) | (dsimp only; done) | simp)
      clear nn7
      refine at_iconst 43 (nI 0) dX7_find_42 rfl (by decide) ?_
      refine at_istore_n (L' := [_, _, _, _, _, _]) 44 dX7_find_43 rfl rfl (by decide) rfl rfl ?_
      refine at_iconst 45 (nI 1) dX7_find_44 rfl (by decide) ?_
      refine at_istore_n (L' := [_, _, _, _, _, _]) 46 dX7_find_45 rfl rfl (by decide) rfl rfl ?_
      refine at_iconst 47 (nI 0) dX7_find_46 rfl (by decide) ?_
      refine at_istore (L' := [_, _, _, _, _, _]) 49 dX7_find_47 rfl (by decide) rfl rfl ?_
      refine main 20000 0 (updN a 0 1000) tr0 bs bc (0, 0, fun _ => 0) _ (by omega) rfl (tIv0 hn0) (fun j hj => ?_) (by decide) (fun q => absurd rfl q) hbc aS ha ab (hfr.wk (fun j hj => by omega))
      unfold tr0 updN
      by_cases e : j = 0
      · rw [if_pos e, if_pos e]
      · rw [if_neg e, if_neg e]; exact hz j (by omega)
  exact loop0 8 0 tr h (by omega) ht (fun j hj => by omega) Fr.rf

theorem c_X7_find_0 {h : List PC} {bc : Nat} (c : Int32) (hS : h[36]? = some (oSearch bc)) (hF : h[4]? = some (oFeeds 0)) : Ct mX7_find [.ref 36, .int c] h (fun r h' => r = some (.int (nI 0)) ∧ h' = h) := by
  refine ct_at (L := [_, _, _, _, _, _]) (by decide +kernel) rfl rfl (Nat.le_of_ble_eq_true rfl) ?_
  refine at_aload_n 1 dX7_find_0 rfl rfl rfl ?_
  refine at_g 4 dX7_find_1 rfl fl_X7_18 ⟨_, by assumption, ?_⟩
  refine ⟨_, rfl, ?_⟩
  refine at_g 7 dX7_find_4 rfl fl_X7_26 ⟨_, by assumption, ?_⟩
  refine ⟨_, rfl, ?_⟩
  refine at_if_neN 12 10 dX7_find_7 rfl rfl (by omega) (fun cc => ?_) (fun cc => ?_)
  · omega
  refine at_iconst 11 (nI 0) dX7_find_10 rfl (by decide) ?_
  refine at_zret dX7_find_11 rfl (by first | rfl | decide) (by decide) (by decide) ?_
  exact ⟨rfl, rfl⟩

