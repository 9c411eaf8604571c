theorem nb {x : Nat} (h : x ≤ 1) : narrow .boolean (.int (nI x)) = .int (nI x) ∧ fits .boolean (.int (nI x)) = true := by
  rcases Nat.lt_or_ge x 1 with q | q
  · rw [show x = 0 by omega]; exact ⟨rfl, rfl⟩
  · rw [show x = 1 by omega]; exact ⟨rfl, rfl⟩
theorem sub_z {a b : Nat} (ha : a < 2 ^ 31) (hb : b < 2 ^ 31) : nI a - nI b = 0 ↔ a = b := by
  refine ⟨fun e => ?_, fun e => by subst e; exact Int32.sub_self _⟩
  have h1 : nI a = nI b := by
    have := congrArg (fun z => z + nI b) e
    simpa using this
  exact (nI_eq ha hb).mp h1
theorem add_sub3 {a b d : Nat} (h : d ≤ a + b) : nI a + (nI b - nI d) = nI (a + b - d) := by
  rw [← pk_sub h, ← nI_add, Int32.sub_eq_add_neg, Int32.sub_eq_add_neg, Int32.add_assoc]
theorem c_X10_move {h : List PC} {t md n w p st c sz : Nat} {a f0 f1 : Nat → Nat} (hT : h[t]? = some (oTank t md n w p st)) (ho : h[t + 1]? = some (aR 6 (rowsAt (t + 1) 6))) (hf : h[t + 8]? = some (aR 7 (rowsAt (t + 8) 7))) (ha : h[t + 1 + 1 + c]? = some (aI 32 a)) (hf0 : h[t + 8 + 1 + c]? = some (aI 32 f0)) (hf1 : h[t + 8 + 1 + (c + 1)]? = some (aI 32 f1)) (hc : c < 6) (hsz : sz ≤ 32) (b0 : ∀ i, i < sz → f0 i < 2 ^ 31) (b1 : ∀ i, i < sz → f1 i < 2 ^ 31) (hle : ∀ i, i < sz → f1 i ≤ a i + f0 i) : Ct mX10_move [.ref t, .int (nI c), .int (nI sz)] h (fun r h' => r = none ∧ h'[t]? = some (oTank t md n w p (if allB (fun i => decide (f0 i = f1 i)) sz then st else 0)) ∧ h'[t + 1 + 1 + c]? = some (aI 32 (fun i => if i < sz then a i + f0 i - f1 i else a i)) ∧ Fr (fun j => j = t ∨ j = t + 1 + 1 + c) h h') := by
  refine ct_at (L := [_, _, _, _, _]) (by decide +kernel) rfl rfl (Nat.le_of_ble_eq_true rfl) ?_
  refine at_iconst 1 (nI 0) dX10_move_0 rfl (by decide) ?_
  refine at_istore_n (L' := [_, _, _, _, _]) 2 dX10_move_1 rfl rfl (by decide) rfl rfl ?_
  have loop : ∀ (d i : Nat) (h1 : List PC), i + d = sz → h1[t]? = some (oTank t md n w p (if allB (fun i => decide (f0 i = f1 i)) i then st else 0)) → h1[t + 1 + 1 + c]? = some (aI 32 (fun j => if j < i then a j + f0 j - f1 j else a j)) → Fr (fun j => j = t ∨ j = t + 1 + 1 + c) h h1 → At mX10_move T0 2 [.ref t, .int (nI c), .int (nI sz), .int (nI i), .null] [] h1 0 0 (ZM mX10_move (fun r h' => r = none ∧ h'[t]? = some (oTank t md n w p (if allB (fun i => decide (f0 i = f1 i)) sz then st else 0)) ∧ h'[t + 1 + 1 + c]? = some (aI 32 (fun i => if i < sz then a i + f0 i - f1 i else a i)) ∧ Fr (fun j => j = t ∨ j = t + 1 + 1 + c) h h')) := by
    intro d
    induction d with
    | zero =>
      intro i h1 hi hT1 ha1 hfr
      have his : i = sz := by omega
      refine at_iload_n 3 dX10_move_2 rfl rfl rfl ?_
      refine at_iload_n 4 dX10_move_3 rfl rfl rfl ?_
      refine at_icmp_geN 57 7 dX10_move_4 rfl rfl (by omega) (by omega) (fun cc => ?_) (fun cc => ?_)
      rotate_left
      · omega
      refine at_vret dX10_move_57 rfl (by decide) (by decide) ?_
      rw [his] at hT1 ha1
      exact ⟨rfl, hT1, ha1, hfr⟩
    | succ d ih =>
      intro i h1 hi hT1 ha1 hfr
      have e1 := hfr.at (k := t + 1) (by omega) ho
      have e8 := hfr.at (k := t + 8) (by omega) hf
      have g0 := hfr.at (k := t + 8 + 1 + c) (by omega) hf0
      have g1 := hfr.at (k := t + 8 + 1 + (c + 1)) (by omega) hf1
      have l0 := b0 i (by omega)
      have l1 := b1 i (by omega)
      have l2 := hle i (by omega)
      refine at_iload_n 3 dX10_move_2 rfl rfl rfl ?_
      refine at_iload_n 4 dX10_move_3 rfl rfl rfl ?_
      refine at_icmp_geN 57 7 dX10_move_4 rfl rfl (by omega) (by omega) (fun cc => ?_) (fun cc => ?_)
      · omega
      refine at_aload_n 8 dX10_move_7 rfl rfl rfl ?_
      refine at_g 11 dX10_move_8 rfl fl_X10_16 ⟨_, by assumption, ?_⟩
      refine ⟨_, rfl, ?_⟩
      refine at_iload_n 12 dX10_move_11 rfl rfl rfl ?_
      refine at_aa 13 dX10_move_12 rfl ⟨_, _, by assumption, by omega, by first | decide | omega, ?_⟩
      refine ⟨_, rowsAt_in (by omega), ?_⟩
      refine at_iload_n 14 dX10_move_13 rfl rfl rfl ?_
      first | refine at_ia 15 dX10_move_14 rfl ⟨_, _, by assumption, by omega, by first | decide | omega, ?_⟩ | refine at_iaG 15 dX10_move_14 rfl ⟨_, _, by assumption, by omega, by first | decide | omega, ?_⟩
      refine at_aload_n 16 dX10_move_15 rfl rfl rfl ?_
      refine at_g 19 dX10_move_16 rfl fl_X10_16 ⟨_, by assumption, ?_⟩
      refine ⟨_, rfl, ?_⟩
      refine at_iload_n 20 dX10_move_19 rfl rfl rfl ?_
      refine at_iconst 21 (nI 1) dX10_move_20 rfl (by decide) ?_
      first | refine at_iaddN 22 dX10_move_21 rfl ?_ | refine at_iadd 22 dX10_move_21 rfl ?_
      refine at_aa 23 dX10_move_22 rfl ⟨_, _, by assumption, by omega, by first | decide | omega, ?_⟩
      refine ⟨_, rowsAt_in (by omega), ?_⟩
      refine at_iload_n 24 dX10_move_23 rfl rfl rfl ?_
      first | refine at_ia 25 dX10_move_24 rfl ⟨_, _, by assumption, by omega, by first | decide | omega, ?_⟩ | refine at_iaG 25 dX10_move_24 rfl ⟨_, _, by assumption, by omega, by first | decide | omega, ?_⟩
      refine at_isub 26 dX10_move_25 rfl ?_
      refine at_istore (L' := [_, _, _, _, _]) 28 dX10_move_26 rfl (by decide) rfl rfl ?_
      refine at_iload 30 dX10_move_28 rfl rfl ?_
      refine at_if_eq 51 33 dX10_move_30 rfl rfl (fun cc => ?_) (fun cc => ?_)
      · rw [sub_z l0 l1] at cc
        refine at_iincN (q := 1) (L' := [_, _, _, _, _]) 54 dX10_move_51 rfl (by decide) rfl (by decide) rfl rfl ?_
        refine at_goto 2 dX10_move_54 rfl ?_
        refine at_drop (L' := [_, _, _, _, _]) 4 rfl ?_
        refine ih (i + 1) h1 (by omega) ?_ ?_ hfr
        · rw [hT1]
          show some (oTank t md n w p (if allB _ i = true then st else 0)) = some (oTank t md n w p (if (allB _ i && decide (f0 i = f1 i)) = true then st else 0))
          rw [decide_eq_true cc, Bool.and_true]
        · rw [ha1]
          congr 2
          funext j
          by_cases e : j = i
          · subst e; rw [if_neg (by omega), if_pos (by omega)]; omega
          · by_cases e2 : j < i
            · rw [if_pos e2, if_pos (by omega)]
            · rw [if_neg e2, if_neg (by omega)]
      · rw [sub_z l0 l1] at cc
        refine at_aload_n 34 dX10_move_33 rfl rfl rfl ?_
        refine at_g 37 dX10_move_34 rfl fl_X10_11 ⟨_, by assumption, ?_⟩
        refine ⟨_, rfl, ?_⟩
        refine at_iload_n 38 dX10_move_37 rfl rfl rfl ?_
        refine at_aa 39 dX10_move_38 rfl ⟨_, _, by assumption, by omega, by first | decide | omega, ?_⟩
        refine ⟨_, rowsAt_in (by omega), ?_⟩
        refine at_iload_n 40 dX10_move_39 rfl rfl rfl ?_
        refine at_dup2 41 dX10_move_40 rfl rfl rfl ?_
        first | refine at_ia 42 dX10_move_41 rfl ⟨_, _, by assumption, by omega, by first | decide | omega, ?_⟩ | refine at_iaG 42 dX10_move_41 rfl ⟨_, _, by assumption, by omega, by first | decide | omega, ?_⟩
        refine at_iload 44 dX10_move_42 rfl rfl ?_
        rw [if_neg (Nat.lt_irrefl i)]
        refine at_iadd 45 dX10_move_44 rfl ?_
        rw [add_sub3 l2]
        first | refine at_is 46 dX10_move_45 rfl ⟨_, _, by assumption, by omega, by first | decide | omega, fun hh1 nn1 => ?_⟩ | refine at_isG 46 dX10_move_45 rfl ⟨_, _, by assumption, by omega, by first | decide | omega, fun hh1 nn1 => ?_⟩
        replace hT1 := nn1.o (by first | decide | omega | assumption) hT1
        replace e1 := nn1.o (by first | decide | omega | assumption) e1
        replace e8 := nn1.o (by first | decide | omega | assumption) e8
        replace ha1 := nn1.1
        replace g0 := nn1.o (by first | decide | omega | assumption) g0
        replace g1 := nn1.o (by first | decide | omega | assumption) g1
        replace hfr := hfr.nw nn1 (by first | (dsimp only; omega) | (dsimp only; done) | simp)
        clear nn1
        refine at_aload_n 47 dX10_move_46 rfl rfl rfl ?_
        refine at_iconst 48 (nI 0) dX10_move_47 rfl (by decide) ?_
        refine at_pi 51 dX10_move_48 rfl pl_X10_58 (by first | rfl | decide | assumption) (by first | rfl | decide | assumption) ⟨_, by assumption, ?_⟩
        refine ⟨(Nat.le_of_ble_eq_true rfl), [_, _, _, _, _, _, _, _], rfl, fun hh2 nn2 => ?_⟩
        replace hT1 := nn2.1
        replace e1 := nn2.o (by first | decide | omega | assumption) e1
        replace e8 := nn2.o (by first | decide | omega | assumption) e8
        replace ha1 := nn2.o (by first | decide | omega | assumption) ha1
        replace g0 := nn2.o (by first | decide | omega | assumption) g0
        replace g1 := nn2.o (by first | decide | omega | assumption) g1
        replace hfr := hfr.nw nn2 (by first | (dsimp only; omega) | (dsimp only; done) | simp)
        clear nn2
        refine at_iincN (q := 1) (L' := [_, _, _, _, _]) 54 dX10_move_51 rfl (by decide) rfl (by decide) rfl rfl ?_
        refine at_goto 2 dX10_move_54 rfl ?_
        refine at_drop (L' := [_, _, _, _, _]) 4 rfl ?_
        refine ih (i + 1) _ (by omega) ?_ ?_ hfr
        · rw [hT1]
          show some (oTank t md n w p 0) = some (oTank t md n w p (if (allB _ i && decide (f0 i = f1 i)) = true then st else 0))
          rw [decide_eq_false cc, Bool.and_false]
          rfl
        · rw [ha1]
          congr 2
          funext j
          unfold updN
          dsimp only
          by_cases e : j = i
          · subst e; rw [if_pos rfl, if_pos (by omega)]
          · rw [if_neg e]
            by_cases e2 : j < i
            · rw [if_pos e2, if_pos (by omega)]
            · rw [if_neg e2, if_neg (by omega)]
  exact loop sz 0 h (by omega) (by rw [hT]; rfl) (by rw [ha]; rfl) Fr.rf
def outF (L : Nat → Nat) (p c i : Nat) : Nat := share p (fun k => L (32 * c + k)) 32 i
def inF (L lo : Nat → Nat) (p c i : Nat) : Nat := if c = 0 then lo i else outF L p (c - 1) i
def passL (L lo : Nat → Nat) (p n : Nat) : Nat → Nat := fun x => if x < 32 * n then L x + inF L lo p (x / 32) (x % 32) - outF L p (x / 32) (x % 32) else L x
def stillB (L lo : Nat → Nat) (p n : Nat) : Bool := allB (fun c => allB (fun i => decide (inF L lo p c i = outF L p c i)) 32) n
theorem allB_ext {P : Nat → Bool} {m : Nat} : ∀ {n : Nat}, m ≤ n → (∀ i, m ≤ i → i < n → P i = true) → allB P n = allB P m
  | 0, h, _ => by rw [Nat.le_zero.mp h]
  | n + 1, h, h0 => by
    rcases Nat.lt_or_ge m (n + 1) with q | q
    · show (allB P n && P n) = _
      rw [h0 n (by omega) (by omega), Bool.and_true]
      exact allB_ext (by omega) (fun i a b => h0 i a (by omega))
    · rw [show m = n + 1 by omega]
theorem allB_congr {P P' : Nat → Bool} : ∀ {n : Nat}, (∀ i, i < n → P i = P' i) → allB P n = allB P' n
  | 0, _ => rfl
  | n + 1, h => by
    show (allB P n && P n) = (allB P' n && P' n)
    rw [allB_congr (fun i hi => h i (by omega)), h n (by omega)]
/-- what a tank is in the heap -/
def TankA (h : List PC) (t : Nat) (L : Nat → Nat) (sz : Nat) : Prop := h[t + 1]? = some (aR 6 (rowsAt (t + 1) 6)) ∧ h[t + 8]? = some (aR 7 (rowsAt (t + 8) 7)) ∧ (∀ c, c < 6 → Ar h (t + 1 + 1 + c) 32 (fun i => L (32 * c + i))) ∧ ∀ c, c < 7 → ∃ F, h[t + 8 + 1 + c]? = some (aI 32 F) ∧ ∀ i, sz ≤ i → i < 32 → F i = 0
theorem c_X10_pass {h : List PC} {t q md n w p st sz : Nat} {R P L lo : Nat → Nat} (hq : (q + 3 < t ∨ t + 15 < q) ∧ 4 ≤ q) (htt : 4 ≤ t) (h1 : h[1]? = some oSharer) (h2 : h[2]? = some (aL 32 R)) (h3 : h[3]? = some (aI 32 P)) (hT : h[t]? = some (oTank t md n w p st)) (hA : TankA h t L sz) (hQ : h[q]? = some (oCharge q sz)) (hl : Ar h (q + 3) 32 lo) (hn : n ≤ 6) (hsz : sz ≤ 32) (hlo : ∀ i, sz ≤ i → i < 32 → lo i = 0) (hlb : ∀ i, i < 32 → lo i < 2 ^ 31) (hL : ∀ c, c < n → sm (fun i => L (32 * c + i)) 32 = w) (hL0 : ∀ c i, c < n → sz ≤ i → i < 32 → L (32 * c + i) = 0) (hw : 0 < w) (hwb : w < 2 ^ 31) (hp : p ≤ w) : Ct mX10_pass [.ref t, .ref q] h (fun r h' => r = none ∧ (∃ R', h'[2]? = some (aL 32 R')) ∧ (∃ P', h'[3]? = some (aI 32 P')) ∧ h'[t]? = some (oTank t md n w p (if stillB L lo p n then 1 else 0)) ∧ TankA h' t (passL L lo p n) sz ∧ (∀ c, c < n → Ar h' (t + 8 + 1 + (c + 1)) 32 (outF L p c)) ∧ Fr (fun j => j = 2 ∨ j = 3 ∨ j = t ∨ (t + 2 ≤ j ∧ j ≤ t + 7) ∨ (t + 9 ≤ j ∧ j ≤ t + 15)) h h') := by
  obtain ⟨ho, hf, hcr, hfr0⟩ := hA
  obtain ⟨lw, hlw, hle⟩ := hl
  obtain ⟨F0, hF0, hF0z⟩ := hfr0 0 (by decide)
  refine ct_at (L := [_, _, _]) (by decide +kernel) rfl rfl (Nat.le_of_ble_eq_true rfl) ?_
  have hfr : Fr (fun j => j = 2 ∨ j = 3 ∨ j = t ∨ (t + 2 ≤ j ∧ j ≤ t + 7) ∨ (t + 9 ≤ j ∧ j ≤ t + 15)) h h := Fr.rf
  refine at_aload_n 1 dX10_pass_0 rfl rfl rfl ?_
  refine at_g 4 dX10_pass_1 rfl fl_X10_49 ⟨_, by assumption, ?_⟩
  refine ⟨_, rfl, ?_⟩
  refine at_iconst 5 (nI 0) dX10_pass_4 rfl (by decide) ?_
  refine at_aload_n 6 dX10_pass_5 rfl rfl rfl ?_
  refine at_g 9 dX10_pass_6 rfl fl_X10_16 ⟨_, by assumption, ?_⟩
  refine ⟨_, rfl, ?_⟩
  refine at_iconst 10 (nI 0) dX10_pass_9 rfl (by decide) ?_
  refine at_aa 11 dX10_pass_10 rfl ⟨_, _, by assumption, by omega, by first | decide | omega, ?_⟩
  refine ⟨_, rowsAt_in (by omega), ?_⟩
  refine at_iconst 12 (nI 0) dX10_pass_11 rfl (by decide) ?_
  refine at_bipush 14 (nI 32) dX10_pass_12 rfl (by decide) ?_
  refine at_copy 17 dX10_pass_14 rfl ml_X10_43 jw_copy hlw hF0 (by decide) (by decide) (by decide) (Nat.le_of_ble_eq_true rfl) (by decide) (fun hh1 nn1 => ?_)
  have ecp : va_cpy (fun i => nI (lw i)) (fun i => nI (F0 i)) 0 0 32 = fun i => nI (if i < 32 then lw i else F0 i) := by
    funext i
    unfold va_cpy
    by_cases e : i < 32
    · rw [if_pos (by omega), if_pos e]; simp
    · rw [if_neg (by omega), if_neg e]
  rw [ecp] at nn1
  replace hfr := hfr.nw nn1 (by omega)
  have hrow0 : Ar hh1 (t + 8 + 1 + 0) 32 lo := ⟨_, nn1.1, fun i hi => by rw [if_pos hi]; exact hle i hi⟩
  have hz1 : ∀ c, c < 7 → ∃ F, hh1[t + 8 + 1 + c]? = some (aI 32 F) ∧ ∀ i, sz ≤ i → i < 32 → F i = 0 := fun c hc => by
    by_cases e : c = 0
    · subst e
      exact ⟨_, nn1.1, fun i hi hi2 => by rw [if_pos hi2, hle i hi2]; exact hlo i hi hi2⟩
    · obtain ⟨F, k1, k2⟩ := hfr0 c hc
      exact ⟨F, nn1.o (by omega) k1, k2⟩
  have c2 := nn1.o (j := 2) (by omega) h2
  have c3 := nn1.o (j := 3) (by omega) h3
  have cT := nn1.o (j := t) (by omega) hT
  have ccr : ∀ c, c < 6 → Ar hh1 (t + 1 + 1 + c) 32 (fun i => L (32 * c + i)) := fun c hc => (hcr c hc).nw nn1 (by omega)
  clear nn1
  refine at_iconst 18 (nI 0) dX10_pass_17 rfl (by decide) ?_
  refine at_istore_n (L' := [_, _, _]) 19 dX10_pass_18 rfl rfl (by decide) rfl rfl ?_
  have loop1 : ∀ (d c : Nat) (R P : Nat → Nat) (h1' : List PC), c + d = n → h1'[2]? = some (aL 32 R) → h1'[3]? = some (aI 32 P) → h1'[t]? = some (oTank t md n w p st) → (∀ c, c < 6 → Ar h1' (t + 1 + 1 + c) 32 (fun i => L (32 * c + i))) → Ar h1' (t + 8 + 1 + 0) 32 lo → (∀ c, c < 7 → ∃ F, h1'[t + 8 + 1 + c]? = some (aI 32 F) ∧ ∀ i, sz ≤ i → i < 32 → F i = 0) → (∀ c', c' < c → Ar h1' (t + 8 + 1 + (c' + 1)) 32 (outF L p c')) → Fr (fun j => j = 2 ∨ j = 3 ∨ j = t ∨ (t + 2 ≤ j ∧ j ≤ t + 7) ∨ (t + 9 ≤ j ∧ j ≤ t + 15)) h h1' → At mX10_pass T0 19 [.ref t, .ref q, .int (nI c)] [] h1' 0 0 (ZM mX10_pass (fun r h' => r = none ∧ (∃ R', h'[2]? = some (aL 32 R')) ∧ (∃ P', h'[3]? = some (aI 32 P')) ∧ h'[t]? = some (oTank t md n w p (if stillB L lo p n then 1 else 0)) ∧ TankA h' t (passL L lo p n) sz ∧ (∀ c, c < n → Ar h' (t + 8 + 1 + (c + 1)) 32 (outF L p c)) ∧ Fr (fun j => j = 2 ∨ j = 3 ∨ j = t ∨ (t + 2 ≤ j ∧ j ≤ t + 7) ∨ (t + 9 ≤ j ∧ j ≤ t + 15)) h h')) := by
    intro d
    induction d with
    | succ d ih =>
      intro c R P h1' hc a2 a3 aT acr ar0 az aout hfr
      have a1 := hfr.at (k := 1) (by omega) h1
      have aq := hfr.at (k := q) (by omega) hQ
      obtain ⟨wc, kc, ec⟩ := acr c (by omega)
      replace ec : ∀ i, i < 32 → wc i = L (32 * c + i) := ec
      obtain ⟨Fo, ko, zo⟩ := az (c + 1) (by omega)
      have e1 : h1'[t + 1]? = some (aR 6 (rowsAt (t + 1) 6)) := hfr.at (k := t + 1) (by omega) ho
      have e8 : h1'[t + 8]? = some (aR 7 (rowsAt (t + 8) 7)) := hfr.at (k := t + 8) (by omega) hf
      have hs32 : sm wc 32 = w := by rw [sm_congr ec]; exact hL c (by omega)
      have hs : sm wc sz = w := by
        rw [← hs32]
        exact (sm_ext0 hsz (fun i q1 q2 => by rw [ec i q2]; exact hL0 c i (by omega) q1 q2)).symm
      refine at_iload_n 20 dX10_pass_19 rfl rfl rfl ?_
      refine at_aload_n 21 dX10_pass_20 rfl rfl rfl ?_
      refine at_g 24 dX10_pass_21 rfl fl_X10_19 ⟨_, by assumption, ?_⟩
      refine ⟨_, rfl, ?_⟩
      refine at_icmp_geN 63 27 dX10_pass_24 rfl rfl (by omega) (by omega) (fun cc => ?_) (fun cc => ?_)
      · omega
      refine at_aload_n 28 dX10_pass_27 rfl rfl rfl ?_
      refine at_g 31 dX10_pass_28 rfl fl_X10_29 ⟨_, by assumption, ?_⟩
      refine ⟨_, rfl, ?_⟩
      refine at_aload_n 32 dX10_pass_31 rfl rfl rfl ?_
      refine at_g 35 dX10_pass_32 rfl fl_X10_26 ⟨_, by assumption, ?_⟩
      refine ⟨_, rfl, ?_⟩
      refine at_aload_n 36 dX10_pass_35 rfl rfl rfl ?_
      refine at_g 39 dX10_pass_36 rfl fl_X10_11 ⟨_, by assumption, ?_⟩
      refine ⟨_, rfl, ?_⟩
      refine at_iload_n 40 dX10_pass_39 rfl rfl rfl ?_
      refine at_aa 41 dX10_pass_40 rfl ⟨_, _, by assumption, by omega, by first | decide | omega, ?_⟩
      refine ⟨_, rowsAt_in (by omega), ?_⟩
      refine at_aload_n 42 dX10_pass_41 rfl rfl rfl ?_
      refine at_g 45 dX10_pass_42 rfl fl_X10_55 ⟨_, by assumption, ?_⟩
      refine ⟨_, rfl, ?_⟩
      refine at_aload_n 46 dX10_pass_45 rfl rfl rfl ?_
      refine at_g 49 dX10_pass_46 rfl fl_X10_16 ⟨_, by assumption, ?_⟩
      refine ⟨_, rfl, ?_⟩
      refine at_iload_n 50 dX10_pass_49 rfl rfl rfl ?_
      refine at_iconst 51 (nI 1) dX10_pass_50 rfl (by decide) ?_
      first | refine at_iaddN 52 dX10_pass_51 rfl ?_ | refine at_iadd 52 dX10_pass_51 rfl ?_
      refine at_aa 53 dX10_pass_52 rfl ⟨_, _, by assumption, by omega, by first | decide | omega, ?_⟩
      refine ⟨_, rowsAt_in (by omega), ?_⟩
      refine at_iconst 54 (nI 0) dX10_pass_53 rfl (by decide) ?_
      refine at_invV (ci := 9) 57 [_, _, _, _, _] _ (c_X9_split a1 a2 a3 kc ko (by omega) (by omega) (by omega) (by omega) (by omega) (by decide) (by omega) (by omega) (by omega)) dX10_pass_54 rfl rfl (by assumption) rfl ml_X10_37 cl_X9_split vl_X9_split rfl (Nat.le_of_ble_eq_true rfl) ⟨by decide, by decide⟩ (by decide) (fun rr hh qq => ?_)
      obtain ⟨rfl, ⟨R2, d2⟩, ⟨P2, d3⟩, dO, dfr⟩ := qq
      refine at_iincN (q := 1) (L' := [_, _, _]) 60 dX10_pass_57 rfl (by decide) rfl (by decide) rfl rfl ?_
      refine at_goto 19 dX10_pass_60 rfl ?_
      have hshare : ∀ i, i < 32 → shr 0 sz (share p wc sz) Fo i = outF L p c i := fun i hi => by
        have k1 : share p wc 32 = share p wc sz := share_ext hsz (fun i q1 q2 => by rw [ec i q2]; exact hL0 c i (by omega) q1 q2) (by omega)
        have k2 : share p wc 32 i = outF L p c i := share_congr (by decide) ec i hi
        unfold shr
        by_cases e : i < sz
        · rw [if_pos (by omega), ← k2, k1]; rfl
        · rw [if_neg (by omega), zo i (by omega) hi, ← k2]
          exact (share_zero (by omega) (by rw [ec i hi]; exact hL0 c i (by omega) (by omega) hi)).symm
      refine ih (c + 1) R2 P2 hh (by omega) d2 d3 (dfr.at (k := t) (by omega) aT) (fun c' hc' => (acr c' hc').fr dfr (by omega)) (ar0.fr dfr (by omega)) (fun c' hc' => ?_) (fun c' hc' => ?_) (hfr.tr dfr (fun j hj => by omega))
      · by_cases e : c' = c + 1
        · subst e
          refine ⟨_, dO, fun i q1 q2 => ?_⟩
          unfold shr
          rw [if_neg (by omega)]
          exact zo i q1 q2
        · obtain ⟨F, k1, k2⟩ := az c' hc'
          exact ⟨F, dfr.at (by omega) k1, k2⟩
      · by_cases e : c' = c
        · subst e
          exact ⟨_, dO, hshare⟩
        · exact (aout c' (by omega)).fr dfr (by omega)
    | zero =>
      intro c R P h1' hc a2 a3 aT acr ar0 az aout hfr
      have hcn : c = n := by omega
      refine at_iload_n 20 dX10_pass_19 rfl rfl rfl ?_
      refine at_aload_n 21 dX10_pass_20 rfl rfl rfl ?_
      refine at_g 24 dX10_pass_21 rfl fl_X10_19 ⟨_, by assumption, ?_⟩
      refine ⟨_, rfl, ?_⟩
      refine at_icmp_geN 63 27 dX10_pass_24 rfl rfl (by omega) (by omega) (fun cc => ?_) (fun cc => ?_)
      rotate_left
      · omega
      have hfrx := hfr
      rw [hcn] at aout
      refine at_aload_n 64 dX10_pass_63 rfl rfl rfl ?_
      refine at_iconst 65 (nI 1) dX10_pass_64 rfl (by decide) ?_
      refine at_pi 68 dX10_pass_65 rfl pl_X10_58 (by first | rfl | decide | assumption) (by first | rfl | decide | assumption) ⟨_, by assumption, ?_⟩
      refine ⟨(Nat.le_of_ble_eq_true rfl), [_, _, _, _, _, _, _, _], rfl, fun hh2 nn2 => ?_⟩
      have hoF : ∀ c i, c < n → i < 32 → outF L p c i ≤ L (32 * c + i) ∧ outF L p c i ≤ p ∧ (sz ≤ i → outF L p c i = 0) := fun c i hc hi => by
        have hsm : sm (fun k => L (32 * c + k)) 32 = w := hL c hc
        exact ⟨share_le (w := fun k => L (32 * c + k)) (by omega) (by omega) i, share_le_g (by omega) hi, fun q => share_zero (by omega) (hL0 c i hc q hi)⟩
      have hiF : ∀ c i, c < n → i < 32 → inF L lo p c i < 2 ^ 31 ∧ (sz ≤ i → inF L lo p c i = 0) := fun c i hc hi => by
        unfold inF
        by_cases e : c = 0
        · rw [if_pos e]; exact ⟨hlb i hi, fun q => hlo i q hi⟩
        · rw [if_neg e]
          obtain ⟨k1, k2, k3⟩ := hoF (c - 1) i (by omega) hi
          exact ⟨by omega, k3⟩
      have loop2 : ∀ (d c : Nat) (h2' : List PC), c + d = n → h2'[t]? = some (oTank t md n w p (if allB (fun c => allB (fun i => decide (inF L lo p c i = outF L p c i)) 32) c then 1 else 0)) → (∀ c', c' < 6 → Ar h2' (t + 1 + 1 + c') 32 (fun i => passL L lo p c (32 * c' + i))) → Fr (fun j => j = t ∨ (t + 2 ≤ j ∧ j ≤ t + 7)) h1' h2' → At mX10_pass T0 70 [.ref t, .ref q, .int (nI c)] [] h2' 0 0 (ZM mX10_pass (fun r h' => r = none ∧ (∃ R', h'[2]? = some (aL 32 R')) ∧ (∃ P', h'[3]? = some (aI 32 P')) ∧ h'[t]? = some (oTank t md n w p (if stillB L lo p n then 1 else 0)) ∧ TankA h' t (passL L lo p n) sz ∧ (∀ c, c < n → Ar h' (t + 8 + 1 + (c + 1)) 32 (outF L p c)) ∧ Fr (fun j => j = 2 ∨ j = 3 ∨ j = t ∨ (t + 2 ≤ j ∧ j ≤ t + 7) ∨ (t + 9 ≤ j ∧ j ≤ t + 15)) h h')) := by
        intro d
        induction d with
        | succ d ih =>
          intro c h2' hc bT bcr bfr
          have bq := bfr.at (k := q) (by omega) (hfr.at (k := q) (by omega) hQ)
          have e1 := bfr.at (k := t + 1) (by omega) (hfr.at (k := t + 1) (by omega) ho)
          have e8 := bfr.at (k := t + 8) (by omega) (hfr.at (k := t + 8) (by omega) hf)
          obtain ⟨a, ka, ea⟩ := bcr c (by omega)
          have ea : ∀ i, i < 32 → a i = L (32 * c + i) := fun i hi => by
            rw [ea i hi]
            show passL L lo p c (32 * c + i) = _
            unfold passL
            rw [if_neg (by omega)]
          have hin : Ar h2' (t + 8 + 1 + c) 32 (inF L lo p c) := by
            by_cases e : c = 0
            · subst e
              refine (ar0.fr bfr (by omega)).cg (fun i _ => ?_)
              unfold inF; rw [if_pos rfl]
            · have k1 := (aout (c - 1) (by omega)).fr bfr (by omega)
              rw [show c - 1 + 1 = c by omega] at k1
              refine k1.cg (fun i _ => ?_)
              unfold inF; rw [if_neg e]
          obtain ⟨f0, kf0, ef0⟩ := hin
          obtain ⟨f1, kf1, ef1⟩ := (aout c (by omega)).fr bfr (by omega)
          refine at_iload_n 71 dX10_pass_70 rfl rfl rfl ?_
          refine at_aload_n 72 dX10_pass_71 rfl rfl rfl ?_
          refine at_g 75 dX10_pass_72 rfl fl_X10_19 ⟨_, by assumption, ?_⟩
          refine ⟨_, rfl, ?_⟩
          refine at_icmp_geN 93 78 dX10_pass_75 rfl rfl (by omega) (by omega) (fun cc => ?_) (fun cc => ?_)
          · omega
          refine at_aload_n 79 dX10_pass_78 rfl rfl rfl ?_
          refine at_iload_n 80 dX10_pass_79 rfl rfl rfl ?_
          refine at_aload_n 81 dX10_pass_80 rfl rfl rfl ?_
          refine at_g 84 dX10_pass_81 rfl fl_X10_55 ⟨_, by assumption, ?_⟩
          refine ⟨_, rfl, ?_⟩
          refine at_invV (ci := 10) 87 [_, _] _ (c_X10_move bT e1 e8 ka kf0 kf1 (by omega) hsz (fun i hi => by rw [ef0 i (by omega)]; exact (hiF c i (by omega) (by omega)).1) (fun i hi => by rw [ef1 i (by omega)]; have := (hoF c i (by omega) (by omega)).2.1; omega) (fun i hi => by rw [ef1 i (by omega), ea i (by omega)]; have := (hoF c i (by omega) (by omega)).1; omega)) dX10_pass_84 rfl rfl (by assumption) rfl ml_X10_61 cl_X10_move vl_X10_move rfl (Nat.le_of_ble_eq_true rfl) ⟨by decide, by decide⟩ (by decide) (fun rr hh qq => ?_)
          obtain ⟨rfl, dT, da, dfr⟩ := qq
          refine at_iincN (q := 1) (L' := [_, _, _]) 90 dX10_pass_87 rfl (by decide) rfl (by decide) rfl rfl ?_
          refine at_goto 70 dX10_pass_90 rfl ?_
          refine ih (c + 1) hh (by omega) ?_ (fun c' hc' => ?_) (bfr.tr dfr (fun j hj => by omega))
          · rw [dT]
            have k1 : allB (fun i => decide (f0 i = f1 i)) sz = allB (fun i => decide (inF L lo p c i = outF L p c i)) 32 := by
              rw [allB_ext hsz (fun i q1 q2 => decide_eq_true (by rw [(hiF c i (by omega) q2).2 q1, (hoF c i (by omega) q2).2.2 q1]))]
              exact allB_congr (fun i hi => by rw [ef0 i (by omega), ef1 i (by omega)])
            rw [k1]
            show some (oTank t md n w p _) = some (oTank t md n w p (if (allB (fun c => allB (fun i => decide (inF L lo p c i = outF L p c i)) 32) c && allB (fun i => decide (inF L lo p c i = outF L p c i)) 32) = true then 1 else 0))
            cases h9 : allB (fun i => decide (inF L lo p c i = outF L p c i)) 32 with
            | true => rw [if_pos rfl, Bool.and_true]
            | false => rw [if_neg (by decide), Bool.and_false]; rfl
          · by_cases e : c' = c
            · subst e
              refine ⟨_, da, fun i hi => ?_⟩
              dsimp only
              unfold passL
              rw [if_pos (show 32 * c' + i < 32 * (c' + 1) by omega), show (32 * c' + i) / 32 = c' by omega, show (32 * c' + i) % 32 = i by omega]
              by_cases e2 : i < sz
              · rw [if_pos e2, ea i hi, ef0 i hi, ef1 i hi]
              · rw [if_neg e2, ea i hi, (hiF c' i (by omega) hi).2 (by omega), (hoF c' i (by omega) hi).2.2 (by omega)]
                omega
            · refine ((bcr c' hc').fr dfr (by omega)).cg (fun i hi => ?_)
              unfold passL
              by_cases e2 : c' < c
              · rw [if_pos (by omega), if_pos (by omega)]
              · rw [if_neg (by omega), if_neg (by omega)]
        | zero =>
          intro c h2' hc bT bcr bfr
          have hcn2 : c = n := by omega
          refine at_iload_n 71 dX10_pass_70 rfl rfl rfl ?_
          refine at_aload_n 72 dX10_pass_71 rfl rfl rfl ?_
          refine at_g 75 dX10_pass_72 rfl fl_X10_19 ⟨_, by assumption, ?_⟩
          refine ⟨_, rfl, ?_⟩
          refine at_icmp_geN 93 78 dX10_pass_75 rfl rfl (by omega) (by omega) (fun cc => ?_) (fun cc => ?_)
          rotate_left
          · omega
          rw [hcn2] at bT bcr
          refine at_vret dX10_pass_93 rfl (by decide) (by decide) ?_
          refine ⟨rfl, ⟨R, bfr.at (k := 2) (by omega) a2⟩, ⟨P, bfr.at (k := 3) (by omega) a3⟩, bT, ⟨bfr.at (k := t + 1) (by omega) (hfr.at (k := t + 1) (by omega) ho), bfr.at (k := t + 8) (by omega) (hfr.at (k := t + 8) (by omega) hf), bcr, fun c' hc' => ?_⟩, fun c' hc' => (aout c' hc').fr bfr (by omega), hfr.tr bfr (fun j hj => by omega)⟩
          obtain ⟨F, k1, k2⟩ := az c' hc'
          exact ⟨F, bfr.at (by omega) k1, k2⟩
      refine at_iconst 69 (nI 0) dX10_pass_68 rfl (by decide) ?_
      refine at_istore_n (L' := [_, _, _]) 70 dX10_pass_69 rfl rfl (by decide) rfl rfl ?_
      refine loop2 n 0 hh2 (by omega) nn2.1 (fun c' hc' => ?_) (Fr.rf.nw nn2 (by omega))
      refine ((acr c' hc').nw nn2 (by omega)).cg (fun i hi => ?_)
      unfold passL
      rw [if_neg (by omega)]
  exact loop1 n 0 R P hh1 (by omega) c2 c3 cT ccr hrow0 hz1 (fun c' hc' => by omega) hfr

