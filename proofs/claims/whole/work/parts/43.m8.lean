/-! ===== the search for a ring ends ===== -/
def gc (c : Nat) : Nat → Nat := fun x => c / 8 ^ x % 8
def enc (o : Nat → Nat) : Nat := o 0 + 8 * o 1 + 64 * o 2 + 512 * o 3 + 4096 * o 4 + 32768 * o 5
theorem gc_enc {o : Nat → Nat} (h : ∀ x, x < 6 → o x < 8) : ∀ x, x < 6 → gc (enc o) x = o x := fun x hx => by
  have h0 := h 0 (by omega)
  have h1 := h 1 (by omega)
  have h2 := h 2 (by omega)
  have h3 := h 3 (by omega)
  have h4 := h 4 (by omega)
  have h5 := h 5 (by omega)
  rcases (by omega : x = 0 ∨ x = 1 ∨ x = 2 ∨ x = 3 ∨ x = 4 ∨ x = 5) with rfl | rfl | rfl | rfl | rfl | rfl
  · show enc o / 1 % 8 = o 0; unfold enc; omega
  · show enc o / 8 % 8 = o 1; unfold enc; omega
  · show enc o / 64 % 8 = o 2; unfold enc; omega
  · show enc o / 512 % 8 = o 3; unfold enc; omega
  · show enc o / 4096 % 8 = o 4; unfold enc; omega
  · show enc o / 32768 % 8 = o 5; unfold enc; omega
def frc (c : Nat) (f : Nat → Bool) : Bool := match c with
  | 0 => f 0
  | n + 1 => f (n + 1)
theorem frc_eq (c : Nat) (f : Nat → Bool) : frc c f = f c := by cases c <;> rfl
def endsC (m : Nat) : Nat → Nat → Bool
  | 0, _ => false
  | k + 1, c => if pivN (gc c) (m - 2) = 0 then true else frc (enc (nxtO m (gc c))) (endsC m k)
def endsK (k : Nat) : Bool := frc (ringM k) (fun m => frc (enc (ringO k)) (fun c => endsC m 130 c))
theorem ring_ends : ∀ k, k < 64 → 1 ≤ k → endsK k = true := by decide +kernel
theorem ringO_b (k : Nat) : ∀ x, x < 6 → ringO k x < 6 := gatN_b (fun _ _ => by decide) 6 (Nat.le_refl _)
theorem ring_ends' {k : Nat} (h1 : k < 64) (h2 : 1 ≤ k) : endsC (ringM k) 130 (enc (ringO k)) = true := by
  have := ring_ends k h1 h2
  unfold endsK at this
  rw [frc_eq, frc_eq] at this
  exact this
theorem nxtO_cg6 {a b : Nat → Nat} {m : Nat} (h : ∀ x, x < 6 → a x = b x) (hm : 2 ≤ m) (hm6 : m ≤ 6) : ∀ x, x < 6 → nxtO m a x = nxtO m b x := fun x hx => by
  by_cases q : x < m
  · exact nxtO_congr (fun y hy => h y (by omega)) hm x q
  · have hp : pivN a (m - 2) = pivN b (m - 2) := pivN_congr (fun j hj => h j (by omega))
    have hpl := pivN_le b (m - 2)
    have hs : swpN a (pivN b (m - 2)) (m - 1) = swpN b (pivN b (m - 2)) (m - 1) := swpN_congr (fun j hj => h j (by omega)) (by omega)
    have hsl := swpN_le b (pivN b (m - 2)) (m - 1) (by omega)
    unfold nxtO
    rw [hp, hs, if_neg (by omega), if_neg (by omega)]
    exact swapF_congr (m := 6) h (by omega) (by omega) x hx
theorem ends_step {m k c : Nat} {O : Nat → Nat} (h : endsC m (k + 1) c = true) (hO : ∀ x, x < 6 → O x = gc c x) (hb : ∀ x, x < 6 → O x < 6) (hm : m ≤ 6) (hp : pivN O (m - 2) ≠ 0) : ∃ c', endsC m k c' = true ∧ ∀ x, x < 6 → nxtO m O x = gc c' x := by
  have hm2 : 2 ≤ m := by
    apply Classical.byContradiction
    intro q
    apply hp
    rw [show m - 2 = 0 by omega]; rfl
  have hpe : pivN O (m - 2) = pivN (gc c) (m - 2) := pivN_congr (fun j hj => hO j (by omega))
  have h1 : endsC m (k + 1) c = if pivN (gc c) (m - 2) = 0 then true else frc (enc (nxtO m (gc c))) (endsC m k) := rfl
  rw [h1, if_neg (by rw [← hpe]; exact hp), frc_eq] at h
  have hcg := nxtO_cg6 hO hm2 hm
  have hnb := nxtO_b hb hm hm2
  exact ⟨_, h, fun x hx => by rw [gc_enc (fun y hy => by rw [← hcg y hy]; have := hnb y hy; omega) x hx]; exact hcg x hx⟩
theorem gatN_ext {k nc : Nat} {f : Nat → Nat} (hk : k < 2 ^ nc) : ∀ d, gatN k f (nc + d) = gatN k f nc
  | 0 => rfl
  | d + 1 => by
    have hb : bitN k (nc + d) = 0 := by
      unfold bitN
      have : 2 ^ nc ≤ 2 ^ (nc + d) := Nat.pow_le_pow_right (by decide) (by omega)
      rw [Nat.div_eq_of_lt (by omega)]
    have h1 : gatN k f (nc + (d + 1)) = if bitN k (nc + d) = 1 then ((gatN k f (nc + d)).1 + 1, updN (gatN k f (nc + d)).2 (gatN k f (nc + d)).1 (nc + d)) else gatN k f (nc + d) := rfl
    rw [h1, if_neg (by omega)]
    exact gatN_ext hk d
theorem sumO_s (ch o : Nat → Nat) {m : Nat} (hm : 1 ≤ m) : sumO ch o m = ch (6 * o (m - 1) + o 0) + sm (fun i => ch (6 * o i + o (i + 1))) (m - 1) := by
  obtain ⟨j, rfl⟩ : ∃ j, m = j + 1 := ⟨m - 1, by omega⟩
  show sm (fun i => ch (6 * o i + (if i + 1 < j + 1 then o (i + 1) else o 0))) j + ch (6 * o j + (if j + 1 < j + 1 then o (j + 1) else o 0)) = _
  rw [if_neg (by omega), Nat.add_sub_cancel, Nat.add_comm]
  congr 1
  exact sm_congr (fun i hi => by rw [if_pos (by omega)])
theorem c_turns {s : St} {h : List PC} {m : Nat} {o : Nat → Nat} (m0 : h[106]? = some (oM s)) (ho : h[133]? = some (aI 6 o)) (hm : m ≤ 6) (hm0 : 0 < m) (hb : ∀ x, x < m → o x < 6) : Ct mX12_turns [.ref 106, .int (nI m)] h (fun r h' => r = some (.int (bI (decide (pivN o (m - 2) ≠ 0)))) ∧ Ar h' 133 6 (if pivN o (m - 2) = 0 then o else nxtO m o) ∧ Fr (fun j => j = 133) h h') := by
  refine ct_at (L := [_, _, _, _, _, _, _]) (by decide +kernel) rfl rfl (Nat.le_of_ble_eq_true rfl) ?_
  refine at_iload_n 1 dX12_turns_0 rfl rfl rfl ?_
  refine at_iconst 2 (nI 2) dX12_turns_1 rfl (by decide) ?_
  rcases Nat.lt_or_ge m 2 with q | q
  · have hm1 : m = 1 := by omega
    subst hm1
    refine at_isub 3 dX12_turns_2 rfl ?_
    rw [show nI 1 - nI 2 = -1 by decide]
    refine at_istore_n (L' := [_, _, _, _, _, _, _]) 4 dX12_turns_3 rfl rfl (by decide) rfl rfl ?_
    refine at_iload_n 5 dX12_turns_4 rfl rfl rfl ?_
    refine at_if_le 31 8 dX12_turns_5 rfl rfl (fun cc => ?_) (fun cc => ?_)
    rotate_left
    · exact absurd (by decide) cc
    refine at_iload_n 32 dX12_turns_31 rfl rfl rfl ?_
    refine at_if_gt 37 35 dX12_turns_32 rfl rfl (fun cc => ?_) (fun cc => ?_)
    · exact absurd cc (by decide)
    refine at_iconst 36 (nI 0) dX12_turns_35 rfl (by decide) ?_
    refine at_zret dX12_turns_36 rfl (by first | rfl | decide) (by decide) (by decide) ?_
    exact ⟨bI_f (fun q => q rfl), ⟨o, ho, fun x hx => by rw [if_pos (show pivN o (1 - 2) = 0 from rfl)]⟩, Fr.rf⟩
  first | refine at_isubN 3 dX12_turns_2 rfl (by omega) ?_ | refine at_isub 3 dX12_turns_2 rfl ?_
  refine at_istore_n (L' := [_, _, _, _, _, _, _]) 4 dX12_turns_3 rfl rfl (by decide) rfl rfl ?_
  have fin : ∀ k, k ≤ m - 2 → pivN o (m - 2) = k → At mX12_turns T0 31 [.ref 106, .int (nI m), .int (nI k), .null, .null, .null, .null] [] h 0 0 (ZM mX12_turns (fun r h' => r = some (.int (bI (decide (pivN o (m - 2) ≠ 0)))) ∧ Ar h' 133 6 (if pivN o (m - 2) = 0 then o else nxtO m o) ∧ Fr (fun j => j = 133) h h')) := by
    intro k hk hp
    refine at_iload_n 32 dX12_turns_31 rfl rfl rfl ?_
    refine at_if_gtN 37 35 dX12_turns_32 rfl rfl (by omega) (fun cc => ?_) (fun cc => ?_)
    · refine at_iload_n 38 dX12_turns_37 rfl rfl rfl ?_
      refine at_iconst 39 (nI 1) dX12_turns_38 rfl (by decide) ?_
      first | refine at_isubN 40 dX12_turns_39 rfl (by omega) ?_ | refine at_isub 40 dX12_turns_39 rfl ?_
      refine at_istore_n (L' := [_, _, _, _, _, _, _]) 41 dX12_turns_40 rfl rfl (by decide) rfl rfl ?_
      have hs := swpN_le o k (m - 1) (by omega)
      have go : ∀ j, k ≤ j → j ≤ m - 1 → swpN o k (m - 1) = j → At mX12_turns T0 62 [.ref 106, .int (nI m), .int (nI k), .int (nI j), .null, .null, .null] [] h 0 0 (ZM mX12_turns (fun r h' => r = some (.int (bI (decide (pivN o (m - 2) ≠ 0)))) ∧ Ar h' 133 6 (if pivN o (m - 2) = 0 then o else nxtO m o) ∧ Fr (fun j => j = 133) h h')) := by
        intro j hj1 hj2 hsj
        have hfr : Fr (fun j => j = 133) h h := Fr.rf
        refine at_aload_n 63 dX12_turns_62 rfl rfl rfl ?_
        refine at_g 66 dX12_turns_63 rfl fl_X12_102 ⟨_, by assumption, ?_⟩
        refine ⟨_, rfl, ?_⟩
        refine at_iload_n 67 dX12_turns_66 rfl rfl rfl ?_
        first | refine at_ia 68 dX12_turns_67 rfl ⟨_, _, by assumption, by omega, by first | decide | omega, ?_⟩ | refine at_iaG 68 dX12_turns_67 rfl ⟨_, _, by assumption, by omega, by first | decide | omega, ?_⟩
        refine at_istore (L' := [_, _, _, _, _, _, _]) 70 dX12_turns_68 rfl (by decide) rfl rfl ?_
        refine at_aload_n 71 dX12_turns_70 rfl rfl rfl ?_
        refine at_g 74 dX12_turns_71 rfl fl_X12_102 ⟨_, by assumption, ?_⟩
        refine ⟨_, rfl, ?_⟩
        refine at_iload_n 75 dX12_turns_74 rfl rfl rfl ?_
        refine at_aload_n 76 dX12_turns_75 rfl rfl rfl ?_
        refine at_g 79 dX12_turns_76 rfl fl_X12_102 ⟨_, by assumption, ?_⟩
        refine ⟨_, rfl, ?_⟩
        refine at_iload_n 80 dX12_turns_79 rfl rfl rfl ?_
        first | refine at_ia 81 dX12_turns_80 rfl ⟨_, _, by assumption, by omega, by first | decide | omega, ?_⟩ | refine at_iaG 81 dX12_turns_80 rfl ⟨_, _, by assumption, by omega, by first | decide | omega, ?_⟩
        first | refine at_is 82 dX12_turns_81 rfl ⟨_, _, by assumption, by omega, by first | decide | omega, fun hh1 nn1 => ?_⟩ | refine at_isG 82 dX12_turns_81 rfl ⟨_, _, by assumption, by omega, by first | decide | omega, fun hh1 nn1 => ?_⟩
        replace m0 := nn1.o (by first | decide | omega | assumption) m0
        replace ho := nn1.1
        replace hfr := hfr.nw nn1 (by first | (dsimp only; omega) | (dsimp only; done) | simp)
        clear nn1
        refine at_aload_n 83 dX12_turns_82 rfl rfl rfl ?_
        refine at_g 86 dX12_turns_83 rfl fl_X12_102 ⟨_, by assumption, ?_⟩
        refine ⟨_, rfl, ?_⟩
        refine at_iload_n 87 dX12_turns_86 rfl rfl rfl ?_
        refine at_iload 89 dX12_turns_87 rfl rfl ?_
        first | refine at_is 90 dX12_turns_89 rfl ⟨_, _, by assumption, by omega, by first | decide | omega, fun hh2 nn2 => ?_⟩ | refine at_isG 90 dX12_turns_89 rfl ⟨_, _, by assumption, by omega, by first | decide | omega, fun hh2 nn2 => ?_⟩
        replace m0 := nn2.o (by first | decide | omega | assumption) m0
        replace ho := nn2.1
        replace hfr := hfr.nw nn2 (by first | (dsimp only; omega) | (dsimp only; done) | simp)
        clear nn2
        refine at_iload_n 91 dX12_turns_90 rfl rfl rfl ?_
        refine at_iconst 92 (nI 1) dX12_turns_91 rfl (by decide) ?_
        first | refine at_isubN 93 dX12_turns_92 rfl (by omega) ?_ | refine at_isub 93 dX12_turns_92 rfl ?_
        refine at_istore (L' := [_, _, _, _, _, _, _]) 95 dX12_turns_93 rfl (by decide) rfl rfl ?_
        refine at_iload_n 96 dX12_turns_95 rfl rfl rfl ?_
        refine at_iconst 97 (nI 1) dX12_turns_96 rfl (by decide) ?_
        first | refine at_iaddN 98 dX12_turns_97 rfl ?_ | refine at_iadd 98 dX12_turns_97 rfl ?_
        refine at_istore (L' := [_, _, _, _, _, _, _]) 100 dX12_turns_98 rfl (by decide) rfl rfl ?_
        rename List PC => h1
        have rev : ∀ (d t v4 : Nat) (h' : List PC), (m - 1 - t) - (k + 1 + t) ≤ d → k + 1 + 2 * t ≤ m → h'[106]? = some (oM s) → h'[133]? = some (aI 6 (revS (k + 1) (m - 1) t (swapF o k j))) → Fr (fun j => j = 133) h h' → At mX12_turns T0 100 [.ref 106, .int (nI m), .int (nI k), .int (nI j), .int (nI v4), .int (nI (m - 1 - t)), .int (nI (k + 1 + t))] [] h' 0 0 (ZM mX12_turns (fun r h' => r = some (.int (bI (decide (pivN o (m - 2) ≠ 0)))) ∧ Ar h' 133 6 (if pivN o (m - 2) = 0 then o else nxtO m o) ∧ Fr (fun j => j = 133) h h')) := by
          intro d
          have stop : ∀ (t v4 : Nat) (h' : List PC), ¬ (k + 1 + t < m - 1 - t) → k + 1 + 2 * t ≤ m → h'[133]? = some (aI 6 (revS (k + 1) (m - 1) t (swapF o k j))) → Fr (fun j => j = 133) h h' → At mX12_turns T0 148 [.ref 106, .int (nI m), .int (nI k), .int (nI j), .int (nI v4), .int (nI (m - 1 - t)), .int (nI (k + 1 + t))] [] h' 0 0 (ZM mX12_turns (fun r h' => r = some (.int (bI (decide (pivN o (m - 2) ≠ 0)))) ∧ Ar h' 133 6 (if pivN o (m - 2) = 0 then o else nxtO m o) ∧ Fr (fun j => j = 133) h h')) := by
            intro t v4 h' hlt hsm a5 hfr
            refine at_iconst 149 (nI 1) dX12_turns_148 rfl (by decide) ?_
            refine at_zret dX12_turns_149 rfl (by first | rfl | decide) (by decide) (by decide) ?_
            refine ⟨bI_t (by omega), ⟨_, a5, fun x hx => ?_⟩, hfr⟩
            rw [if_neg (by omega)]
            unfold nxtO revS
            rw [hp, hsj]
            by_cases e : k + 1 ≤ x ∧ x < m
            · rw [if_pos e]
              by_cases e2 : (k + 1 ≤ x ∧ x < k + 1 + t) ∨ (m - 1 < x + t ∧ x ≤ m - 1)
              · rw [if_pos e2]; congr 1; omega
              · rw [if_neg e2]; congr 1; omega
            · rw [if_neg e, if_neg (by omega)]
          induction d with
          | zero =>
            intro t v4 h' hd hsm a0 a5 hfr
            refine at_iload 102 dX12_turns_100 rfl rfl ?_
            refine at_iload 104 dX12_turns_102 rfl rfl ?_
            refine at_icmp_geN 148 107 dX12_turns_104 rfl rfl (by omega) (by omega) (fun cc => ?_) (fun cc => ?_)
            rotate_left
            · omega
            exact stop t v4 h' (by omega) hsm a5 hfr
          | succ d ih =>
            intro t v4 h' hd hsm a0 a5 hfr
            refine at_iload 102 dX12_turns_100 rfl rfl ?_
            refine at_iload 104 dX12_turns_102 rfl rfl ?_
            refine at_icmp_geN 148 107 dX12_turns_104 rfl rfl (by omega) (by omega) (fun cc => ?_) (fun cc => ?_)
            · exact stop t v4 h' (by omega) hsm a5 hfr
            refine at_aload_n 108 dX12_turns_107 rfl rfl rfl ?_
            refine at_g 111 dX12_turns_108 rfl fl_X12_102 ⟨_, by assumption, ?_⟩
            refine ⟨_, rfl, ?_⟩
            refine at_iload 113 dX12_turns_111 rfl rfl ?_
            first | refine at_ia 114 dX12_turns_113 rfl ⟨_, _, by assumption, by omega, by first | decide | omega, ?_⟩ | refine at_iaG 114 dX12_turns_113 rfl ⟨_, _, by assumption, by omega, by first | decide | omega, ?_⟩
            refine at_istore (L' := [_, _, _, _, _, _, _]) 116 dX12_turns_114 rfl (by decide) rfl rfl ?_
            refine at_aload_n 117 dX12_turns_116 rfl rfl rfl ?_
            refine at_g 120 dX12_turns_117 rfl fl_X12_102 ⟨_, by assumption, ?_⟩
            refine ⟨_, rfl, ?_⟩
            refine at_iload 122 dX12_turns_120 rfl rfl ?_
            refine at_aload_n 123 dX12_turns_122 rfl rfl rfl ?_
            refine at_g 126 dX12_turns_123 rfl fl_X12_102 ⟨_, by assumption, ?_⟩
            refine ⟨_, rfl, ?_⟩
            refine at_iload 128 dX12_turns_126 rfl rfl ?_
            first | refine at_ia 129 dX12_turns_128 rfl ⟨_, _, by assumption, by omega, by first | decide | omega, ?_⟩ | refine at_iaG 129 dX12_turns_128 rfl ⟨_, _, by assumption, by omega, by first | decide | omega, ?_⟩
            first | refine at_is 130 dX12_turns_129 rfl ⟨_, _, by assumption, by omega, by first | decide | omega, fun hh3 nn3 => ?_⟩ | refine at_isG 130 dX12_turns_129 rfl ⟨_, _, by assumption, by omega, by first | decide | omega, fun hh3 nn3 => ?_⟩
            replace a0 := nn3.o (by first | decide | omega | assumption) a0
            replace a5 := nn3.1
            replace hfr := hfr.nw nn3 (by first | (dsimp only; omega) | (dsimp only; done) | simp)
            clear nn3
            refine at_aload_n 131 dX12_turns_130 rfl rfl rfl ?_
            refine at_g 134 dX12_turns_131 rfl fl_X12_102 ⟨_, by assumption, ?_⟩
            refine ⟨_, rfl, ?_⟩
            refine at_iload 136 dX12_turns_134 rfl rfl ?_
            refine at_iload 138 dX12_turns_136 rfl rfl ?_
            first | refine at_is 139 dX12_turns_138 rfl ⟨_, _, by assumption, by omega, by first | decide | omega, fun hh4 nn4 => ?_⟩ | refine at_isG 139 dX12_turns_138 rfl ⟨_, _, by assumption, by omega, by first | decide | omega, fun hh4 nn4 => ?_⟩
            replace a0 := nn4.o (by first | decide | omega | assumption) a0
            replace a5 := nn4.1
            replace hfr := hfr.nw nn4 (by first | (dsimp only; omega) | (dsimp only; done) | simp)
            clear nn4
            have e5 := revS_s (a := k + 1) (b := m - 1) (s := t) (o := swapF o k j) (by omega)
            unfold swapF at e5
            unfold swapF at a5
            rw [e5] at a5
            rw [show m - 1 - t = (m - 1 - (t + 1)) + 1 by omega]
            refine at_idecN (L' := [_, _, _, _, _, _, _]) 142 dX12_turns_139 rfl rfl (by decide) rfl rfl ?_
            refine at_iincN (q := 1) (L' := [_, _, _, _, _, _, _]) 145 dX12_turns_142 rfl (by decide) rfl (by decide) rfl rfl ?_
            refine at_goto 100 dX12_turns_145 rfl ?_
            refine ih (t + 1) _ _ (by omega) (by omega) a0 ?_ hfr
            unfold swapF
            exact a5
        refine rev 10 0 _ _ (by omega) (by omega) m0 (by rw [revS_0]; exact ho) hfr
      have look : ∀ j, k ≤ j → j ≤ m - 1 → swpN o k (m - 1) = swpN o k j → At mX12_turns T0 41 [.ref 106, .int (nI m), .int (nI k), .int (nI j), .null, .null, .null] [] h 0 0 (ZM mX12_turns (fun r h' => r = some (.int (bI (decide (pivN o (m - 2) ≠ 0)))) ∧ Ar h' 133 6 (if pivN o (m - 2) = 0 then o else nxtO m o) ∧ Fr (fun j => j = 133) h h')) := by
        intro j
        induction j with
        | zero =>
          intro hj1 hj2 hsj
          omega
        | succ j ih =>
          intro hj1 hj2 hsj
          have b1 := hb (j + 1) (by omega)
          have b2 := hb k (by omega)
          refine at_aload_n 42 dX12_turns_41 rfl rfl rfl ?_
          refine at_g 45 dX12_turns_42 rfl fl_X12_102 ⟨_, by assumption, ?_⟩
          refine ⟨_, rfl, ?_⟩
          refine at_iload_n 46 dX12_turns_45 rfl rfl rfl ?_
          first | refine at_ia 47 dX12_turns_46 rfl ⟨_, _, by assumption, by omega, by first | decide | omega, ?_⟩ | refine at_iaG 47 dX12_turns_46 rfl ⟨_, _, by assumption, by omega, by first | decide | omega, ?_⟩
          refine at_aload_n 48 dX12_turns_47 rfl rfl rfl ?_
          refine at_g 51 dX12_turns_48 rfl fl_X12_102 ⟨_, by assumption, ?_⟩
          refine ⟨_, rfl, ?_⟩
          refine at_iload_n 52 dX12_turns_51 rfl rfl rfl ?_
          first | refine at_ia 53 dX12_turns_52 rfl ⟨_, _, by assumption, by omega, by first | decide | omega, ?_⟩ | refine at_iaG 53 dX12_turns_52 rfl ⟨_, _, by assumption, by omega, by first | decide | omega, ?_⟩
          refine at_icmp_geN 62 56 dX12_turns_53 rfl rfl (by omega) (by omega) (fun cc => ?_) (fun cc => ?_)
          · refine go (j + 1) hj1 hj2 ?_
            rw [hsj]
            show (if k < j + 1 ∧ o (j + 1) < o k then swpN o k j else j + 1) = j + 1
            rw [if_neg (by omega)]
          · have hne : k < j + 1 := by
              rcases Nat.lt_or_ge k (j + 1) with q | q
              · exact q
              · have : k = j + 1 := by omega
                rw [this] at cc
                omega
            refine at_idecN (L' := [_, _, _, _, _, _, _]) 59 dX12_turns_56 rfl rfl (by decide) rfl rfl ?_
            refine at_goto 41 dX12_turns_59 rfl ?_
            refine ih (by omega) (by omega) ?_
            rw [hsj]
            show (if k < j + 1 ∧ o (j + 1) < o k then swpN o k j else j + 1) = swpN o k j
            rw [if_pos ⟨hne, cc⟩]
      exact look (m - 1) (by omega) (by omega) rfl
    · refine at_iconst 36 (nI 0) dX12_turns_35 rfl (by decide) ?_
      refine at_zret dX12_turns_36 rfl (by first | rfl | decide) (by decide) (by decide) ?_
      exact ⟨bI_f (by omega), ⟨o, ho, fun x hx => by rw [if_pos (by omega)]⟩, Fr.rf⟩
  have loop : ∀ k, k ≤ m - 2 → pivN o (m - 2) = pivN o k → At mX12_turns T0 4 [.ref 106, .int (nI m), .int (nI k), .null, .null, .null, .null] [] h 0 0 (ZM mX12_turns (fun r h' => r = some (.int (bI (decide (pivN o (m - 2) ≠ 0)))) ∧ Ar h' 133 6 (if pivN o (m - 2) = 0 then o else nxtO m o) ∧ Fr (fun j => j = 133) h h')) := by
    intro k
    induction k with
    | zero =>
      intro hk hp
      refine at_iload_n 5 dX12_turns_4 rfl rfl rfl ?_
      refine at_if_leN 31 8 dX12_turns_5 rfl rfl (by omega) (fun cc => ?_) (fun cc => ?_)
      · exact fin 0 hk hp
      · omega
    | succ k ih =>
      intro hk hp
      have b1 := hb (k + 1) (by omega)
      have b2 := hb (k + 1 + 1) (by omega)
      have hpd : pivN o (k + 1) = if o (k + 1 + 1) < o (k + 1) then pivN o k else k + 1 := rfl
      refine at_iload_n 5 dX12_turns_4 rfl rfl rfl ?_
      refine at_if_leN 31 8 dX12_turns_5 rfl rfl (by omega) (fun cc => ?_) (fun cc => ?_)
      · omega
      refine at_aload_n 9 dX12_turns_8 rfl rfl rfl ?_
      refine at_g 12 dX12_turns_9 rfl fl_X12_102 ⟨_, by assumption, ?_⟩
      refine ⟨_, rfl, ?_⟩
      refine at_iload_n 13 dX12_turns_12 rfl rfl rfl ?_
      first | refine at_ia 14 dX12_turns_13 rfl ⟨_, _, by assumption, by omega, by first | decide | omega, ?_⟩ | refine at_iaG 14 dX12_turns_13 rfl ⟨_, _, by assumption, by omega, by first | decide | omega, ?_⟩
      refine at_aload_n 15 dX12_turns_14 rfl rfl rfl ?_
      refine at_g 18 dX12_turns_15 rfl fl_X12_102 ⟨_, by assumption, ?_⟩
      refine ⟨_, rfl, ?_⟩
      refine at_iload_n 19 dX12_turns_18 rfl rfl rfl ?_
      refine at_iconst 20 (nI 1) dX12_turns_19 rfl (by decide) ?_
      first | refine at_iaddN 21 dX12_turns_20 rfl ?_ | refine at_iadd 21 dX12_turns_20 rfl ?_
      first | refine at_ia 22 dX12_turns_21 rfl ⟨_, _, by assumption, by omega, by first | decide | omega, ?_⟩ | refine at_iaG 22 dX12_turns_21 rfl ⟨_, _, by assumption, by omega, by first | decide | omega, ?_⟩
      refine at_icmp_leN 31 25 dX12_turns_22 rfl rfl (by omega) (by omega) (fun cc => ?_) (fun cc => ?_)
      · exact fin (k + 1) hk (by rw [hp, hpd, if_neg (by omega)])
      · refine at_idecN (L' := [_, _, _, _, _, _, _]) 28 dX12_turns_25 rfl rfl (by decide) rfl rfl ?_
        refine at_goto 4 dX12_turns_28 rfl ?_
        exact ih (by omega) (by rw [hp, hpd, if_pos cc])
  exact loop (m - 2) (Nat.le_refl _) rfl
theorem m_ring {s : St} {h : List PC} (hI : Inv s) (hR : RepM s h) (x : Int32) : Ct mX12_ring [.ref 106, .int x] h (RM (fRing s x) h) := by
  obtain ⟨m0, mF, mL, mC, mH, mR, mS⟩ := id hR; obtain ⟨⟨i0, i1, i2, i3, i4, i5, i6, i7, i8, i9, i10, i11⟩, k1, k2, k3, k4, k5, k5z, k5s, k6, k6z, k7, k7s, k8s, k8z, k9, k10, k11, k11z, k50, k15, k16⟩ := id hI; obtain ⟨⟨le, f119, e119⟩, ⟨mo, f120, e120⟩, ⟨ch, f121, e121⟩⟩ := id mC; obtain ⟨rg, f134, e134⟩ := id mR
  have hp2 := p2_le (s 0 6) (by omega)
  refine ct_at (L := [_, _, _, _, _, _, _]) (by decide +kernel) rfl rfl (Nat.le_of_ble_eq_true rfl) ?_
  refine at_iload_n 1 dX12_ring_0 rfl rfl rfl ?_
  refine at_if_le 14 4 dX12_ring_1 rfl rfl (fun cc => ?_) (fun cc => ?_)
  · refine at_ldc 16 (-1000000000) dX12_ring_14 rfl cn_X12_118 ?_
    refine at_iret dX12_ring_16 rfl (by decide) (by decide) ?_
    exact rm_no (fun ⟨k, q1, q2, q3⟩ => by
      rw [q3] at cc
      have := (nI_leI (b := 0) (by omega) (by decide)).mp cc
      omega) hR
  obtain ⟨k, hk31, rfl⟩ := nI_of (x := x) (fun q => cc (Int32.le_of_lt q))
  have hk1 : 1 ≤ k := by
    rcases Nat.eq_zero_or_pos k with q | q
    · exact absurd (by rw [q]; decide) cc
    · exact q
  clear cc
  refine at_iload_n 5 dX12_ring_4 rfl rfl rfl ?_
  refine at_iconst 6 (nI 1) dX12_ring_5 rfl (by decide) ?_
  refine at_aload_n 7 dX12_ring_6 rfl rfl rfl ?_
  refine at_g 10 dX12_ring_7 rfl fl_X12_115 ⟨_, by assumption, ?_⟩
  refine ⟨_, rfl, ?_⟩
  refine at_ishl 11 dX12_ring_10 rfl ?_
  rw [shl_p (s 0 6) (by omega)]
  refine at_icmp_ltN 17 14 dX12_ring_11 rfl rfl (by omega) (by omega) (fun cc => ?_) (fun cc => ?_)
  rotate_left
  · refine at_ldc 16 (-1000000000) dX12_ring_14 rfl cn_X12_118 ?_
    refine at_iret dX12_ring_16 rfl (by decide) (by decide) ?_
    exact rm_no (fun ⟨k2, q1, q2, q3⟩ => by
      have := nI_inj q3 (by omega) (by omega)
      omega) hR
  have hk : k < 2 ^ s 0 6 := cc
  clear cc
  have hk64 : k < 64 := by omega
  obtain ⟨x115, x116, x117, x118, hSH, x130, x131, x132, ⟨w133, f133⟩⟩ := id mS
  have hm1 := ringM_pos k hk64 hk1
  have hm6 := ringM_le k
  have yes : ∃ k2, 1 ≤ k2 ∧ k2 < 2 ^ s 0 6 ∧ nI k = nI k2 := ⟨k, hk1, hk, rfl⟩
  have scr : ∀ (h2 : List PC) (P : Nat → Prop), Fr P h h2 → (∀ j, P j → j = 106 ∨ j = 133 ∨ j = 134) → (∃ w, h2[133]? = some (aI 6 w)) → MS h2 := by
    intro h2 P fr hp y133
    refine ⟨?_, ?_, ?_, ?_, hSH.fr fr (fun j h1 h2 h3 => by have := hp j h3; omega), ?_, ?_, ?_, y133⟩
    · obtain ⟨v, hv⟩ := x115; exact ⟨v, fr.at (fun q => by have := hp _ q; omega) hv⟩
    · obtain ⟨v, hv⟩ := x116; exact ⟨v, fr.at (fun q => by have := hp _ q; omega) hv⟩
    · obtain ⟨v, hv⟩ := x117; exact ⟨v, fr.at (fun q => by have := hp _ q; omega) hv⟩
    · obtain ⟨v, hv⟩ := x118; exact ⟨v, fr.at (fun q => by have := hp _ q; omega) hv⟩
    · obtain ⟨v, hv⟩ := x130; exact ⟨v, fr.at (fun q => by have := hp _ q; omega) hv⟩
    · obtain ⟨v, hv⟩ := x131; exact ⟨v, fr.at (fun q => by have := hp _ q; omega) hv⟩
    · obtain ⟨v, hv⟩ := x132; exact ⟨v, fr.at (fun q => by have := hp _ q; omega) hv⟩
  -- an order is weighed: from 61 to 187
  have proc : ∀ (O : Nat → Nat) (o w : Nat → Nat) (lv : Int32) (B : Option Nat) (h' : List PC), (∀ y, y < (ringM k) → o y = O y) → (∀ y, y < 6 → O y < 6) → ((B = none ∧ lv = -1) ∨ ∃ b, B = some b ∧ b ≤ 6000 ∧ lv = nI b) → h'[106]? = some (oM s) → h'[133]? = some (aI 6 o) → h'[134]? = some (aI 6 w) → Fr (fun j => j = 133 ∨ j = 134) h h' →
      (∀ (b : Nat) (w2 : Nat → Nat) (h2 : List PC), b ≤ 6000 → ((b = sumO (s 11) O (ringM k) ∧ (∀ b0, B = some b0 → sumO (s 11) O (ringM k) < b0) ∧ ∀ y, y < 6 → w2 y = if y < (ringM k) then O y else w y) ∨ (∃ b0, B = some b0 ∧ b = b0 ∧ b0 ≤ sumO (s 11) O (ringM k) ∧ w2 = w)) → h2[106]? = some (oM s) → h2[133]? = some (aI 6 o) → h2[134]? = some (aI 6 w2) → Fr (fun j => j = 133 ∨ j = 134) h h2 → At mX12_ring T0 187 [.ref 106, .int (nI k), .int (nI (ringM k)), .int (nI b), .int (nI 1), .null, .null] [] h2 0 0 (ZM mX12_ring (RM (fRing s (nI k)) h))) →
      At mX12_ring T0 61 [.ref 106, .int (nI k), .int (nI (ringM k)), .int lv, .int (nI 1), .null, .null] [] h' 0 0 (ZM mX12_ring (RM (fRing s (nI k)) h)) := by
    intro O o w lv B h' ho hO hB a0 a133 a134 hfr kk
    have a121 := hfr.at (k := 121) (by omega) f121
    have hob : ∀ y, y < (ringM k) → o y < 6 := fun y hy => by rw [ho y hy]; exact hO y (by omega)
    have hch : ∀ a b, a < 6 → b < 6 → ch (6 * a + b) = s 11 (6 * a + b) := fun a b h1 h2 => e121 _ (by omega)
    have hsum : sumO (s 11) O (ringM k) = sumO (s 11) o (ringM k) := sumO_congr (fun y hy => (ho y hy).symm)
    have hsb : sumO (s 11) O (ringM k) ≤ 6000 := sumO_b hO hm6 k11
    have hsO := sumO_s (s 11) o hm1
    have ob0 := hob 0 (by omega)
    have obm := hob ((ringM k) - 1) (by omega)
    refine at_iload 63 dX12_ring_61 rfl rfl ?_
    refine at_if_eqN 197 66 dX12_ring_63 rfl rfl (by omega) (fun cc => ?_) (fun cc => ?_)
    · omega
    have weigh : ∀ base, base + sm (fun i => ch (6 * o i + o (i + 1))) ((ringM k) - 1) = sumO (s 11) O (ringM k) → At mX12_ring T0 98 [.ref 106, .int (nI k), .int (nI (ringM k)), .int lv, .int (nI 1), .null, .null] [.int (nI base)] h' 0 0 (ZM mX12_ring (RM (fRing s (nI k)) h)) := by
      intro base hbase
      refine at_istore (L' := [_, _, _, _, _, _, _]) 100 dX12_ring_98 rfl (by decide) rfl rfl ?_
      refine at_iconst 101 (nI 1) dX12_ring_100 rfl (by decide) ?_
      refine at_istore (L' := [_, _, _, _, _, _, _]) 103 dX12_ring_101 rfl (by decide) rfl rfl ?_
      have copyL : ∀ (d i : Nat) (w2 : Nat → Nat) (h2 : List PC), i + d = (ringM k) → (∀ b0, B = some b0 → sumO (s 11) O (ringM k) < b0) → (∀ y, y < 6 → w2 y = if y < i then O y else w y) → h2[106]? = some (oM s) → h2[133]? = some (aI 6 o) → h2[134]? = some (aI 6 w2) → Fr (fun j => j = 133 ∨ j = 134) h h2 → At mX12_ring T0 161 [.ref 106, .int (nI k), .int (nI (ringM k)), .int (nI (sumO (s 11) O (ringM k))), .int (nI 1), .int (nI (sumO (s 11) O (ringM k))), .int (nI i)] [] h2 0 0 (ZM mX12_ring (RM (fRing s (nI k)) h)) := by
        intro d
        induction d with
        | zero =>
          intro i w2 h2 hi hlt hw b0 b133 b134 bfr
          have : i = (ringM k) := by omega
          rw [this] at hw
          refine at_iload 163 dX12_ring_161 rfl rfl ?_
          refine at_iload_n 164 dX12_ring_163 rfl rfl rfl ?_
          refine at_icmp_geN 187 167 dX12_ring_164 rfl rfl (by omega) (by omega) (fun cc => ?_) (fun cc => ?_)
          rotate_left
          · omega
          refine at_drop (L' := [_, _, _, _, _, _, _]) 5 rfl ?_
          refine at_drop (L' := [_, _, _, _, _, _, _]) 6 rfl ?_
          exact kk _ w2 h2 hsb (Or.inl ⟨rfl, hlt, hw⟩) b0 b133 b134 bfr
        | succ d ih =>
          intro i w2 h2 hi hlt hw b0 b133 b134 bfr
          refine at_iload 163 dX12_ring_161 rfl rfl ?_
          refine at_iload_n 164 dX12_ring_163 rfl rfl rfl ?_
          refine at_icmp_geN 187 167 dX12_ring_164 rfl rfl (by omega) (by omega) (fun cc => ?_) (fun cc => ?_)
          · omega
          refine at_aload_n 168 dX12_ring_167 rfl rfl rfl ?_
          refine at_g 171 dX12_ring_168 rfl fl_X12_105 ⟨_, by assumption, ?_⟩
          refine ⟨_, rfl, ?_⟩
          refine at_iload 173 dX12_ring_171 rfl rfl ?_
          refine at_aload_n 174 dX12_ring_173 rfl rfl rfl ?_
          refine at_g 177 dX12_ring_174 rfl fl_X12_102 ⟨_, by assumption, ?_⟩
          refine ⟨_, rfl, ?_⟩
          refine at_iload 179 dX12_ring_177 rfl rfl ?_
          first | refine at_ia 180 dX12_ring_179 rfl ⟨_, _, by assumption, by omega, by first | decide | omega, ?_⟩ | refine at_iaG 180 dX12_ring_179 rfl ⟨_, _, by assumption, by omega, by first | decide | omega, ?_⟩
          first | refine at_is 181 dX12_ring_180 rfl ⟨_, _, by assumption, by omega, by first | decide | omega, fun hh5 nn5 => ?_⟩ | refine at_isG 181 dX12_ring_180 rfl ⟨_, _, by assumption, by omega, by first | decide | omega, fun hh5 nn5 => ?_⟩
          replace b0 := nn5.o (by first | decide | omega | assumption) b0
          replace b133 := nn5.o (by first | decide | omega | assumption) b133
          replace b134 := nn5.1
          replace bfr := bfr.nw nn5 (by first | (dsimp only; omega) | (dsimp only; done) | simp)
          clear nn5
          refine at_iincN (q := 1) (L' := [_, _, _, _, _, _, _]) 184 dX12_ring_181 rfl (by decide) rfl (by decide) rfl rfl ?_
          refine at_goto 161 dX12_ring_184 rfl ?_
          refine ih (i + 1) _ _ (by omega) hlt (fun y hy => ?_) b0 b133 b134 bfr
          by_cases q : y = i
          · rw [q, updN_s, if_pos (by omega)]; exact ho i (by omega)
          · rw [updN_n _ _ q, hw y hy]
            by_cases q2 : y < i
            · rw [if_pos q2, if_pos (by omega)]
            · rw [if_neg q2, if_neg (by omega)]
      have addL : ∀ (d i : Nat), i + d = (ringM k) - 1 → At mX12_ring T0 103 [.ref 106, .int (nI k), .int (nI (ringM k)), .int lv, .int (nI 1), .int (nI (base + sm (fun i => ch (6 * o i + o (i + 1))) i)), .int (nI (i + 1))] [] h' 0 0 (ZM mX12_ring (RM (fRing s (nI k)) h)) := by
        intro d
        induction d with
        | zero =>
          intro i hi
          have : i = (ringM k) - 1 := by omega
          subst this
          rw [hbase]
          refine at_iload 105 dX12_ring_103 rfl rfl ?_
          refine at_iload_n 106 dX12_ring_105 rfl rfl rfl ?_
          refine at_icmp_geN 145 109 dX12_ring_106 rfl rfl (by omega) (by omega) (fun cc => ?_) (fun cc => ?_)
          rotate_left
          · omega
          rcases hB with ⟨rfl, rfl⟩ | ⟨b, rfl, hb6, rfl⟩
          · refine at_iload_n 146 dX12_ring_145 rfl rfl rfl ?_
            refine at_if_lt 155 149 dX12_ring_146 rfl rfl (fun cc => ?_) (fun cc => ?_)
            · refine at_iload 157 dX12_ring_155 rfl rfl ?_
              refine at_istore_n (L' := [_, _, _, _, _, _, _]) 158 dX12_ring_157 rfl rfl (by decide) rfl rfl ?_
              refine at_iconst 159 (nI 0) dX12_ring_158 rfl (by decide) ?_
              refine at_istore (L' := [_, _, _, _, _, _, _]) 161 dX12_ring_159 rfl (by decide) rfl rfl ?_
              exact copyL (ringM k) 0 w h' (by omega) (fun b0 q => by cases q) (fun y hy => by rw [if_neg (by omega)]) a0 a133 a134 hfr
            · exact absurd (by decide) cc
          · refine at_iload_n 146 dX12_ring_145 rfl rfl rfl ?_
            refine at_if_ltN 155 149 dX12_ring_146 rfl rfl (by omega) ?_
            refine at_iload 151 dX12_ring_149 rfl rfl ?_
            refine at_iload_n 152 dX12_ring_151 rfl rfl rfl ?_
            refine at_icmp_geN 187 155 dX12_ring_152 rfl rfl (by omega) (by omega) (fun cc => ?_) (fun cc => ?_)
            · refine at_drop (L' := [_, _, _, _, _, _, _]) 5 rfl ?_
              refine at_drop (L' := [_, _, _, _, _, _, _]) 6 rfl ?_
              exact kk b w h' hb6 (Or.inr ⟨b, rfl, rfl, cc, rfl⟩) a0 a133 a134 hfr
            · refine at_iload 157 dX12_ring_155 rfl rfl ?_
              refine at_istore_n (L' := [_, _, _, _, _, _, _]) 158 dX12_ring_157 rfl rfl (by decide) rfl rfl ?_
              refine at_iconst 159 (nI 0) dX12_ring_158 rfl (by decide) ?_
              refine at_istore (L' := [_, _, _, _, _, _, _]) 161 dX12_ring_159 rfl (by decide) rfl rfl ?_
              exact copyL (ringM k) 0 w h' (by omega) (fun b0 q => by cases q; exact cc) (fun y hy => by rw [if_neg (by omega)]) a0 a133 a134 hfr
        | succ d ih =>
          intro i hi
          have o1 := hob i (by omega)
          have o2 := hob (i + 1) (by omega)
          refine at_iload 105 dX12_ring_103 rfl rfl ?_
          refine at_iload_n 106 dX12_ring_105 rfl rfl rfl ?_
          refine at_icmp_geN 145 109 dX12_ring_106 rfl rfl (by omega) (by omega) (fun cc => ?_) (fun cc => ?_)
          · omega
          refine at_iload 111 dX12_ring_109 rfl rfl ?_
          refine at_aload_n 112 dX12_ring_111 rfl rfl rfl ?_
          refine at_g 115 dX12_ring_112 rfl fl_X12_65 ⟨_, by assumption, ?_⟩
          refine ⟨_, rfl, ?_⟩
          refine at_bipush 117 (nI 6) dX12_ring_115 rfl (by decide) ?_
          refine at_aload_n 118 dX12_ring_117 rfl rfl rfl ?_
          refine at_g 121 dX12_ring_118 rfl fl_X12_102 ⟨_, by assumption, ?_⟩
          refine ⟨_, rfl, ?_⟩
          refine at_iload 123 dX12_ring_121 rfl rfl ?_
          refine at_iconst 124 (nI 1) dX12_ring_123 rfl (by decide) ?_
          first | refine at_isubN 125 dX12_ring_124 rfl (by omega) ?_ | refine at_isub 125 dX12_ring_124 rfl ?_
          rw [Nat.add_sub_cancel]
          first | refine at_ia 126 dX12_ring_125 rfl ⟨_, _, by assumption, by omega, by first | decide | omega, ?_⟩ | refine at_iaG 126 dX12_ring_125 rfl ⟨_, _, by assumption, by omega, by first | decide | omega, ?_⟩
          first | refine at_imulN 127 dX12_ring_126 rfl ?_ | refine at_imul 127 dX12_ring_126 rfl ?_
          refine at_aload_n 128 dX12_ring_127 rfl rfl rfl ?_
          refine at_g 131 dX12_ring_128 rfl fl_X12_102 ⟨_, by assumption, ?_⟩
          refine ⟨_, rfl, ?_⟩
          refine at_iload 133 dX12_ring_131 rfl rfl ?_
          first | refine at_ia 134 dX12_ring_133 rfl ⟨_, _, by assumption, by omega, by first | decide | omega, ?_⟩ | refine at_iaG 134 dX12_ring_133 rfl ⟨_, _, by assumption, by omega, by first | decide | omega, ?_⟩
          first | refine at_iaddN 135 dX12_ring_134 rfl ?_ | refine at_iadd 135 dX12_ring_134 rfl ?_
          first | refine at_ia 136 dX12_ring_135 rfl ⟨_, _, by assumption, by omega, by first | decide | omega, ?_⟩ | refine at_iaG 136 dX12_ring_135 rfl ⟨_, _, by assumption, by omega, by first | decide | omega, ?_⟩
          first | refine at_iaddN 137 dX12_ring_136 rfl ?_ | refine at_iadd 137 dX12_ring_136 rfl ?_
          refine at_istore (L' := [_, _, _, _, _, _, _]) 139 dX12_ring_137 rfl (by decide) rfl rfl ?_
          refine at_iincN (q := 1) (L' := [_, _, _, _, _, _, _]) 142 dX12_ring_139 rfl (by decide) rfl (by decide) rfl rfl ?_
          refine at_goto 103 dX12_ring_142 rfl ?_
          rw [Nat.add_assoc base]
          exact ih (i + 1) (by omega)
      exact addL ((ringM k) - 1) 0 (by omega)
    have hsc : sm (fun i => ch (6 * o i + o (i + 1))) ((ringM k) - 1) = sm (fun i => s 11 (6 * o i + o (i + 1))) ((ringM k) - 1) := sm_congr (fun i hi => hch _ _ (hob i (by omega)) (hob (i + 1) (by omega)))
    refine at_iload_n 67 dX12_ring_66 rfl rfl rfl ?_
    refine at_iconst 68 (nI 1) dX12_ring_67 rfl (by decide) ?_
    refine at_icmp_neN 75 71 dX12_ring_68 rfl rfl (by omega) (by omega) (fun cc => ?_) (fun cc => ?_)
    · refine at_aload_n 76 dX12_ring_75 rfl rfl rfl ?_
      refine at_g 79 dX12_ring_76 rfl fl_X12_65 ⟨_, by assumption, ?_⟩
      refine ⟨_, rfl, ?_⟩
      refine at_bipush 81 (nI 6) dX12_ring_79 rfl (by decide) ?_
      refine at_aload_n 82 dX12_ring_81 rfl rfl rfl ?_
      refine at_g 85 dX12_ring_82 rfl fl_X12_102 ⟨_, by assumption, ?_⟩
      refine ⟨_, rfl, ?_⟩
      refine at_iload_n 86 dX12_ring_85 rfl rfl rfl ?_
      refine at_iconst 87 (nI 1) dX12_ring_86 rfl (by decide) ?_
      first | refine at_isubN 88 dX12_ring_87 rfl (by omega) ?_ | refine at_isub 88 dX12_ring_87 rfl ?_
      first | refine at_ia 89 dX12_ring_88 rfl ⟨_, _, by assumption, by omega, by first | decide | omega, ?_⟩ | refine at_iaG 89 dX12_ring_88 rfl ⟨_, _, by assumption, by omega, by first | decide | omega, ?_⟩
      first | refine at_imulN 90 dX12_ring_89 rfl ?_ | refine at_imul 90 dX12_ring_89 rfl ?_
      refine at_aload_n 91 dX12_ring_90 rfl rfl rfl ?_
      refine at_g 94 dX12_ring_91 rfl fl_X12_102 ⟨_, by assumption, ?_⟩
      refine ⟨_, rfl, ?_⟩
      refine at_iconst 95 (nI 0) dX12_ring_94 rfl (by decide) ?_
      first | refine at_ia 96 dX12_ring_95 rfl ⟨_, _, by assumption, by omega, by first | decide | omega, ?_⟩ | refine at_iaG 96 dX12_ring_95 rfl ⟨_, _, by assumption, by omega, by first | decide | omega, ?_⟩
      first | refine at_iaddN 97 dX12_ring_96 rfl ?_ | refine at_iadd 97 dX12_ring_96 rfl ?_
      first | refine at_ia 98 dX12_ring_97 rfl ⟨_, _, by assumption, by omega, by first | decide | omega, ?_⟩ | refine at_iaG 98 dX12_ring_97 rfl ⟨_, _, by assumption, by omega, by first | decide | omega, ?_⟩
      refine weigh _ ?_
      rw [hch _ _ obm ob0, hsc, hsum, hsO]
    · refine at_iconst 72 (nI 0) dX12_ring_71 rfl (by decide) ?_
      refine at_goto 98 dX12_ring_72 rfl ?_
      refine weigh 0 ?_
      rw [hsc, hsum, hsO, cc]
      have hz := k11z (o 0) ob0
      show 0 + 0 = s 11 (6 * o 0 + o 0) + 0
      rw [hz]
  -- behind the last order
  have done : ∀ (b : Nat) (w : Nat → Nat) (h' : List PC), b = (ringR s k).1 → (∀ y, y < 6 → w y = if y < (ringM k) then (ringR s k).2 y else s 17 y) → h'[106]? = some (oM s) → (∃ o, h'[133]? = some (aI 6 o)) → h'[134]? = some (aI 6 w) → Fr (fun j => j = 133 ∨ j = 134) h h' → At mX12_ring T0 61 [.ref 106, .int (nI k), .int (nI (ringM k)), .int (nI b), .int (nI 0), .null, .null] [] h' 0 0 (ZM mX12_ring (RM (fRing s (nI k)) h)) := by
    intro b w h' hb hw a0 ⟨o, a133⟩ a134 hfr
    have hfr2 : Fr (fun j => j = 106 ∨ j = 133 ∨ j = 134) h h' := hfr.wk (fun j hj => by omega)
    refine at_iload 63 dX12_ring_61 rfl rfl ?_
    refine at_if_eqN 197 66 dX12_ring_63 rfl rfl (by omega) (fun cc => ?_) (fun cc => ?_)
    rotate_left
    · omega
    refine at_aload_n 198 dX12_ring_197 rfl rfl rfl ?_
    refine at_iload_n 199 dX12_ring_198 rfl rfl rfl ?_
    refine at_pi 202 dX12_ring_199 rfl pl_X12_193 (rfl) (rfl) ⟨_, by assumption, ?_⟩
    refine ⟨(Nat.le_of_ble_eq_true rfl), [_, _, _, _, _, _, _, _, _, _, _, _, _, _, _, _, _, _, _, _, _, _, _, _, _, _, _, _, _, _, _, _, _, _, _, _, _, _, _, _], rfl, fun hh6 nn6 => ?_⟩
    replace a0 := nn6.1
    replace a133 := nn6.o (by first | decide | omega | assumption) a133
    replace a134 := nn6.o (by first | decide | omega | assumption) a134
    replace hfr2 := hfr2.nw nn6 (by first | (dsimp only; omega) | (dsimp only; done) | simp)
    clear nn6
    refine at_iload_n 203 dX12_ring_202 rfl rfl rfl ?_
    refine at_iret dX12_ring_203 rfl (by decide) (by decide) ?_
    refine rm_yes yes (by rw [tn_nI (by omega), hb]) ?_ (hfr2.wk (fun j hj => by omega))
    rw [tn_nI (by omega)]
    refine ⟨a0, mF.fr hfr2 (fun j h1 h2 => by omega), mL.fr hfr2 (fun j h1 h2 => by omega), mC.fr hfr2 (fun j h1 h2 => by omega), mH.fr hfr2 (fun j h1 h2 => by omega), ⟨w, a134, hw⟩, scr _ _ hfr2 (fun j hj => by omega) ⟨o, a133⟩⟩
  have main : ∀ (f fu c : Nat) (O o w : Nat → Nat) (S : Nat × (Nat → Nat)) (h' : List PC), f ≤ fu → endsC (ringM k) f c = true → (∀ y, y < 6 → O y = gc c y) → (∀ y, y < 6 → O y < 6) → (∀ y, y < (ringM k) → o y = O y) → S.1 ≤ 6000 → rsrch (ringM k) (s 11) fu O S = ringR s k → (∀ y, y < 6 → w y = if y < (ringM k) then S.2 y else s 17 y) → h'[106]? = some (oM s) → h'[133]? = some (aI 6 o) → h'[134]? = some (aI 6 w) → Fr (fun j => j = 133 ∨ j = 134) h h' → At mX12_ring T0 187 [.ref 106, .int (nI k), .int (nI (ringM k)), .int (nI S.1), .int (nI 1), .null, .null] [] h' 0 0 (ZM mX12_ring (RM (fRing s (nI k)) h)) := by
    intro f
    induction f with
    | zero =>
      intro fu c O o w S h' hfu hen
      cases hen
    | succ f ih =>
      intro fu c O o w S h' hfu hen hOc hO ho hS hrs hw a0 a133 a134 hfr
      obtain ⟨fu', rfl⟩ : ∃ j, fu = j + 1 := ⟨fu - 1, by omega⟩
      have hpe : pivN o ((ringM k) - 2) = pivN O ((ringM k) - 2) := by
        by_cases q : 2 ≤ (ringM k)
        · exact pivN_congr (fun j hj => ho j (by omega))
        · rw [show (ringM k) - 2 = 0 by omega]; rfl
      have hrd : rsrch (ringM k) (s 11) (fu' + 1) O S = if pivN O ((ringM k) - 2) = 0 then S else rsrch (ringM k) (s 11) fu' (nxtO (ringM k) O) (if sumO (s 11) (nxtO (ringM k) O) (ringM k) < S.1 then (sumO (s 11) (nxtO (ringM k) O) (ringM k), nxtO (ringM k) O) else S) := rfl
      rw [hrd] at hrs
      refine at_aload_n 188 dX12_ring_187 rfl rfl rfl ?_
      refine at_iload_n 189 dX12_ring_188 rfl rfl rfl ?_
      refine at_invV (ci := 12) 192 [_] _ (c_turns (s := s) (m := (ringM k)) a0 a133 hm6 hm1 (fun y hy => by rw [ho y hy]; exact hO y (by omega))) dX12_ring_189 rfl rfl (by assumption) rfl ml_X12_190 cl_X12_turns vl_X12_turns rfl (Nat.le_of_ble_eq_true rfl) ⟨by decide, by decide⟩ (by decide) (fun rr hh qq => ?_)
      obtain ⟨rfl, ⟨o2, b133, eo2⟩, bfr⟩ := qq
      rw [hpe]
      rename List PC => h3
      have b0 := bfr.at (k := 106) (by omega) a0
      have b134 := bfr.at (k := 134) (by omega) a134
      have bfr2 : Fr (fun j => j = 133 ∨ j = 134) h h3 := hfr.tr bfr (fun j hj => by omega)
      by_cases ep : pivN O ((ringM k) - 2) = 0
      · rw [if_pos ep] at hrs
        rw [show bI (decide (pivN O ((ringM k) - 2) ≠ 0)) = nI 0 by rw [decide_eq_false (fun q => q ep)]; rfl]
        refine at_istore (L' := [_, _, _, _, _, _, _]) 194 dX12_ring_192 rfl (by decide) rfl rfl ?_
        refine at_goto 61 dX12_ring_194 rfl ?_
        exact done S.1 w h3 (by rw [hrs]) (by rw [← hrs]; exact hw) b0 ⟨o2, b133⟩ b134 bfr2
      · rw [if_neg ep] at hrs
        rw [show bI (decide (pivN O ((ringM k) - 2) ≠ 0)) = nI 1 by rw [decide_eq_true ep]; rfl]
        have hm2 : 2 ≤ (ringM k) := by
          apply Classical.byContradiction
          intro q
          apply ep
          rw [show (ringM k) - 2 = 0 by omega]; rfl
        obtain ⟨c2, hen2, hc2⟩ := ends_step hen hOc hO hm6 ep
        have hO2 := nxtO_b hO hm6 hm2
        have ho2 : ∀ y, y < (ringM k) → o2 y = nxtO (ringM k) O y := fun y hy => by
          rw [eo2 y (by omega), if_neg (by rw [hpe]; exact ep)]
          exact nxtO_congr ho hm2 y hy
        refine at_istore (L' := [_, _, _, _, _, _, _]) 194 dX12_ring_192 rfl (by decide) rfl rfl ?_
        refine at_goto 61 dX12_ring_194 rfl ?_
        refine proc (nxtO (ringM k) O) o2 w (nI S.1) (some S.1) h3 ho2 hO2 (Or.inr ⟨S.1, rfl, hS, rfl⟩) b0 b133 b134 bfr2 ?_
        intro b w2 h2 hb hor d0 d133 d134 dfr
        rcases hor with ⟨q1, q2, q3⟩ | ⟨b0, q1, q2, q3, q4⟩
        · have hlt := q2 S.1 rfl
          rw [if_pos hlt] at hrs
          rw [q1]
          exact ih fu' c2 (nxtO (ringM k) O) o2 w2 (sumO (s 11) (nxtO (ringM k) O) (ringM k), nxtO (ringM k) O) h2 (by omega) hen2 hc2 hO2 ho2 (by rw [← q1]; exact hb) hrs (fun y hy => by
            rw [q3 y hy]
            by_cases e : y < (ringM k)
            · rw [if_pos e, if_pos e]
            · rw [if_neg e, if_neg e, hw y hy, if_neg e]) d0 d133 d134 dfr
        · cases q1
          rw [if_neg (by omega)] at hrs
          rw [q2]
          exact ih fu' c2 (nxtO (ringM k) O) o2 w2 S h2 (by omega) hen2 hc2 hO2 ho2 hS hrs (by rw [q4]; exact hw) d0 d133 d134 dfr
  have start : ∀ (o : Nat → Nat) (h' : List PC), (∀ y, y < (ringM k) → o y = ringO k y) → h'[106]? = some (oM s) → h'[133]? = some (aI 6 o) → Fr (fun j => j = 133) h h' → At mX12_ring T0 61 [.ref 106, .int (nI k), .int (nI (ringM k)), .int (-1), .int (nI 1), .null, .null] [] h' 0 0 (ZM mX12_ring (RM (fRing s (nI k)) h)) := by
    intro o h' ho a0 a133 hfr
    have hOb := ringO_b k
    refine proc (ringO k) o rg (-1) none h' ho hOb (Or.inl ⟨rfl, rfl⟩) a0 a133 (hfr.at (by omega) f134) (hfr.wk (fun j hj => by omega)) ?_
    intro b w2 h2 hb hor d0 d133 d134 dfr
    rcases hor with ⟨q1, q2, q3⟩ | ⟨b0, q1, q2, q3, q4⟩
    · rw [q1]
      exact main 130 200 (enc (ringO k)) (ringO k) o w2 (sumO (s 11) (ringO k) (ringM k), ringO k) h2 (by omega) (ring_ends' hk64 hk1) (fun y hy => (gc_enc (fun z hz => by have := hOb z hz; omega) y hy).symm) hOb ho (by rw [← q1]; exact hb) rfl (fun y hy => by
        rw [q3 y hy, e134 y hy]) d0 d133 d134 dfr
    · cases q1
  obtain ⟨gm, gv⟩ := gatN_cg k w133 (fun _ => 0) 6
  have gE : gatN k w133 6 = gatN k w133 (s 0 6) := by
    have := gatN_ext (f := w133) hk (6 - s 0 6)
    rw [show s 0 6 + (6 - s 0 6) = 6 by omega] at this
    exact this
  refine at_iconst 18 (nI 0) dX12_ring_17 rfl (by decide) ?_
  refine at_istore_n (L' := [_, _, _, _, _, _, _]) 19 dX12_ring_18 rfl rfl (by decide) rfl rfl ?_
  refine at_iconst 20 (nI 0) dX12_ring_19 rfl (by decide) ?_
  refine at_istore_n (L' := [_, _, _, _, _, _, _]) 21 dX12_ring_20 rfl rfl (by decide) rfl rfl ?_
  have loopG : ∀ (d c : Nat) (h' : List PC), c + d = s 0 6 → h'[106]? = some (oM s) → h'[133]? = some (aI 6 (gatN k w133 c).2) → Fr (fun j => j = 133) h h' → At mX12_ring T0 21 [.ref 106, .int (nI k), .int (nI (gatN k w133 c).1), .int (nI c), .null, .null, .null] [] h' 0 0 (ZM mX12_ring (RM (fRing s (nI k)) h)) := by
    intro d
    induction d with
    | zero =>
      intro c h' hc a0 a133 hfr
      have : c = s 0 6 := by omega
      subst this
      rw [← gE] at a133 ⊢
      rw [show (gatN k w133 6).1 = (ringM k) from gm]
      refine at_iload_n 22 dX12_ring_21 rfl rfl rfl ?_
      refine at_aload_n 23 dX12_ring_22 rfl rfl rfl ?_
      refine at_g 26 dX12_ring_23 rfl fl_X12_115 ⟨_, by assumption, ?_⟩
      refine ⟨_, rfl, ?_⟩
      refine at_icmp_geN 56 29 dX12_ring_26 rfl rfl (by omega) (by omega) (fun cc => ?_) (fun cc => ?_)
      rotate_left
      · omega
      refine at_iconst 57 (-1) dX12_ring_56 rfl (by decide) ?_
      refine at_istore_n (L' := [_, _, _, _, _, _, _]) 58 dX12_ring_57 rfl rfl (by decide) rfl rfl ?_
      refine at_iconst 59 (nI 1) dX12_ring_58 rfl (by decide) ?_
      refine at_istore (L' := [_, _, _, _, _, _, _]) 61 dX12_ring_59 rfl (by decide) rfl rfl ?_
      exact start _ h' (fun y hy => gv y (by rw [gm]; exact hy)) a0 a133 hfr
    | succ d ih =>
      intro c h' hc a0 a133 hfr
      have hgl := gatN_le k w133 c
      have hgd : gatN k w133 (c + 1) = if bitN k c = 1 then ((gatN k w133 c).1 + 1, updN (gatN k w133 c).2 (gatN k w133 c).1 c) else gatN k w133 c := rfl
      have hbit : bitN k c < 2 := by unfold bitN; omega
      refine at_iload_n 22 dX12_ring_21 rfl rfl rfl ?_
      refine at_aload_n 23 dX12_ring_22 rfl rfl rfl ?_
      refine at_g 26 dX12_ring_23 rfl fl_X12_115 ⟨_, by assumption, ?_⟩
      refine ⟨_, rfl, ?_⟩
      refine at_icmp_geN 56 29 dX12_ring_26 rfl rfl (by omega) (by omega) (fun cc => ?_) (fun cc => ?_)
      · omega
      refine at_iload_n 30 dX12_ring_29 rfl rfl rfl ?_
      refine at_iload_n 31 dX12_ring_30 rfl rfl rfl ?_
      refine at_ishr 32 dX12_ring_31 rfl ?_
      refine at_iconst 33 (nI 1) dX12_ring_32 rfl (by decide) ?_
      refine at_iand 34 dX12_ring_33 rfl ?_
      rw [bit_shr hk64 (by omega)]
      refine at_if_neN 40 37 dX12_ring_34 rfl rfl (by omega) (fun cc => ?_) (fun cc => ?_)
      · rw [if_pos (by omega)] at hgd
        refine at_aload_n 41 dX12_ring_40 rfl rfl rfl ?_
        refine at_g 44 dX12_ring_41 rfl fl_X12_102 ⟨_, by assumption, ?_⟩
        refine ⟨_, rfl, ?_⟩
        refine at_iload_n 45 dX12_ring_44 rfl rfl rfl ?_
        refine at_iload_n 46 dX12_ring_45 rfl rfl rfl ?_
        first | refine at_is 47 dX12_ring_46 rfl ⟨_, _, by assumption, by omega, by first | decide | omega, fun hh7 nn7 => ?_⟩ | refine at_isG 47 dX12_ring_46 rfl ⟨_, _, by assumption, by omega, by first | decide | omega, fun hh7 nn7 => ?_⟩
        replace a0 := nn7.o (by first | decide | omega | assumption) a0
        replace a133 := nn7.1
        replace hfr := hfr.nw nn7 (by first | (dsimp only; omega) | (dsimp only; done) | simp)
        clear nn7
        refine at_iincN (q := 1) (L' := [_, _, _, _, _, _, _]) 50 dX12_ring_47 rfl (by decide) rfl (by decide) rfl rfl ?_
        refine at_iincN (q := 1) (L' := [_, _, _, _, _, _, _]) 53 dX12_ring_50 rfl (by decide) rfl (by decide) rfl rfl ?_
        refine at_goto 21 dX12_ring_53 rfl ?_
        have := ih (c + 1) _ (by omega) a0 (by rw [hgd]; exact a133) hfr
        rw [hgd] at this
        exact this
      · rw [if_neg (by omega)] at hgd
        refine at_goto 50 dX12_ring_37 rfl ?_
        refine at_iincN (q := 1) (L' := [_, _, _, _, _, _, _]) 53 dX12_ring_50 rfl (by decide) rfl (by decide) rfl rfl ?_
        refine at_goto 21 dX12_ring_53 rfl ?_
        have := ih (c + 1) h' (by omega) a0 (by rw [hgd]; exact a133) hfr
        rw [hgd] at this
        exact this
  exact loopG (s 0 6) 0 h (by omega) m0 f133 Fr.rf

