theorem FmOk.cg {n : Nat} {mk sh mk' sh' : Nat → Nat} (h : FmOk n mk sh) (h1 : ∀ i, i < 32 → mk' i = mk i) (h2 : ∀ f, f < 8 → sh' f = sh f) : FmOk n mk' sh' := by
  obtain ⟨o1, o2, o3, o4⟩ := h
  exact ⟨o1, fun f hf => by rw [← o2 f hf]; exact sm_congr (fun t ht => h1 _ (by omega)), by rw [← o3]; exact sm_congr h2, fun f h3 h4 => by rw [h2 f h4]; exact o4 f h3 h4⟩
def wgtN (sh : Nat → Nat) (sd ti : Nat) : Nat → Nat := if ti = 0 then sh else doseW sh sd ti
theorem c_comes {s : St} {h : List PC} {sd ti : Nat} {ti0 : Int32} {mk sh : Nat → Nat} (hti : (ti = 0 ∧ ti0 = -1) ∨ (∃ f, f < s 0 0 ∧ ti = f + 1 ∧ ti0 = nI f)) (hsd : sd ≤ 1000) (m0 : h[106]? = some (oM s)) (f107 : h[107]? = some (aI 32 mk)) (f113 : h[113]? = some (aI 8 sh)) (hSH : SH h) (h117 : ∃ w, h[117]? = some (aI 32 w)) (h132 : ∃ w, h[132]? = some (aI 8 w)) (hO : FmOk (s 0 0) mk sh) (hp : s 0 5 ≤ 100000) : Ct mX12_comes [.ref 106, .int ti0, .int (nI sd)] h (fun r h' => r = none ∧ SH h' ∧ Ar h' 132 8 (share (s 0 5) (wgtN sh sd ti) 8) ∧ Ar h' 117 32 (loN (share (s 0 5) (wgtN sh sd ti) 8) mk (s 0 0)) ∧ Fr (fun j => j = 117 ∨ j = 132 ∨ (127 ≤ j ∧ j ≤ 129)) h h') := by
  obtain ⟨⟨ww, s127⟩, ⟨wj, s128⟩, ⟨wg, s129⟩⟩ := id hSH
  obtain ⟨w117, f117⟩ := h117
  obtain ⟨w132, f132⟩ := h132
  obtain ⟨o1, o2, o3, o4⟩ := id hO
  have hWs : 0 < sm (wgtN sh sd ti) 8 ∧ sm (wgtN sh sd ti) 8 ≤ 1000000 := by
    unfold wgtN
    by_cases e : ti = 0
    · rw [if_pos e]; omega
    · rw [if_neg e]
      rcases hti with ⟨q, -⟩ | ⟨f, q1, q2, q3⟩
      · exact absurd q e
      · rw [doseW_sum o3 hsd (by omega) (by omega)]; omega
  have hshb : ∀ f, f < 8 → sh f ≤ 1000 := fun f hf => by have := sm_el sh hf; omega
  have hTs : ∀ f, f < 8 → (share (s 0 5) (wgtN sh sd ti) 8) f ≤ s 0 5 := fun f hf => share_le_g hWs.1 hf
  refine ct_at (L := [_, _, _, _, _]) (by decide +kernel) rfl rfl (Nat.le_of_ble_eq_true rfl) ?_
  refine at_iconst 1 (nI 0) dX12_comes_0 rfl (by decide) ?_
  refine at_istore_n (L' := [_, _, _, _, _]) 2 dX12_comes_1 rfl rfl (by decide) rfl rfl ?_
  have loop4 : ∀ (d i : Nat) (w : Nat → Nat) (h' : List PC), i + d = s 0 0 → SH h' → Ar h' 132 8 (share (s 0 5) (wgtN sh sd ti) 8) → h'[117]? = some (aI 32 w) → (∀ x, x < 32 → w x = loN (share (s 0 5) (wgtN sh sd ti) 8) mk i x) → Fr (fun j => j = 117 ∨ j = 132 ∨ (127 ≤ j ∧ j ≤ 129)) h h' → At mX12_comes T0 143 [.ref 106, .int ti0, .int (nI sd), .int (nI i), .null] [] h' 0 0 (ZM mX12_comes (fun r h' => r = none ∧ SH h' ∧ Ar h' 132 8 (share (s 0 5) (wgtN sh sd ti) 8) ∧ Ar h' 117 32 (loN (share (s 0 5) (wgtN sh sd ti) 8) mk (s 0 0)) ∧ Fr (fun j => j = 117 ∨ j = 132 ∨ (127 ≤ j ∧ j ≤ 129)) h h')) := by
    intro d
    induction d with
    | zero =>
      intro i w h' hi aS aT a117 hw hfr
      have : i = s 0 0 := by omega
      have a0 := hfr.at (k := 106) (by omega) m0
      refine at_iload_n 144 dX12_comes_143 rfl rfl rfl ?_
      refine at_aload_n 145 dX12_comes_144 rfl rfl rfl ?_
      refine at_g 148 dX12_comes_145 rfl fl_X12_108 ⟨_, by assumption, ?_⟩
      refine ⟨_, rfl, ?_⟩
      refine at_icmp_geN 175 151 dX12_comes_148 rfl rfl (by omega) (by omega) (fun cc => ?_) (fun cc => ?_)
      rotate_left
      · omega
      refine at_vret dX12_comes_175 rfl (by decide) (by decide) ?_
      rw [this] at hw
      exact ⟨rfl, aS, aT, ⟨w, a117, hw⟩, hfr⟩
    | succ d ih =>
      intro i w h' hi aS ⟨tk, a132, etk⟩ a117 hw hfr
      have a0 := hfr.at (k := 106) (by omega) m0
      have hb := hTs i (by omega)
      refine at_iload_n 144 dX12_comes_143 rfl rfl rfl ?_
      refine at_aload_n 145 dX12_comes_144 rfl rfl rfl ?_
      refine at_g 148 dX12_comes_145 rfl fl_X12_108 ⟨_, by assumption, ?_⟩
      refine ⟨_, rfl, ?_⟩
      refine at_icmp_geN 175 151 dX12_comes_148 rfl rfl (by omega) (by omega) (fun cc => ?_) (fun cc => ?_)
      · omega
      refine at_aload_n 152 dX12_comes_151 rfl rfl rfl ?_
      refine at_aload_n 153 dX12_comes_152 rfl rfl rfl ?_
      refine at_g 156 dX12_comes_153 rfl fl_X12_99 ⟨_, by assumption, ?_⟩
      refine ⟨_, rfl, ?_⟩
      refine at_iload_n 157 dX12_comes_156 rfl rfl rfl ?_
      first | refine at_ia 158 dX12_comes_157 rfl ⟨_, _, by assumption, by omega, by first | decide | omega, ?_⟩ | refine at_iaG 158 dX12_comes_157 rfl ⟨_, _, by assumption, by omega, by first | decide | omega, ?_⟩
      refine at_iload_n 159 dX12_comes_158 rfl rfl rfl ?_
      refine at_aload_n 160 dX12_comes_159 rfl rfl rfl ?_
      refine at_g 163 dX12_comes_160 rfl fl_X12_53 ⟨_, by assumption, ?_⟩
      refine ⟨_, rfl, ?_⟩
      refine at_iconst 164 (nI 4) dX12_comes_163 rfl (by decide) ?_
      refine at_iload_n 165 dX12_comes_164 rfl rfl rfl ?_
      first | refine at_imulN 166 dX12_comes_165 rfl ?_ | refine at_imul 166 dX12_comes_165 rfl ?_
      refine at_invV (ci := 12) 169 [_, _, _, _] _ (c_byThings a0 (hfr.at (by omega) f107) aS a117 (by decide) (by omega) (o2 i (by omega)) (by omega) (by decide) (by rw [etk i (by omega)]; omega)) dX12_comes_166 rfl rfl (by assumption) rfl ml_X12_148 cl_X12_byThings vl_X12_byThings rfl (Nat.le_of_ble_eq_true rfl) ⟨by decide, by decide⟩ (by decide) (fun rr hh qq => ?_)
      obtain ⟨rfl, bS, b117, bfr⟩ := qq
      refine at_iincN (q := 1) (L' := [_, _, _, _, _]) 172 dX12_comes_169 rfl (by decide) rfl (by decide) rfl rfl ?_
      refine at_goto 143 dX12_comes_172 rfl ?_
      refine ih (i + 1) _ hh (by omega) bS ⟨tk, bfr.at (by omega) a132, etk⟩ b117 (fun x hx => ?_) (hfr.tr bfr (fun j hj => by omega))
      show (if 4 * i ≤ x ∧ x < 4 * i + 4 then share (tk i) (fun t => mk (4 * i + t)) 4 (x - 4 * i) else w x) = _
      unfold loN lotN
      by_cases q : 4 * i ≤ x ∧ x < 4 * i + 4
      · rw [if_pos q, if_pos (by omega), etk i (by omega), show x / 4 = i by omega, show x % 4 = x - 4 * i by omega]
      · rw [if_neg q, hw x hx]
        unfold loN lotN
        by_cases q2 : x < 4 * i
        · rw [if_pos q2, if_pos (by omega)]
        · rw [if_neg q2, if_neg (by omega)]
  have loop3 : ∀ (d i : Nat) (w : Nat → Nat) (h' : List PC), i + d = 8 → SH h' → Ar h' 132 8 (share (s 0 5) (wgtN sh sd ti) 8) → h'[117]? = some (aI 32 w) → (∀ x, x < 4 * i → w x = 0) → Fr (fun j => j = 117 ∨ j = 132 ∨ (127 ≤ j ∧ j ≤ 129)) h h' → At mX12_comes T0 102 [.ref 106, .int ti0, .int (nI sd), .int (nI i), .null] [] h' 0 0 (ZM mX12_comes (fun r h' => r = none ∧ SH h' ∧ Ar h' 132 8 (share (s 0 5) (wgtN sh sd ti) 8) ∧ Ar h' 117 32 (loN (share (s 0 5) (wgtN sh sd ti) 8) mk (s 0 0)) ∧ Fr (fun j => j = 117 ∨ j = 132 ∨ (127 ≤ j ∧ j ≤ 129)) h h')) := by
    intro d
    induction d with
    | zero =>
      intro i w h' hi aS aT a117 hw hfr
      refine at_iload_n 103 dX12_comes_102 rfl rfl rfl ?_
      refine at_bipush 105 (nI 8) dX12_comes_103 rfl (by decide) ?_
      refine at_icmp_geN 141 108 dX12_comes_105 rfl rfl (by omega) (by omega) (fun cc => ?_) (fun cc => ?_)
      rotate_left
      · omega
      refine at_iconst 142 (nI 0) dX12_comes_141 rfl (by decide) ?_
      refine at_istore_n (L' := [_, _, _, _, _]) 143 dX12_comes_142 rfl rfl (by decide) rfl rfl ?_
      refine loop4 (s 0 0) 0 w h' (by omega) aS aT a117 (fun x hx => ?_) hfr
      rw [hw x (by omega)]
      unfold loN lotN
      rw [if_neg (by omega)]
    | succ d ih =>
      intro i w h' hi aS aT a117 hw hfr
      refine at_iload_n 103 dX12_comes_102 rfl rfl rfl ?_
      refine at_bipush 105 (nI 8) dX12_comes_103 rfl (by decide) ?_
      refine at_icmp_geN 141 108 dX12_comes_105 rfl rfl (by omega) (by omega) (fun cc => ?_) (fun cc => ?_)
      · omega
      refine at_iconst 109 (nI 0) dX12_comes_108 rfl (by decide) ?_
      refine at_istore (L' := [_, _, _, _, _]) 111 dX12_comes_109 rfl (by decide) rfl rfl ?_
      have inner : ∀ (e t : Nat) (w : Nat → Nat) (h' : List PC), t + e = 4 → SH h' → Ar h' 132 8 (share (s 0 5) (wgtN sh sd ti) 8) → h'[117]? = some (aI 32 w) → (∀ x, x < 4 * i + t → w x = 0) → Fr (fun j => j = 117 ∨ j = 132 ∨ (127 ≤ j ∧ j ≤ 129)) h h' → At mX12_comes T0 111 [.ref 106, .int ti0, .int (nI sd), .int (nI i), .int (nI t)] [] h' 0 0 (ZM mX12_comes (fun r h' => r = none ∧ SH h' ∧ Ar h' 132 8 (share (s 0 5) (wgtN sh sd ti) 8) ∧ Ar h' 117 32 (loN (share (s 0 5) (wgtN sh sd ti) 8) mk (s 0 0)) ∧ Fr (fun j => j = 117 ∨ j = 132 ∨ (127 ≤ j ∧ j ≤ 129)) h h')) := by
        intro e
        induction e with
        | zero =>
          intro t w h' ht aS aT a117 hw hfr
          refine at_iload 113 dX12_comes_111 rfl rfl ?_
          refine at_iconst 114 (nI 4) dX12_comes_113 rfl (by decide) ?_
          refine at_icmp_geN 135 117 dX12_comes_114 rfl rfl (by omega) (by omega) (fun cc => ?_) (fun cc => ?_)
          rotate_left
          · omega
          refine at_iincN (q := 1) (L' := [_, _, _, _, _]) 138 dX12_comes_135 rfl (by decide) rfl (by decide) rfl rfl ?_
          refine at_goto 102 dX12_comes_138 rfl ?_
          refine at_drop (L' := [_, _, _, _, _]) 4 rfl ?_
          exact ih (i + 1) w h' (by omega) aS aT a117 (fun x hx => hw x (by omega)) hfr
        | succ e ih2 =>
          intro t w h' ht aS aT a117 hw hfr
          have a0 := hfr.at (k := 106) (by omega) m0
          have hfr1 : Fr (fun j => j = 117) h' h' := Fr.rf
          refine at_iload 113 dX12_comes_111 rfl rfl ?_
          refine at_iconst 114 (nI 4) dX12_comes_113 rfl (by decide) ?_
          refine at_icmp_geN 135 117 dX12_comes_114 rfl rfl (by omega) (by omega) (fun cc => ?_) (fun cc => ?_)
          · omega
          refine at_aload_n 118 dX12_comes_117 rfl rfl rfl ?_
          refine at_g 121 dX12_comes_118 rfl fl_X12_53 ⟨_, by assumption, ?_⟩
          refine ⟨_, rfl, ?_⟩
          refine at_iconst 122 (nI 4) dX12_comes_121 rfl (by decide) ?_
          refine at_iload_n 123 dX12_comes_122 rfl rfl rfl ?_
          first | refine at_imulN 124 dX12_comes_123 rfl ?_ | refine at_imul 124 dX12_comes_123 rfl ?_
          refine at_iload 126 dX12_comes_124 rfl rfl ?_
          first | refine at_iaddN 127 dX12_comes_126 rfl ?_ | refine at_iadd 127 dX12_comes_126 rfl ?_
          refine at_iconst 128 (nI 0) dX12_comes_127 rfl (by decide) ?_
          first | refine at_is 129 dX12_comes_128 rfl ⟨_, _, by assumption, by omega, by first | decide | omega, fun hh1 nn1 => ?_⟩ | refine at_isG 129 dX12_comes_128 rfl ⟨_, _, by assumption, by omega, by first | decide | omega, fun hh1 nn1 => ?_⟩
          replace a0 := nn1.o (by first | decide | omega | assumption) a0
          replace a117 := nn1.1
          replace hfr := hfr.nw nn1 (by first | (dsimp only; omega) | (dsimp only; done) | simp)
          replace hfr1 := hfr1.nw nn1 (by first | (dsimp only; omega) | (dsimp only; done) | simp)
          clear nn1
          refine at_iincN (q := 1) (L' := [_, _, _, _, _]) 132 dX12_comes_129 rfl (by decide) rfl (by decide) rfl rfl ?_
          refine at_goto 111 dX12_comes_132 rfl ?_
          refine ih2 (t + 1) _ _ (by omega) (aS.fr hfr1 (fun j h1 h2 => by omega)) (aT.fr hfr1 (by omega)) a117 (fun x hx => ?_) hfr
          by_cases q : x = 4 * i + t
          · rw [q, updN_s]
          · rw [updN_n _ _ q]; exact hw x (by omega)
      exact inner 4 0 w h' (by omega) aS aT a117 (fun x hx => hw x (by omega)) hfr
  have loop2 : ∀ (d i : Nat) (w : Nat → Nat) (h' : List PC), i + d = 8 → SH h' → (∃ gt, h'[129]? = some (aI 32 gt) ∧ ∀ j, j < 8 → gt j = (share (s 0 5) (wgtN sh sd ti) 8) j) → h'[132]? = some (aI 8 w) → (∀ x, x < i → w x = (share (s 0 5) (wgtN sh sd ti) 8) x) → Fr (fun j => j = 132 ∨ (127 ≤ j ∧ j ≤ 129)) h h' → At mX12_comes T0 76 [.ref 106, .int ti0, .int (nI sd), .int (nI i), .null] [] h' 0 0 (ZM mX12_comes (fun r h' => r = none ∧ SH h' ∧ Ar h' 132 8 (share (s 0 5) (wgtN sh sd ti) 8) ∧ Ar h' 117 32 (loN (share (s 0 5) (wgtN sh sd ti) 8) mk (s 0 0)) ∧ Fr (fun j => j = 117 ∨ j = 132 ∨ (127 ≤ j ∧ j ≤ 129)) h h')) := by
    intro d
    induction d with
    | zero =>
      intro i w h' hi aS aG a132 hw hfr
      refine at_iload_n 77 dX12_comes_76 rfl rfl rfl ?_
      refine at_bipush 79 (nI 8) dX12_comes_77 rfl (by decide) ?_
      refine at_icmp_geN 100 82 dX12_comes_79 rfl rfl (by omega) (by omega) (fun cc => ?_) (fun cc => ?_)
      rotate_left
      · omega
      refine at_iconst 101 (nI 0) dX12_comes_100 rfl (by decide) ?_
      refine at_istore_n (L' := [_, _, _, _, _]) 102 dX12_comes_101 rfl rfl (by decide) rfl rfl ?_
      have a117 := hfr.at (k := 117) (by omega) f117
      exact loop3 8 0 w117 h' (by omega) aS ⟨w, a132, fun x hx => hw x (by omega)⟩ a117 (fun x hx => by omega) (hfr.wk (fun j hj => by omega))
    | succ d ih =>
      intro i w h' hi aS ⟨gt, a129, eg⟩ a132 hw hfr
      have a0 := hfr.at (k := 106) (by omega) m0
      have hfr1 : Fr (fun j => j = 132) h' h' := Fr.rf
      refine at_iload_n 77 dX12_comes_76 rfl rfl rfl ?_
      refine at_bipush 79 (nI 8) dX12_comes_77 rfl (by decide) ?_
      refine at_icmp_geN 100 82 dX12_comes_79 rfl rfl (by omega) (by omega) (fun cc => ?_) (fun cc => ?_)
      · omega
      refine at_aload_n 83 dX12_comes_82 rfl rfl rfl ?_
      refine at_g 86 dX12_comes_83 rfl fl_X12_99 ⟨_, by assumption, ?_⟩
      refine ⟨_, rfl, ?_⟩
      refine at_iload_n 87 dX12_comes_86 rfl rfl rfl ?_
      refine at_aload_n 88 dX12_comes_87 rfl rfl rfl ?_
      refine at_g 91 dX12_comes_88 rfl fl_X12_90 ⟨_, by assumption, ?_⟩
      refine ⟨_, rfl, ?_⟩
      refine at_iload_n 92 dX12_comes_91 rfl rfl rfl ?_
      first | refine at_ia 93 dX12_comes_92 rfl ⟨_, _, by assumption, by omega, by first | decide | omega, ?_⟩ | refine at_iaG 93 dX12_comes_92 rfl ⟨_, _, by assumption, by omega, by first | decide | omega, ?_⟩
      first | refine at_is 94 dX12_comes_93 rfl ⟨_, _, by assumption, by omega, by first | decide | omega, fun hh2 nn2 => ?_⟩ | refine at_isG 94 dX12_comes_93 rfl ⟨_, _, by assumption, by omega, by first | decide | omega, fun hh2 nn2 => ?_⟩
      replace a0 := nn2.o (by first | decide | omega | assumption) a0
      replace a129 := nn2.o (by first | decide | omega | assumption) a129
      replace a132 := nn2.1
      replace hfr := hfr.nw nn2 (by first | (dsimp only; omega) | (dsimp only; done) | simp)
      replace hfr1 := hfr1.nw nn2 (by first | (dsimp only; omega) | (dsimp only; done) | simp)
      clear nn2
      refine at_iincN (q := 1) (L' := [_, _, _, _, _]) 97 dX12_comes_94 rfl (by decide) rfl (by decide) rfl rfl ?_
      refine at_goto 76 dX12_comes_97 rfl ?_
      refine ih (i + 1) _ _ (by omega) (aS.fr hfr1 (fun j h1 h2 => by omega)) ⟨gt, a129, eg⟩ a132 (fun x hx => ?_) hfr
      by_cases q : x = i
      · rw [q, updN_s, eg i (by omega)]
      · rw [updN_n _ _ q]; exact hw x (by omega)
  have loop1 : ∀ (d i : Nat) (w : Nat → Nat) (h' : List PC), i + d = 8 → h'[127]? = some (aL 32 w) → (∀ x, x < i → w x = wgtN sh sd ti x) → Fr (fun j => j = 127) h h' → At mX12_comes T0 2 [.ref 106, .int ti0, .int (nI sd), .int (nI i), .null] [] h' 0 0 (ZM mX12_comes (fun r h' => r = none ∧ SH h' ∧ Ar h' 132 8 (share (s 0 5) (wgtN sh sd ti) 8) ∧ Ar h' 117 32 (loN (share (s 0 5) (wgtN sh sd ti) 8) mk (s 0 0)) ∧ Fr (fun j => j = 117 ∨ j = 132 ∨ (127 ≤ j ∧ j ≤ 129)) h h')) := by
    intro d
    induction d with
    | zero =>
      intro i w h' hi a127 hw hfr
      have a0 := hfr.at (k := 106) (by omega) m0
      have e1 : sm w 8 = sm (wgtN sh sd ti) 8 := sm_congr (fun j hj => hw j (by omega))
      refine at_iload_n 3 dX12_comes_2 rfl rfl rfl ?_
      refine at_bipush 5 (nI 8) dX12_comes_3 rfl (by decide) ?_
      refine at_icmp_geN 64 8 dX12_comes_5 rfl rfl (by omega) (by omega) (fun cc => ?_) (fun cc => ?_)
      rotate_left
      · omega
      refine at_aload_n 65 dX12_comes_64 rfl rfl rfl ?_
      refine at_aload_n 66 dX12_comes_65 rfl rfl rfl ?_
      refine at_g 69 dX12_comes_66 rfl fl_X12_38 ⟨_, by assumption, ?_⟩
      refine ⟨_, rfl, ?_⟩
      refine at_bipush 71 (nI 8) dX12_comes_69 rfl (by decide) ?_
      refine at_invV (ci := 12) 74 [_, _] _ (c_X12_shareOut a0 a127 (hfr.at (by omega) s128) (hfr.at (by omega) s129) (by decide) (by decide) (by omega) (by omega) (by omega)) dX12_comes_71 rfl rfl (by assumption) rfl ml_X12_130 cl_X12_shareOut vl_X12_shareOut rfl (Nat.le_of_ble_eq_true rfl) ⟨by decide, by decide⟩ (by decide) (fun rr hh qq => ?_)
      obtain ⟨rfl, ⟨Rj, b128⟩, b129, bfr⟩ := qq
      refine at_iconst 75 (nI 0) dX12_comes_74 rfl (by decide) ?_
      refine at_istore_n (L' := [_, _, _, _, _]) 76 dX12_comes_75 rfl rfl (by decide) rfl rfl ?_
      refine loop2 8 0 w132 hh (by omega) ⟨⟨w, bfr.at (by omega) a127⟩, ⟨Rj, b128⟩, ⟨_, b129⟩⟩ ⟨_, b129, fun t ht => ?_⟩ (bfr.at (by omega) (hfr.at (by omega) f132)) (fun x hx => by omega) ((hfr.wk (P' := fun j => j = 132 ∨ (127 ≤ j ∧ j ≤ 129)) (fun j hj => by omega)).tr bfr (fun j hj => by omega))
      show (if 0 ≤ t ∧ t < 0 + 8 then share (s 0 5) w 8 (t - 0) else wg t) = _
      rw [if_pos (by omega)]
      exact share_congr (by decide) (fun j hj => hw j (by omega)) t ht
    | succ d ih =>
      intro i w h' hi a127 hw hfr
      have a0 := hfr.at (k := 106) (by omega) m0
      have a113 := hfr.at (k := 113) (by omega) f113
      have hb := hshb i (by omega)
      have nxt : ∀ v h2, v = wgtN sh sd ti i → h2[127]? = some (aL 32 (updN w i v)) → Fr (fun j => j = 127) h h2 → At mX12_comes T0 58 [.ref 106, .int ti0, .int (nI sd), .int (nI i), .null] [] h2 0 0 (ZM mX12_comes (fun r h' => r = none ∧ SH h' ∧ Ar h' 132 8 (share (s 0 5) (wgtN sh sd ti) 8) ∧ Ar h' 117 32 (loN (share (s 0 5) (wgtN sh sd ti) 8) mk (s 0 0)) ∧ Fr (fun j => j = 117 ∨ j = 132 ∨ (127 ≤ j ∧ j ≤ 129)) h h')) := by
        intro v h2 hv b127 bfr
        refine at_iincN (q := 1) (L' := [_, _, _, _, _]) 61 dX12_comes_58 rfl (by decide) rfl (by decide) rfl rfl ?_
        refine at_goto 2 dX12_comes_61 rfl ?_
        refine ih (i + 1) _ h2 (by omega) b127 (fun x hx => ?_) bfr
        by_cases q : x = i
        · rw [q, updN_s, hv]
        · rw [updN_n _ _ q]; exact hw x (by omega)
      rcases hti with ⟨rfl, rfl⟩ | ⟨f, q1, rfl, rfl⟩
      · refine at_iload_n 3 dX12_comes_2 rfl rfl rfl ?_
        refine at_bipush 5 (nI 8) dX12_comes_3 rfl (by decide) ?_
        refine at_icmp_geN 64 8 dX12_comes_5 rfl rfl (by omega) (by omega) (fun cc => ?_) (fun cc => ?_)
        · omega
        refine at_aload_n 9 dX12_comes_8 rfl rfl rfl ?_
        refine at_g 12 dX12_comes_9 rfl fl_X12_83 ⟨_, by assumption, ?_⟩
        refine ⟨_, rfl, ?_⟩
        refine at_iload_n 13 dX12_comes_12 rfl rfl rfl ?_
        refine at_iload_n 14 dX12_comes_13 rfl rfl rfl ?_
        refine at_if_ge 27 17 dX12_comes_14 rfl rfl (fun cc => ?_) (fun cc => ?_)
        · exact absurd cc (by decide)
        refine at_aload_n 18 dX12_comes_17 rfl rfl rfl ?_
        refine at_g 21 dX12_comes_18 rfl fl_X12_28 ⟨_, by assumption, ?_⟩
        refine ⟨_, rfl, ?_⟩
        refine at_iload_n 22 dX12_comes_21 rfl rfl rfl ?_
        first | refine at_ia 23 dX12_comes_22 rfl ⟨_, _, by assumption, by omega, by first | decide | omega, ?_⟩ | refine at_iaG 23 dX12_comes_22 rfl ⟨_, _, by assumption, by omega, by first | decide | omega, ?_⟩
        first | refine at_i2lN 24 dX12_comes_23 rfl (by omega) ?_ | refine at_i2l 24 dX12_comes_23 rfl rfl ?_
        refine at_goto 57 dX12_comes_24 rfl ?_
        first | refine at_ls 58 dX12_comes_57 rfl ⟨_, _, by assumption, by omega, by first | decide | omega, fun hh3 nn3 => ?_⟩ | refine at_lsJ 58 dX12_comes_57 rfl ⟨_, _, by assumption, by omega, by first | decide | omega, fun hh3 nn3 => ?_⟩
        replace a0 := nn3.o (by first | decide | omega | assumption) a0
        replace a113 := nn3.o (by first | decide | omega | assumption) a113
        replace a127 := nn3.1
        replace hfr := hfr.nw nn3 (by first | (dsimp only; omega) | (dsimp only; done) | simp)
        clear nn3
        exact nxt _ _ (by unfold wgtN; rw [if_pos rfl]) a127 hfr
      · have hwv : wgtN sh sd (f + 1) i = sh i * (1000 - sd) + (if i + 1 = f + 1 then sd * 1000 else 0) := by unfold wgtN; rw [if_neg (by omega)]; rfl
        refine at_iload_n 3 dX12_comes_2 rfl rfl rfl ?_
        refine at_bipush 5 (nI 8) dX12_comes_3 rfl (by decide) ?_
        refine at_icmp_geN 64 8 dX12_comes_5 rfl rfl (by omega) (by omega) (fun cc => ?_) (fun cc => ?_)
        · omega
        refine at_aload_n 9 dX12_comes_8 rfl rfl rfl ?_
        refine at_g 12 dX12_comes_9 rfl fl_X12_83 ⟨_, by assumption, ?_⟩
        refine ⟨_, rfl, ?_⟩
        refine at_iload_n 13 dX12_comes_12 rfl rfl rfl ?_
        refine at_iload_n 14 dX12_comes_13 rfl rfl rfl ?_
        refine at_if_geN 27 17 dX12_comes_14 rfl rfl (by omega) ?_
        refine at_aload_n 28 dX12_comes_27 rfl rfl rfl ?_
        refine at_g 31 dX12_comes_28 rfl fl_X12_28 ⟨_, by assumption, ?_⟩
        refine ⟨_, rfl, ?_⟩
        refine at_iload_n 32 dX12_comes_31 rfl rfl rfl ?_
        first | refine at_ia 33 dX12_comes_32 rfl ⟨_, _, by assumption, by omega, by first | decide | omega, ?_⟩ | refine at_iaG 33 dX12_comes_32 rfl ⟨_, _, by assumption, by omega, by first | decide | omega, ?_⟩
        first | refine at_i2lN 34 dX12_comes_33 rfl (by omega) ?_ | refine at_i2l 34 dX12_comes_33 rfl rfl ?_
        refine at_sipush 37 (nI 1000) dX12_comes_34 rfl (by decide) ?_
        refine at_iload_n 38 dX12_comes_37 rfl rfl rfl ?_
        first | refine at_isubN 39 dX12_comes_38 rfl (by omega) ?_ | refine at_isub 39 dX12_comes_38 rfl ?_
        first | refine at_i2lN 40 dX12_comes_39 rfl (by omega) ?_ | refine at_i2l 40 dX12_comes_39 rfl rfl ?_
        first | refine at_lmulN 41 dX12_comes_40 rfl ?_ | refine at_lmul 41 dX12_comes_40 rfl ?_
        refine at_iload_n 42 dX12_comes_41 rfl rfl rfl ?_
        refine at_iload_n 43 dX12_comes_42 rfl rfl rfl ?_
        refine at_icmp_neN 55 46 dX12_comes_43 rfl rfl (by omega) (by omega) (fun cc => ?_) (fun cc => ?_)
        · rw [if_neg (by omega)] at hwv
          refine at_lconst 56 (lN 0) dX12_comes_55 rfl rfl ?_
          first | refine at_laddN 57 dX12_comes_56 rfl ?_ | refine at_ladd 57 dX12_comes_56 rfl ?_
          first | refine at_ls 58 dX12_comes_57 rfl ⟨_, _, by assumption, by omega, by first | decide | omega, fun hh4 nn4 => ?_⟩ | refine at_lsJ 58 dX12_comes_57 rfl ⟨_, _, by assumption, by omega, by first | decide | omega, fun hh4 nn4 => ?_⟩
          replace a0 := nn4.o (by first | decide | omega | assumption) a0
          replace a113 := nn4.o (by first | decide | omega | assumption) a113
          replace a127 := nn4.1
          replace hfr := hfr.nw nn4 (by first | (dsimp only; omega) | (dsimp only; done) | simp)
          clear nn4
          exact nxt _ _ (by rw [hwv]) a127 hfr
        · rw [if_pos (by omega)] at hwv
          refine at_ldc2 49 (lN 1000) dX12_comes_46 rfl cj_X12_159 ?_
          refine at_iload_n 50 dX12_comes_49 rfl rfl rfl ?_
          first | refine at_i2lN 51 dX12_comes_50 rfl (by omega) ?_ | refine at_i2l 51 dX12_comes_50 rfl rfl ?_
          first | refine at_lmulN 52 dX12_comes_51 rfl ?_ | refine at_lmul 52 dX12_comes_51 rfl ?_
          refine at_goto 56 dX12_comes_52 rfl ?_
          first | refine at_laddN 57 dX12_comes_56 rfl ?_ | refine at_ladd 57 dX12_comes_56 rfl ?_
          first | refine at_ls 58 dX12_comes_57 rfl ⟨_, _, by assumption, by omega, by first | decide | omega, fun hh5 nn5 => ?_⟩ | refine at_lsJ 58 dX12_comes_57 rfl ⟨_, _, by assumption, by omega, by first | decide | omega, fun hh5 nn5 => ?_⟩
          replace a0 := nn5.o (by first | decide | omega | assumption) a0
          replace a113 := nn5.o (by first | decide | omega | assumption) a113
          replace a127 := nn5.1
          replace hfr := hfr.nw nn5 (by first | (dsimp only; omega) | (dsimp only; done) | simp)
          clear nn5
          exact nxt _ _ (by rw [hwv, Nat.mul_comm sd 1000]) a127 hfr
  exact loop1 8 0 ww h (by omega) s127 (fun x hx => by omega) Fr.rf

theorem c_goes {s : St} {h : List PC} {kr sz : Nat} {R lo : Nat → Nat} (hkr : kr = 114 ∨ kr = 115) (m0 : h[106]? = some (oM s)) (hSH : SH h) (hrw : h[kr]? = some (aI 192 R)) (h116 : ∃ w, h[116]? = some (aI 192 w)) (h117 : Ar h 117 32 lo) (h118 : ∃ w, h[118]? = some (aI 32 w)) (hP : POk R (s 0 4) (s 0 5) (s 0 3) sz) (hl : LoOk lo (s 0 5) sz) (hw4 : s 0 4 ≤ 100000) : Ct mX12_goes [.ref 106, .ref kr] h (fun r h' => r = none ∧ SH h' ∧ Ar h' kr 192 (passL R lo (s 0 5) (s 0 3)) ∧ (∃ w, h'[116]? = some (aI 192 w)) ∧ Ar h' 118 32 (outF R (s 0 5) (s 0 3 - 1)) ∧ Fr (fun j => j = kr ∨ j = 116 ∨ j = 118 ∨ (127 ≤ j ∧ j ≤ 129)) h h') := by
  obtain ⟨w116, f116⟩ := h116
  obtain ⟨lw, f117, e117⟩ := h117
  obtain ⟨w118, f118⟩ := h118
  obtain ⟨⟨n1, n6⟩, hsz, ⟨hw, hwb, hpw⟩, hsm, hz⟩ := id hP
  have hRb : ∀ c i, c < s 0 3 → i < 32 → R (32 * c + i) ≤ s 0 4 := fun c i hc hi => by have := sm_el (fun i => R (32 * c + i)) hi; have := hsm c hc; omega
  refine ct_at (L := [_, _, _, _]) (by decide +kernel) rfl rfl (Nat.le_of_ble_eq_true rfl) ?_
  refine at_iconst 1 (nI 0) dX12_goes_0 rfl (by decide) ?_
  refine at_istore_n (L' := [_, _, _, _]) 2 dX12_goes_1 rfl rfl (by decide) rfl rfl ?_
  have loopC : ∀ (d i : Nat) (o g : Nat → Nat) (h' : List PC), i + d = 32 → SH h' → Ar h' kr 192 (passL R lo (s 0 5) (s 0 3)) → h'[116]? = some (aI 192 o) → (∀ x, x < 32 * s 0 3 → o x = outF R (s 0 5) (x / 32) (x % 32)) → h'[118]? = some (aI 32 g) → (∀ x, x < i → g x = outF R (s 0 5) (s 0 3 - 1) x) → Fr (fun j => j = kr ∨ j = 116 ∨ j = 118 ∨ (127 ≤ j ∧ j ≤ 129)) h h' → At mX12_goes T0 167 [.ref 106, .ref kr, .int (nI i), .null] [] h' 0 0 (ZM mX12_goes (fun r h' => r = none ∧ SH h' ∧ Ar h' kr 192 (passL R lo (s 0 5) (s 0 3)) ∧ (∃ w, h'[116]? = some (aI 192 w)) ∧ Ar h' 118 32 (outF R (s 0 5) (s 0 3 - 1)) ∧ Fr (fun j => j = kr ∨ j = 116 ∨ j = 118 ∨ (127 ≤ j ∧ j ≤ 129)) h h')) := by
    intro d
    induction d with
    | zero =>
      intro i o g h' hi aS aR a116 ho a118 hg hfr
      refine at_iload_n 168 dX12_goes_167 rfl rfl rfl ?_
      refine at_bipush 170 (nI 32) dX12_goes_168 rfl (by decide) ?_
      refine at_icmp_geN 201 173 dX12_goes_170 rfl rfl (by omega) (by omega) (fun cc => ?_) (fun cc => ?_)
      rotate_left
      · omega
      refine at_vret dX12_goes_201 rfl (by decide) (by decide) ?_
      exact ⟨rfl, aS, aR, ⟨o, a116⟩, ⟨g, a118, fun x hx => hg x (by omega)⟩, hfr⟩
    | succ d ih =>
      intro i o g h' hi aS aR a116 ho a118 hg hfr
      have a0 := hfr.at (k := 106) (by omega) m0
      have hfr1 : Fr (fun j => j = 118) h' h' := Fr.rf
      refine at_iload_n 168 dX12_goes_167 rfl rfl rfl ?_
      refine at_bipush 170 (nI 32) dX12_goes_168 rfl (by decide) ?_
      refine at_icmp_geN 201 173 dX12_goes_170 rfl rfl (by omega) (by omega) (fun cc => ?_) (fun cc => ?_)
      · omega
      refine at_aload_n 174 dX12_goes_173 rfl rfl rfl ?_
      refine at_g 177 dX12_goes_174 rfl fl_X12_56 ⟨_, by assumption, ?_⟩
      refine ⟨_, rfl, ?_⟩
      refine at_iload_n 178 dX12_goes_177 rfl rfl rfl ?_
      refine at_aload_n 179 dX12_goes_178 rfl rfl rfl ?_
      refine at_g 182 dX12_goes_179 rfl fl_X12_50 ⟨_, by assumption, ?_⟩
      refine ⟨_, rfl, ?_⟩
      refine at_bipush 184 (nI 32) dX12_goes_182 rfl (by decide) ?_
      refine at_aload_n 185 dX12_goes_184 rfl rfl rfl ?_
      refine at_g 188 dX12_goes_185 rfl fl_X12_31 ⟨_, by assumption, ?_⟩
      refine ⟨_, rfl, ?_⟩
      refine at_iconst 189 (nI 1) dX12_goes_188 rfl (by decide) ?_
      first | refine at_isubN 190 dX12_goes_189 rfl (by omega) ?_ | refine at_isub 190 dX12_goes_189 rfl ?_
      first | refine at_imulN 191 dX12_goes_190 rfl ?_ | refine at_imul 191 dX12_goes_190 rfl ?_
      refine at_iload_n 192 dX12_goes_191 rfl rfl rfl ?_
      first | refine at_iaddN 193 dX12_goes_192 rfl ?_ | refine at_iadd 193 dX12_goes_192 rfl ?_
      first | refine at_ia 194 dX12_goes_193 rfl ⟨_, _, by assumption, by omega, by first | decide | omega, ?_⟩ | refine at_iaG 194 dX12_goes_193 rfl ⟨_, _, by assumption, by omega, by first | decide | omega, ?_⟩
      first | refine at_is 195 dX12_goes_194 rfl ⟨_, _, by assumption, by omega, by first | decide | omega, fun hh6 nn6 => ?_⟩ | refine at_isG 195 dX12_goes_194 rfl ⟨_, _, by assumption, by omega, by first | decide | omega, fun hh6 nn6 => ?_⟩
      replace a0 := nn6.o (by first | decide | omega | assumption) a0
      replace a116 := nn6.o (by first | decide | omega | assumption) a116
      replace a118 := nn6.1
      replace hfr := hfr.nw nn6 (by first | (dsimp only; omega) | (dsimp only; done) | simp)
      replace hfr1 := hfr1.nw nn6 (by first | (dsimp only; omega) | (dsimp only; done) | simp)
      clear nn6
      refine at_iincN (q := 1) (L' := [_, _, _, _]) 198 dX12_goes_195 rfl (by decide) rfl (by decide) rfl rfl ?_
      refine at_goto 167 dX12_goes_198 rfl ?_
      refine ih (i + 1) o _ _ (by omega) (aS.fr hfr1 (fun j h1 h2 => by omega)) (aR.fr hfr1 (by omega)) a116 ho a118 (fun x hx => ?_) hfr
      by_cases q : x = i
      · rw [q, updN_s, ho _ (by omega), show (32 * (s 0 3 - 1) + i) / 32 = s 0 3 - 1 by omega, show (32 * (s 0 3 - 1) + i) % 32 = i by omega]
      · rw [updN_n _ _ q]; exact hg x (by omega)
  have loopB : ∀ (d c : Nat) (o w : Nat → Nat) (h' : List PC), c + d = s 0 3 → SH h' → h'[kr]? = some (aI 192 w) → (∀ x, x < 192 → w x = if x < 32 * c then passL R lo (s 0 5) (s 0 3) x else R x) → h'[116]? = some (aI 192 o) → (∀ x, x < 32 * s 0 3 → o x = outF R (s 0 5) (x / 32) (x % 32)) → Fr (fun j => j = kr ∨ j = 116 ∨ j = 118 ∨ (127 ≤ j ∧ j ≤ 129)) h h' → Fr (fun j => j = kr ∨ j = 116 ∨ (127 ≤ j ∧ j ≤ 129)) h h' → At mX12_goes T0 88 [.ref 106, .ref kr, .int (nI c), .null] [] h' 0 0 (ZM mX12_goes (fun r h' => r = none ∧ SH h' ∧ Ar h' kr 192 (passL R lo (s 0 5) (s 0 3)) ∧ (∃ w, h'[116]? = some (aI 192 w)) ∧ Ar h' 118 32 (outF R (s 0 5) (s 0 3 - 1)) ∧ Fr (fun j => j = kr ∨ j = 116 ∨ j = 118 ∨ (127 ≤ j ∧ j ≤ 129)) h h')) := by
    intro d
    induction d with
    | zero =>
      intro c o w h' hi aS aR hw a116 ho hfr hfr2
      have a0 := hfr.at (k := 106) (by omega) m0
      refine at_iload_n 89 dX12_goes_88 rfl rfl rfl ?_
      refine at_aload_n 90 dX12_goes_89 rfl rfl rfl ?_
      refine at_g 93 dX12_goes_90 rfl fl_X12_31 ⟨_, by assumption, ?_⟩
      refine ⟨_, rfl, ?_⟩
      refine at_icmp_geN 165 96 dX12_goes_93 rfl rfl (by omega) (by omega) (fun cc => ?_) (fun cc => ?_)
      rotate_left
      · omega
      refine at_iconst 166 (nI 0) dX12_goes_165 rfl (by decide) ?_
      refine at_istore_n (L' := [_, _, _, _]) 167 dX12_goes_166 rfl rfl (by decide) rfl rfl ?_
      refine loopC 32 0 o w118 h' (by omega) aS ⟨w, aR, fun x hx => ?_⟩ a116 ho (hfr2.at (by omega) f118) (fun x hx => by omega) hfr
      rw [hw x hx]
      by_cases q : x < 32 * c
      · rw [if_pos q]
      · rw [if_neg q]; unfold passL; rw [if_neg (by omega)]
    | succ d ih =>
      intro c o w h' hi aS aR hw a116 ho hfr hfr2
      have a0 := hfr.at (k := 106) (by omega) m0
      refine at_iload_n 89 dX12_goes_88 rfl rfl rfl ?_
      refine at_aload_n 90 dX12_goes_89 rfl rfl rfl ?_
      refine at_g 93 dX12_goes_90 rfl fl_X12_31 ⟨_, by assumption, ?_⟩
      refine ⟨_, rfl, ?_⟩
      refine at_icmp_geN 165 96 dX12_goes_93 rfl rfl (by omega) (by omega) (fun cc => ?_) (fun cc => ?_)
      · omega
      refine at_iconst 97 (nI 0) dX12_goes_96 rfl (by decide) ?_
      refine at_istore_n (L' := [_, _, _, _]) 98 dX12_goes_97 rfl rfl (by decide) rfl rfl ?_
      have inner : ∀ (e k : Nat) (w : Nat → Nat) (h' : List PC), k + e = 32 → SH h' → h'[kr]? = some (aI 192 w) → (∀ x, x < 192 → w x = if x < 32 * c + k then passL R lo (s 0 5) (s 0 3) x else R x) → h'[116]? = some (aI 192 o) → Fr (fun j => j = kr ∨ j = 116 ∨ j = 118 ∨ (127 ≤ j ∧ j ≤ 129)) h h' → Fr (fun j => j = kr ∨ j = 116 ∨ (127 ≤ j ∧ j ≤ 129)) h h' → At mX12_goes T0 98 [.ref 106, .ref kr, .int (nI c), .int (nI k)] [] h' 0 0 (ZM mX12_goes (fun r h' => r = none ∧ SH h' ∧ Ar h' kr 192 (passL R lo (s 0 5) (s 0 3)) ∧ (∃ w, h'[116]? = some (aI 192 w)) ∧ Ar h' 118 32 (outF R (s 0 5) (s 0 3 - 1)) ∧ Fr (fun j => j = kr ∨ j = 116 ∨ j = 118 ∨ (127 ≤ j ∧ j ≤ 129)) h h')) := by
        intro e
        induction e with
        | zero =>
          intro k w h' hk aS aR hw a116 hfr hfr2
          refine at_iload_n 99 dX12_goes_98 rfl rfl rfl ?_
          refine at_bipush 101 (nI 32) dX12_goes_99 rfl (by decide) ?_
          refine at_icmp_geN 159 104 dX12_goes_101 rfl rfl (by omega) (by omega) (fun cc => ?_) (fun cc => ?_)
          rotate_left
          · omega
          refine at_iincN (q := 1) (L' := [_, _, _, _]) 162 dX12_goes_159 rfl (by decide) rfl (by decide) rfl rfl ?_
          refine at_goto 88 dX12_goes_162 rfl ?_
          refine at_drop (L' := [_, _, _, _]) 3 rfl ?_
          exact ih (c + 1) o w h' (by omega) aS aR (fun x hx => by rw [hw x hx, show 32 * c + k = 32 * (c + 1) by omega]) a116 ho hfr hfr2
        | succ e ih2 =>
          intro k w h' hk aS aR hw a116 hfr hfr2
          have a0 := hfr.at (k := 106) (by omega) m0
          have a117 := hfr.at (k := 117) (by omega) f117
          have hfr1 : Fr (fun j => j = kr) h' h' := Fr.rf
          have hwx : w (32 * c + k) = R (32 * c + k) := by rw [hw _ (by omega), if_neg (by omega)]
          have hox : o (32 * c + k) = outF R (s 0 5) c k := by rw [ho _ (by omega), show (32 * c + k) / 32 = c by omega, show (32 * c + k) % 32 = k by omega]
          have hout := hP.out (c := c) (i := k) (by omega) (by omega)
          have hpx := passL_at (L := R) (lo := lo) (p := s 0 5) (n := s 0 3) (c := c) (i := k) (by omega) (by omega)
          have fin : ∀ v h2, v = inF R lo (s 0 5) c k → h2 = h' → At mX12_goes T0 139 [.ref 106, .ref kr, .int (nI c), .int (nI k)] [.int (nI v), .int (nI (w (32 * c + k))), .int (nI (32 * c + k)), .ref kr] h2 0 0 (ZM mX12_goes (fun r h' => r = none ∧ SH h' ∧ Ar h' kr 192 (passL R lo (s 0 5) (s 0 3)) ∧ (∃ w, h'[116]? = some (aI 192 w)) ∧ Ar h' 118 32 (outF R (s 0 5) (s 0 3 - 1)) ∧ Fr (fun j => j = kr ∨ j = 116 ∨ j = 118 ∨ (127 ≤ j ∧ j ≤ 129)) h h')) := by
            intro v h2 hv hh2
            rw [hh2]
            refine at_aload_n 140 dX12_goes_139 rfl rfl rfl ?_
            refine at_g 143 dX12_goes_140 rfl fl_X12_50 ⟨_, by assumption, ?_⟩
            refine ⟨_, rfl, ?_⟩
            refine at_bipush 145 (nI 32) dX12_goes_143 rfl (by decide) ?_
            refine at_iload_n 146 dX12_goes_145 rfl rfl rfl ?_
            first | refine at_imulN 147 dX12_goes_146 rfl ?_ | refine at_imul 147 dX12_goes_146 rfl ?_
            refine at_iload_n 148 dX12_goes_147 rfl rfl rfl ?_
            first | refine at_iaddN 149 dX12_goes_148 rfl ?_ | refine at_iadd 149 dX12_goes_148 rfl ?_
            first | refine at_ia 150 dX12_goes_149 rfl ⟨_, _, by assumption, by omega, by first | decide | omega, ?_⟩ | refine at_iaG 150 dX12_goes_149 rfl ⟨_, _, by assumption, by omega, by first | decide | omega, ?_⟩
            refine at_isub 151 dX12_goes_150 rfl ?_
            refine at_iadd 152 dX12_goes_151 rfl ?_
            rw [add_sub3 (by omega)]
            first | refine at_is 153 dX12_goes_152 rfl ⟨_, _, by assumption, by omega, by first | decide | omega, fun hh7 nn7 => ?_⟩ | refine at_isG 153 dX12_goes_152 rfl ⟨_, _, by assumption, by omega, by first | decide | omega, fun hh7 nn7 => ?_⟩
            replace a0 := nn7.o (by first | decide | omega | assumption) a0
            replace a116 := nn7.o (by first | decide | omega | assumption) a116
            replace a117 := nn7.o (by first | decide | omega | assumption) a117
            replace aR := nn7.1
            replace hfr := hfr.nw nn7 (by first | (dsimp only; omega) | (dsimp only; done) | simp)
            replace hfr1 := hfr1.nw nn7 (by first | (dsimp only; omega) | (dsimp only; done) | simp)
            replace hfr2 := hfr2.nw nn7 (by first | (dsimp only; omega) | (dsimp only; done) | simp)
            clear nn7
            refine at_iincN (q := 1) (L' := [_, _, _, _]) 156 dX12_goes_153 rfl (by decide) rfl (by decide) rfl rfl ?_
            refine at_goto 98 dX12_goes_156 rfl ?_
            refine ih2 (k + 1) _ _ (by omega) (aS.fr hfr1 (fun j h1 h2 => by omega)) aR (fun x hx => ?_) a116 hfr hfr2
            by_cases q : x = 32 * c + k
            · rw [q, updN_s, if_pos (by omega), hpx, hwx, hv, hox]
            · rw [updN_n _ _ q, hw x hx]
              by_cases q2 : x < 32 * c + k
              · rw [if_pos q2, if_pos (by omega)]
              · rw [if_neg q2, if_neg (by omega)]
          refine at_iload_n 99 dX12_goes_98 rfl rfl rfl ?_
          refine at_bipush 101 (nI 32) dX12_goes_99 rfl (by decide) ?_
          refine at_icmp_geN 159 104 dX12_goes_101 rfl rfl (by omega) (by omega) (fun cc => ?_) (fun cc => ?_)
          · omega
          refine at_aload_n 105 dX12_goes_104 rfl rfl rfl ?_
          refine at_bipush 107 (nI 32) dX12_goes_105 rfl (by decide) ?_
          refine at_iload_n 108 dX12_goes_107 rfl rfl rfl ?_
          first | refine at_imulN 109 dX12_goes_108 rfl ?_ | refine at_imul 109 dX12_goes_108 rfl ?_
          refine at_iload_n 110 dX12_goes_109 rfl rfl rfl ?_
          first | refine at_iaddN 111 dX12_goes_110 rfl ?_ | refine at_iadd 111 dX12_goes_110 rfl ?_
          refine at_dup2 112 dX12_goes_111 rfl rfl rfl ?_
          first | refine at_ia 113 dX12_goes_112 rfl ⟨_, _, by assumption, by omega, by first | decide | omega, ?_⟩ | refine at_iaG 113 dX12_goes_112 rfl ⟨_, _, by assumption, by omega, by first | decide | omega, ?_⟩
          refine at_iload_n 114 dX12_goes_113 rfl rfl rfl ?_
          refine at_if_neN 126 117 dX12_goes_114 rfl rfl (by omega) (fun cc => ?_) (fun cc => ?_)
          · refine at_aload_n 127 dX12_goes_126 rfl rfl rfl ?_
            refine at_g 130 dX12_goes_127 rfl fl_X12_50 ⟨_, by assumption, ?_⟩
            refine ⟨_, rfl, ?_⟩
            refine at_bipush 132 (nI 32) dX12_goes_130 rfl (by decide) ?_
            refine at_iload_n 133 dX12_goes_132 rfl rfl rfl ?_
            refine at_iconst 134 (nI 1) dX12_goes_133 rfl (by decide) ?_
            first | refine at_isubN 135 dX12_goes_134 rfl (by omega) ?_ | refine at_isub 135 dX12_goes_134 rfl ?_
            first | refine at_imulN 136 dX12_goes_135 rfl ?_ | refine at_imul 136 dX12_goes_135 rfl ?_
            refine at_iload_n 137 dX12_goes_136 rfl rfl rfl ?_
            first | refine at_iaddN 138 dX12_goes_137 rfl ?_ | refine at_iadd 138 dX12_goes_137 rfl ?_
            first | refine at_ia 139 dX12_goes_138 rfl ⟨_, _, by assumption, by omega, by first | decide | omega, ?_⟩ | refine at_iaG 139 dX12_goes_138 rfl ⟨_, _, by assumption, by omega, by first | decide | omega, ?_⟩
            exact fin _ _ (by unfold inF; rw [if_neg cc, ho _ (by omega), show (32 * (c - 1) + k) / 32 = c - 1 by omega, show (32 * (c - 1) + k) % 32 = k by omega]) rfl
          · refine at_aload_n 118 dX12_goes_117 rfl rfl rfl ?_
            refine at_g 121 dX12_goes_118 rfl fl_X12_53 ⟨_, by assumption, ?_⟩
            refine ⟨_, rfl, ?_⟩
            refine at_iload_n 122 dX12_goes_121 rfl rfl rfl ?_
            first | refine at_ia 123 dX12_goes_122 rfl ⟨_, _, by assumption, by omega, by first | decide | omega, ?_⟩ | refine at_iaG 123 dX12_goes_122 rfl ⟨_, _, by assumption, by omega, by first | decide | omega, ?_⟩
            refine at_goto 139 dX12_goes_123 rfl ?_
            exact fin _ _ (by unfold inF; rw [if_pos cc, e117 k (by omega)]) rfl
      exact inner 32 0 w h' (by omega) aS aR (fun x hx => by rw [hw x hx]; rfl) a116 hfr hfr2
  have loopA : ∀ (d c : Nat) (o : Nat → Nat) (h' : List PC), c + d = s 0 3 → SH h' → h'[116]? = some (aI 192 o) → (∀ x, x < 32 * c → o x = outF R (s 0 5) (x / 32) (x % 32)) → Fr (fun j => j = 116 ∨ (127 ≤ j ∧ j ≤ 129)) h h' → At mX12_goes T0 2 [.ref 106, .ref kr, .int (nI c), .null] [] h' 0 0 (ZM mX12_goes (fun r h' => r = none ∧ SH h' ∧ Ar h' kr 192 (passL R lo (s 0 5) (s 0 3)) ∧ (∃ w, h'[116]? = some (aI 192 w)) ∧ Ar h' 118 32 (outF R (s 0 5) (s 0 3 - 1)) ∧ Fr (fun j => j = kr ∨ j = 116 ∨ j = 118 ∨ (127 ≤ j ∧ j ≤ 129)) h h')) := by
    intro d
    induction d with
    | zero =>
      intro c o h' hi aS a116 ho hfr
      have a0 := hfr.at (k := 106) (by omega) m0
      refine at_iload_n 3 dX12_goes_2 rfl rfl rfl ?_
      refine at_aload_n 4 dX12_goes_3 rfl rfl rfl ?_
      refine at_g 7 dX12_goes_4 rfl fl_X12_31 ⟨_, by assumption, ?_⟩
      refine ⟨_, rfl, ?_⟩
      refine at_icmp_geN 86 10 dX12_goes_7 rfl rfl (by omega) (by omega) (fun cc => ?_) (fun cc => ?_)
      rotate_left
      · omega
      refine at_iconst 87 (nI 0) dX12_goes_86 rfl (by decide) ?_
      refine at_istore_n (L' := [_, _, _, _]) 88 dX12_goes_87 rfl rfl (by decide) rfl rfl ?_
      exact loopB (s 0 3) 0 o R h' (by omega) aS (hfr.at (by omega) hrw) (fun x hx => by rw [if_neg (by omega)]) a116 (fun x hx => ho x (by omega)) (hfr.wk (fun j hj => by omega)) (hfr.wk (fun j hj => by omega))
    | succ d ih =>
      intro c o h' hi aS a116 ho hfr
      have a0 := hfr.at (k := 106) (by omega) m0
      obtain ⟨⟨ww, a127⟩, ⟨wj, a128⟩, ⟨wg, a129⟩⟩ := aS
      refine at_iload_n 3 dX12_goes_2 rfl rfl rfl ?_
      refine at_aload_n 4 dX12_goes_3 rfl rfl rfl ?_
      refine at_g 7 dX12_goes_4 rfl fl_X12_31 ⟨_, by assumption, ?_⟩
      refine ⟨_, rfl, ?_⟩
      refine at_icmp_geN 86 10 dX12_goes_7 rfl rfl (by omega) (by omega) (fun cc => ?_) (fun cc => ?_)
      · omega
      refine at_iconst 11 (nI 0) dX12_goes_10 rfl (by decide) ?_
      refine at_istore_n (L' := [_, _, _, _]) 12 dX12_goes_11 rfl rfl (by decide) rfl rfl ?_
      have in2 : ∀ (e k : Nat) (o : Nat → Nat) (h' : List PC), k + e = 32 → SH h' → (∃ gt, h'[129]? = some (aI 32 gt) ∧ ∀ j, j < 32 → gt j = outF R (s 0 5) c j) → h'[116]? = some (aI 192 o) → (∀ x, x < 32 * c + k → o x = outF R (s 0 5) (x / 32) (x % 32)) → Fr (fun j => j = 116 ∨ (127 ≤ j ∧ j ≤ 129)) h h' → At mX12_goes T0 51 [.ref 106, .ref kr, .int (nI c), .int (nI k)] [] h' 0 0 (ZM mX12_goes (fun r h' => r = none ∧ SH h' ∧ Ar h' kr 192 (passL R lo (s 0 5) (s 0 3)) ∧ (∃ w, h'[116]? = some (aI 192 w)) ∧ Ar h' 118 32 (outF R (s 0 5) (s 0 3 - 1)) ∧ Fr (fun j => j = kr ∨ j = 116 ∨ j = 118 ∨ (127 ≤ j ∧ j ≤ 129)) h h')) := by
        intro e
        induction e with
        | zero =>
          intro k o h' hk aS aG a116 ho hfr
          refine at_iload_n 52 dX12_goes_51 rfl rfl rfl ?_
          refine at_bipush 54 (nI 32) dX12_goes_52 rfl (by decide) ?_
          refine at_icmp_geN 80 57 dX12_goes_54 rfl rfl (by omega) (by omega) (fun cc => ?_) (fun cc => ?_)
          rotate_left
          · omega
          refine at_iincN (q := 1) (L' := [_, _, _, _]) 83 dX12_goes_80 rfl (by decide) rfl (by decide) rfl rfl ?_
          refine at_goto 2 dX12_goes_83 rfl ?_
          refine at_drop (L' := [_, _, _, _]) 3 rfl ?_
          exact ih (c + 1) o h' (by omega) aS a116 (fun x hx => ho x (by omega)) hfr
        | succ e ih2 =>
          intro k o h' hk aS ⟨gt, a129, eg⟩ a116 ho hfr
          have a0 := hfr.at (k := 106) (by omega) m0
          have hfr1 : Fr (fun j => j = 116) h' h' := Fr.rf
          refine at_iload_n 52 dX12_goes_51 rfl rfl rfl ?_
          refine at_bipush 54 (nI 32) dX12_goes_52 rfl (by decide) ?_
          refine at_icmp_geN 80 57 dX12_goes_54 rfl rfl (by omega) (by omega) (fun cc => ?_) (fun cc => ?_)
          · omega
          refine at_aload_n 58 dX12_goes_57 rfl rfl rfl ?_
          refine at_g 61 dX12_goes_58 rfl fl_X12_50 ⟨_, by assumption, ?_⟩
          refine ⟨_, rfl, ?_⟩
          refine at_bipush 63 (nI 32) dX12_goes_61 rfl (by decide) ?_
          refine at_iload_n 64 dX12_goes_63 rfl rfl rfl ?_
          first | refine at_imulN 65 dX12_goes_64 rfl ?_ | refine at_imul 65 dX12_goes_64 rfl ?_
          refine at_iload_n 66 dX12_goes_65 rfl rfl rfl ?_
          first | refine at_iaddN 67 dX12_goes_66 rfl ?_ | refine at_iadd 67 dX12_goes_66 rfl ?_
          refine at_aload_n 68 dX12_goes_67 rfl rfl rfl ?_
          refine at_g 71 dX12_goes_68 rfl fl_X12_90 ⟨_, by assumption, ?_⟩
          refine ⟨_, rfl, ?_⟩
          refine at_iload_n 72 dX12_goes_71 rfl rfl rfl ?_
          first | refine at_ia 73 dX12_goes_72 rfl ⟨_, _, by assumption, by omega, by first | decide | omega, ?_⟩ | refine at_iaG 73 dX12_goes_72 rfl ⟨_, _, by assumption, by omega, by first | decide | omega, ?_⟩
          first | refine at_is 74 dX12_goes_73 rfl ⟨_, _, by assumption, by omega, by first | decide | omega, fun hh8 nn8 => ?_⟩ | refine at_isG 74 dX12_goes_73 rfl ⟨_, _, by assumption, by omega, by first | decide | omega, fun hh8 nn8 => ?_⟩
          replace a0 := nn8.o (by first | decide | omega | assumption) a0
          replace a129 := nn8.o (by first | decide | omega | assumption) a129
          replace a116 := nn8.1
          replace hfr := hfr.nw nn8 (by first | (dsimp only; omega) | (dsimp only; done) | simp)
          replace hfr1 := hfr1.nw nn8 (by first | (dsimp only; omega) | (dsimp only; done) | simp)
          clear nn8
          refine at_iincN (q := 1) (L' := [_, _, _, _]) 77 dX12_goes_74 rfl (by decide) rfl (by decide) rfl rfl ?_
          refine at_goto 51 dX12_goes_77 rfl ?_
          refine ih2 (k + 1) _ _ (by omega) (aS.fr hfr1 (fun j h1 h2 => by omega)) ⟨gt, a129, eg⟩ a116 (fun x hx => ?_) hfr
          by_cases q : x = 32 * c + k
          · rw [q, updN_s, eg k (by omega), show (32 * c + k) / 32 = c by omega, show (32 * c + k) % 32 = k by omega]
          · rw [updN_n _ _ q]; exact ho x (by omega)
      have in1 : ∀ (e k : Nat) (w : Nat → Nat) (h' : List PC), k + e = 32 → h'[127]? = some (aL 32 w) → (∀ j, j < k → w j = R (32 * c + j)) → h'[128]? = some (aJ 32 wj) → h'[129]? = some (aI 32 wg) → h'[116]? = some (aI 192 o) → Fr (fun j => j = 116 ∨ (127 ≤ j ∧ j ≤ 129)) h h' → At mX12_goes T0 12 [.ref 106, .ref kr, .int (nI c), .int (nI k)] [] h' 0 0 (ZM mX12_goes (fun r h' => r = none ∧ SH h' ∧ Ar h' kr 192 (passL R lo (s 0 5) (s 0 3)) ∧ (∃ w, h'[116]? = some (aI 192 w)) ∧ Ar h' 118 32 (outF R (s 0 5) (s 0 3 - 1)) ∧ Fr (fun j => j = kr ∨ j = 116 ∨ j = 118 ∨ (127 ≤ j ∧ j ≤ 129)) h h')) := by
        intro e
        induction e with
        | zero =>
          intro k w h' hk a127 hwk a128 a129 a116 hfr
          have a0 := hfr.at (k := 106) (by omega) m0
          have e1 : sm w 32 = s 0 4 := by rw [← hsm c (by omega)]; exact sm_congr (fun j hj => hwk j (by omega))
          refine at_iload_n 13 dX12_goes_12 rfl rfl rfl ?_
          refine at_bipush 15 (nI 32) dX12_goes_13 rfl (by decide) ?_
          refine at_icmp_geN 39 18 dX12_goes_15 rfl rfl (by omega) (by omega) (fun cc => ?_) (fun cc => ?_)
          rotate_left
          · omega
          refine at_aload_n 40 dX12_goes_39 rfl rfl rfl ?_
          refine at_aload_n 41 dX12_goes_40 rfl rfl rfl ?_
          refine at_g 44 dX12_goes_41 rfl fl_X12_38 ⟨_, by assumption, ?_⟩
          refine ⟨_, rfl, ?_⟩
          refine at_bipush 46 (nI 32) dX12_goes_44 rfl (by decide) ?_
          refine at_invV (ci := 12) 49 [_, _] _ (c_X12_shareOut a0 a127 a128 a129 (by decide) (by decide) (by omega) (by omega) (by omega)) dX12_goes_46 rfl rfl (by assumption) rfl ml_X12_130 cl_X12_shareOut vl_X12_shareOut rfl (Nat.le_of_ble_eq_true rfl) ⟨by decide, by decide⟩ (by decide) (fun rr hh qq => ?_)
          obtain ⟨rfl, ⟨Rj, b128⟩, b129, bfr⟩ := qq
          refine at_iconst 50 (nI 0) dX12_goes_49 rfl (by decide) ?_
          refine at_istore_n (L' := [_, _, _, _]) 51 dX12_goes_50 rfl rfl (by decide) rfl rfl ?_
          refine in2 32 0 o hh (by omega) ⟨⟨w, bfr.at (by omega) a127⟩, ⟨Rj, b128⟩, ⟨_, b129⟩⟩ ⟨_, b129, fun t ht => ?_⟩ (bfr.at (by omega) a116) (fun x hx => ho x (by omega)) (hfr.tr bfr (fun j hj => by omega))
          show (if 0 ≤ t ∧ t < 0 + 32 then share (s 0 5) w 32 (t - 0) else wg t) = _
          rw [if_pos (by omega)]
          exact share_congr (by decide) (fun j hj => hwk j (by omega)) t ht
        | succ e ih2 =>
          intro k w h' hk a127 hwk a128 a129 a116 hfr
          have a0 := hfr.at (k := 106) (by omega) m0
          have aR := hfr.at (k := kr) (by omega) hrw
          have hb := hRb c k (by omega) (by omega)
          refine at_iload_n 13 dX12_goes_12 rfl rfl rfl ?_
          refine at_bipush 15 (nI 32) dX12_goes_13 rfl (by decide) ?_
          refine at_icmp_geN 39 18 dX12_goes_15 rfl rfl (by omega) (by omega) (fun cc => ?_) (fun cc => ?_)
          · omega
          refine at_aload_n 19 dX12_goes_18 rfl rfl rfl ?_
          refine at_g 22 dX12_goes_19 rfl fl_X12_83 ⟨_, by assumption, ?_⟩
          refine ⟨_, rfl, ?_⟩
          refine at_iload_n 23 dX12_goes_22 rfl rfl rfl ?_
          refine at_aload_n 24 dX12_goes_23 rfl rfl rfl ?_
          refine at_bipush 26 (nI 32) dX12_goes_24 rfl (by decide) ?_
          refine at_iload_n 27 dX12_goes_26 rfl rfl rfl ?_
          first | refine at_imulN 28 dX12_goes_27 rfl ?_ | refine at_imul 28 dX12_goes_27 rfl ?_
          refine at_iload_n 29 dX12_goes_28 rfl rfl rfl ?_
          first | refine at_iaddN 30 dX12_goes_29 rfl ?_ | refine at_iadd 30 dX12_goes_29 rfl ?_
          first | refine at_ia 31 dX12_goes_30 rfl ⟨_, _, by assumption, by omega, by first | decide | omega, ?_⟩ | refine at_iaG 31 dX12_goes_30 rfl ⟨_, _, by assumption, by omega, by first | decide | omega, ?_⟩
          first | refine at_i2lN 32 dX12_goes_31 rfl (by omega) ?_ | refine at_i2l 32 dX12_goes_31 rfl rfl ?_
          first | refine at_ls 33 dX12_goes_32 rfl ⟨_, _, by assumption, by omega, by first | decide | omega, fun hh9 nn9 => ?_⟩ | refine at_lsJ 33 dX12_goes_32 rfl ⟨_, _, by assumption, by omega, by first | decide | omega, fun hh9 nn9 => ?_⟩
          replace a0 := nn9.o (by first | decide | omega | assumption) a0
          replace aR := nn9.o (by first | decide | omega | assumption) aR
          replace a127 := nn9.1
          replace a128 := nn9.o (by first | decide | omega | assumption) a128
          replace a129 := nn9.o (by first | decide | omega | assumption) a129
          replace a116 := nn9.o (by first | decide | omega | assumption) a116
          replace hfr := hfr.nw nn9 (by first | (dsimp only; omega) | (dsimp only; done) | simp)
          clear nn9
          refine at_iincN (q := 1) (L' := [_, _, _, _]) 36 dX12_goes_33 rfl (by decide) rfl (by decide) rfl rfl ?_
          refine at_goto 12 dX12_goes_36 rfl ?_
          refine ih2 (k + 1) _ _ (by omega) a127 (fun x hx => ?_) a128 a129 a116 hfr
          by_cases q : x = k
          · rw [q, updN_s]
          · rw [updN_n _ _ q]; exact hwk x (by omega)
      exact in1 32 0 ww h' (by omega) a127 (fun j hj => by omega) a128 a129 a116 hfr
  exact loopA (s 0 3) 0 w116 h (by omega) hSH f116 (fun x hx => by omega) Fr.rf
theorem c_glassOf {s : St} {h : List PC} {t : Nat} {G : Nat → Nat} (m0 : h[106]? = some (oM s)) (f118 : h[118]? = some (aI 32 G)) (ht : t < 4) : Ct mX12_glassOf [.ref 106, .int (nI t)] h (fun r h' => r = some (.int (nI (thF G t))) ∧ h' = h) := by
  refine ct_at (L := [_, _, _, _]) (by decide +kernel) rfl rfl (Nat.le_of_ble_eq_true rfl) ?_
  refine at_iconst 1 (nI 0) dX12_glassOf_0 rfl (by decide) ?_
  refine at_istore_n (L' := [_, _, _, _]) 2 dX12_glassOf_1 rfl rfl (by decide) rfl rfl ?_
  refine at_iconst 3 (nI 0) dX12_glassOf_2 rfl (by decide) ?_
  refine at_istore_n (L' := [_, _, _, _]) 4 dX12_glassOf_3 rfl rfl (by decide) rfl rfl ?_
  have loop : ∀ (d i : Nat), i + d = 8 → At mX12_glassOf T0 4 [.ref 106, .int (nI t), .int (nI (sm (fun f => G (4 * f + t)) i)), .int (nI i)] [] h 0 0 (ZM mX12_glassOf (fun r h' => r = some (.int (nI (thF G t))) ∧ h' = h)) := by
    intro d
    induction d with
    | zero =>
      intro i hi
      have : i = 8 := by omega
      subst this
      refine at_iload_n 5 dX12_glassOf_4 rfl rfl rfl ?_
      refine at_bipush 7 (nI 8) dX12_glassOf_5 rfl (by decide) ?_
      refine at_icmp_geN 29 10 dX12_glassOf_7 rfl rfl (by omega) (by omega) (fun cc => ?_) (fun cc => ?_)
      rotate_left
      · omega
      refine at_iload_n 30 dX12_glassOf_29 rfl rfl rfl ?_
      refine at_iret dX12_glassOf_30 rfl (by decide) (by decide) ?_
      exact ⟨rfl, rfl⟩
    | succ d ih =>
      intro i hi
      refine at_iload_n 5 dX12_glassOf_4 rfl rfl rfl ?_
      refine at_bipush 7 (nI 8) dX12_glassOf_5 rfl (by decide) ?_
      refine at_icmp_geN 29 10 dX12_glassOf_7 rfl rfl (by omega) (by omega) (fun cc => ?_) (fun cc => ?_)
      · omega
      refine at_iload_n 11 dX12_glassOf_10 rfl rfl rfl ?_
      refine at_aload_n 12 dX12_glassOf_11 rfl rfl rfl ?_
      refine at_g 15 dX12_glassOf_12 rfl fl_X12_56 ⟨_, by assumption, ?_⟩
      refine ⟨_, rfl, ?_⟩
      refine at_iconst 16 (nI 4) dX12_glassOf_15 rfl (by decide) ?_
      refine at_iload_n 17 dX12_glassOf_16 rfl rfl rfl ?_
      first | refine at_imulN 18 dX12_glassOf_17 rfl ?_ | refine at_imul 18 dX12_glassOf_17 rfl ?_
      refine at_iload_n 19 dX12_glassOf_18 rfl rfl rfl ?_
      first | refine at_iaddN 20 dX12_glassOf_19 rfl ?_ | refine at_iadd 20 dX12_glassOf_19 rfl ?_
      first | refine at_ia 21 dX12_glassOf_20 rfl ⟨_, _, by assumption, by omega, by first | decide | omega, ?_⟩ | refine at_iaG 21 dX12_glassOf_20 rfl ⟨_, _, by assumption, by omega, by first | decide | omega, ?_⟩
      first | refine at_iaddN 22 dX12_glassOf_21 rfl ?_ | refine at_iadd 22 dX12_glassOf_21 rfl ?_
      refine at_istore_n (L' := [_, _, _, _]) 23 dX12_glassOf_22 rfl rfl (by decide) rfl rfl ?_
      refine at_iincN (q := 1) (L' := [_, _, _, _]) 26 dX12_glassOf_23 rfl (by decide) rfl (by decide) rfl rfl ?_
      refine at_goto 4 dX12_glassOf_26 rfl ?_
      exact ih (i + 1) (by omega)
  exact loop 8 0 (by omega)
theorem c_isOf {s : St} {h : List PC} {c : Nat} {le mo G : Nat → Nat} (m0 : h[106]? = some (oM s)) (f118 : h[118]? = some (aI 32 G)) (f119 : h[119]? = some (aI 24 le)) (f120 : h[120]? = some (aI 24 mo)) (hc : c < 6) (hp : s 0 5 ≤ 100000) (hG : ∀ t, t < 4 → thF G t ≤ 100000) (hlb : ∀ i, i < 24 → le i ≤ 1000) (hmb : ∀ i, i < 24 → mo i ≤ 1000) : Ct mX12_isOf [.ref 106, .int (nI c)] h (fun r h' => r = some (.int (bI (fitB le mo c (thF G) (s 0 5)))) ∧ h' = h) := by
  refine ct_at (L := [_, _, _, _, _]) (by decide +kernel) rfl rfl (Nat.le_of_ble_eq_true rfl) ?_
  refine at_iconst 1 (nI 0) dX12_isOf_0 rfl (by decide) ?_
  refine at_istore_n (L' := [_, _, _, _, _]) 2 dX12_isOf_1 rfl rfl (by decide) rfl rfl ?_
  have loop : ∀ (d t : Nat), t + d = 4 → (∀ j, j < t → le (4 * c + j) * s 0 5 ≤ 1000 * thF G j ∧ 1000 * thF G j ≤ mo (4 * c + j) * s 0 5) → At mX12_isOf T0 2 [.ref 106, .int (nI c), .int (nI t), .null, .null] [] h 0 0 (ZM mX12_isOf (fun r h' => r = some (.int (bI (fitB le mo c (thF G) (s 0 5)))) ∧ h' = h)) := by
    intro d
    induction d with
    | zero =>
      intro t hd hok
      refine at_iload_n 3 dX12_isOf_2 rfl rfl rfl ?_
      refine at_iconst 4 (nI 4) dX12_isOf_3 rfl (by decide) ?_
      refine at_icmp_geN 70 7 dX12_isOf_4 rfl rfl (by omega) (by omega) (fun cc => ?_) (fun cc => ?_)
      rotate_left
      · omega
      refine at_iconst 71 (nI 1) dX12_isOf_70 rfl (by decide) ?_
      refine at_zret dX12_isOf_71 rfl (by first | rfl | decide) (by decide) (by decide) ?_
      exact ⟨bI_T (allB_iff.mpr (fun j hj => decide_eq_true (hok j (by omega)))), rfl⟩
    | succ d ih =>
      intro t hd hok
      have hg := hG t (by omega)
      have hl := hlb (4 * c + t) (by omega)
      have hm := hmb (4 * c + t) (by omega)
      have hlp : le (4 * c + t) * s 0 5 ≤ 1000 * 100000 := Nat.mul_le_mul hl hp
      have hmp : mo (4 * c + t) * s 0 5 ≤ 1000 * 100000 := Nat.mul_le_mul hm hp
      have no : ∀ v w, ¬ (le (4 * c + t) * s 0 5 ≤ 1000 * thF G t ∧ 1000 * thF G t ≤ mo (4 * c + t) * s 0 5) → At mX12_isOf T0 62 [.ref 106, .int (nI c), .int (nI t), v, w] [] h 0 0 (ZM mX12_isOf (fun r h' => r = some (.int (bI (fitB le mo c (thF G) (s 0 5)))) ∧ h' = h)) := by
        intro v w hno
        refine at_iconst 63 (nI 0) dX12_isOf_62 rfl (by decide) ?_
        refine at_zret dX12_isOf_63 rfl (by first | rfl | decide) (by decide) (by decide) ?_
        exact ⟨bI_F (fun q => hno (of_decide_eq_true (allB_iff.mp q t (by omega)))), rfl⟩
      refine at_iload_n 3 dX12_isOf_2 rfl rfl rfl ?_
      refine at_iconst 4 (nI 4) dX12_isOf_3 rfl (by decide) ?_
      refine at_icmp_geN 70 7 dX12_isOf_4 rfl rfl (by omega) (by omega) (fun cc => ?_) (fun cc => ?_)
      · omega
      refine at_ldc2 10 (lN 1000) dX12_isOf_7 rfl cj_X12_159 ?_
      refine at_aload_n 11 dX12_isOf_10 rfl rfl rfl ?_
      refine at_iload_n 12 dX12_isOf_11 rfl rfl rfl ?_
      refine at_invV (ci := 12) 15 [_] _ (c_glassOf (t := t) m0 f118 (by omega)) dX12_isOf_12 rfl rfl (by assumption) rfl ml_X12_161 cl_X12_glassOf vl_X12_glassOf rfl (Nat.le_of_ble_eq_true rfl) ⟨by decide, by decide⟩ (by decide) (fun rr hh qq => ?_)
      obtain ⟨rfl, hq2⟩ := qq; rw [hq2]; clear hq2 hh
      first | refine at_i2lN 16 dX12_isOf_15 rfl (by omega) ?_ | refine at_i2l 16 dX12_isOf_15 rfl rfl ?_
      first | refine at_lmulN 17 dX12_isOf_16 rfl ?_ | refine at_lmul 17 dX12_isOf_16 rfl ?_
      refine at_lstore_n (L' := [_, _, _, _, _]) 18 dX12_isOf_17 rfl rfl (by decide) rfl rfl ?_
      refine at_lload_n 19 dX12_isOf_18 rfl rfl rfl ?_
      refine at_aload_n 20 dX12_isOf_19 rfl rfl rfl ?_
      refine at_g 23 dX12_isOf_20 rfl fl_X12_59 ⟨_, by assumption, ?_⟩
      refine ⟨_, rfl, ?_⟩
      refine at_iconst 24 (nI 4) dX12_isOf_23 rfl (by decide) ?_
      refine at_iload_n 25 dX12_isOf_24 rfl rfl rfl ?_
      first | refine at_imulN 26 dX12_isOf_25 rfl ?_ | refine at_imul 26 dX12_isOf_25 rfl ?_
      refine at_iload_n 27 dX12_isOf_26 rfl rfl rfl ?_
      first | refine at_iaddN 28 dX12_isOf_27 rfl ?_ | refine at_iadd 28 dX12_isOf_27 rfl ?_
      first | refine at_ia 29 dX12_isOf_28 rfl ⟨_, _, by assumption, by omega, by first | decide | omega, ?_⟩ | refine at_iaG 29 dX12_isOf_28 rfl ⟨_, _, by assumption, by omega, by first | decide | omega, ?_⟩
      first | refine at_i2lN 30 dX12_isOf_29 rfl (by omega) ?_ | refine at_i2l 30 dX12_isOf_29 rfl rfl ?_
      refine at_aload_n 31 dX12_isOf_30 rfl rfl rfl ?_
      refine at_g 34 dX12_isOf_31 rfl fl_X12_38 ⟨_, by assumption, ?_⟩
      refine ⟨_, rfl, ?_⟩
      first | refine at_i2lN 35 dX12_isOf_34 rfl (by omega) ?_ | refine at_i2l 35 dX12_isOf_34 rfl rfl ?_
      first | refine at_lmulN 36 dX12_isOf_35 rfl ?_ | refine at_lmul 36 dX12_isOf_35 rfl ?_
      refine at_lcmp_ltN 37 62 40 dX12_isOf_36 rfl dX12_isOf_37 rfl rfl (by omega) (by omega) (fun cc => ?_) (fun cc => ?_)
      · exact no _ _ (by omega)
      have c1 := cc
      refine at_lload_n 41 dX12_isOf_40 rfl rfl rfl ?_
      refine at_aload_n 42 dX12_isOf_41 rfl rfl rfl ?_
      refine at_g 45 dX12_isOf_42 rfl fl_X12_62 ⟨_, by assumption, ?_⟩
      refine ⟨_, rfl, ?_⟩
      refine at_iconst 46 (nI 4) dX12_isOf_45 rfl (by decide) ?_
      refine at_iload_n 47 dX12_isOf_46 rfl rfl rfl ?_
      first | refine at_imulN 48 dX12_isOf_47 rfl ?_ | refine at_imul 48 dX12_isOf_47 rfl ?_
      refine at_iload_n 49 dX12_isOf_48 rfl rfl rfl ?_
      first | refine at_iaddN 50 dX12_isOf_49 rfl ?_ | refine at_iadd 50 dX12_isOf_49 rfl ?_
      first | refine at_ia 51 dX12_isOf_50 rfl ⟨_, _, by assumption, by omega, by first | decide | omega, ?_⟩ | refine at_iaG 51 dX12_isOf_50 rfl ⟨_, _, by assumption, by omega, by first | decide | omega, ?_⟩
      first | refine at_i2lN 52 dX12_isOf_51 rfl (by omega) ?_ | refine at_i2l 52 dX12_isOf_51 rfl rfl ?_
      refine at_aload_n 53 dX12_isOf_52 rfl rfl rfl ?_
      refine at_g 56 dX12_isOf_53 rfl fl_X12_38 ⟨_, by assumption, ?_⟩
      refine ⟨_, rfl, ?_⟩
      first | refine at_i2lN 57 dX12_isOf_56 rfl (by omega) ?_ | refine at_i2l 57 dX12_isOf_56 rfl rfl ?_
      first | refine at_lmulN 58 dX12_isOf_57 rfl ?_ | refine at_lmul 58 dX12_isOf_57 rfl ?_
      refine at_lcmp_leN 59 64 62 dX12_isOf_58 rfl dX12_isOf_59 rfl rfl (by omega) (by omega) (fun cc => ?_) (fun cc => ?_)
      rotate_left
      · exact no _ _ (by omega)
      refine at_iincN (q := 1) (L' := [_, _, _, _, _]) 67 dX12_isOf_64 rfl (by decide) rfl (by decide) rfl rfl ?_
      refine at_goto 2 dX12_isOf_67 rfl ?_
      refine at_drop (L' := [_, _, _, _, _]) 3 rfl ?_
      refine ih (t + 1) (by omega) (fun j hj => ?_)
      by_cases q : j = t
      · subst q; omega
      · exact hok j (by omega)
  exact loop 4 0 (by omega) (fun j hj => by omega)
theorem c_nameOfM {s : St} {h : List PC} {le mo G : Nat → Nat} (m0 : h[106]? = some (oM s)) (f118 : h[118]? = some (aI 32 G)) (f119 : h[119]? = some (aI 24 le)) (f120 : h[120]? = some (aI 24 mo)) (hn : s 0 6 ≤ 6) (hp : s 0 5 ≤ 100000) (hG : ∀ t, t < 4 → thF G t ≤ 100000) (hlb : ∀ i, i < 24 → le i ≤ 1000) (hmb : ∀ i, i < 24 → mo i ≤ 1000) : Ct mX12_nameOf [.ref 106] h (fun r h' => r = some (.int (nI (nameC (fun c => fitB le mo c (thF G) (s 0 5)) (s 0 6)) - 1)) ∧ h' = h) := by
  refine ct_at (L := [_, _]) (by decide +kernel) rfl rfl (Nat.le_of_ble_eq_true rfl) ?_
  refine at_iconst 1 (nI 0) dX12_nameOf_0 rfl (by decide) ?_
  refine at_istore_n (L' := [_, _]) 2 dX12_nameOf_1 rfl rfl (by decide) rfl rfl ?_
  have loop : ∀ (d i : Nat), i + d = s 0 6 → firstB (fun c => fitB le mo c (thF G) (s 0 5)) d i = firstB (fun c => fitB le mo c (thF G) (s 0 5)) (s 0 6) 0 → At mX12_nameOf T0 2 [.ref 106, .int (nI i)] [] h 0 0 (ZM mX12_nameOf (fun r h' => r = some (.int (nI (nameC (fun c => fitB le mo c (thF G) (s 0 5)) (s 0 6)) - 1)) ∧ h' = h)) := by
    intro d
    induction d with
    | zero =>
      intro i hi ho
      refine at_iload_n 3 dX12_nameOf_2 rfl rfl rfl ?_
      refine at_aload_n 4 dX12_nameOf_3 rfl rfl rfl ?_
      refine at_g 7 dX12_nameOf_4 rfl fl_X12_115 ⟨_, by assumption, ?_⟩
      refine ⟨_, rfl, ?_⟩
      refine at_icmp_geN 26 10 dX12_nameOf_7 rfl rfl (by omega) (by omega) (fun cc => ?_) (fun cc => ?_)
      rotate_left
      · omega
      refine at_iconst 27 (-1) dX12_nameOf_26 rfl (by decide) ?_
      refine at_iret dX12_nameOf_27 rfl (by decide) (by decide) ?_
      refine ⟨?_, rfl⟩
      unfold nameC
      rw [← ho]
      unfold firstB
      rw [if_neg (by omega), nI_m1]
    | succ d ih =>
      intro i hi ho
      refine at_iload_n 3 dX12_nameOf_2 rfl rfl rfl ?_
      refine at_aload_n 4 dX12_nameOf_3 rfl rfl rfl ?_
      refine at_g 7 dX12_nameOf_4 rfl fl_X12_115 ⟨_, by assumption, ?_⟩
      refine ⟨_, rfl, ?_⟩
      refine at_icmp_geN 26 10 dX12_nameOf_7 rfl rfl (by omega) (by omega) (fun cc => ?_) (fun cc => ?_)
      · omega
      refine at_aload_n 11 dX12_nameOf_10 rfl rfl rfl ?_
      refine at_iload_n 12 dX12_nameOf_11 rfl rfl rfl ?_
      refine at_invV (ci := 12) 15 [_] _ (c_isOf (c := i) m0 f118 f119 f120 (by omega) hp hG hlb hmb) dX12_nameOf_12 rfl rfl (by assumption) rfl ml_X12_165 cl_X12_isOf vl_X12_isOf rfl (Nat.le_of_ble_eq_true rfl) ⟨by decide, by decide⟩ (by decide) (fun rr hh qq => ?_)
      obtain ⟨rfl, hq2⟩ := qq; rw [hq2]; clear hq2 hh
      refine at_if_eqB 20 18 dX12_nameOf_15 rfl rfl (fun cc => ?_) (fun cc => ?_)
      · refine at_iincN (q := 1) (L' := [_, _]) 23 dX12_nameOf_20 rfl (by decide) rfl (by decide) rfl rfl ?_
        refine at_goto 2 dX12_nameOf_23 rfl ?_
        refine ih (i + 1) (by omega) ?_
        rw [← ho]
        show _ = if (fun c => fitB le mo c (thF G) (s 0 5)) i = true then i else firstB _ d (i + 1)
        rw [if_neg (by dsimp only; rw [cc]; decide)]
      · refine at_iload_n 19 dX12_nameOf_18 rfl rfl rfl ?_
        refine at_iret dX12_nameOf_19 rfl (by decide) (by decide) ?_
        refine ⟨?_, rfl⟩
        have ho2 : firstB (fun c => fitB le mo c (thF G) (s 0 5)) (s 0 6) 0 = i := by
          rw [← ho]
          show (if (fun c => fitB le mo c (thF G) (s 0 5)) i = true then i else firstB _ d (i + 1)) = i
          rw [if_pos cc]
        unfold nameC
        rw [ho2, if_pos (by omega), nI_pred]
  exact loop (s 0 6) 0 (by omega) rfl

