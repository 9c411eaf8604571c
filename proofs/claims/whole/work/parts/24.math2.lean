theorem sm_4 (g : Nat → Nat) : sm g 4 = g 0 + g 1 + g 2 + g 3 := by
  show 0 + g 0 + g 1 + g 2 + g 3 = _
  omega
theorem sm_blocks (g : Nat → Nat) : ∀ n, sm g (4 * n) = sm (fun f => sm (fun t => g (4 * f + t)) 4) n
  | 0 => rfl
  | n + 1 => by
    show sm g (4 * n + 1 + 1 + 1 + 1) = sm (fun f => sm (fun t => g (4 * f + t)) 4) n + sm (fun t => g (4 * n + t)) 4
    rw [← sm_blocks g n, sm_4]
    show sm g (4 * n) + g (4 * n) + g (4 * n + 1) + g (4 * n + 1 + 1) + g (4 * n + 1 + 1 + 1) = _
    show _ = sm g (4 * n) + (g (4 * n + 0) + g (4 * n + 1) + g (4 * n + 2) + g (4 * n + 3))
    show sm g (4 * n) + g (4 * n) + g (4 * n + 1) + g (4 * n + 2) + g (4 * n + 3) = _
    have e0 : g (4 * n + 0) = g (4 * n) := rfl
    omega
def loN (tk mk : Nat → Nat) (n : Nat) : Nat → Nat := lotN tk mk n (fun _ => 0)
theorem loN_sum {tk mk : Nat → Nat} {n : Nat} (hn : n ≤ 8) (hm : ∀ f, f < n → sm (fun t => mk (4 * f + t)) 4 = 1000) : sm (loN tk mk n) 32 = sm tk n := by
  have e1 : sm (loN tk mk n) 32 = sm (loN tk mk n) (4 * n) := sm_ext0 (by omega) (fun i h1 h2 => by unfold loN lotN; rw [if_neg (by omega)])
  rw [e1, sm_blocks]
  apply sm_congr
  intro f hf
  have e2 : sm (fun t => loN tk mk n (4 * f + t)) 4 = sm (share (tk f) (fun t => mk (4 * f + t)) 4) 4 := sm_congr (fun t ht => by
    unfold loN lotN
    rw [if_pos (by omega), show (4 * f + t) / 4 = f by omega, show (4 * f + t) % 4 = t by omega])
  rw [e2]
  exact share_sum (by have := hm f hf; omega)
theorem loN_z {tk mk : Nat → Nat} {n i : Nat} (h : 4 * n ≤ i) : loN tk mk n i = 0 := by
  unfold loN lotN; rw [if_neg (by omega)]
theorem lotN_cg {tk tk' mk l0 : Nat → Nat} {n : Nat} (hn : n ≤ 8) (ht : ∀ f, f < 8 → tk f = tk' f) (h0 : ∀ i, 4 * n ≤ i → i < 32 → l0 i = 0) : ∀ i, i < 32 → lotN tk mk n l0 i = loN tk' mk n i := fun i hi => by
  unfold loN lotN
  by_cases e : i < 4 * n
  · rw [if_pos e, if_pos e, ht _ (by omega)]
  · rw [if_neg e, if_neg e]; exact h0 i (by omega) hi
theorem doseW_0 (sh : Nat → Nat) : doseW sh 0 0 = fun f => 1000 * sh f := by
  funext f
  unfold doseW
  rw [if_neg (by omega), Nat.mul_comm]
  rfl
theorem share_doseW_0 (g : Nat) (sh : Nat → Nat) : share g (doseW sh 0 0) 8 = share g sh 8 := by
  rw [doseW_0]
  exact share_scale (by decide) (by decide)
theorem doseW_sum {sh : Nat → Nat} {s ti : Nat} (h : sm sh 8 = 1000) (hs : s ≤ 1000) (ht : ti ≤ 8) (h0 : 0 < ti) : sm (doseW sh s ti) 8 = 1000000 := by
  unfold doseW
  rw [sm_add (fun f => sh f * (1000 - s)) (fun f => if f + 1 = ti then s * 1000 else 0)]
  have e1 : sm (fun f => sh f * (1000 - s)) 8 = (1000 - s) * 1000 := by
    rw [← h, ← sm_mul]
    exact sm_congr (fun f _ => Nat.mul_comm _ _)
  have e2 : sm (fun f => if f + 1 = ti then s * 1000 else 0) 8 = s * 1000 := by
    have : ∀ n, ti ≤ n → sm (fun f => if f + 1 = ti then s * 1000 else 0) n = s * 1000 := by
      intro n
      induction n with
      | zero => intro q; omega
      | succ n ih =>
        intro q
        show sm _ n + (if n + 1 = ti then s * 1000 else 0) = _
        by_cases e : n + 1 = ti
        · rw [if_pos e]
          have : sm (fun f => if f + 1 = ti then s * 1000 else 0) n = sm (fun _ => 0) n := sm_congr (fun i hi => by rw [if_neg (by omega)])
          rw [this, sm_zero]; omega
        · rw [if_neg e, ih (by omega), Nat.add_zero]
    exact this 8 ht
  rw [e1, e2]
  omega
theorem doseW_sum0 {sh : Nat → Nat} (h : sm sh 8 = 1000) : sm (doseW sh 0 0) 8 = 1000000 := by
  rw [doseW_0, sm_mul, h]
/-- the charge of an hour: grams of each feed, and the lot -/
def tkP (sh : Nat → Nat) (p : Nat) : Nat → Nat := share p sh 8
def tkD (sh : Nat → Nat) (p s f : Nat) : Nat → Nat := share p (doseW sh s (f + 1)) 8
theorem tkP_sum {sh : Nat → Nat} {p n : Nat} (h : sm sh 8 = 1000) (hn : n ≤ 8) (h0 : ∀ f, n ≤ f → f < 8 → sh f = 0) : sm (tkP sh p) n = p := by
  have e : sm (tkP sh p) 8 = p := share_sum (by omega)
  exact (sm_ext0 hn (fun i h1 h2 => share_zero (by omega) (h0 i h1 h2))).symm.trans e
theorem tkD_sum {sh : Nat → Nat} {p n s f : Nat} (h : sm sh 8 = 1000) (hn : n ≤ 8) (hf : f < n) (hs : s ≤ 1000) (h0 : ∀ f, n ≤ f → f < 8 → sh f = 0) : sm (tkD sh p s f) n = p := by
  have hW := doseW_sum (s := s) (ti := f + 1) h hs (by omega) (by omega)
  have e : sm (tkD sh p s f) 8 = p := share_sum (by omega)
  exact (sm_ext0 hn (fun i h1 h2 => share_zero (by omega) (by unfold doseW; rw [if_neg (by omega), h0 i h1 h2]; simp))).symm.trans e
/-! the tank through hours -/
def POk (L : Nat → Nat) (w p n sz : Nat) : Prop := (1 ≤ n ∧ n ≤ 6) ∧ sz ≤ 32 ∧ (0 < w ∧ w < 2 ^ 31 ∧ p ≤ w) ∧ (∀ c, c < n → sm (fun i => L (32 * c + i)) 32 = w) ∧ ∀ c i, c < n → sz ≤ i → i < 32 → L (32 * c + i) = 0
def LoOk (lo : Nat → Nat) (p sz : Nat) : Prop := (∀ i, sz ≤ i → i < 32 → lo i = 0) ∧ sm lo 32 = p
theorem LoOk.lt {lo : Nat → Nat} {p sz : Nat} (h : LoOk lo p sz) : ∀ i, i < 32 → lo i ≤ p := fun i hi => by
  have := sm_el lo hi
  rw [h.2] at this
  exact this
theorem POk.out {L : Nat → Nat} {w p n sz c i : Nat} (h : POk L w p n sz) (hc : c < n) (hi : i < 32) : outF L p c i ≤ L (32 * c + i) ∧ outF L p c i ≤ p ∧ (sz ≤ i → outF L p c i = 0) := by
  have hsm : sm (fun k => L (32 * c + k)) 32 = w := h.2.2.2.1 c hc
  have hw := h.2.2.1
  exact ⟨share_le (w := fun k => L (32 * c + k)) (by omega) (by omega) i, share_le_g (by omega) hi, fun q => share_zero (by omega) (h.2.2.2.2 c i hc q hi)⟩
theorem POk.outs {L : Nat → Nat} {w p n sz c : Nat} (h : POk L w p n sz) (hc : c < n) : sm (outF L p c) 32 = p := by
  have hsm : sm (fun k => L (32 * c + k)) 32 = w := h.2.2.2.1 c hc
  have hw := h.2.2.1
  exact share_sum (w := fun k => L (32 * c + k)) (by omega)
theorem POk.ins {L lo : Nat → Nat} {w p n sz c : Nat} (h : POk L w p n sz) (hl : LoOk lo p sz) (hc : c < n) : sm (inF L lo p c) 32 = p := by
  by_cases e : c = 0
  · rw [sm_congr (g := lo) (fun i _ => by unfold inF; rw [if_pos e])]
    exact hl.2
  · rw [sm_congr (g := outF L p (c - 1)) (fun i _ => by unfold inF; rw [if_neg e])]
    exact h.outs (by omega)
theorem POk.inz {L lo : Nat → Nat} {w p n sz c i : Nat} (h : POk L w p n sz) (hl : LoOk lo p sz) (hc : c < n) (hi : i < 32) (hz : sz ≤ i) : inF L lo p c i = 0 := by
  unfold inF
  by_cases e : c = 0
  · rw [if_pos e]; exact hl.1 i hz hi
  · rw [if_neg e]; exact (h.out (by omega) hi).2.2 hz
theorem passL_at {L lo : Nat → Nat} {p n c i : Nat} (hc : c < n) (hi : i < 32) : passL L lo p n (32 * c + i) = L (32 * c + i) + inF L lo p c i - outF L p c i := by
  unfold passL
  rw [if_pos (by omega), show (32 * c + i) / 32 = c by omega, show (32 * c + i) % 32 = i by omega]
theorem POk.pass {L lo : Nat → Nat} {w p n sz : Nat} (h : POk L w p n sz) (hl : LoOk lo p sz) : POk (passL L lo p n) w p n sz := by
  refine ⟨h.1, h.2.1, h.2.2.1, fun c hc => ?_, fun c i hc hz hi => ?_⟩
  · have e1 : sm (fun i => passL L lo p n (32 * c + i) + outF L p c i) 32 = sm (fun i => L (32 * c + i) + inF L lo p c i) 32 := sm_congr (fun i hi => by
      have := (h.out hc hi).1
      rw [passL_at hc hi]
      omega)
    rw [sm_add (fun i => passL L lo p n (32 * c + i)) (outF L p c), sm_add (fun i => L (32 * c + i)) (inF L lo p c), h.outs hc, h.ins hl hc, h.2.2.2.1 c hc] at e1
    omega
  · rw [passL_at hc hi, h.2.2.2.2 c i hc hz hi, h.inz hl hc hi hz, (h.out hc hi).2.2 hz]
theorem outF_cg {L L' : Nat → Nat} {p n c : Nat} (h : ∀ x, x < 32 * n → L x = L' x) (hc : c < n) : ∀ i, i < 32 → outF L p c i = outF L' p c i := fun i hi => share_congr (by decide) (fun k hk => h _ (by omega)) i hi
theorem passL_cg {L L' lo lo' : Nat → Nat} {p n : Nat} (h : ∀ x, x < 32 * n → L x = L' x) (hl : ∀ i, i < 32 → lo i = lo' i) : ∀ x, x < 32 * n → passL L lo p n x = passL L' lo' p n x := fun x hx => by
  have h1 : ∀ c i, c < n → i < 32 → outF L p c i = outF L' p c i := fun c i hc hi => outF_cg h hc i hi
  have h2 : ∀ c i, c < n → i < 32 → inF L lo p c i = inF L' lo' p c i := fun c i hc hi => by
    unfold inF
    by_cases e : c = 0
    · rw [if_pos e, if_pos e]; exact hl i hi
    · rw [if_neg e, if_neg e]; exact h1 _ i (by omega) hi
  unfold passL
  rw [if_pos hx, if_pos hx, h x hx, h1 _ _ (by omega) (by omega), h2 _ _ (by omega) (by omega)]
theorem thF_cg {o o' : Nat → Nat} (h : ∀ i, i < 32 → o i = o' i) {t : Nat} (ht : t < 4) : thF o t = thF o' t := sm_congr (fun f hf => h _ (by omega))
theorem ldF_cg {o o' : Nat → Nat} (h : ∀ i, i < 32 → o i = o' i) {f : Nat} (hf : f < 8) : ldF o f = ldF o' f := sm_congr (fun t ht => h _ (by omega))
theorem fitB_cg {le mo th th' : Nat → Nat} {c g : Nat} (h : ∀ t, t < 4 → th t = th' t) : fitB le mo c th g = fitB le mo c th' g := allB_congr (fun t ht => by rw [h t ht])
theorem firstB_cg {F F' : Nat → Bool} : ∀ {d i : Nat}, (∀ j, j < i + d → F j = F' j) → firstB F d i = firstB F' d i
  | 0, _, _ => rfl
  | d + 1, i, h => by
    unfold firstB
    rw [h i (by omega), firstB_cg (fun j hj => h j (by omega))]
theorem nameC_cg {F F' : Nat → Bool} {n : Nat} (h : ∀ j, j < n → F j = F' j) : nameC F n = nameC F' n := by
  unfold nameC
  rw [firstB_cg (fun j hj => h j (by omega))]
theorem thF_le {L : Nat → Nat} {w p n sz c t : Nat} (h : POk L w p n sz) (hc : c < n) (ht : t < 4) : thF (outF L p c) t ≤ p := by
  have e := h.outs hc
  rw [show (32 : Nat) = 4 * 8 from rfl, sm_blocks] at e
  have h9 : thF (outF L p c) t ≤ sm (fun f => sm (fun t => outF L p c (4 * f + t)) 4) 8 := sm_le (fun f _ => sm_el (fun t => outF L p c (4 * f + t)) ht)
  omega
theorem ldF_le {L : Nat → Nat} {w p n sz c f : Nat} (h : POk L w p n sz) (hc : c < n) (hf : f < 8) : ldF (outF L p c) f ≤ p := by
  have e := h.outs hc
  rw [show (32 : Nat) = 4 * 8 from rfl, sm_blocks] at e
  have := sm_el (fun f => sm (fun t => outF L p c (4 * f + t)) 4) hf
  rw [e] at this
  exact this
/-- the first hour from h on, of d hours, whose glass F takes; 0: none. The first k hours have the lot loD -/
def tellN (F : (Nat → Nat) → Bool) (p n : Nat) (loD loP : Nat → Nat) (k : Nat) : Nat → Nat → (Nat → Nat) → Nat
  | 0, _, _ => 0
  | d + 1, h, L => if F (thF (outF L p (n - 1))) then h else tellN F p n loD loP k d (h + 1) (passL L (if h ≤ k then loD else loP) p n)
def Fx (F : (Nat → Nat) → Bool) : Prop := ∀ a b : Nat → Nat, (∀ t, t < 4 → a t = b t) → F a = F b
theorem tellN_cg {F : (Nat → Nat) → Bool} (hF : Fx F) {p n k : Nat} {loD loP : Nat → Nat} (hn : 1 ≤ n) : ∀ (d h : Nat) (L L' : Nat → Nat), (∀ x, x < 32 * n → L x = L' x) → tellN F p n loD loP k d h L = tellN F p n loD loP k d h L'
  | 0, _, _, _, _ => rfl
  | d + 1, h, L, L', hL => by
    unfold tellN
    rw [hF (thF (outF L p (n - 1))) (thF (outF L' p (n - 1))) (fun t ht => thF_cg (outF_cg hL (by omega)) ht)]
    rw [tellN_cg hF hn d (h + 1) (passL L (if h ≤ k then loD else loP) p n) (passL L' (if h ≤ k then loD else loP) p n) (passL_cg hL (fun _ _ => rfl))]
theorem still_pass {L lo : Nat → Nat} {p n : Nat} (hs : stillB L lo p n = true) : ∀ x, x < 32 * n → passL L lo p n x = L x := fun x hx => by
  have h1 := allB_iff.mp (allB_iff.mp hs (x / 32) (by omega)) (x % 32) (by omega)
  have h2 := of_decide_eq_true h1
  unfold passL
  rw [if_pos hx, h2]
  omega
theorem tellN_still {F : (Nat → Nat) → Bool} (hF : Fx F) {p n k : Nat} {loD loP L : Nat → Nat} (hn : 1 ≤ n) (hs : stillB L loP p n = true) (hf : F (thF (outF L p (n - 1))) = false) : ∀ (d h : Nat), k < h → tellN F p n loD loP k d h L = 0
  | 0, _, _ => rfl
  | d + 1, h, hk => by
    unfold tellN
    rw [if_neg (by rw [hf]; decide), if_neg (by omega), tellN_cg hF hn d (h + 1) _ L (still_pass hs)]
    exact tellN_still hF hn hs hf d (h + 1) (by omega)
theorem tellN_rng (F : (Nat → Nat) → Bool) (p n k : Nat) (loD loP : Nat → Nat) : ∀ (d h : Nat) (L : Nat → Nat), tellN F p n loD loP k d h L = 0 ∨ (h ≤ tellN F p n loD loP k d h L ∧ tellN F p n loD loP k d h L < h + d)
  | 0, _, _ => Or.inl rfl
  | d + 1, h, L => by
    unfold tellN
    split
    · right; omega
    · rcases tellN_rng F p n k loD loP d (h + 1) (passL L (if h ≤ k then loD else loP) p n) with q | q
      · exact Or.inl q
      · right; omega
theorem tellN_lim (F : (Nat → Nat) → Bool) (p n k : Nat) (loD loP : Nat → Nat) : ∀ (d e h : Nat) (L : Nat → Nat), 1 ≤ h → tellN F p n loD loP k d h L = if tellN F p n loD loP k (d + e) h L < h + d then tellN F p n loD loP k (d + e) h L else 0
  | 0, e, h, L, hh => by
    rcases tellN_rng F p n k loD loP (0 + e) h L with q | q
    · rw [q]; split <;> rfl
    · rw [if_neg (by omega)]; rfl
  | d + 1, e, h, L, hh => by
    rw [show d + 1 + e = (d + e) + 1 by omega]
    unfold tellN
    by_cases c : F (thF (outF L p (n - 1))) = true
    · rw [if_pos c, if_pos c, if_pos (by omega)]
    · rw [if_neg c, if_neg c, tellN_lim F p n k loD loP d e (h + 1) _ (by omega), show h + 1 + d = h + (d + 1) by omega]
