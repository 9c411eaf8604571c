/-! ===== what always holds, holds after every call ===== -/
theorem inv_gx {s : St} {p : Prop} {a : Int32 × St} {v : Int32} (hI : Inv s) (h : p → Inv a.2) : Inv (gx p a (v, s)).2 := by
  by_cases q : p
  · rw [gx_t q]; exact h q
  · rw [gx_f q]; exact hI
theorem updN_le {w : Nat → Nat} {j x b n : Nat} (h : ∀ i, i < n → w i ≤ b) (hx : x ≤ b) : ∀ i, i < n → updN w j x i ≤ b := fun i hi => by
  unfold updN; split
  · exact hx
  · exact h i hi
theorem inv_feed {s : St} (hI : Inv s) (k a b c d q r : Int32) : Inv (fFeed s k a b c d q r).2 := by
  refine inv_gx hI ?_
  rintro ⟨k', a', b', c', d', q', r', p1, p2, p3, p4, p5, rfl, rfl, rfl, rfl, rfl, rfl, rfl⟩
  have hq : q' ≤ 100 := by
    have : (if k' = 0 ∨ k' = 2 then 0 else 100) ≤ 100 := by split <;> omega
    omega
  dsimp only
  rw [tn_nI (by omega), tn_nI (by omega), tn_nI (by omega), tn_nI (by omega), tn_nI (by omega), tn_nI (by omega), tn_nI (by omega)]
  obtain ⟨⟨i0, i1, i2, i3, i4, i5, i6, i7, i8, i9, i10, i11⟩, k1, k2, k3, k4, k5, k5z, k5s, k6, k6z, k7, k7s, k8s, k8z, k9, k10, k11, k11z, k50, k15, k16⟩ := id hI
  refine ⟨⟨p5, i1, i2, i3, i4, i5, i6, i7, i8, i9, i10, i11⟩, fun f hf => ?_, updN_le k2 hq, updN_le k3 p4, k4, k5, fun f h1 h2 => k5z f (by have : s 0 0 + 1 ≤ f := h1; omega) h2, k5s, k6, fun f h1 h2 => k6z f (by have : s 0 0 + 1 ≤ f := h1; omega) h2, updN_le (updN_le (updN_le (updN_le k7 (by omega)) (by omega)) (by omega)) (by omega), fun f hf => ?_, k8s, fun hm c i h1 h2 h3 => k8z hm c i h1 (by have : (s 0 0 + 1) * 4 ≤ i := h2; omega) h3, k9, k10, k11, k11z, k50, k15, k16⟩
  · have := updN_le (w := s 1) (j := s 0 0) (x := k') (b := 3) (n := 8) (fun i hi => by have := k1 i hi; omega) (by omega) f hf
    exact Nat.lt_succ_of_le this
  · have hf' : f < s 0 0 + 1 := hf
    by_cases e : f = s 0 0
    · rw [e]
      show 0 + updN (updN (updN (updN (s 7) (4 * s 0 0) a') (4 * s 0 0 + 1) b') (4 * s 0 0 + 2) c') (4 * s 0 0 + 3) d' (4 * s 0 0 + 0) + updN (updN (updN (updN (s 7) (4 * s 0 0) a') (4 * s 0 0 + 1) b') (4 * s 0 0 + 2) c') (4 * s 0 0 + 3) d' (4 * s 0 0 + 1) + updN (updN (updN (updN (s 7) (4 * s 0 0) a') (4 * s 0 0 + 1) b') (4 * s 0 0 + 2) c') (4 * s 0 0 + 3) d' (4 * s 0 0 + 2) + updN (updN (updN (updN (s 7) (4 * s 0 0) a') (4 * s 0 0 + 1) b') (4 * s 0 0 + 2) c') (4 * s 0 0 + 3) d' (4 * s 0 0 + 3) = 1000
      unfold updN
      simp
      omega
    · rw [← k7s f (by omega)]
      refine sm_congr (fun t ht => ?_)
      show updN (updN (updN (updN (s 7) (4 * s 0 0) a') (4 * s 0 0 + 1) b') (4 * s 0 0 + 2) c') (4 * s 0 0 + 3) d' (4 * f + t) = s 7 (4 * f + t)
      rw [updN_n _ _ (by omega), updN_n _ _ (by omega), updN_n _ _ (by omega), updN_n _ _ (by omega)]
theorem inv_stock {s : St} (hI : Inv s) (f g : Int32) : Inv (fStock s f g).2 := by
  refine inv_gx hI ?_
  rintro ⟨i, j, p1, rfl, p2, rfl⟩
  obtain ⟨⟨i0, i1, i2, i3, i4, i5, i6, i7, i8, i9, i10, i11⟩, k1, k2, k3, k4, k5, k5z, k5s, k6, k6z, k7, k7s, k8s, k8z, k9, k10, k11, k11z, k50, k15, k16⟩ := id hI
  dsimp only
  rw [tn_nI (by omega), tn_nI (by omega)]
  exact ⟨⟨i0, i1, i2, i3, i4, i5, i6, i7, i8, i9, i10, i11⟩, k1, k2, k3, updN_le k4 p2, k5, k5z, k5s, k6, k6z, k7, k7s, k8s, k8z, k9, k10, k11, k11z, k50, k15, k16⟩
theorem inv_of {s : St} (hI : Inv s) (f w : Int32) : Inv (fOf s f w).2 := inv_gx hI (fun _ => hI)
theorem sm_window {g : Nat → Nat} {a n : Nat} : ∀ m, a + n ≤ m → sm (fun x => if a ≤ x ∧ x < a + n then g (x - a) else 0) m = sm g n := by
  intro m hm
  have h0 : sm (fun x => if a ≤ x ∧ x < a + n then g (x - a) else 0) m = sm (fun x => if a ≤ x ∧ x < a + n then g (x - a) else 0) (a + n) := sm_ext0 hm (fun i h1 h2 => by rw [if_neg (by omega)])
  rw [h0]
  clear h0 hm
  have gen : ∀ k, k ≤ n → sm (fun x => if a ≤ x ∧ x < a + n then g (x - a) else 0) (a + k) = sm g k := by
    intro k
    induction k with
    | zero =>
      intro _
      show sm (fun x => if a ≤ x ∧ x < a + n then g (x - a) else 0) a = 0
      refine Eq.trans ?_ (sm_zero a)
      exact sm_congr (fun i hi => by rw [if_neg (by omega)])
    | succ k ih =>
      intro hk
      have e1 : sm (fun x => if a ≤ x ∧ x < a + n then g (x - a) else 0) (a + k + 1) = sm (fun x => if a ≤ x ∧ x < a + n then g (x - a) else 0) (a + k) + (if a ≤ a + k ∧ a + k < a + n then g (a + k - a) else 0) := rfl
      show sm (fun x => if a ≤ x ∧ x < a + n then g (x - a) else 0) (a + k + 1) = sm g k + g k
      rw [e1, ih (by omega), if_pos (by omega), show a + k - a = k by omega]
  exact gen n (Nat.le_refl n)
theorem inv_tank {s : St} (hI : Inv s) (n w p f : Int32) : Inv (fTank s n w p f).2 := by
  refine inv_gx hI ?_
  rintro ⟨n', w', p', f', p1, p2, p3, p4, rfl, rfl, rfl, rfl⟩
  obtain ⟨⟨i0, i1, i2, i3, i4, i5, i6, i7, i8, i9, i10, i11⟩, k1, k2, k3, k4, k5, k5z, k5s, k6, k6z, k7, k7s, k8s, k8z, k9, k10, k11, k11z, k50, k15, k16⟩ := id hI
  dsimp only
  rw [tn_nI (by omega), tn_nI (by omega), tn_nI (by omega), tn_nI (by omega)]
  have hsum := k7s f' p4
  refine ⟨⟨i0, i1, Nat.le_refl 1, p1, p2, p3, i6, Nat.zero_le _, Nat.le_refl 0, Nat.zero_le _, i10, i11⟩, k1, k2, k3, k4, k5, k5z, k5s, k6, k6z, k7, k7s, fun _ c hc => ?_, fun _ c i hc h1 h2 => ?_, k9, k10, k11, k11z, k50, k15, k16⟩
  · have hc' : c < n' := hc
    show sm (fun i => fillL (s 8) (fun t => s 7 (4 * f' + t)) f' w' n' (32 * c + i)) 32 = w'
    refine Eq.trans ?_ ((sm_window (g := share w' (fun t => s 7 (4 * f' + t)) 4) (a := 4 * f') (n := 4) 32 (by omega)).trans (share_sum (g := w') (w := fun t => s 7 (4 * f' + t)) (n := 4) (by omega)))
    refine sm_congr (fun i hi => ?_)
    unfold fillL
    rw [if_pos (by omega), show (32 * c + i) % 32 = i by omega]
  · have hc' : c < n' := hc
    have h1' : s 0 0 * 4 ≤ i := h1
    show fillL (s 8) (fun t => s 7 (4 * f' + t)) f' w' n' (32 * c + i) = 0
    unfold fillL
    rw [if_pos (by omega), show (32 * c + i) % 32 = i by omega, if_neg (by omega)]
theorem inv_pull {s : St} (hI : Inv s) (p : Int32) : Inv (fPull s p).2 := by
  refine inv_gx hI ?_
  rintro ⟨p', p1, p2, rfl⟩
  obtain ⟨⟨i0, i1, i2, i3, i4, i5, i6, i7, i8, i9, i10, i11⟩, k1, k2, k3, k4, k5, k5z, k5s, k6, k6z, k7, k7s, k8s, k8z, k9, k10, k11, k11z, k50, k15, k16⟩ := id hI
  dsimp only
  rw [tn_nI (by omega)]
  exact ⟨⟨i0, i1, i2, i3, i4, ⟨p1, p2⟩, i6, i7, i8, i9, i10, i11⟩, k1, k2, k3, k4, k5, k5z, k5s, k6, k6z, k7, k7s, k8s, k8z, k9, k10, k11, k11z, k50, k15, k16⟩
theorem inv_cell {s : St} (hI : Inv s) (c f t : Int32) : Inv (fCell s c f t).2 := inv_gx hI (fun _ => hI)
theorem inv_share {s : St} (hI : Inv s) (f x : Int32) : Inv (fShare s f x).2 := by
  refine inv_gx hI ?_
  rintro ⟨i, v, p1, rfl, p2, rfl⟩
  obtain ⟨⟨i0, i1, i2, i3, i4, i5, i6, i7, i8, i9, i10, i11⟩, k1, k2, k3, k4, k5, k5z, k5s, k6, k6z, k7, k7s, k8s, k8z, k9, k10, k11, k11z, k50, k15, k16⟩ := id hI
  dsimp only
  rw [tn_nI (by omega), tn_nI (by omega)]
  refine ⟨⟨i0, i1, i2, i3, i4, i5, i6, i7, i8, i9, i10, i11⟩, k1, k2, k3, k4, k5, k5z, k5s, updN_le k6 p2, fun f h1 h2 => ?_, k7, k7s, k8s, k8z, k9, k10, k11, k11z, k50, k15, k16⟩
  have h1' : s 0 0 ≤ f := h1
  exact (updN_n _ _ (by omega)).trans (k6z f h1' h2)
theorem inv_mix {s : St} (hI : Inv s) : Inv (fMix s).2 := by
  refine inv_gx hI (fun h => ?_)
  obtain ⟨⟨i0, i1, i2, i3, i4, i5, i6, i7, i8, i9, i10, i11⟩, k1, k2, k3, k4, k5, k5z, k5s, k6, k6z, k7, k7s, k8s, k8z, k9, k10, k11, k11z, k50, k15, k16⟩ := id hI
  exact ⟨⟨i0, Nat.le_refl 1, i2, i3, i4, i5, i6, i7, i8, i9, i10, i11⟩, k1, k2, k3, k4, k6, k6z, fun _ => h, k6, k6z, k7, k7s, k8s, k8z, k9, k10, k11, k11z, fun q => absurd q Nat.one_ne_zero, k15, k16⟩
theorem shr_le {a n b m : Nat} {f o : Nat → Nat} (h : ∀ i, i < m → o i ≤ b) (hf : ∀ i, i < n → f i ≤ b) : ∀ i, i < m → shr a n f o i ≤ b := fun i hi => by
  unfold shr; split
  · exact hf _ (by omega)
  · exact h i hi
theorem inv_colour {s : St} (hI : Inv s) : Inv (fColour s).2 := by
  refine inv_gx hI (fun h => ?_)
  obtain ⟨⟨i0, i1, i2, i3, i4, i5, i6, i7, i8, i9, i10, i11⟩, k1, k2, k3, k4, k5, k5z, k5s, k6, k6z, k7, k7s, k8s, k8z, k9, k10, k11, k11z, k50, k15, k16⟩ := id hI
  exact ⟨⟨i0, i1, i2, i3, i4, i5, h, i7, i8, i9, i10, Nat.le_succ_of_le i11⟩, k1, k2, k3, k4, k5, k5z, k5s, k6, k6z, k7, k7s, k8s, k8z, shr_le k9 (fun _ _ => Nat.zero_le _), shr_le k10 (fun _ _ => Nat.le_refl _), k11, k11z, k50, k15, k16⟩
theorem inv_span {s : St} (hI : Inv s) (c t a b : Int32) : Inv (fSpan s c t a b).2 := by
  refine inv_gx hI ?_
  rintro ⟨c', t', a', b', p1, p2, p3, p4, rfl, rfl, rfl, rfl⟩
  obtain ⟨⟨i0, i1, i2, i3, i4, i5, i6, i7, i8, i9, i10, i11⟩, k1, k2, k3, k4, k5, k5z, k5s, k6, k6z, k7, k7s, k8s, k8z, k9, k10, k11, k11z, k50, k15, k16⟩ := id hI
  dsimp only
  rw [tn_nI (by omega), tn_nI (by omega), tn_nI (by omega), tn_nI (by omega)]
  exact ⟨⟨i0, i1, i2, i3, i4, i5, i6, i7, i8, i9, i10, i11⟩, k1, k2, k3, k4, k5, k5z, k5s, k6, k6z, k7, k7s, k8s, k8z, updN_le k9 (by omega), updN_le k10 p4, k11, k11z, k50, k15, k16⟩
theorem inv_sure {s : St} (hI : Inv s) (c : Int32) : Inv (fSure s c).2 := inv_gx hI (fun _ => hI)
theorem srch_iv {n : Nat} {sure : (Nat → Nat) → Bool} {cost : (Nat → Nat) → Nat} : ∀ (k : Nat) (tr : Nat → Nat) (S : SS), tIv n tr → (S.1 ≠ 0 → tIv n S.2.2) → (srch n sure cost k tr S).1 ≠ 0 → tIv n (srch n sure cost k tr S).2.2
  | 0, _, _, _, h => h
  | k + 1, tr, S, ht, h => by
    have h1 : (stpS sure cost S tr).1 ≠ 0 → tIv n (stpS sure cost S tr).2.2 := by
      unfold stpS
      split
      · exact fun _ => ht
      · exact h
    unfold srch
    by_cases e : giverN tr (n - 1) = 0
    · rw [if_pos e]; exact h1
    · rw [if_neg e]; exact srch_iv k _ _ (nxtT_iv ht (by omega)) h1
theorem inv_cheapest {s : St} (hI : Inv s) (c : Int32) : Inv (fCheapest s c).2 := by
  refine inv_gx hI ?_
  rintro ⟨c', p1, rfl, p2, p3⟩
  obtain ⟨⟨i0, i1, i2, i3, i4, i5, i6, i7, i8, i9, i10, i11⟩, k1, k2, k3, k4, k5, k5z, k5s, k6, k6z, k7, k7s, k8s, k8z, k9, k10, k11, k11z, k50, k15, k16⟩ := id hI
  dsimp only
  rw [tn_nI (by omega)]
  have ht : tIv (s 0 0) (SRn s c').2.2 := srch_iv _ _ _ (tIv0 p2) (fun q => absurd rfl q) p3
  have hle := tIv_le ht
  have hz := ht.2.2
  refine ⟨⟨i0, Nat.le_refl 1, i2, i3, i4, i5, i6, i7, i8, i9, i10, i11⟩, k1, k2, k3, k4, hle, hz, fun _ => ?_, hle, hz, k7, k7s, k8s, k8z, k9, k10, k11, k11z, fun q => absurd q Nat.one_ne_zero, k15, k16⟩
  show sm (SRn s c').2.2 8 = 1000
  rw [sm_ext0 i0 hz]
  exact ht.2.1
theorem inv_want {s : St} (hI : Inv s) (c : Int32) : Inv (fWant s c).2 := by
  refine inv_gx hI ?_
  rintro ⟨k, p1, rfl⟩
  obtain ⟨⟨i0, i1, i2, i3, i4, i5, i6, i7, i8, i9, i10, i11⟩, k1, k2, k3, k4, k5, k5z, k5s, k6, k6z, k7, k7s, k8s, k8z, k9, k10, k11, k11z, k50, k15, k16⟩ := id hI
  dsimp only
  rw [tn_nI1 (by omega)]
  exact ⟨⟨i0, i1, i2, i3, i4, i5, i6, i7, i8, i9, i10, p1⟩, k1, k2, k3, k4, k5, k5z, k5s, k6, k6z, k7, k7s, k8s, k8z, k9, k10, k11, k11z, k50, k15, k16⟩
theorem inv_hrs : ∀ (d g : Nat) (s : St), Inv s → s 0 2 = 1 → s 0 1 = 1 → s 0 7 + d ≤ 400 → Inv (hrsN d g s).2
  | 0, _, _, hI, _, _, _ => hI
  | d + 1, g, s, hI, hm, hx, h7 => by
    unfold hrsN
    by_cases e : canH s = true
    · rw [if_pos e]
      exact inv_hrs d (g + 1) (stepH s) (inv_step hI hm hx (by omega)) hm hx (by show s 0 7 + 1 + d ≤ 400; omega)
    · rw [if_neg e]; exact hI
theorem inv_hours {s : St} (hI : Inv s) (n : Int32) : Inv (fHours s n).2 := by
  refine inv_gx hI ?_
  rintro ⟨n', p1, p2, rfl, p3, p4, p5⟩
  dsimp only
  rw [tn_nI (by omega)]
  exact inv_hrs n' 0 s hI p3 p4 p5
theorem inv_glass {s : St} (hI : Inv s) (h w : Int32) : Inv (fGlass s h w).2 := inv_gx hI (fun _ => hI)
theorem inv_lead {s : St} (hI : Inv s) (h f : Int32) : Inv (fLead s h f).2 := inv_gx hI (fun _ => hI)
theorem inv_when {s : St} (hI : Inv s) (c : Int32) : Inv (fWhen s c).2 := inv_gx hI (fun _ => hI)
theorem inv_between {s : St} (hI : Inv s) : Inv (fBetween s).2 := inv_gx hI (fun _ => hI)
theorem inv_dose {s : St} (hI : Inv s) (c f : Int32) : Inv (fDose s c f).2 := inv_gx hI (fun _ => hI)
theorem inv_change {s : St} (hI : Inv s) (a b n : Int32) : Inv (fChange s a b n).2 := by
  refine inv_gx hI ?_
  rintro ⟨a', b', v, p1, p2, p3, p4, rfl, rfl, rfl⟩
  obtain ⟨⟨i0, i1, i2, i3, i4, i5, i6, i7, i8, i9, i10, i11⟩, k1, k2, k3, k4, k5, k5z, k5s, k6, k6z, k7, k7s, k8s, k8z, k9, k10, k11, k11z, k50, k15, k16⟩ := id hI
  dsimp only
  rw [tn_nI (by omega), tn_nI (by omega), tn_nI (by omega)]
  refine ⟨⟨i0, i1, i2, i3, i4, i5, i6, i7, i8, i9, i10, i11⟩, k1, k2, k3, k4, k5, k5z, k5s, k6, k6z, k7, k7s, k8s, k8z, k9, k10, updN_le k11 p4, fun a ha => ?_, k50, k15, k16⟩
  exact (updN_n _ _ (by omega)).trans (k11z a ha)
theorem inv_ring {s : St} (hI : Inv s) (x : Int32) : Inv (fRing s x).2 := by
  refine inv_gx hI ?_
  rintro ⟨k, p1, p2, rfl⟩
  obtain ⟨⟨i0, i1, i2, i3, i4, i5, i6, i7, i8, i9, i10, i11⟩, k1, k2, k3, k4, k5, k5z, k5s, k6, k6z, k7, k7s, k8s, k8z, k9, k10, k11, k11z, k50, k15, k16⟩ := id hI
  exact ⟨⟨i0, i1, i2, i3, i4, i5, i6, i7, i8, i9, ringM_le _, i11⟩, k1, k2, k3, k4, k5, k5z, k5s, k6, k6z, k7, k7s, k8s, k8z, k9, k10, k11, k11z, k50, k15, k16⟩
theorem inv_next {s : St} (hI : Inv s) (k : Int32) : Inv (fNext s k).2 := inv_gx hI (fun _ => hI)
theorem inv_told {s : St} (hI : Inv s) (w : Int32) : Inv (fTold s w).2 := inv_gx hI (fun _ => hI)
/-! the state at the start -/
def s0 : St := fun a i => if a = 0 then (if i = 3 then 3 else if i = 4 then 1000 else if i = 5 then 100 else 0) else if a = 15 then 1 else 0
theorem inv_s0 : Inv s0 := by
  have z : ∀ a i, a ≠ 0 → a ≠ 15 → s0 a i = 0 := fun a i h1 h2 => by unfold s0; rw [if_neg h1, if_neg h2]
  refine ⟨⟨by decide, by decide, by decide, by decide, by decide, by decide, by decide, by decide, by decide, by decide, by decide, by decide⟩, fun f _ => by rw [z 1 f (by decide) (by decide)]; decide, fun f _ => by rw [z 2 f (by decide) (by decide)]; decide, fun f _ => by rw [z 3 f (by decide) (by decide)]; decide, fun f _ => by rw [z 4 f (by decide) (by decide)]; decide, fun f _ => by rw [z 5 f (by decide) (by decide)]; decide, fun f _ _ => z 5 f (by decide) (by decide), fun q => absurd q (by decide), fun f _ => by rw [z 6 f (by decide) (by decide)]; decide, fun f _ _ => z 6 f (by decide) (by decide), fun f _ => by rw [z 7 f (by decide) (by decide)]; decide, fun f q => absurd q (by have : s0 0 0 = 0 := rfl; omega), fun q => absurd q (by decide), fun q => absurd q (by decide), fun f _ => by rw [z 9 f (by decide) (by decide)]; decide, fun f _ => by rw [z 10 f (by decide) (by decide)]; decide, fun f _ => by rw [z 11 f (by decide) (by decide)]; decide, fun f _ => z 11 _ (by decide) (by decide), fun _ f _ => z 5 f (by decide) (by decide), fun i _ => ?_, fun f _ => by rw [z 16 f (by decide) (by decide)]; decide⟩
  show (1 : Nat) ≤ 6
  decide

