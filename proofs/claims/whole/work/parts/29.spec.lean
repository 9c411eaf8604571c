/-! ===== what each call answers and does ===== -/
noncomputable def gx (p : Prop) (a b : Int32 × St) : Int32 × St := @ite _ p (Classical.propDecidable p) a b
theorem gx_t {p : Prop} {a b : Int32 × St} (h : p) : gx p a b = a := by unfold gx; exact if_pos h
theorem gx_f {p : Prop} {a b : Int32 × St} (h : ¬ p) : gx p a b = b := by unfold gx; exact if_neg h
def NOi : Int32 := -1000000000
def tn (x : Int32) : Nat := x.toNatClampNeg
theorem tn_nI {k : Nat} (h : k < 2 ^ 31) : tn (nI k) = k := nI_clamp h
theorem tn_nI1 {k : Nat} (h : k < 2 ^ 31) : tn (nI k - 1 + 1) = k := by
  rw [Int32.sub_add_cancel]; exact nI_clamp h
theorem has_t {f : Int32} {n : Nat} (h : decide (0 ≤ f ∧ f < nI n) = true) (hn : n < 2 ^ 31) : ∃ i, i < n ∧ f = nI i := by
  obtain ⟨h1, h2⟩ := of_decide_eq_true h
  obtain ⟨j, hj, rfl⟩ := nI_of (Int32.not_lt.mpr h1)
  exact ⟨j, (nI_ltI hj hn).mp h2, rfl⟩
theorem has_f {f : Int32} {n : Nat} (h : decide (0 ≤ f ∧ f < nI n) = false) (hn : n < 2 ^ 31) : ¬ ∃ i, i < n ∧ f = nI i := by
  rintro ⟨i, h1, rfl⟩
  exact (of_decide_eq_false h) ⟨nI_pos' (by omega), (nI_ltI (by omega) hn).mpr h1⟩
theorem wi_f {x : Int32} {a b : Nat} (h : wi x (nI a) (nI b) = false) (hb : b < 2 ^ 31) : ¬ ∃ j, a ≤ j ∧ j ≤ b ∧ x = nI j := by
  rintro ⟨j, h1, h2, rfl⟩
  rw [wi_nI (by omega) (by omega) hb] at h
  exact (of_decide_eq_false h) ⟨h1, h2⟩
def okFeed (s : St) (k a b c d q r : Int32) : Prop := ∃ (k' a' b' c' d' q' r' : Nat), k' < 4 ∧ a' + b' + c' + d' = 1000 ∧ q' ≤ (if k' = 0 ∨ k' = 2 then 0 else 100) ∧ r' ≤ 10000 ∧ s 0 0 < 8 ∧ k = nI k' ∧ a = nI a' ∧ b = nI b' ∧ c = nI c' ∧ d = nI d' ∧ q = nI q' ∧ r = nI r'
noncomputable def fFeed (s : St) (k a b c d q r : Int32) : Int32 × St := gx (okFeed s k a b c d q r) (nI (s 0 0), up0 (up (up (up (up s 1 (updN (s 1) (s 0 0) (tn k))) 7 (updN (updN (updN (updN (s 7) (4 * s 0 0) (tn a)) (4 * s 0 0 + 1) (tn b)) (4 * s 0 0 + 2) (tn c)) (4 * s 0 0 + 3) (tn d))) 2 (updN (s 2) (s 0 0) (tn q))) 3 (updN (s 3) (s 0 0) (tn r))) 0 (s 0 0 + 1)) (NOi, s)
noncomputable def fStock (s : St) (f g : Int32) : Int32 × St := gx (∃ i j, i < s 0 0 ∧ f = nI i ∧ s 4 i + j ≤ 10000000 ∧ g = nI j) (nI (s 4 (tn f) + tn g), up s 4 (updN (s 4) (tn f) (s 4 (tn f) + tn g))) (NOi, s)
def ofV (s : St) (i j : Nat) : Nat := if j < 4 then s 7 (4 * i + j) else if j = 4 then s 1 i else if j = 5 then s 2 i else if j = 6 then s 3 i else if j = 7 then s 4 i else s 5 i
noncomputable def fOf (s : St) (f w : Int32) : Int32 × St := gx (∃ i j, i < s 0 0 ∧ f = nI i ∧ j < 9 ∧ w = nI j) (nI (ofV s (tn f) (tn w)), s) (NOi, s)
def tankS0 (s : St) (n w p : Nat) : Nat → Nat := updN (updN (updN (updN (updN (updN (updN (s 0) 2 1) 3 n) 4 w) 5 p) 7 0) 8 0) 9 0
noncomputable def fTank (s : St) (n w p f : Int32) : Int32 × St := gx (∃ n' w' p' f', (2 ≤ n' ∧ n' ≤ 6) ∧ (100 ≤ w' ∧ w' ≤ 100000) ∧ (1 ≤ p' ∧ p' ≤ w') ∧ f' < s 0 0 ∧ n = nI n' ∧ w = nI w' ∧ p = nI p' ∧ f = nI f') (nI 1, up (up s 8 (fillL (s 8) (fun t => s 7 (4 * tn f + t)) (tn f) (tn w) (tn n))) 0 (tankS0 s (tn n) (tn w) (tn p))) (NOi, s)
noncomputable def fPull (s : St) (p : Int32) : Int32 × St := gx (∃ p', 1 ≤ p' ∧ p' ≤ s 0 4 ∧ p = nI p') (nI (s 0 5), up0 s 5 (tn p)) (NOi, s)
noncomputable def fCell (s : St) (c f t : Int32) : Int32 × St := gx (∃ c' fi ti, c' < s 0 3 ∧ c = nI c' ∧ fi ≤ s 0 0 ∧ f = nI fi - 1 ∧ ti ≤ 4 ∧ t = nI ti - 1 ∧ s 0 2 = 1) (nI (gramsN (s 8) (tn c) (tn (f + 1)) (tn (t + 1)) 32), s) (NOi, s)
noncomputable def fShare (s : St) (f x : Int32) : Int32 × St := gx (∃ i v, i < s 0 0 ∧ f = nI i ∧ v ≤ 1000 ∧ x = nI v) (nI (s 6 (tn f)), up s 6 (updN (s 6) (tn f) (tn x))) (NOi, s)
noncomputable def fMix (s : St) : Int32 × St := gx (sm (s 6) 8 = 1000) (nI 1, up0 (up s 5 (s 6)) 1 1) (NOi, s)
noncomputable def fColour (s : St) : Int32 × St := gx (s 0 6 < 6) (nI (s 0 6), up0 (up (up s 9 (shr (4 * s 0 6) 4 (fun _ => 0) (s 9))) 10 (shr (4 * s 0 6) 4 (fun _ => 1000) (s 10))) 6 (s 0 6 + 1)) (NOi, s)
noncomputable def fSpan (s : St) (c t a b : Int32) : Int32 × St := gx (∃ c' t' a' b', c' < s 0 6 ∧ t' < 4 ∧ a' ≤ b' ∧ b' ≤ 1000 ∧ c = nI c' ∧ t = nI t' ∧ a = nI a' ∧ b = nI b') (nI 1, up (up s 9 (updN (s 9) (4 * tn c + tn t) (tn a))) 10 (updN (s 10) (4 * tn c + tn t) (tn b))) (NOi, s)
noncomputable def fSure (s : St) (c : Int32) : Int32 × St := gx (∃ c', c' < s 0 6 ∧ c = nI c' ∧ s 0 1 = 1) (bI (sureB (s 9) (s 10) (s 7) (s 2) (s 5) (s 0 0) (tn c)), s) (NOi, s)
def SRn (s : St) (c : Nat) : SS := srch (s 0 0) (fun tr => sureB (s 9) (s 10) (s 7) (s 2) tr (s 0 0) c) (fun tr => costT (s 3) tr (s 0 0)) 20000 tr0 (0, 0, fun _ => 0)
noncomputable def fCheapest (s : St) (c : Int32) : Int32 × St := gx (∃ c', c' < s 0 6 ∧ c = nI c' ∧ 0 < s 0 0 ∧ (SRn s c').1 ≠ 0) (nI (SRn s (tn c)).2.1, up0 (up (up s 5 (SRn s (tn c)).2.2) 6 (SRn s (tn c)).2.2) 1 1) (NOi, s)
noncomputable def fWant (s : St) (c : Int32) : Int32 × St := gx (∃ k, k ≤ s 0 6 ∧ c = nI k - 1) (nI (s 0 11) - 1, up0 s 11 (tn (c + 1))) (NOi, s)
/-! an hour -/
def hTk (s : St) : Nat → Nat := tkP (s 5) (s 0 5)
def hLo (s : St) : Nat → Nat := loN (hTk s) (s 7) (s 0 0)
def hOut (s : St) : Nat → Nat := outF (s 8) (s 0 5) (s 0 3 - 1)
def hNm (s : St) : Nat := nameC (fun c => fitB (s 9) (s 10) c (thF (hOut s)) (s 0 5)) (s 0 6)
def hBad (s : St) : Nat := if s 0 11 = 0 ∨ hNm s ≠ s 0 11 then 1 else 0
def hSt (s : St) : Nat → Nat := fun f => s 4 f - hTk s f
def hStk (s : St) : Nat → Nat := if hBad s = 0 then hSt s else backS (s 1) (hSt s) (s 0 0) (s 0 5)
def canH (s : St) : Bool := allB (fun f => decide (hTk s f ≤ s 4 f)) 8
def stepH (s : St) : St := up (up (up (up (up (up (up (up s 4 (hStk s)) 8 (passL (s 8) (hLo s) (s 0 5) (s 0 3))) 12 (shr (s 0 7 * 4) 4 (thF (hOut s)) (s 12))) 13 (shr (s 0 7 * 8) 8 (ldF (hOut s)) (s 13))) 14 (updN (s 14) (s 0 7) (s 0 5))) 15 (updN (s 15) (s 0 7) (hNm s))) 16 (updN (s 16) (s 0 7) (hBad s))) 0 (updN (updN (updN (s 0) 7 (s 0 7 + 1)) 8 (s 0 8 + (if hBad s = 0 then 0 else s 0 5))) 9 (s 0 9 + s 0 5))
def hrsN : Nat → Nat → St → Nat × St
  | 0, g, s => (g, s)
  | d + 1, g, s => if canH s = true then hrsN d (g + 1) (stepH s) else (g, s)
noncomputable def fHours (s : St) (n : Int32) : Int32 × St := gx (∃ n', 1 ≤ n' ∧ n' ≤ 50 ∧ n = nI n' ∧ s 0 2 = 1 ∧ s 0 1 = 1 ∧ s 0 7 + n' ≤ 400) (nI (hrsN (tn n) 0 s).1, (hrsN (tn n) 0 s).2) (NOi, s)
def glV (s : St) (i j : Nat) : Int32 := if j < 4 then nI (s 12 (4 * i + j)) else if j = 4 then nI (s 15 i) - 1 else if j = 5 then nI (s 16 i) else nI (s 14 i)
noncomputable def fGlass (s : St) (h w : Int32) : Int32 × St := gx (∃ i j, i < s 0 7 ∧ h = nI i ∧ j < 7 ∧ w = nI j) (glV s (tn h) (tn w), s) (NOi, s)
noncomputable def fLead (s : St) (h f : Int32) : Int32 × St := gx (∃ i j, i < s 0 7 ∧ h = nI i ∧ j < s 0 0 ∧ f = nI j) (nI (s 13 (8 * tn h + tn f)), s) (NOi, s)
def fitS (s : St) (c : Nat) : (Nat → Nat) → Bool := fun th => fitB (s 9) (s 10) c th (s 0 5)
def whenN (s : St) (c : Nat) : Nat := tellN (fitS s c) (s 0 5) (s 0 3) (hLo s) (hLo s) 0 100 1 (s 8)
noncomputable def fWhen (s : St) (c : Int32) : Int32 × St := gx (∃ c', c' < s 0 6 ∧ c = nI c' ∧ s 0 2 = 1 ∧ s 0 1 = 1) (nI (whenN s (tn c)), s) (NOi, s)
noncomputable def fBetween (s : St) : Int32 × St := gx (s 0 2 = 1 ∧ s 0 1 = 1) (nI (noneN (fun th => nameC (fun c => fitB (s 9) (s 10) c th (s 0 5)) (s 0 6)) (s 0 5) (s 0 3) (hLo s) 100 (s 8)), s) (NOi, s)
def doseT (s : St) (c f : Nat) : Nat → Nat → Nat := fun a k => tellN (fitS s c) (s 0 5) (s 0 3) (loN (tkD (s 5) (s 0 5) a f) (s 7) (s 0 0)) (hLo s) k 100 1 (s 8)
noncomputable def fDose (s : St) (c f : Int32) : Int32 × St := gx (∃ c' f', c' < s 0 6 ∧ c = nI c' ∧ f' < s 0 0 ∧ f = nI f' ∧ s 1 f' = 2 ∧ s 0 2 = 1 ∧ s 0 1 = 1) (nI (outerD (doseT s (tn c) (tn f)) 5 100 (whenN s (tn c), 100000 * whenN s (tn c))).2, s) (NOi, s)
noncomputable def fChange (s : St) (a b n : Int32) : Int32 × St := gx (∃ a' b' v, a' < s 0 6 ∧ b' < s 0 6 ∧ a' ≠ b' ∧ v ≤ 1000 ∧ a = nI a' ∧ b = nI b' ∧ n = nI v) (nI (s 11 (6 * tn a + tn b)), up s 11 (updN (s 11) (6 * tn a + tn b) (tn n))) (NOi, s)
def ringM (k : Nat) : Nat := (gatN k (fun _ => 0) 6).1
def ringO (k : Nat) : Nat → Nat := (gatN k (fun _ => 0) 6).2
def ringR (s : St) (k : Nat) : Nat × (Nat → Nat) := rsrch (ringM k) (s 11) 200 (ringO k) (sumO (s 11) (ringO k) (ringM k), ringO k)
noncomputable def fRing (s : St) (x : Int32) : Int32 × St := gx (∃ k, 1 ≤ k ∧ k < 2 ^ s 0 6 ∧ x = nI k) (nI (ringR s (tn x)).1, up0 (up s 17 (fun i => if i < ringM (tn x) then (ringR s (tn x)).2 i else s 17 i)) 10 (ringM (tn x))) (NOi, s)
noncomputable def fNext (s : St) (k : Int32) : Int32 × St := gx (∃ i, i < s 0 10 ∧ k = nI i) (nI (s 17 (tn k)), s) (-1, s)
def toldV (s : St) (j : Nat) : Nat := if j = 0 then s 0 0 else if j = 1 then s 0 3 else if j = 2 then s 0 6 else if j = 3 then s 0 7 else if j = 4 then s 0 8 else if j = 5 then s 0 9 else if s 0 2 = 1 then s 0 3 * s 0 4 else 0
noncomputable def fTold (s : St) (w : Int32) : Int32 × St := gx (∃ j, j < 7 ∧ w = nI j) (nI (toldV s (tn w)), s) (NOi, s)
