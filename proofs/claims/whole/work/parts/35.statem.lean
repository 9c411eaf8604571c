/-! ===== the model's cells ===== -/
abbrev oM (s : St) : PC := oModel (s 0 0) (s 0 6) (s 0 1) (s 0 2) (s 0 3) (s 0 4) (s 0 5) (nI (s 0 11) - 1) (s 0 7) (s 0 8) (s 0 9) (s 0 10)
def SH (h : List PC) : Prop := (∃ w, h[127]? = some (aL 32 w)) ∧ (∃ w, h[128]? = some (aJ 32 w)) ∧ ∃ w, h[129]? = some (aI 32 w)
def MF (h : List PC) (mk kd db pr st tc sh : Nat → Nat) : Prop := Ar h 107 32 mk ∧ Ar h 108 8 kd ∧ Ar h 109 8 db ∧ Ar h 110 8 pr ∧ Ar h 111 8 st ∧ Ar h 112 8 tc ∧ Ar h 113 8 sh
def ML (h : List PC) (n : Nat) (L : Nat → Nat) : Prop := ∃ w, h[114]? = some (aI 192 w) ∧ ∀ x, x < 32 * n → w x = L x
def MC (h : List PC) (le mo ch : Nat → Nat) : Prop := Ar h 119 24 le ∧ Ar h 120 24 mo ∧ Ar h 121 36 ch
def MH (h : List PC) (th ld gr nm ws : Nat → Nat) : Prop := Ar h 122 1600 th ∧ Ar h 123 3200 ld ∧ Ar h 126 400 gr ∧ (∃ f, h[124]? = some (aG 400 f) ∧ ∀ i, i < 400 → f i = nI (nm i) - 1) ∧ Ar h 125 400 ws
def MS (h : List PC) : Prop := (∃ w, h[115]? = some (aI 192 w)) ∧ (∃ w, h[116]? = some (aI 192 w)) ∧ (∃ w, h[117]? = some (aI 32 w)) ∧ (∃ w, h[118]? = some (aI 32 w)) ∧ SH h ∧ (∃ w, h[130]? = some (aI 8 w)) ∧ (∃ w, h[131]? = some (aI 8 w)) ∧ (∃ w, h[132]? = some (aI 8 w)) ∧ ∃ w, h[133]? = some (aI 6 w)
def RepM (s : St) (h : List PC) : Prop := h[106]? = some (oM s) ∧ MF h (s 7) (s 1) (s 2) (s 3) (s 4) (s 6) (s 5) ∧ ML h (s 0 3) (s 8) ∧ MC h (s 9) (s 10) (s 11) ∧ MH h (s 12) (s 13) (s 14) (s 15) (s 16) ∧ Ar h 134 6 (s 17) ∧ MS h
section MFR
variable {P : Nat → Prop} {h h' : List PC}
theorem SH.fr (a : SH h) (f : Fr P h h') (hp : ∀ j, 127 ≤ j → j ≤ 129 → ¬ P j) : SH h' := by
  obtain ⟨⟨w1, a1⟩, ⟨w2, a2⟩, ⟨w3, a3⟩⟩ := a
  exact ⟨⟨w1, f.at (hp _ (by omega) (by omega)) a1⟩, ⟨w2, f.at (hp _ (by omega) (by omega)) a2⟩, ⟨w3, f.at (hp _ (by omega) (by omega)) a3⟩⟩
theorem MF.fr {mk kd db pr st tc sh : Nat → Nat} (a : MF h mk kd db pr st tc sh) (f : Fr P h h') (hp : ∀ j, 107 ≤ j → j ≤ 113 → ¬ P j) : MF h' mk kd db pr st tc sh := by
  obtain ⟨a1, a2, a3, a4, a5, a6, a7⟩ := a
  exact ⟨a1.fr f (hp _ (by omega) (by omega)), a2.fr f (hp _ (by omega) (by omega)), a3.fr f (hp _ (by omega) (by omega)), a4.fr f (hp _ (by omega) (by omega)), a5.fr f (hp _ (by omega) (by omega)), a6.fr f (hp _ (by omega) (by omega)), a7.fr f (hp _ (by omega) (by omega))⟩
theorem ML.fr {n : Nat} {L : Nat → Nat} (a : ML h n L) (f : Fr P h h') (hp : ∀ j, 114 ≤ j → j ≤ 114 → ¬ P j) : ML h' n L := by
  obtain ⟨w, a1, a2⟩ := a
  exact ⟨w, f.at (hp _ (by omega) (by omega)) a1, a2⟩
theorem MC.fr {le mo ch : Nat → Nat} (a : MC h le mo ch) (f : Fr P h h') (hp : ∀ j, 119 ≤ j → j ≤ 121 → ¬ P j) : MC h' le mo ch := by
  obtain ⟨a1, a2, a3⟩ := a
  exact ⟨a1.fr f (hp _ (by omega) (by omega)), a2.fr f (hp _ (by omega) (by omega)), a3.fr f (hp _ (by omega) (by omega))⟩
theorem MH.fr {th ld gr nm ws : Nat → Nat} (a : MH h th ld gr nm ws) (f : Fr P h h') (hp : ∀ j, 122 ≤ j → j ≤ 126 → ¬ P j) : MH h' th ld gr nm ws := by
  obtain ⟨a1, a2, a3, ⟨w, a4, e4⟩, a5⟩ := a
  exact ⟨a1.fr f (hp _ (by omega) (by omega)), a2.fr f (hp _ (by omega) (by omega)), a3.fr f (hp _ (by omega) (by omega)), ⟨w, f.at (hp _ (by omega) (by omega)) a4, e4⟩, a5.fr f (hp _ (by omega) (by omega))⟩
theorem MS.fr (a : MS h) (f : Fr P h h') (hp : ∀ j, (115 ≤ j ∧ j ≤ 118) ∨ (127 ≤ j ∧ j ≤ 133) → ¬ P j) : MS h' := by
  obtain ⟨⟨w1, a1⟩, ⟨w2, a2⟩, ⟨w3, a3⟩, ⟨w4, a4⟩, a5, ⟨w6, a6⟩, ⟨w7, a7⟩, ⟨w8, a8⟩, ⟨w9, a9⟩⟩ := a
  exact ⟨⟨w1, f.at (hp _ (by omega)) a1⟩, ⟨w2, f.at (hp _ (by omega)) a2⟩, ⟨w3, f.at (hp _ (by omega)) a3⟩, ⟨w4, f.at (hp _ (by omega)) a4⟩, a5.fr f (fun j h1 h2 => hp j (by omega)), ⟨w6, f.at (hp _ (by omega)) a6⟩, ⟨w7, f.at (hp _ (by omega)) a7⟩, ⟨w8, f.at (hp _ (by omega)) a8⟩, ⟨w9, f.at (hp _ (by omega)) a9⟩⟩
end MFR
def RM (f : Int32 × St) (h : List PC) : Option Value → List PC → Prop := fun r h' => r = some (.int f.1) ∧ RepM f.2 h' ∧ Fr (fun j => 106 ≤ j) h h'
theorem rm_no {p : Prop} {a : Int32 × St} {s : St} {h : List PC} (hn : ¬ p) (hr : RepM s h) : RM (gx p a (NOi, s)) h (some (.int (-1000000000))) h := by
  rw [gx_f hn]; exact ⟨rfl, hr, Fr.rf⟩
theorem rm_yes {p : Prop} {v w : Int32} {s' : St} {b : Int32 × St} {h h' : List PC} (hp : p) (hv : w = v) (hr : RepM s' h') (hf : Fr (fun j => 106 ≤ j) h h') : RM (gx p (v, s') b) h (some (.int w)) h' := by
  rw [gx_t hp, hv]; exact ⟨rfl, hr, hf⟩
