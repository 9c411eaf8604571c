/-! ===== helpers ===== -/
theorem ct_at {M : MI} {av L : List Value} {h : List PC} {Q : Option Value → List PC → Prop} (hy : plainName M.1.cls = true) (hc : av.all (fun v => v.category == 1) = true) (hL : av ++ List.replicate (M.2.2.1 - av.length) .null = L) (hn : av.length ≤ M.2.2.1)
    (k : At M T0 0 L [] h 0 0 (ZM M Q)) : Ct M av h Q :=
  ct_of_at hy (fun v hv => by have := List.all_eq_true.mp hc v hv; simpa using this) hL hn k
theorem bI_t {p : Prop} [Decidable p] (h : p) : (some (Value.int (nI 1)) : Option Value) = some (.int (bI (decide p))) := by rw [decide_eq_true h]; rfl
theorem bI_f {p : Prop} [Decidable p] (h : ¬ p) : (some (Value.int (nI 0)) : Option Value) = some (.int (bI (decide p))) := by rw [decide_eq_false h]; rfl
theorem i_nlt {a b : Int32} (h : ¬ a < b) : b ≤ a := Int32.not_lt.mp h
theorem i_nle {a b : Int32} (h : ¬ a ≤ b) : b < a := Int32.not_le.mp h
/-- the cells of the class, by their places -/
abbrev oTankObj (wanted : Int32) : PC := .inr (11, [.ref 4, .ref 18, .ref 36, .ref 39, .ref 55, .ref 59, .ref 21, .ref 62, .ref 68, .ref 96, .int wanted])
abbrev oSharer : PC := .inr (9, [.ref 2, .ref 3])
abbrev oFeeds (cnt : Nat) : PC := .inr (2, [.int (nI cnt), .ref 5, .ref 6, .ref 15, .ref 16, .ref 17])
abbrev oMix (made : Nat) : PC := .inr (6, [.int (nI made), .ref 19, .ref 20])
abbrev oColours (cnt : Nat) : PC := .inr (1, [.int (nI cnt), .ref 22, .ref 29])
abbrev oSearch (cost : Nat) : PC := .inr (7, [.ref 4, .ref 21, .ref 37, .ref 38, .int (nI cost)])
abbrev oTank (t : Nat) (made cc w p still : Nat) : PC := .inr (10, [.ref 1, .ref (t + 1), .ref (t + 8), .int (nI made), .int (nI cc), .int (nI w), .int (nI p), .int (nI still)])
abbrev oCharge (q : Nat) (size : Nat) : PC := .inr (0, [.ref 4, .ref 18, .ref 1, .ref (q + 1), .ref (q + 2), .ref (q + 3), .int (nI size)])
abbrev oGlass (g : Nat) (grams : Nat) : PC := .inr (4, [.ref (g + 1), .ref (g + 2), .int (nI grams)])
abbrev oLog (cnt waste put : Nat) : PC := .inr (5, [.int (nI cnt), .int (nI waste), .int (nI put), .ref 63, .ref 64, .ref 65, .ref 66, .ref 67])
abbrev oForecast : PC := .inr (3, [.ref 39, .ref 21, .ref 69, .ref 73, .ref 77, .ref 93])
abbrev oRing (size : Nat) : PC := .inr (8, [.ref 97, .ref 104, .int (nI size), .ref 105])
/-- rows of an array of arrays: the outer array at k, its n rows behind it -/
def rowsAt (k : Nat) (n : Nat) : Nat → Option Nat := fun i => if i < n then some (k + 1 + i) else none
theorem rowsAt_in {k n i : Nat} (h : i < n) : rowsAt k n i = some (k + 1 + i) := if_pos h
/-- an array whose first n places hold f -/
def Ar (h : List PC) (k n : Nat) (f : Nat → Nat) : Prop := ∃ w, h[k]? = some (aI n w) ∧ ∀ i, i < n → w i = f i
theorem Ar.of {h : List PC} {k n : Nat} {f : Nat → Nat} (e : h[k]? = some (aI n f)) : Ar h k n f := ⟨f, e, fun _ _ => rfl⟩
theorem Ar.nw {h h' : List PC} {k n j : Nat} {f : Nat → Nat} {c : PC} (a : Ar h k n f) (nn : Nw h j c h') (hj : k ≠ j) : Ar h' k n f := by
  obtain ⟨w, h1, h2⟩ := a
  exact ⟨w, nn.o hj h1, h2⟩
theorem Ar.fr {P : Nat → Prop} {h h' : List PC} {k n : Nat} {f : Nat → Nat} (a : Ar h k n f) (fr : Fr P h h') (hk : ¬ P k) : Ar h' k n f := by
  obtain ⟨w, h1, h2⟩ := a
  exact ⟨w, fr.at hk h1, h2⟩
theorem Ar.cg {h : List PC} {k n : Nat} {f g : Nat → Nat} (a : Ar h k n f) (e : ∀ i, i < n → f i = g i) : Ar h k n g := by
  obtain ⟨w, h1, h2⟩ := a
  exact ⟨w, h1, fun i hi => (h2 i hi).trans (e i hi)⟩
def wi (x lo hi : Int32) : Bool := decide (lo ≤ x ∧ x ≤ hi)
theorem wi_t {x : Int32} {a b : Nat} (h : wi x (nI a) (nI b) = true) (hb : b < 2 ^ 31) (ha : a < 2 ^ 31) : ∃ j, a ≤ j ∧ j ≤ b ∧ x = nI j := by
  unfold wi at h
  obtain ⟨h1, h2⟩ := of_decide_eq_true h
  have e1 := Int32.le_iff_toInt_le.mp h1
  have e2 := Int32.le_iff_toInt_le.mp h2
  rw [nI_toInt ha] at e1
  rw [nI_toInt hb] at e2
  refine ⟨x.toInt.toNat, by omega, by omega, ?_⟩
  apply Int32.toInt_inj.mp
  rw [nI_toInt (by omega)]
  omega
theorem wi_nI {j a b : Nat} (hj : j < 2 ^ 31) (ha : a < 2 ^ 31) (hb : b < 2 ^ 31) : wi (nI j) (nI a) (nI b) = decide (a ≤ j ∧ j ≤ b) := by
  unfold wi
  simp only [nI_leI ha hj, nI_leI hj hb]
section ATZ
variable {M : MI} {G : GT} {pc : Nat} {L rest : List Value} {h : List PC} {cs sl : Nat} {Z : ZT}
theorem at_zsN (pc' : Nat) {k j x : Nat} (hd : decode M.2.1 pc = .ok (.bastore, 1)) (hp : pc + 1 = pc') (hx : x ≤ 1) (kk : ∃ (n : Nat) (w : Nat → Nat), h[k]? = some (aZ n (fun i => nI (w i))) ∧ j < n ∧ n < 2 ^ 31 ∧ ∀ h' : List PC, Nw h k (aZ n (fun i => nI (updN w j x i))) h' → At M G pc' L rest h' cs sl Z) : At M G pc L (.int (nI x) :: .int (nI j) :: .ref k :: rest) h cs sl Z := by
  obtain ⟨n, w, h1, h2, h3, h4⟩ := kk
  have e : nI x = bI (decide (x = 1)) := by
    rcases Nat.lt_or_ge x 1 with q | q
    · rw [show x = 0 by omega]; rfl
    · rw [show x = 1 by omega]; rfl
  rw [e]
  refine at_zs pc' hd hp ⟨n, _, h1, h2, h3, fun h' n' => h4 h' ?_⟩
  rw [← e, updN_I] at n'
  exact n'
end ATZ
