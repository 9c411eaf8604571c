/-! ===== helpers ===== -/
theorem ct_at {M : MI} {av L : List Value} {h : List PC} {Q : Option Value → List PC → Prop} (hy : plainName M.1.cls = true) (hc : av.all (fun v => v.category == 1) = true) (hL : av ++ List.replicate (M.2.2.1 - av.length) .null = L) (hn : av.length ≤ M.2.2.1)
    (k : At M T0 0 L [] h 0 0 (ZM M Q)) : Ct M av h Q :=
  ct_of_at hy (fun v hv => by have := List.all_eq_true.mp hc v hv; simpa using this) hL hn k
theorem bI_t {p : Prop} [Decidable p] (h : p) : (some (Value.int (nI 1)) : Option Value) = some (.int (bI (decide p))) := by rw [decide_eq_true h]; rfl
theorem bI_f {p : Prop} [Decidable p] (h : ¬ p) : (some (Value.int (nI 0)) : Option Value) = some (.int (bI (decide p))) := by rw [decide_eq_false h]; rfl
theorem i_nlt {a b : Int32} (h : ¬ a < b) : b ≤ a := Int32.not_lt.mp h
theorem i_nle {a b : Int32} (h : ¬ a ≤ b) : b < a := Int32.not_le.mp h
/-- the cells of the class, by their places -/
abbrev oTankObj (wanted : Int32) : PC := .inr (11, [.ref 4, .ref 18, .ref 36, .ref 39, .ref 55, .ref 59, .ref 21, .ref 62, .ref 68, .ref 96, .int wanted])
abbrev oSharer : PC := .inr (9, [.ref 2, .ref 3])
abbrev oFeeds (cnt : Nat) : PC := .inr (2, [.int (nI cnt), .ref 5, .ref 6, .ref 15, .ref 16, .ref 17])
abbrev oMix (made : Bool) : PC := .inr (6, [.int (bI made), .ref 19, .ref 20])
abbrev oColours (cnt : Nat) : PC := .inr (1, [.int (nI cnt), .ref 22, .ref 29])
abbrev oSearch (cost : Nat) : PC := .inr (7, [.ref 4, .ref 21, .ref 37, .ref 38, .int (nI cost)])
abbrev oTank (t : Nat) (made : Bool) (cc w p : Nat) (still : Bool) : PC := .inr (10, [.ref 1, .ref (t + 1), .ref (t + 8), .int (bI made), .int (nI cc), .int (nI w), .int (nI p), .int (bI still)])
abbrev oCharge (q : Nat) (size : Nat) : PC := .inr (0, [.ref 4, .ref 18, .ref 1, .ref (q + 1), .ref (q + 2), .ref (q + 3), .int (nI size)])
abbrev oGlass (g : Nat) (grams : Nat) : PC := .inr (4, [.ref (g + 1), .ref (g + 2), .int (nI grams)])
abbrev oLog (cnt waste put : Nat) : PC := .inr (5, [.int (nI cnt), .int (nI waste), .int (nI put), .ref 63, .ref 64, .ref 65, .ref 66, .ref 67])
abbrev oForecast : PC := .inr (3, [.ref 39, .ref 21, .ref 69, .ref 73, .ref 77, .ref 93])
abbrev oRing (size : Nat) : PC := .inr (8, [.ref 97, .ref 104, .int (nI size), .ref 105])
/-- rows of an array of arrays: the outer array at k, its n rows behind it -/
def rowsAt (k : Nat) (n : Nat) : Nat → Option Nat := fun i => if i < n then some (k + 1 + i) else none
theorem rowsAt_in {k n i : Nat} (h : i < n) : rowsAt k n i = some (k + 1 + i) := if_pos h
