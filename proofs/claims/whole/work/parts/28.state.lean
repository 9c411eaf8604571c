/-! ===== the state, in naturals: s 0 i: 0 feeds, 1 mix made, 2 tank made, 3 cells, 4 weight, 5 pulled, 6 colours, 7 hours, 8 waste, 9 put in, 10 ring's size, 11 wanted and 1;
  s 1 kinds, 2 doubts, 3 prices, 4 stocks, 5 shares, 6 to come, 7 make-ups (4 f + t), 8 lots (32 c + i), 9 leasts, 10 mosts (4 c + t), 11 changes (6 a + b), 12 things (4 h + t), 13 leads (8 h + f), 14 grams, 15 names and 1, 16 wasted, 17 the ring ===== -/
abbrev St : Type := Nat → Nat → Nat
def up (s : St) (k : Nat) (f : Nat → Nat) : St := fun a => if a = k then f else s a
def up0 (s : St) (i v : Nat) : St := up s 0 (updN (s 0) i v)
def RFeeds (h : List PC) (nf : Nat) (kd mk db pr st : Nat → Nat) : Prop := h[4]? = some (oFeeds nf) ∧ Ar h 5 8 kd ∧ h[6]? = some (aR 8 (rowsAt 6 8)) ∧ (∀ f, f < 8 → Ar h (7 + f) 4 (fun t => mk (4 * f + t))) ∧ Ar h 15 8 db ∧ Ar h 16 8 pr ∧ Ar h 17 8 st
def RMix (h : List PC) (mx : Nat) (sh tc : Nat → Nat) : Prop := h[18]? = some (oMix mx) ∧ Ar h 19 8 sh ∧ Ar h 20 8 tc
def RCol (h : List PC) (nc : Nat) (le mo : Nat → Nat) : Prop := h[21]? = some (oColours nc) ∧ h[22]? = some (aR 6 (rowsAt 22 6)) ∧ h[29]? = some (aR 6 (rowsAt 29 6)) ∧ (∀ c, c < 6 → Ar h (23 + c) 4 (fun t => le (4 * c + t))) ∧ ∀ c, c < 6 → Ar h (30 + c) 4 (fun t => mo (4 * c + t))
def RSrch (h : List PC) : Prop := ∃ (bc : Nat) (a b : Nat → Nat), bc < 2 ^ 31 ∧ h[36]? = some (oSearch bc) ∧ h[37]? = some (aI 8 a) ∧ h[38]? = some (aI 8 b)
def RTank (h : List PC) (md n w p : Nat) (L : Nat → Nat) (sz : Nat) : Prop := (∃ st, h[39]? = some (oTank 39 md n w p st)) ∧ TankA h 39 L sz
def RLog (h : List PC) (hr wst put : Nat) (th ld gr nm ws : Nat → Nat) : Prop := h[62]? = some (oLog hr wst put) ∧ Ar h 63 1600 th ∧ Ar h 64 3200 ld ∧ Ar h 65 400 gr ∧ (∃ f, h[66]? = some (aG 400 f) ∧ ∀ i, i < 400 → f i = nI (nm i) - 1) ∧ ∃ f : Nat → Nat, h[67]? = some (aZ 400 (fun i => nI (f i))) ∧ ∀ i, i < 400 → f i = ws i
def FcY (h : List PC) (sz : Nat) : Prop := (∃ a b c d e, h[77]? = some (oTank 77 a b c d e)) ∧ TankS h 77 sz ∧ GlA h 93
def RRing (h : List PC) (z : Nat) (ch lt : Nat → Nat) : Prop := h[96]? = some (oRing z) ∧ h[97]? = some (aR 6 (rowsAt 97 6)) ∧ (∀ a, a < 6 → Ar h (97 + 1 + a) 6 (fun b => ch (6 * a + b))) ∧ Ar h 104 6 lt ∧ ∃ o, h[105]? = some (aI 6 o) ∧ ∀ x, x < 6 → o x < 6
def RepC (s : St) (h : List PC) : Prop := h[0]? = some (oTankObj (nI (s 0 11) - 1)) ∧ ShA h ∧ RFeeds h (s 0 0) (s 1) (s 7) (s 2) (s 3) (s 4) ∧ RMix h (s 0 1) (s 5) (s 6) ∧ RCol h (s 0 6) (s 9) (s 10) ∧ RSrch h ∧ RTank h (s 0 2) (s 0 3) (s 0 4) (s 0 5) (s 8) (s 0 0 * 4) ∧ ChS h 55 (s 0 0 * 4) ∧ GlA h 59 ∧ RLog h (s 0 7) (s 0 8) (s 0 9) (s 12) (s 13) (s 14) (s 15) (s 16) ∧ h[68]? = some oForecast ∧ ChS h 69 (s 0 0 * 4) ∧ ChS h 73 (s 0 0 * 4) ∧ FcY h (s 0 0 * 4) ∧ RRing h (s 0 10) (s 11) (s 17)
section RFR
variable {P : Nat → Prop} {h h' : List PC}
theorem at_fr {k : Nat} {x : Option PC} (e : h[k]? = x) (f : Fr P h h') (hp : ∀ j, k ≤ j → j ≤ k → ¬ P j) : h'[k]? = x := f.at (hp k (Nat.le_refl _) (Nat.le_refl _)) e
theorem ShA.fr' (a : ShA h) (f : Fr P h h') (hp : ∀ j, 1 ≤ j → j ≤ 3 → ¬ P j) : ShA h' := a.fr f ⟨hp _ (by omega) (by omega), hp _ (by omega) (by omega), hp _ (by omega) (by omega)⟩
theorem GlA.fr' {g : Nat} (a : GlA h g) (f : Fr P h h') (hp : ∀ j, g ≤ j → j ≤ g + 2 → ¬ P j) : GlA h' g := a.fr f ⟨hp _ (by omega) (by omega), hp _ (by omega) (by omega), hp _ (by omega) (by omega)⟩
theorem RFeeds.fr {nf : Nat} {kd mk db pr st : Nat → Nat} (a : RFeeds h nf kd mk db pr st) (f : Fr P h h') (hp : ∀ j, 4 ≤ j → j ≤ 17 → ¬ P j) : RFeeds h' nf kd mk db pr st := by
  obtain ⟨a1, a2, a3, a4, a5, a6, a7⟩ := a
  exact ⟨f.at (hp _ (by omega) (by omega)) a1, a2.fr f (hp _ (by omega) (by omega)), f.at (hp _ (by omega) (by omega)) a3, fun i hi => (a4 i hi).fr f (hp _ (by omega) (by omega)), a5.fr f (hp _ (by omega) (by omega)), a6.fr f (hp _ (by omega) (by omega)), a7.fr f (hp _ (by omega) (by omega))⟩
theorem RMix.fr {mx : Nat} {sh tc : Nat → Nat} (a : RMix h mx sh tc) (f : Fr P h h') (hp : ∀ j, 18 ≤ j → j ≤ 20 → ¬ P j) : RMix h' mx sh tc := by
  obtain ⟨a1, a2, a3⟩ := a
  exact ⟨f.at (hp _ (by omega) (by omega)) a1, a2.fr f (hp _ (by omega) (by omega)), a3.fr f (hp _ (by omega) (by omega))⟩
theorem RCol.fr {nc : Nat} {le mo : Nat → Nat} (a : RCol h nc le mo) (f : Fr P h h') (hp : ∀ j, 21 ≤ j → j ≤ 35 → ¬ P j) : RCol h' nc le mo := by
  obtain ⟨a1, a2, a3, a4, a5⟩ := a
  exact ⟨f.at (hp _ (by omega) (by omega)) a1, f.at (hp _ (by omega) (by omega)) a2, f.at (hp _ (by omega) (by omega)) a3, fun i hi => (a4 i hi).fr f (hp _ (by omega) (by omega)), fun i hi => (a5 i hi).fr f (hp _ (by omega) (by omega))⟩
theorem RSrch.fr (a : RSrch h) (f : Fr P h h') (hp : ∀ j, 36 ≤ j → j ≤ 38 → ¬ P j) : RSrch h' := by
  obtain ⟨x, y, z, a0, a1, a2, a3⟩ := a
  exact ⟨x, y, z, a0, f.at (hp _ (by omega) (by omega)) a1, f.at (hp _ (by omega) (by omega)) a2, f.at (hp _ (by omega) (by omega)) a3⟩
theorem RTank.fr {md n w p sz : Nat} {L : Nat → Nat} (a : RTank h md n w p L sz) (f : Fr P h h') (hp : ∀ j, 39 ≤ j → j ≤ 54 → ¬ P j) : RTank h' md n w p L sz := by
  obtain ⟨⟨x, a1⟩, a2⟩ := a
  exact ⟨⟨x, f.at (hp _ (by omega) (by omega)) a1⟩, a2.fr f (fun j h1 h2 => hp j h1 h2)⟩
theorem RLog.fr {hr wst put : Nat} {th ld gr nm ws : Nat → Nat} (a : RLog h hr wst put th ld gr nm ws) (f : Fr P h h') (hp : ∀ j, 62 ≤ j → j ≤ 67 → ¬ P j) : RLog h' hr wst put th ld gr nm ws := by
  obtain ⟨a1, a2, a3, a4, ⟨x, a5, a6⟩, ⟨y, a7, a8⟩⟩ := a
  exact ⟨f.at (hp _ (by omega) (by omega)) a1, a2.fr f (hp _ (by omega) (by omega)), a3.fr f (hp _ (by omega) (by omega)), a4.fr f (hp _ (by omega) (by omega)), ⟨x, f.at (hp _ (by omega) (by omega)) a5, a6⟩, ⟨y, f.at (hp _ (by omega) (by omega)) a7, a8⟩⟩
theorem FcY.fr {sz : Nat} (a : FcY h sz) (f : Fr P h h') (hp : ∀ j, 77 ≤ j → j ≤ 95 → ¬ P j) : FcY h' sz := by
  obtain ⟨⟨x1, x2, x3, x4, x5, a2⟩, a3, a4⟩ := a
  exact ⟨⟨x1, x2, x3, x4, x5, f.at (hp _ (by omega) (by omega)) a2⟩, a3.fr f (fun j h1 h2 => hp j h1 (by omega)), a4.fr' f (fun j h1 h2 => hp j (by omega) h2)⟩
theorem RRing.fr {z : Nat} {ch lt : Nat → Nat} (a : RRing h z ch lt) (f : Fr P h h') (hp : ∀ j, 96 ≤ j → j ≤ 105 → ¬ P j) : RRing h' z ch lt := by
  obtain ⟨a1, a2, a3, a4, ⟨o, a5, a6⟩⟩ := a
  exact ⟨f.at (hp _ (by omega) (by omega)) a1, f.at (hp _ (by omega) (by omega)) a2, fun i hi => (a3 i hi).fr f (hp _ (by omega) (by omega)), a4.fr f (hp _ (by omega) (by omega)), ⟨o, f.at (hp _ (by omega) (by omega)) a5, a6⟩⟩
end RFR
theorem ChS.wd {h : List PC} {q a b : Nat} (x : ChS h q a) (hab : a ≤ b) : ChS h q b := by
  obtain ⟨h1, h2, h3, ⟨l, h4, h5⟩⟩ := x
  exact ⟨h1, h2, h3, ⟨l, h4, fun i q1 q2 => h5 i (by omega) q2⟩⟩
theorem TankA.wd {h : List PC} {t a b : Nat} {L : Nat → Nat} (x : TankA h t L a) (hab : a ≤ b) : TankA h t L b := ⟨x.1, x.2.1, x.2.2.1, fun c hc => by
  obtain ⟨F, k1, k2⟩ := x.2.2.2 c hc
  exact ⟨F, k1, fun i q1 q2 => k2 i (by omega) q2⟩⟩
theorem TankS.wd {h : List PC} {t a b : Nat} (x : TankS h t a) (hab : a ≤ b) : TankS h t b := ⟨x.1, x.2.1, x.2.2.1, fun c hc => by
  obtain ⟨F, k1, k2⟩ := x.2.2.2 c hc
  exact ⟨F, k1, fun i q1 q2 => k2 i (by omega) q2⟩⟩
theorem FcY.wd {h : List PC} {a b : Nat} (x : FcY h a) (hab : a ≤ b) : FcY h b := ⟨x.1, x.2.1.wd hab, x.2.2⟩
theorem FcX.y {h : List PC} {sz : Nat} (a : FcX h sz) : FcY h sz := ⟨a.2.1, a.2.2.1, a.2.2.2⟩
/-- what always holds of the state -/
def Inv (s : St) : Prop :=
  (s 0 0 ≤ 8 ∧ s 0 1 ≤ 1 ∧ s 0 2 ≤ 1 ∧ (2 ≤ s 0 3 ∧ s 0 3 ≤ 6) ∧ (100 ≤ s 0 4 ∧ s 0 4 ≤ 100000) ∧ (1 ≤ s 0 5 ∧ s 0 5 ≤ s 0 4) ∧ s 0 6 ≤ 6 ∧ s 0 7 ≤ 400 ∧ s 0 8 ≤ s 0 9 ∧ s 0 9 ≤ 100000 * s 0 7 ∧ s 0 10 ≤ 6 ∧ s 0 11 ≤ s 0 6) ∧
  (∀ f, f < 8 → s 1 f < 4) ∧ (∀ f, f < 8 → s 2 f ≤ 100) ∧ (∀ f, f < 8 → s 3 f ≤ 10000) ∧ (∀ f, f < 8 → s 4 f ≤ 10000000) ∧
  (∀ f, f < 8 → s 5 f ≤ 1000) ∧ (∀ f, s 0 0 ≤ f → f < 8 → s 5 f = 0) ∧ (s 0 1 = 1 → sm (s 5) 8 = 1000) ∧
  (∀ f, f < 8 → s 6 f ≤ 1000) ∧ (∀ f, s 0 0 ≤ f → f < 8 → s 6 f = 0) ∧
  (∀ i, i < 32 → s 7 i ≤ 1000) ∧ (∀ f, f < s 0 0 → sm (fun t => s 7 (4 * f + t)) 4 = 1000) ∧
  (s 0 2 = 1 → ∀ c, c < s 0 3 → sm (fun i => s 8 (32 * c + i)) 32 = s 0 4) ∧ (s 0 2 = 1 → ∀ c i, c < s 0 3 → s 0 0 * 4 ≤ i → i < 32 → s 8 (32 * c + i) = 0) ∧
  (∀ i, i < 24 → s 9 i ≤ 1000) ∧ (∀ i, i < 24 → s 10 i ≤ 1000) ∧ (∀ i, i < 36 → s 11 i ≤ 1000) ∧ (∀ a, a < 6 → s 11 (6 * a + a) = 0) ∧
  (s 0 1 = 0 → ∀ f, f < 8 → s 5 f = 0) ∧ (∀ i, i < 400 → s 15 i ≤ 6) ∧ ∀ i, i < 400 → s 16 i ≤ 1
