/-! ===== heaps that grow ===== -/
def Mg (P : Nat → Prop) (h h' : List PC) : Prop := ∀ (i : Nat) (c : PC), ¬ P i → h[i]? = some c → h'[i]? = some c
theorem Mg.at {P : Nat → Prop} {h h' : List PC} {k : Nat} {c : PC} (f : Mg P h h') (hk : ¬ P k) (e : h[k]? = some c) : h'[k]? = some c := f k c hk e
theorem Mg.rf {P : Nat → Prop} {h : List PC} : Mg P h h := fun _ _ _ e => e
theorem Mg.ap {P : Nat → Prop} {h0 h h' : List PC} {n : Nat} {c : PC} (f : Mg P h0 h) (a : Ap h n c h') : Mg P h0 h' := fun i c hi e => a.2.1 i c (f i c hi e)
theorem Mg.apm {P : Nat → Prop} {h0 h h' : List PC} {n N K : Nat} (f : Mg P h0 h) (a : Apm h n N K h') : Mg P h0 h' := fun i c hi e => a.2.2.1 i c (f i c hi e)
theorem Mg.nw {P : Nat → Prop} {h0 h h' : List PC} {k : Nat} {c : PC} (f : Mg P h0 h) (a : Nw h k c h') (hk : P k) : Mg P h0 h' := fun i c hi e => by rw [a.2.1 i (fun q => hi (q ▸ hk))]; exact f i c hi e
theorem Mg.tr {P P' : Nat → Prop} {h0 h h' : List PC} (f : Mg P h0 h) (g : Mg P' h h') (hk : ∀ j, P' j → P j) : Mg P h0 h' := fun i c hi e => g i c (fun q => hi (hk i q)) (f i c hi e)
theorem Mg.wk {P P' : Nat → Prop} {h h' : List PC} (f : Mg P h h') (hk : ∀ j, P j → P' j) : Mg P' h h' := fun i c hi e => f i c (fun q => hi (hk i q)) e
theorem at_mg {P : Nat → Prop} {h h' : List PC} {k : Nat} {x : PC} (e : h[k]? = some x) (f : Mg P h h') (hp : ∀ j, k ≤ j → j ≤ k → ¬ P j) : h'[k]? = some x := f.at (hp k (Nat.le_refl _) (Nat.le_refl _)) e
section RMG
variable {P : Nat → Prop} {h h' : List PC}
theorem Ar.mg {k n : Nat} {f : Nat → Nat} (a : Ar h k n f) (fr : Mg P h h') (hk : ¬ P k) : Ar h' k n f := by
  obtain ⟨w, h1, h2⟩ := a
  exact ⟨w, fr.at hk h1, h2⟩
theorem ShA.mg (a : ShA h) (f : Mg P h h') (hp : ¬ P 1 ∧ ¬ P 2 ∧ ¬ P 3) : ShA h' := by
  obtain ⟨h1, ⟨R, h2⟩, ⟨Q, h3⟩⟩ := a
  exact ⟨f.at hp.1 h1, ⟨R, f.at hp.2.1 h2⟩, ⟨Q, f.at hp.2.2 h3⟩⟩
theorem GlA.mg {g : Nat} (a : GlA h g) (f : Mg P h h') (hp : ¬ P g ∧ ¬ P (g + 1) ∧ ¬ P (g + 2)) : GlA h' g := by
  obtain ⟨⟨x, h1⟩, ⟨R, h2⟩, ⟨Q, h3⟩⟩ := a
  exact ⟨⟨x, f.at hp.1 h1⟩, ⟨R, f.at hp.2.1 h2⟩, ⟨Q, f.at hp.2.2 h3⟩⟩
theorem TankS.mg {t sz : Nat} (a : TankS h t sz) (f : Mg P h h') (hp : ∀ j, t ≤ j → j ≤ t + 15 → ¬ P j) : TankS h' t sz := by
  refine ⟨f.at (hp _ (by omega) (by omega)) a.1, f.at (hp _ (by omega) (by omega)) a.2.1, fun c hc => ?_, fun c hc => ?_⟩
  · obtain ⟨w, h1⟩ := a.2.2.1 c hc
    exact ⟨w, f.at (hp _ (by omega) (by omega)) h1⟩
  · obtain ⟨w, h1, h2⟩ := a.2.2.2 c hc
    exact ⟨w, f.at (hp _ (by omega) (by omega)) h1, h2⟩
theorem TankA.mg {t sz : Nat} {L : Nat → Nat} (a : TankA h t L sz) (f : Mg P h h') (hp : ∀ j, t ≤ j → j ≤ t + 15 → ¬ P j) : TankA h' t L sz := by
  refine ⟨f.at (hp _ (by omega) (by omega)) a.1, f.at (hp _ (by omega) (by omega)) a.2.1, fun c hc => (a.2.2.1 c hc).mg f (hp _ (by omega) (by omega)), fun c hc => ?_⟩
  obtain ⟨w, h1, h2⟩ := a.2.2.2 c hc
  exact ⟨w, f.at (hp _ (by omega) (by omega)) h1, h2⟩
theorem ChS.mg {q sz : Nat} (a : ChS h q sz) (f : Mg P h h') (hp : ∀ j, q ≤ j → j ≤ q + 3 → ¬ P j) : ChS h' q sz := by
  obtain ⟨⟨x, a1⟩, ⟨y, a2⟩, ⟨z, a3⟩, ⟨u, a4, a5⟩⟩ := a
  exact ⟨⟨x, f.at (hp _ (by omega) (by omega)) a1⟩, ⟨y, f.at (hp _ (by omega) (by omega)) a2⟩, ⟨z, f.at (hp _ (by omega) (by omega)) a3⟩, ⟨u, f.at (hp _ (by omega) (by omega)) a4, a5⟩⟩
theorem ShA.mgx (a : ShA h) (f : Mg P h h') (hp : ∀ j, 1 ≤ j → j ≤ 3 → ¬ P j) : ShA h' := a.mg f ⟨hp _ (by omega) (by omega), hp _ (by omega) (by omega), hp _ (by omega) (by omega)⟩
theorem GlA.mgx {g : Nat} (a : GlA h g) (f : Mg P h h') (hp : ∀ j, g ≤ j → j ≤ g + 2 → ¬ P j) : GlA h' g := a.mg f ⟨hp _ (by omega) (by omega), hp _ (by omega) (by omega), hp _ (by omega) (by omega)⟩
theorem RFeeds.mg {nf : Nat} {kd mk db pr st : Nat → Nat} (a : RFeeds h nf kd mk db pr st) (f : Mg P h h') (hp : ∀ j, 4 ≤ j → j ≤ 17 → ¬ P j) : RFeeds h' nf kd mk db pr st := by
  obtain ⟨a1, a2, a3, a4, a5, a6, a7⟩ := a
  exact ⟨f.at (hp _ (by omega) (by omega)) a1, a2.mg f (hp _ (by omega) (by omega)), f.at (hp _ (by omega) (by omega)) a3, fun i hi => (a4 i hi).mg f (hp _ (by omega) (by omega)), a5.mg f (hp _ (by omega) (by omega)), a6.mg f (hp _ (by omega) (by omega)), a7.mg f (hp _ (by omega) (by omega))⟩
theorem RMix.mg {mx : Nat} {sh tc : Nat → Nat} (a : RMix h mx sh tc) (f : Mg P h h') (hp : ∀ j, 18 ≤ j → j ≤ 20 → ¬ P j) : RMix h' mx sh tc := by
  obtain ⟨a1, a2, a3⟩ := a
  exact ⟨f.at (hp _ (by omega) (by omega)) a1, a2.mg f (hp _ (by omega) (by omega)), a3.mg f (hp _ (by omega) (by omega))⟩
theorem RCol.mg {nc : Nat} {le mo : Nat → Nat} (a : RCol h nc le mo) (f : Mg P h h') (hp : ∀ j, 21 ≤ j → j ≤ 35 → ¬ P j) : RCol h' nc le mo := by
  obtain ⟨a1, a2, a3, a4, a5⟩ := a
  exact ⟨f.at (hp _ (by omega) (by omega)) a1, f.at (hp _ (by omega) (by omega)) a2, f.at (hp _ (by omega) (by omega)) a3, fun i hi => (a4 i hi).mg f (hp _ (by omega) (by omega)), fun i hi => (a5 i hi).mg f (hp _ (by omega) (by omega))⟩
theorem RSrch.mg (a : RSrch h) (f : Mg P h h') (hp : ∀ j, 36 ≤ j → j ≤ 38 → ¬ P j) : RSrch h' := by
  obtain ⟨x, y, z, a0, a1, a2, a3⟩ := a
  exact ⟨x, y, z, a0, f.at (hp _ (by omega) (by omega)) a1, f.at (hp _ (by omega) (by omega)) a2, f.at (hp _ (by omega) (by omega)) a3⟩
theorem RTank.mg {md n w p sz : Nat} {L : Nat → Nat} (a : RTank h md n w p L sz) (f : Mg P h h') (hp : ∀ j, 39 ≤ j → j ≤ 54 → ¬ P j) : RTank h' md n w p L sz := by
  obtain ⟨⟨x, a1⟩, a2⟩ := a
  exact ⟨⟨x, f.at (hp _ (by omega) (by omega)) a1⟩, a2.mg f (fun j h1 h2 => hp j h1 h2)⟩
theorem RLog.mg {hr wst put : Nat} {th ld gr nm ws : Nat → Nat} (a : RLog h hr wst put th ld gr nm ws) (f : Mg P h h') (hp : ∀ j, 62 ≤ j → j ≤ 67 → ¬ P j) : RLog h' hr wst put th ld gr nm ws := by
  obtain ⟨a1, a2, a3, a4, ⟨x, a5, a6⟩, ⟨y, a7, a8⟩⟩ := a
  exact ⟨f.at (hp _ (by omega) (by omega)) a1, a2.mg f (hp _ (by omega) (by omega)), a3.mg f (hp _ (by omega) (by omega)), a4.mg f (hp _ (by omega) (by omega)), ⟨x, f.at (hp _ (by omega) (by omega)) a5, a6⟩, ⟨y, f.at (hp _ (by omega) (by omega)) a7, a8⟩⟩
theorem FcY.mg {sz : Nat} (a : FcY h sz) (f : Mg P h h') (hp : ∀ j, 77 ≤ j → j ≤ 95 → ¬ P j) : FcY h' sz := by
  obtain ⟨⟨x1, x2, x3, x4, x5, a2⟩, a3, a4⟩ := a
  exact ⟨⟨x1, x2, x3, x4, x5, f.at (hp _ (by omega) (by omega)) a2⟩, a3.mg f (fun j h1 h2 => hp j h1 (by omega)), a4.mgx f (fun j h1 h2 => hp j (by omega) h2)⟩
theorem RRing.mg {z : Nat} {ch lt : Nat → Nat} (a : RRing h z ch lt) (f : Mg P h h') (hp : ∀ j, 96 ≤ j → j ≤ 105 → ¬ P j) : RRing h' z ch lt := by
  obtain ⟨a1, a2, a3, a4, ⟨o, a5, a6⟩⟩ := a
  exact ⟨f.at (hp _ (by omega) (by omega)) a1, f.at (hp _ (by omega) (by omega)) a2, fun i hi => (a3 i hi).mg f (hp _ (by omega) (by omega)), a4.mg f (hp _ (by omega) (by omega)), ⟨o, f.at (hp _ (by omega) (by omega)) a5, a6⟩⟩
theorem RepC.mg {s : St} (hR : RepC s h) (f : Mg P h h') (hp : ∀ j, j < 106 → ¬ P j) : RepC s h' := by
  obtain ⟨r0, rSh, rF, rM, rC, rS, rT, r55, rG, rL, r68, r69, r73, rY, rR⟩ := hR
  exact ⟨f.at (hp _ (by omega)) r0, rSh.mgx f (fun j h1 h2 => hp j (by omega)), rF.mg f (fun j h1 h2 => hp j (by omega)), rM.mg f (fun j h1 h2 => hp j (by omega)), rC.mg f (fun j h1 h2 => hp j (by omega)), rS.mg f (fun j h1 h2 => hp j (by omega)), rT.mg f (fun j h1 h2 => hp j (by omega)), r55.mg f (fun j h1 h2 => hp j (by omega)), rG.mgx f (fun j h1 h2 => hp j (by omega)), rL.mg f (fun j h1 h2 => hp j (by omega)), f.at (hp _ (by omega)) r68, r69.mg f (fun j h1 h2 => hp j (by omega)), r73.mg f (fun j h1 h2 => hp j (by omega)), rY.mg f (fun j h1 h2 => hp j (by omega)), rR.mg f (fun j h1 h2 => hp j (by omega))⟩
theorem RepC.fr {s : St} (hR : RepC s h) (f : Fr P h h') (hp : ∀ j, j < 106 → ¬ P j) : RepC s h' := hR.mg (fun i c hi e => f.at hi e) hp
theorem RepM.fr {s : St} (hR : RepM s h) (f : Fr P h h') (hp : ∀ j, 106 ≤ j → ¬ P j) : RepM s h' := by
  obtain ⟨m0, mF, mL, mC, mH, mR, mS⟩ := hR
  exact ⟨f.at (hp _ (by omega)) m0, mF.fr f (fun j h1 h2 => hp j (by omega)), mL.fr f (fun j h1 h2 => hp j (by omega)), mC.fr f (fun j h1 h2 => hp j (by omega)), mH.fr f (fun j h1 h2 => hp j (by omega)), mR.fr f (hp _ (by omega)), mS.fr f (fun j h1 => hp j (by omega))⟩
end RMG
