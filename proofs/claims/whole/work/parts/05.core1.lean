/-! ===== the plain world: cells by their numbers from a base on; the judgement At ===== -/
abbrev PC : Type := (Nat × vp_A) ⊕ (Nat × List Value)
def tv (B : Nat × Nat) (v : Value) : Value := match v with
  | .ref k => .ref (B.1 + k)
  | .retAddr _ => .ref B.2
  | w => w
def tA (b : Nat) (a : vp_A) : vp_A := (a.1, match a.2 with
  | .inr (.inr (.inr (.inr g))) => .inr (.inr (.inr (.inr (fun i => (g i).map (fun k => b + k)))))
  | x => x)
def tE (cy : Nat → ClassId) (B : Nat × Nat) (c : PC) : va_E := match c with
  | .inl a => .inl (cy a.1, tA B.1 a.2)
  | .inr o => .inr (o.1, o.2.map (tv B))
def wo (cy : Nat → ClassId) (B : Nat × Nat) (h : List PC) : va_W := h.mapIdx (fun k c => (B.1 + k, tE cy B c))
abbrev clz : List vw_C := [(RX0, TX0, 7), (RX1, TX1, 3), (RX2, TX2, 6), (RX3, TX3, 6), (RX4, TX4, 3), (RX5, TX5, 8), (RX6, TX6, 3), (RX7, TX7, 5), (RX8, TX8, 4), (RX9, TX9, 2), (RX10, TX10, 8), (RX11, TX11, 11), (RX12, TX12, 40)]
abbrev tyl (cy : Nat → ClassId) : List (ClassId × FieldType) := [(cy 0, .int), (cy 1, .long), (cy 2, .boolean), (cy 3, .array .int)]
theorem wo_get {cy : Nat → ClassId} {B : Nat × Nat} {h : List PC} {k : Nat} {c : PC} (e : h[k]? = some c) : (wo cy B h)[k]? = some (B.1 + k, tE cy B c) := by
  unfold wo; rw [List.getElem?_mapIdx, e]; rfl
theorem wo_get' {cy : Nat → ClassId} {B : Nat × Nat} {h : List PC} {k : Nat} {q : Nat × va_E} (e : (wo cy B h)[k]? = some q) : q.1 = B.1 + k ∧ k < h.length := by
  unfold wo at e
  rw [List.getElem?_mapIdx] at e
  cases hk : h[k]? with
  | none => rw [hk] at e; cases e
  | some c =>
    rw [hk] at e; cases e
    exact ⟨rfl, (List.getElem?_eq_some_iff.mp hk).1⟩
theorem wo_set (cy : Nat → ClassId) (B : Nat × Nat) (h : List PC) (k : Nat) (c : PC) : (wo cy B h).set k (B.1 + k, tE cy B c) = wo cy B (h.set k c) := by
  apply List.ext_getElem?
  intro j
  unfold wo
  rw [List.getElem?_mapIdx, List.getElem?_set, List.getElem?_set, List.getElem?_mapIdx, List.length_mapIdx]
  by_cases hj : k = j
  · subst hj
    by_cases hl : k < h.length <;> simp [hl]
  · simp [hj]
theorem wo_push (cy : Nat → ClassId) (B : Nat × Nat) (h : List PC) (c : PC) : wo cy B (h ++ [c]) = wo cy B h ++ [(B.1 + h.length, tE cy B c)] := by
  unfold wo
  rw [List.mapIdx_append]
  simp
theorem wo_D {cy : Nat → ClassId} {B : Nat × Nat} {h : List PC} : va_D (fun q => B.1 ≤ q) (wo cy B h) := by
  refine ⟨fun i j p q hi hj e => ?_, fun k q hk => ?_⟩
  · have h1 := (wo_get' hi).1
    have h2 := (wo_get' hj).1
    omega
  · have h1 := (wo_get' hk).1
    show B.1 ≤ q.1
    omega
/-- the good words -/
def gw : List Cond := lw_tbl.filter goodWord
theorem gw_in {w : Cond} (i : Nat) (h : lw_tbl[i]? = some w) (g : goodWord w = true) : w ∈ gw := List.mem_filter.mpr ⟨List.mem_of_getElem? h, g⟩
theorem gw_good {big : List Cond} (h : ∀ w ∈ gw, w ∈ big) : GoodIn big gw := fun w hw => ⟨h w hw, good_of_word (List.mem_filter.mp hw).2⟩
/-- a method: its name, bytes, locals, answer, room -/
abbrev MI : Type := MethodName × ByteArray × Nat × Option FieldType × Room
abbrev rmOf (M : MI) : Room := M.2.2.2.2
def mw (M : MI) : List Cond := Cond.code M.1 M.2.1 M.2.2.1 M.2.2.2.1 :: gw
def CX (M : MI) (p : Program) (s : State) (m : MethodId) (args : Array Value) (meth : Method) (c : Code) : Prop :=
  p.tables.exec = Jvm.exec ∧ c.code = M.2.1 ∧ c.maxLocals = M.2.2.1 ∧ meth.sig.returnType = M.2.2.2.1 ∧ s.vm.findClass M.1.cls = some m.cls ∧ (∀ w ∈ gw, w.before args s = true) ∧ meth.locks = false ∧ meth.name = M.1.name
def nst (w : Cond) : Bool := match w with
  | .methodLinkNest _ _ _ _ => true
  | _ => false
def KK (D : va_G) (cy : Nat → ClassId) (s : State) : Prop := va_K D clz (tyl cy) s ∧ (∀ w ∈ lw_tbl, nst w = true → va_Nw w s) ∧ (Cond.arrayOver (.array .int)).before #[] s = true
def WO (D : va_G) (cy : Nat → ClassId) (B : Nat × Nat) (h : List PC) (H : Heap) : Prop := va_P D clz (wo cy B h) H ∧ H.size = B.1 + h.length
def LO (B : Nat × Nat) (nL : Nat) (L : List Value) (ls : Array Slot) : Prop := ls.size = nL ∧ L.length = nL ∧ lv_wf ls ∧ ∀ (i : Nat) (v : Value), L[i]? = some v → v ≠ .null → ls[i]? = some (.val (tv B v))
abbrev ZT : Type := List Frame → Array Value → State → va_G → (Nat → ClassId) → Nat × Nat → State → Prop
abbrev GT : Type := State → Nat × Nat → Prop
def T0 : GT := fun _ _ => True
def At (M : MI) (G : GT) (pc : Nat) (L st : List Value) (h : List PC) (cs sl : Nat) (Z : ZT) : Prop :=
  ∀ (l : Launch) (p : Program) (e : Env) (s : State) (m : MethodId) (args : Array Value) (below : List Frame) (meth : Method) (c : Code) (D : va_G) (cy : Nat → ClassId) (B : Nat × Nat) (H : Heap) (locs : List Loc) (ls : Array Slot),
    CX M p s m args meth c → KK D cy s → G s B → B.1 ≤ s.heap.size → WO D cy B h H → va_S (fun q => B.1 ≤ q) s.heap H locs → LO B M.2.2.1 L ls →
    W p l e (rmOf M) s m args below meth c H locs cs sl (Z below args s D cy B) (F0 m pc ls (st.map (tv B)))
def QQ (D : va_G) (cy : Nat → ClassId) (B : Nat × Nat) (Q : Option Value → List PC → Prop) : Array Value → State → Outcome → State → Prop := fun _ st oc t =>
  (∃ (r : Option Value) (h : List PC), oc = .returned (r.map (tv B)) ∧ Q r h ∧ WO D cy B h t.heap) ∧ va_F (fun q => B.1 ≤ q) st t
def ZM (M : MI) (Q : Option Value → List PC → Prop) : ZT := fun below args s D cy B => MQ below (QQ D cy B Q) args s (rmOf M).cells (rmOf M).slots (fun q => B.1 ≤ q)
def PP (D : va_G) (cy : Nat → ClassId) (B : Nat × Nat) (av : List Value) (h : List PC) : Array Value → State → Prop := fun v U => v = (av.map (tv B)).toArray ∧ KK D cy U ∧ WO D cy B h U.heap
/-- the contract of a method: from these arguments and this heap it returns, with Q -/
def Ct (M : MI) (av : List Value) (h : List PC) (Q : Option Value → List PC → Prop) : Prop :=
  ∀ (l : Launch) (D : va_G) (cy : Nat → ClassId) (B : Nat × Nat), Met l M.1 (mw M) (rmOf M) (PP D cy B av h) (QQ D cy B Q) (rmOf M).cells (rmOf M).slots (fun q => B.1 ≤ q)
theorem aoa_moved {t : FieldType} {u U : State} {a a' : Array Value} (hvm : u.vm.Alike U.vm) (h : (Cond.arrayOver (.array t)).before a u = true) : (Cond.arrayOver (.array t)).before a' U = true := by
  obtain ⟨comp, c, k, h1, h2, h3, h4, h5⟩ := arrayOverA_spec h
  obtain ⟨k', hk', he⟩ := hvm.2.2 _ _ h3
  have hi : (U.vm.classes.findIdx? fun (x : Class) => match x.kind with | .array component _ => component == comp | _ => false) = some c := by
    refine (va_idx_bare U.vm comp).symm.trans ?_
    refine Eq.trans ?_ ((va_idx_bare u.vm comp).trans h2)
    first | rw [hvm.bare_eq] | rw [← hvm.bare_eq]
  have hkind : k'.kind = .array comp (.array t) := by rw [he]; exact h4
  have f1 : U.vm.findClass (FieldType.array t).toString = some comp := by rw [hvm.findClass]; exact h1
  have f2 : U.vm.findClass ("[" ++ (FieldType.array t).toString) = some c := by rw [hvm.findClass]; exact h5
  unfold Cond.before Cond.holds
  simp only [Cond.value]
  rw [f1, Option.bind_some]
  refine (congrArg (fun o : Option Nat => (o.bind (fun c => (U.vm.classes[c]?).map fun (k : Class) => match k.kind with | .array _ ty => decide (ty = FieldType.array t) && decide (U.vm.findClass ("[" ++ (FieldType.array t).toString) = some c) | _ => false) == some true)) hi).trans ?_
  simp [hk', hkind, f2]
theorem PP_blind {D : va_G} {cy : Nat → ClassId} {B : Nat × Nat} {av : List Value} {h : List PC} : FrameBlind (PP D cy B av h) := by
  intro a U g mk hq
  obtain ⟨h1, ⟨k1, k2, k3⟩, h2⟩ := hq
  exact ⟨h1, ⟨va_K.moved (u := U) (U := U.calling g mk a) (Vm.Alike.refl U.vm) k1, fun w hw hn => va_Nw.same (u := U) (U := U.calling g mk a) (by cases w <;> first | rfl | cases hn) rfl (k2 w hw hn), aoa_moved (u := U) (U := U.calling g mk a) (Vm.Alike.refl U.vm) k3⟩, h2⟩
theorem KK_warm {D : va_G} {cy : Nat → ClassId} {s U : State} (hW : s.WarmedH U.vm) (h : KK D cy s) : KK D cy U := by
  obtain ⟨k1, k2, k3⟩ := h
  refine ⟨va_K.moved hW.alike k1, fun w hw hn => ?_, ?_⟩
  · have h1 := k2 w hw hn
    cases w <;> first | exact va_Nw.warmM hW h1 | cases hn
  · exact aoa_moved hW.alike k3
/-! locals -/
theorem lv_args_cat1 : ∀ (vs : List Value) (k : Nat), (∀ v ∈ vs, v.category = 1) → ∀ (i : Nat) (v : Value), vs[i]? = some v → (k + i, v) ∈ lv_args k vs
  | [], _, _, i, v, h => by simp at h
  | a :: vs, k, hc, i, v, h => by
    have ha : a.category = 1 := hc a List.mem_cons_self
    unfold lv_args
    cases i with
    | zero => rw [List.getElem?_cons_zero] at h; cases h; exact List.mem_cons_self
    | succ i =>
      rw [List.getElem?_cons_succ] at h
      have hn : ¬ a.category = 2 := by omega
      rw [if_neg hn]
      have := lv_args_cat1 vs (k + 1) (fun v hv => hc v (List.mem_cons_of_mem _ hv)) i v h
      rw [show k + 1 + i = k + (i + 1) by omega] at this
      exact List.mem_cons_of_mem _ this
theorem lg_sl_cat1 : ∀ (vs : List Value), (∀ v ∈ vs, v.category = 1) → (lg_sl vs).length = vs.length
  | [], _ => rfl
  | a :: vs, hc => by
    have ha : a.category = 1 := hc a List.mem_cons_self
    have hn : ¬ a.category = 2 := by omega
    have ih := lg_sl_cat1 vs (fun v hv => hc v (List.mem_cons_of_mem _ hv))
    unfold lg_sl at ih ⊢
    rw [List.flatMap_cons, if_neg hn]
    simp only [List.length_append, List.length_cons, List.length_nil, ih]
    omega
theorem tv_cat (B : Nat × Nat) (v : Value) : (tv B v).category = v.category := by cases v <;> rfl
/-- a method's contract out of a walk of its body -/
theorem ct_of_at {M : MI} {av L : List Value} {h : List PC} {Q : Option Value → List PC → Prop} (hy : plainName M.1.cls = true) (hc : ∀ v ∈ av, v.category = 1) (hL : av ++ List.replicate (M.2.2.1 - av.length) .null = L) (hn : av.length ≤ M.2.2.1)
    (k : At M T0 0 L [] h 0 0 (ZM M Q)) : Ct M av h Q := by
  intro l D cy B
  refine Met.ofW (cc := M.2.1) (maxL := M.2.2.1) (ret := M.2.2.2.1) hy rfl ?_
  intro p e s m args below meth c s₁ BB hml hv
  obtain ⟨rfl, hK, hP⟩ := hv
  have hts := atoms_spec (ws := mw M) BB.pre
  have hown : s.vm.findClass M.1.cls = some m.cls := findClass_of_methodNamed BB.named
  have hnm := (name_of_methodNamed BB.named BB.method).1
  have hcat : ∀ v ∈ av.map (tv B), v.category = 1 := fun v hv => by
    obtain ⟨w, hw, rfl⟩ := List.mem_map.mp hv
    rw [tv_cat]; exact hc w hw
  have hlen : (lg_sl (av.map (tv B))).length ≤ M.2.2.1 := by rw [lg_sl_cat1 _ hcat, List.length_map]; exact hn
  have hl := lv_entry (av.map (tv B)) (n := M.2.2.1) hlen
  rw [lg_entry_eq]
  generalize (lg_sl (av.map (tv B)) ++ List.replicate (M.2.2.1 - (lg_sl (av.map (tv B))).length) Slot.unset).toArray = ls at hl ⊢
  have hLO : LO B M.2.2.1 L ls := by
    refine ⟨hl.1, by rw [← hL]; simp; omega, hl.2.1, fun i v hi hv => ?_⟩
    rw [← hL] at hi
    by_cases hlt : i < av.length
    · rw [List.getElem?_append_left hlt] at hi
      have h1 : (av.map (tv B))[i]? = some (tv B v) := by rw [List.getElem?_map, hi]; rfl
      have h2 := lv_args_cat1 _ 0 hcat i _ h1
      rw [Nat.zero_add] at h2
      exact hl.2.2 _ h2
    · rw [List.getElem?_append_right (by omega)] at hi
      have := List.eq_of_mem_replicate (List.mem_of_getElem? hi)
      exact absurd this hv
  exact k l p e s m _ below meth c D cy B s.heap [] ls ⟨BB.exec, BB.bytes, hml, BB.returns, hown, fun w hw => hts w (List.mem_cons_of_mem _ hw), BB.notSynchronized, hnm⟩ hK trivial (by have := hP.2; omega) hP va_S.rf hLO
