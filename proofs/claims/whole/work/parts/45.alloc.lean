/-! ===== rows that make cells ===== -/
def Ap (h : List PC) (n : Nat) (c : PC) (h' : List PC) : Prop := h'[n]? = some c ∧ (∀ (i : Nat) (c' : PC), h[i]? = some c' → h'[i]? = some c') ∧ h'.length = n + 1
def Apm (h : List PC) (n N K : Nat) (h' : List PC) : Prop := h'[n]? = some (aR N (rowsAt n N)) ∧ (∀ j, j < N → h'[n + 1 + j]? = some (aI K (fun _ => 0))) ∧ (∀ (i : Nat) (c' : PC), h[i]? = some c' → h'[i]? = some c') ∧ h'.length = n + 1 + N
theorem Ap.of {h : List PC} {n : Nat} (hn : h.length = n) (c : PC) : Ap h n c (h ++ [c]) := by
  subst hn
  exact ⟨by simp, fun i c' hi => by rw [List.getElem?_append_left (List.getElem?_eq_some_iff.mp hi).1]; exact hi, by simp⟩
section ALLOC
variable {M : MI} {G : GT} {pc : Nat} {L rest : List Value} {h : List PC} {cs sl : Nat} {Z : ZT}
theorem WO.push {D : va_G} {cy : Nat → ClassId} {B : Nat × Nat} {H H1 : Heap} {c : PC} (hW : WO D cy B h H) (he : va_at D clz (B.1 + h.length, tE cy B c) H1) (o1 : ∀ q, q < H.size → H1[q]? = H[q]?) (hz : H1.size = H.size + 1) : WO D cy B (h ++ [c]) H1 := by
  refine ⟨?_, by rw [hz, hW.2, List.length_append]; rfl⟩
  rw [wo_push]
  refine (hW.1.kept (fun k x hx => o1 x.1 ((hW.1 k x hx).lt))).app (fun k x hx => ?_)
  have h0 : k < 1 := (List.getElem?_eq_some_iff.mp hx).1
  rw [show k = 0 by omega] at hx
  cases hx
  exact he
theorem SS.push {A : Nat → Prop} {H0 H H1 : Heap} {locs : List Loc} (hS : va_S A H0 H locs) (o1 : ∀ q, q < H.size → H1[q]? = H[q]?) (hz : H.size ≤ H1.size) : va_S A H0 H1 locs := ⟨Nat.le_trans hS.1 hz, fun x h1 h2 => (o1 x (Nat.lt_of_lt_of_le h1 hS.1)).trans (hS.2.1 x h1 h2), hS.2.2⟩
theorem at_newa (pc' : Nat) {atype : ArrayType} {t N n : Nat} (a : vp_A) (hd : decode M.2.1 pc = .ok (.newarray atype, 2)) (hp : pc + 2 = pc') (hw : Cond.arrayClass (newarray.typeOf atype) ∈ gw) (ht : ∀ cy : Nat → ClassId, (tyl cy)[t]? = some (cy t, newarray.typeOf atype)) (hra : ∀ (U : State) (c : ClassId), va_RA U c (newarray.typeOf atype) → U.vm.findClass ("[" ++ (newarray.typeOf atype).toString) = some c) (ha : ∀ cA : ClassId, vp_cell cA a = arrV cA N (fun _ => defaultValue (newarray.typeOf atype))) (hA : ∀ b : Nat, tA b a = a) (hN : N < 2 ^ 31) (hbytes : N * componentBytes (newarray.typeOf atype) ≤ 536870912) (hl : h.length = n) (hcs : cs + 1 ≤ (rmOf M).cells) (hsl : sl + N ≤ (rmOf M).slots)
    (kk : ∀ h' : List PC, Ap h n (.inl (t, a)) h' → At M G pc' L (.ref n :: rest) h' (cs + 1) (sl + N) Z) : At M G pc L (.int (nI N) :: rest) h cs sl Z := by
  intro l p e s m args below meth c D cy B H locs ls hC hK hG hb hW hS hL
  subst hp
  refine va_newaK hC.1 hC.2.1 (hC.2.2.2.2.2.1 _ hw) rfl hd rfl (nI_pos hN) (nI_clamp hN) hbytes hcs hsl rfl fun H1 cA e1 z1 o1 hAr hNm => ?_
  have hcA : cA = cy t := by
    have h1 := hra s _ (hK.1.2 t _ (ht cy)).2
    exact Option.some.inj (hNm.symm.trans h1)
  subst hcA
  have hat : va_at D clz (B.1 + h.length, tE cy B (.inl (t, a))) H1 := by
    show H1[B.1 + h.length]? = some (vp_cell (cy t) (tA B.1 a))
    rw [← hW.2, hA, ha]
    exact e1
  have := kk (h ++ [.inl (t, a)]) (Ap.of hl _) l p e s m args below meth c D cy B H1 locs ls hC hK hG hb (hW.push hat o1 z1) (SS.push hS o1 (by omega)) hL
  rw [← hl] at this
  rw [hW.2]
  exact this
theorem at_new (pc' : Nat) {idx ci N n : Nat} {C : String} {T : u_T} (fs : List Value) (ty : Nat → FieldType) (hd : decode M.2.1 pc = .ok (.new idx, 3)) (hp : pc + 3 = pc') (hc : clz[ci]? = some (C, T, N)) (hwl : Cond.classLink M.1.cls idx C ∈ gw) (hwi : Cond.instantiable C N ∈ gw) (hwn : Cond.initialized C ∈ gw) (hin : ∀ w ∈ u_ws C T N, w ∈ gw) (hty : ∀ k, k < N → parseFieldDescriptor (T k).2.2.1 = some (ty k)) (hfs : ∀ j, j < N → defaultValue (ty j) = vp_V fs j) (hfb : ∀ B : Nat × Nat, fs.map (tv B) = fs) (hl : h.length = n) (hcs : cs + 1 ≤ (rmOf M).cells) (hsl : sl + N ≤ (rmOf M).slots)
    (kk : ∀ h' : List PC, Ap h n (.inr (ci, fs)) h' → At M G pc' L (.ref n :: rest) h' (cs + 1) (sl + N) Z) : At M G pc L rest h cs sl Z := by
  intro l p e s m args below meth c D cy B H locs ls hC hK hG hb hW hS hL
  subst hp
  have hT := hC.2.2.2.2.2.1
  have hKn := hK.1.1 ci _ hc
  refine W.newcK hC.1 hC.2.1 hC.2.2.2.2.1 (hT _ hwl) (hT _ hwi) (hT _ hwn) rfl hd hcs hsl hKn.2.1 rfl fun H1 kC hkC e1 z1 o1 => ?_
  have hat : va_at D clz (B.1 + h.length, tE cy B (.inr (ci, fs))) H1 := by
    show ∃ r : vw_C, clz[ci]? = some r ∧ t_OB (B.1 + h.length) (D.1 ci) r.2.2 (D.2 ci) H1 (vp_V (fs.map (tv B)))
    rw [← hW.2, hfb]
    exact ⟨_, hc, (u_born ty hT hin hKn hkC e1 hty).to hfs⟩
  have := kk (h ++ [.inr (ci, fs)]) (Ap.of hl _) l p e s m args below meth c D cy B H1 locs ls hC hK hG hb (hW.push hat o1 z1) (SS.push hS o1 (by omega)) hL
  rw [← hl] at this
  rw [hW.2]
  exact this
theorem inC_z (c : ClassId) (K : Nat) : Jvm.Free.Multi.innerC c K (defaultValue .int) = vp_cell c (K, .inl (fun _ => nI 0)) := by
  show ({ cls := c, slots := Array.replicate K (.int 0), vm := .none } : Cell) = arrV c K (fun _ => .int (nI 0))
  rw [arrV_new]
  rfl
theorem WO.pushes {D : va_G} {cy : Nat → ClassId} {B : Nat × Nat} {H : Heap} {K : Nat} : ∀ (d : Nat) (h : List PC), va_P D clz (wo cy B h) H → (∀ j, j < d → H[B.1 + h.length + j]? = some (vp_cell (cy 0) (K, .inl (fun _ => nI 0)))) → va_P D clz (wo cy B (h ++ List.replicate d (aI K (fun _ => 0)))) H
  | 0, h, hP, _ => by simpa using hP
  | d + 1, h, hP, hr => by
    have h1 : va_P D clz (wo cy B (h ++ [aI K (fun _ => 0)])) H := by
      rw [wo_push]
      refine hP.app (fun k x hx => ?_)
      have h0 : k < 1 := (List.getElem?_eq_some_iff.mp hx).1
      rw [show k = 0 by omega] at hx
      cases hx
      exact hr 0 (by omega)
    have h2 := WO.pushes d (h ++ [aI K (fun _ => 0)]) h1 (fun j hj => by
      have := hr (j + 1) (by omega)
      rw [List.length_append, List.length_singleton, show B.1 + (h.length + 1) + j = B.1 + h.length + (j + 1) by omega]
      exact this)
    rw [List.append_assoc] at h2
    exact h2
theorem at_mna (pc' : Nat) {idx N K n : Nat} (hd : decode M.2.1 pc = .ok (.multianewarray idx 2, 4)) (hp : pc + 4 = pc') (hwl : Cond.classLink M.1.cls idx "[[I" ∈ gw) (hw : Cond.arrayClass .int ∈ gw) (hN : N < 2 ^ 20) (hK0 : K < 2 ^ 20) (hl : h.length = n) (hcs : cs + (1 + N) ≤ (rmOf M).cells) (hsl : sl + (N + N * K) ≤ (rmOf M).slots)
    (kk : ∀ h' : List PC, Apm h n N K h' → At M G pc' L (.ref n :: rest) h' (cs + 1 + N) (sl + N + N * K) Z) : At M G pc L (.int (nI K) :: .int (nI N) :: rest) h cs sl Z := by
  intro l p e s m args below meth c D cy B H locs ls hC hK hG hb hW hS hL
  subst hp
  have hT := hC.2.2.2.2.2.1
  have cN : (nI N).toNatClampNeg = N := nI_clamp (by omega)
  have cK : (nI K).toNatClampNeg = K := nI_clamp (by omega)
  intro T0 hT0 Xs
  have hov : (Cond.arrayOver (.array .int)).before args s = true := aoa_moved (u := s) (U := s) (Vm.Alike.refl s.vm) hK.2.2
  have hb4 : componentBytes .int ≤ 8 := by decide
  have hKb : K * componentBytes .int ≤ K * 8 := Nat.mul_le_mul (Nat.le_refl K) hb4
  obtain ⟨vm₁, cA, comp, -, fA, fC, hO, -, X', step⟩ := Xs.multianewarray2F (ty := .int) hC.1 hC.2.2.2.2.1 (hT _ hwl) hov (hT _ hw) (g := F0 m pc ls (.int (nI K) :: .int (nI N) :: rest.map (tv B))) rfl (by rw [hC.2.1]; exact hd) rfl (nI_pos (by omega)) (nI_pos (by omega)) (by rw [cN]; omega) (by rw [cK]; omega) (by rw [cK]; omega) (by decide) (by decide) (by rw [cN]; exact hcs) (by rw [cN, cK]; exact hsl)
  rw [cN, cK] at X' step
  have ec : comp = cy 0 := by
    have h1 : s.vm.findClass ("[" ++ FieldType.int.toString) = some (cy 0) := (hK.1.2 0 _ rfl).2
    exact Option.some.inj (fC.symm.trans h1)
  have eA : cA = cy 3 := by
    have h1 : s.vm.findClass ("[" ++ (FieldType.array .int).toString) = some (cy 3) := (hK.1.2 3 _ rfl).2
    exact Option.some.inj (fA.symm.trans h1)
  subst ec
  subst eA
  generalize hF : Jvm.Free.Multi.fill (T0.setVm vm₁) (cy 3) (cy 0) N K (defaultValue .int) N = F at X' step
  have hTh : (T0.setVm vm₁).heap = H := hT0
  obtain ⟨f1, f2, -, -⟩ := Jvm.Free.Multi.fill_facts (T0.setVm vm₁) (cy 3) (cy 0) N K (defaultValue .int) N
  rw [hF, hTh] at f1 f2
  have hold : ∀ x : Nat, x < H.size → F.heap[x]? = H[x]? := fun x hx => by
    have := Jvm.Free.Multi.fill_old (T0.setVm vm₁) (cy 3) (cy 0) N K (defaultValue .int) (a := x) (by rw [hTh]; exact hx) N
    rw [hF, hTh] at this
    exact this
  have hrow : ∀ j : Nat, j < N → F.heap[H.size + 1 + j]? = some (vp_cell (cy 0) (K, .inl (fun _ => nI 0))) := fun j hj => by
    have := Jvm.Free.Multi.fill_inner (T0.setVm vm₁) (cy 3) (cy 0) N K (defaultValue .int) N j hj
    rw [hF, hTh, inC_z] at this
    exact this
  rw [vr_outer] at f2
  have hat : va_at D clz (B.1 + h.length, tE cy B (aR N (rowsAt n N))) F.heap := by
    show F.heap[B.1 + h.length]? = some (vp_cell (cy 3) (tA B.1 (N, .inr (.inr (.inr (.inr (rowsAt n N)))))))
    rw [← hW.2, f2]
    congr 1
    show _ = vp_cell (cy 3) (N, .inr (.inr (.inr (.inr (fun i => (rowsAt n N i).map (fun k => B.1 + k))))))
    rw [vp_cell_q]
    congr 1
    funext j
    unfold rowsAt
    by_cases hj : j < N
    · rw [if_pos hj, if_pos hj, hW.2, hl]
      show va_rf (some (B.1 + n + 1 + j)) = va_rf (some (B.1 + (n + 1 + j)))
      rw [show B.1 + n + 1 + j = B.1 + (n + 1 + j) by omega]
    · rw [if_neg hj, if_neg hj]; rfl
  have hP0 : va_P D clz (wo cy B h) F.heap := hW.1.kept (fun k x hx => hold x.1 ((hW.1 k x hx).lt))
  have hP1 : va_P D clz (wo cy B (h ++ [aR N (rowsAt n N)])) F.heap := by
    rw [wo_push]
    refine hP0.app (fun k x hx => ?_)
    have h0 : k < 1 := (List.getElem?_eq_some_iff.mp hx).1
    rw [show k = 0 by omega] at hx
    cases hx
    exact hat
  have hP2 := WO.pushes N (h ++ [aR N (rowsAt n N)]) hP1 (fun j hj => by
    have := hrow j hj
    rw [hW.2] at this
    rw [List.length_append, List.length_singleton, show B.1 + (h.length + 1) + j = B.1 + h.length + 1 + j by omega]
    exact this)
  have hap : Apm h n N K ((h ++ [aR N (rowsAt n N)]) ++ List.replicate N (aI K (fun _ => 0))) := by
    subst hl
    refine ⟨?_, fun j hj => ?_, fun i c' hi => ?_, ?_⟩
    · rw [List.getElem?_append_left (by simp)]; simp
    · rw [List.getElem?_append_right (by simp)]
      simp [hj]
    · have := (List.getElem?_eq_some_iff.mp hi).1
      rw [List.getElem?_append_left (by simp; omega), List.getElem?_append_left this]; exact hi
    · simp; omega
  have hWO : WO D cy B ((h ++ [aR N (rowsAt n N)]) ++ List.replicate N (aI K (fun _ => 0))) F.heap := ⟨hP2, by rw [f1, hW.2]; simp; omega⟩
  obtain ⟨t, a1, b1⟩ := kk _ hap l p e s m args below meth c D cy B F.heap locs ls hC hK hG hb hWO (SS.push hS hold (by rw [f1]; omega)) hL F rfl X'
  refine ⟨t, step t ?_, b1⟩
  have e9 : T0.heap.size = B.1 + n := by rw [hT0, hW.2, hl]
  rw [e9]
  exact a1
end ALLOC
