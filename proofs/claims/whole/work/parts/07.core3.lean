/-! ===== answers, calls ===== -/
section ATC
variable {M : MI} {G : GT} {pc : Nat} {L rest : List Value} {h : List PC} {cs sl : Nat} {Z : ZT} {Q : Option Value → List PC → Prop}
theorem at_iret {v : Int32} (hd : decode M.2.1 pc = .ok (.ireturn, 1)) (hr : M.2.2.2.1 = some .int) (hc : cs ≤ (rmOf M).cells) (hs : sl ≤ (rmOf M).slots) (hq : Q (some (.int v)) h) : At M G pc L [.int v] h cs sl (ZM M Q) := by
  intro l p e s m args below meth c D cy B H locs ls hC hK hG hb hW hS hL
  refine W.widen hc hs ?_
  exact W.iret (v := v) hC.1 hC.2.1 (hC.2.2.2.1.trans hr) (fun t ht _ => ⟨⟨some (.int v), h, rfl, hq, by rw [ht]; exact hW⟩, hS.F ht⟩) hS.2.2 hd hC.2.2.2.2.2.2.1
theorem at_zret {v : Int32} (hd : decode M.2.1 pc = .ok (.ireturn, 1)) (hr : M.2.2.2.1 = some .boolean) (hn : narrow .boolean (.int v) = .int v) (hc : cs ≤ (rmOf M).cells) (hs : sl ≤ (rmOf M).slots) (hq : Q (some (.int v)) h) : At M G pc L [.int v] h cs sl (ZM M Q) := by
  intro l p e s m args below meth c D cy B H locs ls hC hK hG hb hW hS hL
  refine W.widen hc hs ?_
  exact W.zret (v := v) hC.1 hC.2.1 (hC.2.2.2.1.trans hr) hn (fun t ht _ => ⟨⟨some (.int v), h, rfl, hq, by rw [ht]; exact hW⟩, hS.F ht⟩) hS.2.2 hd hC.2.2.2.2.2.2.1
theorem at_vret (hd : decode M.2.1 pc = .ok (.return_, 1)) (hr : M.2.2.2.1 = none) (hc : cs ≤ (rmOf M).cells) (hs : sl ≤ (rmOf M).slots) (hq : Q none h) : At M G pc L [] h cs sl (ZM M Q) := by
  intro l p e s m args below meth c D cy B H locs ls hC hK hG hb hW hS hL
  refine W.widen hc hs ?_
  exact W.vret hC.1 hC.2.1 (hC.2.2.2.1.trans hr) (fun t ht _ => ⟨⟨none, h, rfl, hq, by rw [ht]; exact hW⟩, hS.F ht⟩) hS.2.2 hd hC.2.2.2.2.2.2.1
theorem at_aret {a : Nat} (hd : decode M.2.1 pc = .ok (.areturn, 1)) (hr : M.2.2.2.1 = some (.array .int)) (hc : cs ≤ (rmOf M).cells) (hs : sl ≤ (rmOf M).slots) (hq : Q (some (.ref a)) h) : At M G pc L [.ref a] h cs sl (ZM M Q) := by
  intro l p e s m args below meth c D cy B H locs ls hC hK hG hb hW hS hL
  refine W.widen hc hs ?_
  exact W.aret (v := .ref (B.1 + a)) hC.1 hC.2.1 (hC.2.2.2.1.trans hr) (Or.inr ⟨_, rfl⟩) (Or.inr ⟨_, rfl⟩) (fun t ht _ => ⟨⟨some (.ref a), h, rfl, hq, by rw [ht]; exact hW⟩, hS.F ht⟩) hS.2.2 hd hC.2.2.2.2.2.2.1
theorem w_run {p : Program} {l : Launch} {e : Env} {R : Room} {s : State} {m : MethodId} {args : Array Value} {below : List Frame} {meth : Method} {c : Code} {H H0 : Heap} {locs : List Loc} {cells slots mc ms : Nat} {QQm : State → Prop} {ls : Array Slot} {st0 rest : List Value} {D : va_G} {cy : Nat → ClassId} {B : Nat × Nat} {a : Array Value} {Q : Option Value → List PC → Prop}
    (hr : va_Run p l e R s m args below meth c H locs cells slots mc ms (F0 m pc ls st0) rest (QQ D cy B Q a) (fun q => B.1 ≤ q)) (hS : va_S (fun q => B.1 ≤ q) H0 H locs)
    (kk : ∀ (r : Option Value) (h' : List PC) (H1 : Heap) (locs1 : List Loc), Q r h' → WO D cy B h' H1 → va_S (fun q => B.1 ≤ q) H0 H1 locs1 → W p l e R s m args below meth c H1 locs1 (cells + mc) (slots + ms) QQm (F0 m (pc + 3) ls ((r.map (tv B)).toList ++ rest))) : W p l e R s m args below meth c H locs cells slots QQm (F0 m pc ls st0) := by
  intro T hT X
  obtain ⟨v, st₀, t, T', Ls, h0, X', hLs, e1, e2, ⟨⟨r, h', hv, hp, hb⟩, hz, hk⟩, st⟩ := hr T hT X
  cases hv
  rw [h0] at hz hk
  obtain ⟨t2, a1, b1⟩ := kk r h' T'.heap (locs ++ Ls) hp (by rw [e1]; exact hb)
    ⟨Nat.le_trans hS.1 (by rw [e1]; exact hz), fun q h1 h2 => by rw [e1, hk q (Nat.lt_of_lt_of_le h1 hS.1) h2]; exact hS.2.1 q h1 h2, fun q hq => by
      rcases List.mem_append.mp hq with h | h
      · exact hS.2.2 q h
      · exact hLs q h⟩ T' rfl X'
  exact ⟨t2, st t2 a1, b1⟩
/-- what a callee is, by the words -/
def CL (M : MI) (n : Nat) : Prop := Cond.initialized M.1.cls ∈ gw ∧ Cond.code M.1 M.2.1 M.2.2.1 M.2.2.2.1 ∈ gw ∧ (M.1.cls ≠ "java/lang/invoke/MethodHandle" ∧ M.1.cls ≠ "java/lang/invoke/VarHandle" ∧ (parseMethodDescriptor M.1.desc).map (fun d => d.parameters.length) = some n)
def VLk (M : MI) : Prop := Cond.instanceMethod M.1 ∈ gw ∧ Cond.selects M.1.cls M.1 M.1 ∈ gw
def RMf (M M' : MI) : Prop := (rmOf M').frames + 1 ≤ (rmOf M).frames ∧ 8 + (M'.2.2.1 + 11) + (rmOf M').locals ≤ (rmOf M).locals
theorem mw_good {M : MI} (h : Cond.code M.1 M.2.1 M.2.2.1 M.2.2.2.1 ∈ gw) : GoodIn gw (mw M) := fun w hw => by
  rcases List.mem_cons.mp hw with e | e
  · subst e; exact ⟨h, good_of_word (List.mem_filter.mp h).2⟩
  · exact ⟨e, good_of_word (List.mem_filter.mp e).2⟩
theorem sum_cat (B : Nat × Nat) (l : List Value) : ((l.map (tv B)).map fun v => v.category).sum = (l.map fun v => v.category).sum := by
  rw [List.map_map]; congr 1; exact List.map_congr_left (fun v _ => tv_cat B v)
theorem at_invV (pc' : Nat) (As rest : List Value) {st : List Value} {M' : MI} {idx k n ci : Nat} {fs : List Value} {Q' : Option Value → List PC → Prop} (hct : Ct M' (.ref k :: As) h Q') (hd : decode M.2.1 pc = .ok (.invokevirtual idx, 3)) (hp : pc + 3 = pc') (hst : st = As.reverse ++ .ref k :: rest) (hh : h[k]? = some (.inr (ci, fs))) (hci : (clz[ci]?).map (fun q => q.1) = some M'.1.cls)
    (hl : Cond.methodLink M.1.cls idx M'.1 ∈ gw) (hcl : CL M' n) (hv : VLk M') (hn : As.length = n) (hcat : (rest.map fun v => v.category).sum ≤ 8) (hrm : RMf M M') (hcs : cs + (rmOf M').cells ≤ (rmOf M).cells ∧ sl + (rmOf M').slots ≤ (rmOf M).slots)
    (kk : ∀ (r : Option Value) (h' : List PC), Q' r h' → At M G pc' L (r.toList ++ rest) h' (cs + (rmOf M').cells) (sl + (rmOf M').slots) Z) : At M G pc L st h cs sl Z := by
  intro l p e s m args below meth c D cy B H locs ls hC hK hG hb hW hS hL
  subst hp; subst hst
  have hT := hC.2.2.2.2.2.1
  obtain ⟨q, hq1, hq2⟩ : ∃ q, clz[ci]? = some q ∧ q.1 = M'.1.cls := by
    cases hq : clz[ci]? with
    | none => rw [hq] at hci; cases hci
    | some q => rw [hq] at hci; exact ⟨q, rfl, Option.some.inj hci⟩
  have hrec := va_recv hK.1 hW.1 hq1 (wo_get hh)
  rw [hq2] at hrec
  have cw : CallW (rmOf M) s args M.1.cls M'.1.cls idx M'.1 M'.2.1 M'.2.2.1 M'.2.2.2.1 (mw M') (rmOf M') (rmOf M').cells (rmOf M').slots n :=
    ⟨callB_of n hT (mw_good hcl.2.1) rfl rfl rfl (hT _ hcl.1) (hT _ hl) hcl.2.2 hrm, hT _ hv.1, hT _ hv.2⟩
  refine w_run (va_runV (As := As.map (tv B)) (rest := rest.map (tv B)) (b := B.1 + k) ⟨hC.1, hC.2.1, hC.2.2.1, hC.2.2.2.2.1, hT⟩ (hct l D cy B) cw ⟨PP_blind, hrec, fun U hU hWm => ⟨rfl, KK_warm hWm hK, by rw [hU]; exact hW⟩⟩ rfl (by rw [List.length_map]; exact hn) hL.1 (by show List.map (tv B) _ = _; rw [List.map_append, List.map_reverse]; rfl) (lv_room (by rw [sum_cat]; exact hcat)) hd hcs) hS (fun r h' H1 locs1 hq hW1 hS1 => ?_)
  have := kk r h' hq l p e s m args below meth c D cy B H1 locs1 ls hC hK hG hb hW1 hS1 hL
  rw [List.map_append] at this
  rw [show (r.map (tv B)).toList = r.toList.map (tv B) by cases r <;> rfl]
  exact this
theorem at_invS (pc' : Nat) (As rest : List Value) {st : List Value} {M' : MI} {idx n : Nat} {Q' : Option Value → List PC → Prop} (hct : Ct M' As h Q') (hd : decode M.2.1 pc = .ok (.invokestatic idx, 3)) (hp : pc + 3 = pc') (hst : st = As.reverse ++ rest)
    (hl : Cond.methodLink M.1.cls idx M'.1 ∈ gw) (hcl : CL M' n) (hv : Cond.static M'.1 ∈ gw) (hn : As.length = n) (hcat : (rest.map fun v => v.category).sum ≤ 8) (hrm : RMf M M') (hcs : cs + (rmOf M').cells ≤ (rmOf M).cells ∧ sl + (rmOf M').slots ≤ (rmOf M).slots)
    (kk : ∀ (r : Option Value) (h' : List PC), Q' r h' → At M G pc' L (r.toList ++ rest) h' (cs + (rmOf M').cells) (sl + (rmOf M').slots) Z) : At M G pc L st h cs sl Z := by
  intro l p e s m args below meth c D cy B H locs ls hC hK hG hb hW hS hL
  subst hp; subst hst
  have hT := hC.2.2.2.2.2.1
  have cw : CallB (rmOf M) s args M.1.cls idx M'.1 M'.2.1 M'.2.2.1 M'.2.2.2.1 (mw M') (rmOf M') (rmOf M').cells (rmOf M').slots n :=
    callB_of n hT (mw_good hcl.2.1) rfl rfl rfl (hT _ hcl.1) (hT _ hl) hcl.2.2 hrm
  refine w_run (va_runS (As := As.map (tv B)) (rest := rest.map (tv B)) ⟨hC.1, hC.2.1, hC.2.2.1, hC.2.2.2.2.1, hT⟩ (hct l D cy B) ⟨cw, hT _ hv⟩ ⟨PP_blind, fun U hU hWm => ⟨rfl, KK_warm hWm hK, by rw [hU]; exact hW⟩⟩ rfl (by rw [List.length_map]; exact hn) hL.1 (by show List.map (tv B) _ = _; rw [List.map_append, List.map_reverse]) (lv_room (by rw [sum_cat]; exact hcat)) hd hcs) hS (fun r h' H1 locs1 hq hW1 hS1 => ?_)
  have := kk r h' hq l p e s m args below meth c D cy B H1 locs1 ls hC hK hG hb hW1 hS1 hL
  rw [List.map_append] at this
  rw [show (r.map (tv B)).toList = r.toList.map (tv B) by cases r <;> rfl]
  exact this
/-- a constructor, of this class or of another -/
theorem at_invI (pc' : Nat) (As rest : List Value) {st : List Value} {M' : MI} {idx k n : Nat} {Q' : Option Value → List PC → Prop} (hct : Ct M' (.ref k :: As) h Q') (hd : decode M.2.1 pc = .ok (.invokespecial idx, 3)) (hp : pc + 3 = pc') (hst : st = As.reverse ++ .ref k :: rest) (hnm : M'.1.name = "<init>") (hret : M'.2.2.2.1 = none)
    (hl : Cond.methodLink M.1.cls idx M'.1 ∈ gw ∨ ∃ host, Cond.methodLinkNest M.1.cls idx M'.1 host ∈ lw_tbl) (hcl : CL M' n) (hv : Cond.instanceMethod M'.1 ∈ gw) (hn : As.length = n) (hcat : (rest.map fun v => v.category).sum ≤ 8) (hrm : RMf M M') (hcs : cs + (rmOf M').cells ≤ (rmOf M).cells ∧ sl + (rmOf M').slots ≤ (rmOf M).slots)
    (kk : ∀ (r : Option Value) (h' : List PC), Q' r h' → At M G pc' L (r.toList ++ rest) h' (cs + (rmOf M').cells) (sl + (rmOf M').slots) Z) : At M G pc L st h cs sl Z := by
  intro l p e s m args below meth c D cy B H locs ls hC hK hG hb hW hS hL
  subst hp; subst hst
  have hT := hC.2.2.2.2.2.1
  have hrun : va_Run p l e (rmOf M) s m args below meth c H locs cs sl (rmOf M').cells (rmOf M').slots (F0 m pc ls ((As.reverse ++ .ref k :: rest).map (tv B))) (rest.map (tv B)) (QQ D cy B Q' (Value.ref (B.1 + k) :: As.map (tv B)).toArray) (fun q => B.1 ≤ q) := by
    rcases hl with hl | ⟨host, hl⟩
    · have cw : CallB (rmOf M) s args M.1.cls idx M'.1 M'.2.1 M'.2.2.1 none (mw M') (rmOf M') (rmOf M').cells (rmOf M').slots n := by
        have := callB_of (R := rmOf M) (rm := rmOf M') (mc := (rmOf M').cells) (ms := (rmOf M').slots) n hT (mw_good hcl.2.1) rfl rfl rfl (hT _ hcl.1) (hT _ hl) hcl.2.2 hrm
        rw [hret] at this; exact this
      exact va_runI (As := As.map (tv B)) (rest := rest.map (tv B)) (b := B.1 + k) ⟨hC.1, hC.2.1, hC.2.2.1, hC.2.2.2.2.1, hT⟩ (hct l D cy B) ⟨cw, hnm, hT _ hv⟩ ⟨PP_blind, fun U hU hWm => ⟨rfl, KK_warm hWm hK, by rw [hU]; exact hW⟩⟩ rfl (by rw [List.length_map]; exact hn) hL.1 (by show List.map (tv B) _ = _; rw [List.map_append, List.map_reverse]; rfl) (lv_room (by rw [sum_cat]; exact hcat)) hd hcs
    · have cw : va_CN (rmOf M) s args M.1.cls idx M'.1 host M'.2.1 M'.2.2.1 none (mw M') (rmOf M') (rmOf M').cells (rmOf M').slots n := by
        have := va_cnB (R := rmOf M) (rm := rmOf M') (mc := (rmOf M').cells) (ms := (rmOf M').slots) (host := host) n hT (mw_good hcl.2.1) rfl rfl rfl (hK.2.1 _ hl rfl) (hT _ hcl.1) hcl.2.2 hrm
        rw [hret] at this; exact this
      exact va_runIN (As := As.map (tv B)) (rest := rest.map (tv B)) (b := B.1 + k) ⟨hC.1, hC.2.1, hC.2.2.1, hC.2.2.2.2.1, hT⟩ (hct l D cy B) ⟨cw, hnm, hT _ hv⟩ ⟨PP_blind, fun U hU hWm => ⟨rfl, KK_warm hWm hK, by rw [hU]; exact hW⟩⟩ rfl (by rw [List.length_map]; exact hn) hL.1 (by show List.map (tv B) _ = _; rw [List.map_append, List.map_reverse]; rfl) (lv_room (by rw [sum_cat]; exact hcat)) hd hcs
  refine w_run hrun hS (fun r h' H1 locs1 hq hW1 hS1 => ?_)
  have := kk r h' hq l p e s m args below meth c D cy B H1 locs1 ls hC hK hG hb hW1 hS1 hL
  rw [List.map_append] at this
  rw [show (r.map (tv B)).toList = r.toList.map (tv B) by cases r <;> rfl]
  exact this
theorem at_objInit (pc' : Nat) {idx k : Nat} (hd : decode M.2.1 pc = .ok (.invokespecial idx, 3)) (hp : pc + 3 = pc') (hl : Cond.methodLink M.1.cls idx Lib.objectInit ∈ gw) (hw : Cond.instanceMethod Lib.objectInit ∈ gw ∧ Cond.code Lib.objectInit ⟨#[0xb1]⟩ 1 none ∈ gw) (hcat : (rest.map fun v => v.category).sum ≤ 8) (hr : 1 ≤ (rmOf M).frames ∧ 20 ≤ (rmOf M).locals) (kk : At M G pc' L rest h cs sl Z) : At M G pc L (.ref k :: rest) h cs sl Z := by
  intro l p e s m args below meth c D cy B H locs ls hC hK hG hb hW hS hL
  subst hp
  have hT := hC.2.2.2.2.2.1
  refine W.objInit hC.1 hC.2.1 hC.2.2.2.2.1 (hT _ hl) (hT _ hw.1) (hT _ hw.2) rfl (hL.1.trans hC.2.2.1.symm) rfl hd hr.1 ?_ (kk l p e s m args below meth c D cy B H locs ls hC hK hG hb hW hS hL)
  have := hr.2
  have h2 := sum_cat B rest
  show 2 * 0 + ((rest.map (tv B)).map fun v => v.category).sum + 12 ≤ _
  omega
theorem at_max (pc' : Nat) {idx : Nat} {x y : Int32} (hd : decode M.2.1 pc = .ok (.invokestatic idx, 3)) (hp : pc + 3 = pc') (hl : Cond.methodLink M.1.cls idx Lib.Math.max.name ∈ gw) (hw : Cond.static Lib.Math.max.name ∈ gw ∧ Cond.initialized "java/lang/Math" ∈ gw ∧ Cond.code Lib.Math.max.name Lib.Math.max.code 2 (some .int) ∈ gw) (hcat : (rest.map fun v => v.category).sum ≤ 8) (hr : 1 ≤ (rmOf M).frames ∧ 21 ≤ (rmOf M).locals) (hcs : cs ≤ (rmOf M).cells ∧ sl ≤ (rmOf M).slots) (kk : At M G pc' L (.int (if x < y then y else x) :: rest) h cs sl Z) : At M G pc L (.int y :: .int x :: rest) h cs sl Z := by
  intro l p e s m args below meth c D cy B H locs ls hC hK hG hb hW hS hL
  subst hp
  have hT := hC.2.2.2.2.2.1
  refine va_mmax hC.1 hC.2.1 (hC.2.2.1.trans hL.1.symm) hC.2.2.2.2.1 (hT _ hl) (hT _ hw.1) (hT _ hw.2.1) (hT _ hw.2.2) hr.1 ?_ hcs.1 hcs.2 hd (kk l p e s m args below meth c D cy B H locs ls hC hK hG hb hW hS hL)
  have := hr.2
  have h2 := sum_cat B rest
  omega
theorem at_min (pc' : Nat) {idx : Nat} {x y : Int32} (hd : decode M.2.1 pc = .ok (.invokestatic idx, 3)) (hp : pc + 3 = pc') (hl : Cond.methodLink M.1.cls idx Lib.Math.min.name ∈ gw) (hw : Cond.static Lib.Math.min.name ∈ gw ∧ Cond.initialized "java/lang/Math" ∈ gw ∧ Cond.code Lib.Math.min.name Lib.Math.min.code 2 (some .int) ∈ gw) (hcat : (rest.map fun v => v.category).sum ≤ 8) (hr : 1 ≤ (rmOf M).frames ∧ 21 ≤ (rmOf M).locals) (hcs : cs ≤ (rmOf M).cells ∧ sl ≤ (rmOf M).slots) (kk : At M G pc' L (.int (if y < x then y else x) :: rest) h cs sl Z) : At M G pc L (.int y :: .int x :: rest) h cs sl Z := by
  intro l p e s m args below meth c D cy B H locs ls hC hK hG hb hW hS hL
  subst hp
  have hT := hC.2.2.2.2.2.1
  refine va_mmin hC.1 hC.2.1 (hC.2.2.1.trans hL.1.symm) hC.2.2.2.2.1 (hT _ hl) (hT _ hw.1) (hT _ hw.2.1) (hT _ hw.2.2) hr.1 ?_ hcs.1 hcs.2 hd (kk l p e s m args below meth c D cy B H locs ls hC hK hG hb hW hS hL)
  have := hr.2
  have h2 := sum_cat B rest
  omega
theorem at_copy (pc' : Nat) {idx k0 k1 n0 n1 : Nat} {f g : Nat → Int32} {sp dp n : Nat} (hd : decode M.2.1 pc = .ok (.invokestatic idx, 3)) (hp : pc + 3 = pc') (hl : Cond.methodLink M.1.cls idx arraycopyName ∈ gw) (hw : Cond.native arraycopyName ∈ gw ∧ Cond.static arraycopyName ∈ gw ∧ Cond.initialized "java/lang/System" ∈ gw) (hh0 : h[k0]? = some (aG n0 f)) (hh1 : h[k1]? = some (aG n1 g)) (hz : n0 < 2 ^ 31 ∧ n1 < 2 ^ 31) (h4 : sp + n ≤ n0) (h5 : dp + n ≤ n1) (hcat : (rest.map fun v => v.category).sum ≤ 8) (hr : 1 ≤ (rmOf M).frames ∧ 8 + (nativeFrameWords "java/lang/System" "arraycopy" 5 + 11) ≤ (rmOf M).locals)
    (kk : ∀ h' : List PC, Nw h k1 (aG n1 (va_cpy f g sp dp n)) h' → At M G pc' L rest h' cs sl Z) : At M G pc L (.int (nI n) :: .int (nI dp) :: .ref k1 :: .int (nI sp) :: .ref k0 :: rest) h cs sl Z := by
  intro l p e s m args below meth c D cy B H locs ls hC hK hG hb hW hS hL
  subst hp
  have hTs := hC.2.2.2.2.2.1
  intro T hT X
  have hc0 : H[B.1 + k0]? = some (vp_cell (cy 0) (n0, .inl f)) := hW.1 k0 _ (wo_get hh0)
  have hc1 : H[B.1 + k1]? = some (vp_cell (cy 0) (n1, .inl g)) := hW.1 k1 _ (wo_get hh1)
  obtain ⟨-, q0, hk0, cm0, hkk0⟩ := (hK.1.2 0 _ rfl).1 n0 (fun j => .int (f j))
  obtain ⟨-, q1, hk1, cm1, hkk1⟩ := (hK.1.2 0 _ rfl).1 n1 (fun j => .int (g j))
  have i1 : (nI sp).toInt = (sp : Int) := nI_toInt (by omega)
  have i2 : (nI dp).toInt = (dp : Int) := nI_toInt (by omega)
  have i3 : (nI n).toInt = (n : Int) := nI_toInt (by omega)
  have c1 : (nI sp).toNatClampNeg = sp := nI_clamp (by omega)
  have c2 : (nI dp).toNatClampNeg = dp := nI_clamp (by omega)
  have c3 : (nI n).toNatClampNeg = n := nI_clamp (by omega)
  have hsum := sum_cat B rest
  obtain ⟨vm', X', step⟩ := X.arraycopy hC.1 hC.2.2.2.2.1 (hTs _ hl) (hTs _ hw.1) (hTs _ hw.2.1) (hTs _ hw.2.2) (src := B.1 + k0) (dst := B.1 + k1) (cs := vp_cell (cy 0) (n0, .inl f)) (cd := vp_cell (cy 0) (n1, .inl g)) (srcPos := nI sp) (destPos := nI dp) (n := nI n) (by rw [hT]; exact hc0) (by rw [hT]; exact hc1)
    (fun _ h => by cases h) (fun _ h => by cases h) (fun h => by cases h) (fun h => by cases h) hk0 hk1 hkk0 hkk1 (by simp) (nI_pos (by omega)) (nI_pos (by omega)) (nI_pos (by omega))
    (by rw [i1, i3]; show ¬ _ > ((arrV (cy 0) n0 (fun j => .int (f j))).slots.size : Int); rw [arrV_size]; omega)
    (by rw [i2, i3]; show ¬ _ > ((arrV (cy 0) n1 (fun j => .int (g j))).slots.size : Int); rw [arrV_size]; omega)
    (fun vm₁ _ i hi => by
      rw [c3] at hi
      rw [c1]
      have e : (vp_cell (cy 0) (n0, .inl f)).slots.getD (sp + i) .null = .int (f (sp + i)) := by
        show (arrV (cy 0) n0 (fun j => .int (f j))).slots.getD _ _ = _
        rw [Array.getD_eq_getD_getElem?, arrV_read _ _ (by omega)]
        rfl
      refine ⟨?_, ?_⟩
      · rw [e]; rfl
      · rw [e]; exact trivial)
    (g := F0 m pc ls ((.int (nI n) :: .int (nI dp) :: .ref k1 :: .int (nI sp) :: .ref k0 :: rest).map (tv B))) rfl (hL.1.trans hC.2.2.1.symm) (rest := rest.map (tv B)) rfl (by rw [hC.2.1]; exact hd) hr.1 (by show 2 * 0 + _ + _ ≤ _; have := hr.2; omega)
  have e1 : copied (vp_cell (cy 0) (n0, .inl f)) (vp_cell (cy 0) (n1, .inl g)) (nI sp) (nI dp) (nI n) = vp_cell (cy 0) (n1, .inl (va_cpy f g sp dp n)) := by
    have := va_copied (fun z => Value.int z) (cy 0) (cy 0) (n1 := n1) (dp := dp) f g h4
    show (vp_cell (cy 0) (n1, .inl g)).storeRun (nI dp).toNatClampNeg ((vp_cell (cy 0) (n0, .inl f)).stretch (nI sp).toNatClampNeg (nI n).toNatClampNeg) = _
    rw [c1, c2, c3]
    exact this
  rw [e1] at X' step
  have hlt : B.1 + k1 < H.size := (Array.getElem?_eq_some_iff.mp hc1).1
  have hheap : ((T.setVm vm').setCell (B.1 + k1) (vp_cell (cy 0) (n1, .inl (va_cpy f g sp dp n)))).heap = H.setIfInBounds (B.1 + k1) (vp_cell (cy 0) (n1, .inl (va_cpy f g sp dp n))) := by rw [← hT]; rfl
  have oq : ∀ q : Nat, q ≠ B.1 + k1 → (H.setIfInBounds (B.1 + k1) (vp_cell (cy 0) (n1, .inl (va_cpy f g sp dp n))))[q]? = H[q]? := fun q hq => by simp [Array.getElem?_setIfInBounds, Ne.symm hq]
  have ha : va_at D clz (B.1 + k1, tE cy B (aG n1 (va_cpy f g sp dp n))) (H.setIfInBounds (B.1 + k1) (vp_cell (cy 0) (n1, .inl (va_cpy f g sp dp n)))) := by
    show (H.setIfInBounds _ _)[B.1 + k1]? = some _
    simp [Array.getElem?_setIfInBounds, hlt]
    rfl
  obtain ⟨t, a1, b1⟩ := kk _ (Nw.of hh1 _) l p e s m args below meth c D cy B _ _ ls hC hK hG hb (hW.upd hh1 ha oq (by simp)) ⟨by simp; exact hS.1, fun q g1 g2 => by
      rw [oq q (fun e => g2 (by rw [e]; exact Nat.le_add_right _ _))]
      exact hS.2.1 q g1 g2, fun q hq => by
      rcases List.mem_append.mp hq with h | h
      · exact hS.2.2 q h
      · obtain ⟨z, -, hz⟩ := List.mem_map.mp h
        rw [← hz]
        exact Nat.le_add_right _ _⟩ hL _ hheap X'
  exact ⟨t, step t a1, b1⟩
end ATC
