/-! ===== a row an instruction, over At ===== -/
section ATR
variable {M : MI} {G : GT} {pc : Nat} {L rest : List Value} {h : List PC} {cs sl : Nat} {Z : ZT}
theorem at_iconst (pc' : Nat) {n : Int} (v : Int32) (hd : decode M.2.1 pc = .ok (.iconst n, 1)) (hp : pc + 1 = pc') (hv : Int32.ofInt n = v) (kk : At M G pc' L (.int v :: rest) h cs sl Z) : At M G pc L (rest) h cs sl Z := by
  intro l p e s m args below meth c D cy B H locs ls hC hK hG hb hW hS hL
  subst hp
  exact lv_iconst hC.1 hC.2.1 hd hv (kk l p e s m args below meth c D cy B H locs ls hC hK hG hb hW hS hL)
theorem at_bipush (pc' : Nat) {n : Int} (v : Int32) (hd : decode M.2.1 pc = .ok (.bipush n, 2)) (hp : pc + 2 = pc') (hv : (Int8.ofInt n).toInt32 = v) (kk : At M G pc' L (.int v :: rest) h cs sl Z) : At M G pc L (rest) h cs sl Z := by
  intro l p e s m args below meth c D cy B H locs ls hC hK hG hb hW hS hL
  subst hp
  exact lv_bipush hC.1 hC.2.1 hd hv (kk l p e s m args below meth c D cy B H locs ls hC hK hG hb hW hS hL)
theorem at_sipush (pc' : Nat) {n : Int} (v : Int32) (hd : decode M.2.1 pc = .ok (.sipush n, 3)) (hp : pc + 3 = pc') (hv : (Int16.ofInt n).toInt32 = v) (kk : At M G pc' L (.int v :: rest) h cs sl Z) : At M G pc L (rest) h cs sl Z := by
  intro l p e s m args below meth c D cy B H locs ls hC hK hG hb hW hS hL
  subst hp
  exact lv_sipush hC.1 hC.2.1 hd hv (kk l p e s m args below meth c D cy B H locs ls hC hK hG hb hW hS hL)
theorem at_lconst (pc' : Nat) {n : Fin 2} (v : Int64) (hd : decode M.2.1 pc = .ok (.lconst n, 1)) (hp : pc + 1 = pc') (hv : Int64.ofNat (n : Nat) = v) (kk : At M G pc' L (.long v :: rest) h cs sl Z) : At M G pc L (rest) h cs sl Z := by
  intro l p e s m args below meth c D cy B H locs ls hC hK hG hb hW hS hL
  subst hp
  exact lv_lconst hC.1 hC.2.1 hd hv (kk l p e s m args below meth c D cy B H locs ls hC hK hG hb hW hS hL)
theorem at_ldc (pc' : Nat) {i : Nat} (v : Int32) (hd : decode M.2.1 pc = .ok (.ldc i, 2)) (hp : pc + 2 = pc') (hw : Cond.constant M.1.cls i v ∈ gw) (kk : At M G pc' L (.int v :: rest) h cs sl Z) : At M G pc L (rest) h cs sl Z := by
  intro l p e s m args below meth c D cy B H locs ls hC hK hG hb hW hS hL
  subst hp
  exact lv_ldc hC.1 hC.2.1 hC.2.2.2.2.1 (hC.2.2.2.2.2.1 _ hw) hd (kk l p e s m args below meth c D cy B H locs ls hC hK hG hb hW hS hL)
theorem at_ldc2 (pc' : Nat) {i : Nat} (v : Int64) (hd : decode M.2.1 pc = .ok (.ldc2_w i, 3)) (hp : pc + 3 = pc') (hw : Cond.constantLong M.1.cls i v ∈ gw) (kk : At M G pc' L (.long v :: rest) h cs sl Z) : At M G pc L (rest) h cs sl Z := by
  intro l p e s m args below meth c D cy B H locs ls hC hK hG hb hW hS hL
  subst hp
  exact lv_ldc2 hC.1 hC.2.1 hC.2.2.2.2.1 (hC.2.2.2.2.2.1 _ hw) hd (kk l p e s m args below meth c D cy B H locs ls hC hK hG hb hW hS hL)
theorem at_iload_n (pc' : Nat) {j : Fin 4} {i : Nat} {x : Int32} (hd : decode M.2.1 pc = .ok (.iload_n j, 1)) (hp : pc + 1 = pc') (hi : (j : Nat) = i) (hl : L[i]? = some (.int x)) (kk : At M G pc' L (.int x :: rest) h cs sl Z) : At M G pc L (rest) h cs sl Z := by
  intro l p e s m args below meth c D cy B H locs ls hC hK hG hb hW hS hL
  subst hp
  exact lv_iload_n hC.1 hC.2.1 hd hi (hL.2.2.2 i _ hl (fun q => by cases q)) (kk l p e s m args below meth c D cy B H locs ls hC hK hG hb hW hS hL)
theorem at_iload (pc' : Nat) {i : Nat} {x : Int32} (hd : decode M.2.1 pc = .ok (.iload i, 2)) (hp : pc + 2 = pc') (hl : L[i]? = some (.int x)) (kk : At M G pc' L (.int x :: rest) h cs sl Z) : At M G pc L (rest) h cs sl Z := by
  intro l p e s m args below meth c D cy B H locs ls hC hK hG hb hW hS hL
  subst hp
  exact lv_iload hC.1 hC.2.1 hd (hL.2.2.2 i _ hl (fun q => by cases q)) (kk l p e s m args below meth c D cy B H locs ls hC hK hG hb hW hS hL)
theorem at_lload_n (pc' : Nat) {j : Fin 4} {i : Nat} {x : Int64} (hd : decode M.2.1 pc = .ok (.lload_n j, 1)) (hp : pc + 1 = pc') (hi : (j : Nat) = i) (hl : L[i]? = some (.long x)) (kk : At M G pc' L (.long x :: rest) h cs sl Z) : At M G pc L (rest) h cs sl Z := by
  intro l p e s m args below meth c D cy B H locs ls hC hK hG hb hW hS hL
  subst hp
  exact lv_lload_n hC.1 hC.2.1 hd hi (hL.2.2.2 i _ hl (fun q => by cases q)) (kk l p e s m args below meth c D cy B H locs ls hC hK hG hb hW hS hL)
theorem at_lload (pc' : Nat) {i : Nat} {x : Int64} (hd : decode M.2.1 pc = .ok (.lload i, 2)) (hp : pc + 2 = pc') (hl : L[i]? = some (.long x)) (kk : At M G pc' L (.long x :: rest) h cs sl Z) : At M G pc L (rest) h cs sl Z := by
  intro l p e s m args below meth c D cy B H locs ls hC hK hG hb hW hS hL
  subst hp
  exact lv_lload hC.1 hC.2.1 hd (hL.2.2.2 i _ hl (fun q => by cases q)) (kk l p e s m args below meth c D cy B H locs ls hC hK hG hb hW hS hL)
theorem at_aload_n (pc' : Nat) {j : Fin 4} {i : Nat} {x : Nat} (hd : decode M.2.1 pc = .ok (.aload_n j, 1)) (hp : pc + 1 = pc') (hi : (j : Nat) = i) (hl : L[i]? = some (.ref x)) (kk : At M G pc' L (.ref x :: rest) h cs sl Z) : At M G pc L (rest) h cs sl Z := by
  intro l p e s m args below meth c D cy B H locs ls hC hK hG hb hW hS hL
  subst hp
  exact lv_aload_n hC.1 hC.2.1 hd hi (hL.2.2.2 i _ hl (fun q => by cases q)) (kk l p e s m args below meth c D cy B H locs ls hC hK hG hb hW hS hL)
theorem at_aload (pc' : Nat) {i : Nat} {x : Nat} (hd : decode M.2.1 pc = .ok (.aload i, 2)) (hp : pc + 2 = pc') (hl : L[i]? = some (.ref x)) (kk : At M G pc' L (.ref x :: rest) h cs sl Z) : At M G pc L (rest) h cs sl Z := by
  intro l p e s m args below meth c D cy B H locs ls hC hK hG hb hW hS hL
  subst hp
  exact lv_aload hC.1 hC.2.1 hd (hL.2.2.2 i _ hl (fun q => by cases q)) (kk l p e s m args below meth c D cy B H locs ls hC hK hG hb hW hS hL)
theorem at_aloadS (pc' : Nat) {x : Nat} {j : Fin 4} {i : Nat} (hd : decode M.2.1 pc = .ok (.aload_n j, 1)) (hp : pc + 1 = pc') (hi : (j : Nat) = i) (hl : L[i]? = some (.retAddr x)) (kk : At M G pc' L (.retAddr x :: rest) h cs sl Z) : At M G pc L (rest) h cs sl Z := by
  intro l p e s m args below meth c D cy B H locs ls hC hK hG hb hW hS hL
  subst hp
  exact lv_aload_n hC.1 hC.2.1 hd hi (hL.2.2.2 i _ hl (fun q => by cases q)) (kk l p e s m args below meth c D cy B H locs ls hC hK hG hb hW hS hL)

def nlb (L : List Value) (i : Nat) : Bool := match i with
  | 0 => true
  | k + 1 => match L[k]? with
    | some (.long _) => false
    | some (.double _) => false
    | _ => true
def lvl (B : Nat × Nat) (L : List Value) : List (Nat × Value) := (List.range L.length).filterMap (fun (i : Nat) => match (L[i]? : Option Value) with
  | some Value.null => none
  | some v => some (i, tv B v)
  | none => none)
theorem lvl_mem {B : Nat × Nat} {L : List Value} {i : Nat} {v : Value} (h : L[i]? = some v) (hv : v ≠ .null) : (i, tv B v) ∈ lvl B L := by
  refine List.mem_filterMap.mpr ⟨i, List.mem_range.mpr (List.getElem?_eq_some_iff.mp h).1, ?_⟩
  rw [h]
  cases v <;> first | rfl | exact absurd rfl hv
theorem lvl_of {B : Nat × Nat} {L : List Value} {q : Nat × Value} (h : q ∈ lvl B L) : ∃ v, L[q.1]? = some v ∧ v ≠ .null ∧ q.2 = tv B v := by
  obtain ⟨i, -, h2⟩ := List.mem_filterMap.mp h
  cases hv : L[i]? with
  | none => rw [hv] at h2; cases h2
  | some v =>
    rw [hv] at h2
    cases v <;> first | (cases h2; exact ⟨_, hv, (fun q => by cases q), rfl⟩) | cases h2
theorem LO.lv {B : Nat × Nat} {nL : Nat} {L : List Value} {ls : Array Slot} (h : LO B nL L ls) : lv_has ls nL (lvl B L) := ⟨h.1, h.2.2.1, fun q hq => by
  obtain ⟨v, h1, h2, h3⟩ := lvl_of hq
  rw [h3]; exact h.2.2.2 _ _ h1 h2⟩
theorem LO.st1 {B : Nat × Nat} {nL : Nat} {L : List Value} {ls ls' : Array Slot} {i : Nat} {v : Value} (hL : LO B nL L ls) (hn : nlb L i = true) (h : lv_has ls' nL ((i, tv B v) :: (lvl B L).filter (fun q => !(q.1 == i) && !(q.1 + 1 == i && q.2.category == 2)))) : LO B nL (L.set i v) ls' := by
  refine ⟨h.1, by rw [List.length_set]; exact hL.2.1, h.2.1, fun j w hj hw => ?_⟩
  rw [List.getElem?_set] at hj
  by_cases e : i = j
  · subst e
    rw [if_pos rfl] at hj
    by_cases hl : i < L.length
    · rw [if_pos hl] at hj
      cases hj
      exact h.2.2 _ List.mem_cons_self
    · rw [if_neg hl] at hj; cases hj
  · rw [if_neg e] at hj
    refine h.2.2 (j, tv B w) (List.mem_cons_of_mem _ (List.mem_filter.mpr ⟨lvl_mem hj hw, ?_⟩))
    have e1 : (j == i) = false := by simp; exact fun q => e q.symm
    have e2 : (j + 1 == i && (tv B w).category == 2) = false := by
      by_cases e3 : j + 1 = i
      · subst e3
        simp only [nlb, hj] at hn
        cases w <;> first | (simp [tv, Value.category]; done) | cases hn
      · simp [e3]
    simp only [e1, e2, Bool.not_false, Bool.and_self]
theorem LO.st2 {B : Nat × Nat} {nL : Nat} {L : List Value} {ls ls' : Array Slot} {i : Nat} {v : Value} (hL : LO B nL L ls) (hn : nlb L i = true) (h : lv_has ls' nL ((i, tv B v) :: (lvl B L).filter (fun q => !(q.1 == i) && (!(q.1 == i + 1) && !(q.1 + 1 == i && q.2.category == 2))))) : LO B nL ((L.set i v).set (i + 1) .null) ls' := by
  refine ⟨h.1, by rw [List.length_set, List.length_set]; exact hL.2.1, h.2.1, fun j w hj hw => ?_⟩
  rw [List.getElem?_set] at hj
  by_cases e0 : i + 1 = j
  · rw [if_pos e0] at hj
    split at hj
    · cases hj; exact absurd rfl hw
    · cases hj
  rw [if_neg e0, List.getElem?_set] at hj
  by_cases e : i = j
  · subst e
    rw [if_pos rfl] at hj
    by_cases hl : i < L.length
    · rw [if_pos hl] at hj
      cases hj
      exact h.2.2 _ List.mem_cons_self
    · rw [if_neg hl] at hj; cases hj
  · rw [if_neg e] at hj
    refine h.2.2 (j, tv B w) (List.mem_cons_of_mem _ (List.mem_filter.mpr ⟨lvl_mem hj hw, ?_⟩))
    have e1 : (j == i) = false := by simp; exact fun q => e q.symm
    have e4 : (j == i + 1) = false := by simp; exact fun q => e0 q.symm
    have e2 : (j + 1 == i && (tv B w).category == 2) = false := by
      by_cases e3 : j + 1 = i
      · subst e3
        simp only [nlb, hj] at hn
        cases w <;> first | (simp [tv, Value.category]; done) | cases hn
      · simp [e3]
    simp only [e1, e2, e4, Bool.not_false, Bool.and_self]
/-- a dead local is given up -/
theorem at_drop (i : Nat) {L' : List Value} (hl : L.set i .null = L') (kk : At M G pc L' rest h cs sl Z) : At M G pc L rest h cs sl Z := by
  subst hl
  intro l p e s m args below meth c D cy B H locs ls hC hK hG hb hW hS hL
  refine kk l p e s m args below meth c D cy B H locs ls hC hK hG hb hW hS ⟨hL.1, by rw [List.length_set]; exact hL.2.1, hL.2.2.1, fun j w hj hw => ?_⟩
  rw [List.getElem?_set] at hj
  by_cases e : i = j
  · rw [if_pos e] at hj
    split at hj
    · cases hj; exact absurd rfl hw
    · cases hj
  · rw [if_neg e] at hj
    exact hL.2.2.2 _ _ hj hw
theorem at_istore_n (pc' : Nat) {j : Fin 4} {i : Nat} {x : Int32} {L' : List Value} (hd : decode M.2.1 pc = .ok (.istore_n j, 1)) (hp : pc + 1 = pc') (hi : (j : Nat) = i) (hn : i < M.2.2.1) (hc : nlb L i = true) (hl : L.set i (.int x) = L') (kk : At M G pc' L' (rest) h cs sl Z) : At M G pc L (.int x :: rest) h cs sl Z := by
  intro l p e s m args below meth c D cy B H locs ls hC hK hG hb hW hS hL
  subst hp
  subst hl
  exact lv_istore_n hC.1 hC.2.1 hd hi hL.lv hn rfl (fun ls' h' => kk l p e s m args below meth c D cy B H locs ls' hC hK hG hb hW hS (hL.st1 hc h'))
theorem at_istore (pc' : Nat) {i : Nat} {x : Int32} {L' : List Value} (hd : decode M.2.1 pc = .ok (.istore i, 2)) (hp : pc + 2 = pc') (hn : i < M.2.2.1) (hc : nlb L i = true) (hl : L.set i (.int x) = L') (kk : At M G pc' L' (rest) h cs sl Z) : At M G pc L (.int x :: rest) h cs sl Z := by
  intro l p e s m args below meth c D cy B H locs ls hC hK hG hb hW hS hL
  subst hp
  subst hl
  exact lv_istore hC.1 hC.2.1 hd hL.lv hn rfl (fun ls' h' => kk l p e s m args below meth c D cy B H locs ls' hC hK hG hb hW hS (hL.st1 hc h'))
theorem at_astore_n (pc' : Nat) {j : Fin 4} {i : Nat} {x : Nat} {L' : List Value} (hd : decode M.2.1 pc = .ok (.astore_n j, 1)) (hp : pc + 1 = pc') (hi : (j : Nat) = i) (hn : i < M.2.2.1) (hc : nlb L i = true) (hl : L.set i (.ref x) = L') (kk : At M G pc' L' (rest) h cs sl Z) : At M G pc L (.ref x :: rest) h cs sl Z := by
  intro l p e s m args below meth c D cy B H locs ls hC hK hG hb hW hS hL
  subst hp
  subst hl
  exact lv_astore_n hC.1 hC.2.1 hd hi hL.lv hn rfl (fun ls' h' => kk l p e s m args below meth c D cy B H locs ls' hC hK hG hb hW hS (hL.st1 hc h'))
theorem at_astore (pc' : Nat) {i : Nat} {x : Nat} {L' : List Value} (hd : decode M.2.1 pc = .ok (.astore i, 2)) (hp : pc + 2 = pc') (hn : i < M.2.2.1) (hc : nlb L i = true) (hl : L.set i (.ref x) = L') (kk : At M G pc' L' (rest) h cs sl Z) : At M G pc L (.ref x :: rest) h cs sl Z := by
  intro l p e s m args below meth c D cy B H locs ls hC hK hG hb hW hS hL
  subst hp
  subst hl
  exact lv_astore hC.1 hC.2.1 hd hL.lv hn rfl (fun ls' h' => kk l p e s m args below meth c D cy B H locs ls' hC hK hG hb hW hS (hL.st1 hc h'))
theorem at_lstore_n (pc' : Nat) {j : Fin 4} {i : Nat} {x : Int64} {L' : List Value} (hd : decode M.2.1 pc = .ok (.lstore_n j, 1)) (hp : pc + 1 = pc') (hi : (j : Nat) = i) (hn : i + 1 < M.2.2.1) (hc : nlb L i = true) (hl : (L.set i (.long x)).set (i + 1) .null = L') (kk : At M G pc' L' (rest) h cs sl Z) : At M G pc L (.long x :: rest) h cs sl Z := by
  intro l p e s m args below meth c D cy B H locs ls hC hK hG hb hW hS hL
  subst hp
  subst hl
  exact lv_lstore_n hC.1 hC.2.1 hd hi hL.lv hn rfl (fun ls' h' => kk l p e s m args below meth c D cy B H locs ls' hC hK hG hb hW hS (hL.st2 hc h'))
theorem at_lstore (pc' : Nat) {i : Nat} {x : Int64} {L' : List Value} (hd : decode M.2.1 pc = .ok (.lstore i, 2)) (hp : pc + 2 = pc') (hn : i + 1 < M.2.2.1) (hc : nlb L i = true) (hl : (L.set i (.long x)).set (i + 1) .null = L') (kk : At M G pc' L' (rest) h cs sl Z) : At M G pc L (.long x :: rest) h cs sl Z := by
  intro l p e s m args below meth c D cy B H locs ls hC hK hG hb hW hS hL
  subst hp
  subst hl
  exact lv_lstore hC.1 hC.2.1 hd hL.lv hn rfl (fun ls' h' => kk l p e s m args below meth c D cy B H locs ls' hC hK hG hb hW hS (hL.st2 hc h'))
theorem at_iinc (pc' : Nat) {i : Nat} {n : Int} {x v : Int32} {L' : List Value} (hd : decode M.2.1 pc = .ok (.iinc i n, 3)) (hp : pc + 3 = pc') (hv : x + Int32.ofInt n = v) (hi : L[i]? = some (.int x)) (hn : i < M.2.2.1) (hc : nlb L i = true) (hl : L.set i (.int v) = L') (kk : At M G pc' L' (rest) h cs sl Z) : At M G pc L (rest) h cs sl Z := by
  intro l p e s m args below meth c D cy B H locs ls hC hK hG hb hW hS hL
  subst hp
  subst hl
  obtain ⟨k, hk⟩ := List.getElem?_of_mem (lvl_mem (B := B) hi (fun q => by cases q))
  exact lv_iinc hC.1 hC.2.1 hd hL.lv hk hv hn rfl (fun ls' h' => kk l p e s m args below meth c D cy B H locs ls' hC hK hG hb hW hS (hL.st1 (v := .int v) hc h'))
theorem at_iadd (pc' : Nat) {x y : Int32} (hd : decode M.2.1 pc = .ok (.iadd, 1)) (hp : pc + 1 = pc') (kk : At M G pc' L (.int (x + y) :: rest) h cs sl Z) : At M G pc L (.int y :: .int x :: rest) h cs sl Z := by
  intro l p e s m args below meth c D cy B H locs ls hC hK hG hb hW hS hL
  subst hp
  exact lv_iadd hC.1 hC.2.1 hd (kk l p e s m args below meth c D cy B H locs ls hC hK hG hb hW hS hL)
theorem at_isub (pc' : Nat) {x y : Int32} (hd : decode M.2.1 pc = .ok (.isub, 1)) (hp : pc + 1 = pc') (kk : At M G pc' L (.int (x - y) :: rest) h cs sl Z) : At M G pc L (.int y :: .int x :: rest) h cs sl Z := by
  intro l p e s m args below meth c D cy B H locs ls hC hK hG hb hW hS hL
  subst hp
  exact lv_isub hC.1 hC.2.1 hd (kk l p e s m args below meth c D cy B H locs ls hC hK hG hb hW hS hL)
theorem at_imul (pc' : Nat) {x y : Int32} (hd : decode M.2.1 pc = .ok (.imul, 1)) (hp : pc + 1 = pc') (kk : At M G pc' L (.int (x * y) :: rest) h cs sl Z) : At M G pc L (.int y :: .int x :: rest) h cs sl Z := by
  intro l p e s m args below meth c D cy B H locs ls hC hK hG hb hW hS hL
  subst hp
  exact lv_imul hC.1 hC.2.1 hd (kk l p e s m args below meth c D cy B H locs ls hC hK hG hb hW hS hL)
theorem at_iand (pc' : Nat) {x y : Int32} (hd : decode M.2.1 pc = .ok (.iand, 1)) (hp : pc + 1 = pc') (kk : At M G pc' L (.int (x &&& y) :: rest) h cs sl Z) : At M G pc L (.int y :: .int x :: rest) h cs sl Z := by
  intro l p e s m args below meth c D cy B H locs ls hC hK hG hb hW hS hL
  subst hp
  exact lv_iand hC.1 hC.2.1 hd (kk l p e s m args below meth c D cy B H locs ls hC hK hG hb hW hS hL)
theorem at_ishl (pc' : Nat) {x y : Int32} (hd : decode M.2.1 pc = .ok (.ishl, 1)) (hp : pc + 1 = pc') (kk : At M G pc' L (.int (x <<< (y &&& 31)) :: rest) h cs sl Z) : At M G pc L (.int y :: .int x :: rest) h cs sl Z := by
  intro l p e s m args below meth c D cy B H locs ls hC hK hG hb hW hS hL
  subst hp
  exact lv_ishl hC.1 hC.2.1 hd (kk l p e s m args below meth c D cy B H locs ls hC hK hG hb hW hS hL)
theorem at_ishr (pc' : Nat) {x y : Int32} (hd : decode M.2.1 pc = .ok (.ishr, 1)) (hp : pc + 1 = pc') (kk : At M G pc' L (.int (x >>> (y &&& 31)) :: rest) h cs sl Z) : At M G pc L (.int y :: .int x :: rest) h cs sl Z := by
  intro l p e s m args below meth c D cy B H locs ls hC hK hG hb hW hS hL
  subst hp
  exact lv_ishr hC.1 hC.2.1 hd (kk l p e s m args below meth c D cy B H locs ls hC hK hG hb hW hS hL)
theorem at_idiv (pc' : Nat) {x y : Int32} (hd : decode M.2.1 pc = .ok (.idiv, 1)) (hp : pc + 1 = pc') (hne : ¬ y = 0) (kk : At M G pc' L (.int (x / y) :: rest) h cs sl Z) : At M G pc L (.int y :: .int x :: rest) h cs sl Z := by
  intro l p e s m args below meth c D cy B H locs ls hC hK hG hb hW hS hL
  subst hp
  exact lv_idiv hC.1 hC.2.1 hd hne (kk l p e s m args below meth c D cy B H locs ls hC hK hG hb hW hS hL)
theorem at_irem (pc' : Nat) {x y : Int32} (hd : decode M.2.1 pc = .ok (.irem, 1)) (hp : pc + 1 = pc') (hne : ¬ y = 0) (kk : At M G pc' L (.int (x - x / y * y) :: rest) h cs sl Z) : At M G pc L (.int y :: .int x :: rest) h cs sl Z := by
  intro l p e s m args below meth c D cy B H locs ls hC hK hG hb hW hS hL
  subst hp
  exact lv_irem hC.1 hC.2.1 hd hne (kk l p e s m args below meth c D cy B H locs ls hC hK hG hb hW hS hL)
theorem at_ladd (pc' : Nat) {x y : Int64} (hd : decode M.2.1 pc = .ok (.ladd, 1)) (hp : pc + 1 = pc') (kk : At M G pc' L (.long (x + y) :: rest) h cs sl Z) : At M G pc L (.long y :: .long x :: rest) h cs sl Z := by
  intro l p e s m args below meth c D cy B H locs ls hC hK hG hb hW hS hL
  subst hp
  exact lv_ladd hC.1 hC.2.1 hd (kk l p e s m args below meth c D cy B H locs ls hC hK hG hb hW hS hL)
theorem at_lsub (pc' : Nat) {x y : Int64} (hd : decode M.2.1 pc = .ok (.lsub, 1)) (hp : pc + 1 = pc') (kk : At M G pc' L (.long (x - y) :: rest) h cs sl Z) : At M G pc L (.long y :: .long x :: rest) h cs sl Z := by
  intro l p e s m args below meth c D cy B H locs ls hC hK hG hb hW hS hL
  subst hp
  exact lv_lsub hC.1 hC.2.1 hd (kk l p e s m args below meth c D cy B H locs ls hC hK hG hb hW hS hL)
theorem at_lmul (pc' : Nat) {x y : Int64} (hd : decode M.2.1 pc = .ok (.lmul, 1)) (hp : pc + 1 = pc') (kk : At M G pc' L (.long (x * y) :: rest) h cs sl Z) : At M G pc L (.long y :: .long x :: rest) h cs sl Z := by
  intro l p e s m args below meth c D cy B H locs ls hC hK hG hb hW hS hL
  subst hp
  exact lv_lmul hC.1 hC.2.1 hd (kk l p e s m args below meth c D cy B H locs ls hC hK hG hb hW hS hL)
theorem at_ldiv (pc' : Nat) {x y : Int64} (hd : decode M.2.1 pc = .ok (.ldiv, 1)) (hp : pc + 1 = pc') (hne : ¬ y = 0) (kk : At M G pc' L (.long (x / y) :: rest) h cs sl Z) : At M G pc L (.long y :: .long x :: rest) h cs sl Z := by
  intro l p e s m args below meth c D cy B H locs ls hC hK hG hb hW hS hL
  subst hp
  exact lv_ldiv hC.1 hC.2.1 hd hne (kk l p e s m args below meth c D cy B H locs ls hC hK hG hb hW hS hL)
theorem at_lrem (pc' : Nat) {x y : Int64} (hd : decode M.2.1 pc = .ok (.lrem, 1)) (hp : pc + 1 = pc') (hne : ¬ y = 0) (kk : At M G pc' L (.long (x - x / y * y) :: rest) h cs sl Z) : At M G pc L (.long y :: .long x :: rest) h cs sl Z := by
  intro l p e s m args below meth c D cy B H locs ls hC hK hG hb hW hS hL
  subst hp
  exact lv_lrem hC.1 hC.2.1 hd hne (kk l p e s m args below meth c D cy B H locs ls hC hK hG hb hW hS hL)
theorem at_i2l (pc' : Nat) {x : Int32} {v : Int64} (hd : decode M.2.1 pc = .ok (.i2l, 1)) (hp : pc + 1 = pc') (hv : x.toInt64 = v) (kk : At M G pc' L (.long v :: rest) h cs sl Z) : At M G pc L (.int x :: rest) h cs sl Z := by
  intro l p e s m args below meth c D cy B H locs ls hC hK hG hb hW hS hL
  subst hp
  exact lv_i2l hC.1 hC.2.1 hd hv (kk l p e s m args below meth c D cy B H locs ls hC hK hG hb hW hS hL)
theorem at_l2i (pc' : Nat) {x : Int64} {v : Int32} (hd : decode M.2.1 pc = .ok (.l2i, 1)) (hp : pc + 1 = pc') (hv : x.toInt32 = v) (kk : At M G pc' L (.int v :: rest) h cs sl Z) : At M G pc L (.long x :: rest) h cs sl Z := by
  intro l p e s m args below meth c D cy B H locs ls hC hK hG hb hW hS hL
  subst hp
  exact lv_l2i hC.1 hC.2.1 hd hv (kk l p e s m args below meth c D cy B H locs ls hC hK hG hb hW hS hL)
theorem at_lcmp (pc' : Nat) {x y : Int64} (hd : decode M.2.1 pc = .ok (.lcmp, 1)) (hp : pc + 1 = pc') (kk : At M G pc' L (.int (lg_cmp x y) :: rest) h cs sl Z) : At M G pc L (.long y :: .long x :: rest) h cs sl Z := by
  intro l p e s m args below meth c D cy B H locs ls hC hK hG hb hW hS hL
  subst hp
  exact W.lcmp hC.1 hC.2.1 hd (kk l p e s m args below meth c D cy B H locs ls hC hK hG hb hW hS hL)
theorem at_dup (pc' : Nat) {va : Value} (hd : decode M.2.1 pc = .ok (.dup, 1)) (hp : pc + 1 = pc') (hc : va.category = 1) (kk : At M G pc' L (va :: va :: rest) h cs sl Z) : At M G pc L (va :: rest) h cs sl Z := by
  intro l p e s m args below meth c D cy B H locs ls hC hK hG hb hW hS hL
  subst hp
  exact lv_dup hC.1 hC.2.1 hd (by rw [tv_cat]; exact hc) (kk l p e s m args below meth c D cy B H locs ls hC hK hG hb hW hS hL)
theorem at_dup2 (pc' : Nat) {va vb : Value} (hd : decode M.2.1 pc = .ok (.dup2, 1)) (hp : pc + 1 = pc') (hc : va.category = 1) (hc2 : vb.category = 1) (kk : At M G pc' L (va :: vb :: va :: vb :: rest) h cs sl Z) : At M G pc L (va :: vb :: rest) h cs sl Z := by
  intro l p e s m args below meth c D cy B H locs ls hC hK hG hb hW hS hL
  subst hp
  exact lv_dup2_11 hC.1 hC.2.1 hd (by rw [tv_cat]; exact hc) (by rw [tv_cat]; exact hc2) (kk l p e s m args below meth c D cy B H locs ls hC hK hG hb hW hS hL)
theorem at_if_eq (pt pf : Nat) {x : Int32} {off : Int} (hd : decode M.2.1 pc = .ok (.ifCond .eq off, 3)) (ht : (pc : Int) + off = (pt : Int)) (hp : pc + 3 = pf) (kt : x = 0 → At M G pt L rest h cs sl Z) (kf : ¬ x = 0 → At M G pf L rest h cs sl Z) : At M G pc L (.int x :: rest) h cs sl Z := by
  intro l p e s m args below meth c D cy B H locs ls hC hK hG hb hW hS hL
  subst hp
  exact lv_if_eq hC.1 hC.2.1 hd ht (fun q => kt q l p e s m args below meth c D cy B H locs ls hC hK hG hb hW hS hL) (fun q => kf q l p e s m args below meth c D cy B H locs ls hC hK hG hb hW hS hL)
theorem at_if_ne (pt pf : Nat) {x : Int32} {off : Int} (hd : decode M.2.1 pc = .ok (.ifCond .ne off, 3)) (ht : (pc : Int) + off = (pt : Int)) (hp : pc + 3 = pf) (kt : ¬ x = 0 → At M G pt L rest h cs sl Z) (kf : x = 0 → At M G pf L rest h cs sl Z) : At M G pc L (.int x :: rest) h cs sl Z := by
  intro l p e s m args below meth c D cy B H locs ls hC hK hG hb hW hS hL
  subst hp
  exact lv_if_ne hC.1 hC.2.1 hd ht (fun q => kt q l p e s m args below meth c D cy B H locs ls hC hK hG hb hW hS hL) (fun q => kf q l p e s m args below meth c D cy B H locs ls hC hK hG hb hW hS hL)
theorem at_if_lt (pt pf : Nat) {x : Int32} {off : Int} (hd : decode M.2.1 pc = .ok (.ifCond .lt off, 3)) (ht : (pc : Int) + off = (pt : Int)) (hp : pc + 3 = pf) (kt : x < 0 → At M G pt L rest h cs sl Z) (kf : ¬ x < 0 → At M G pf L rest h cs sl Z) : At M G pc L (.int x :: rest) h cs sl Z := by
  intro l p e s m args below meth c D cy B H locs ls hC hK hG hb hW hS hL
  subst hp
  exact lv_if_lt hC.1 hC.2.1 hd ht (fun q => kt q l p e s m args below meth c D cy B H locs ls hC hK hG hb hW hS hL) (fun q => kf q l p e s m args below meth c D cy B H locs ls hC hK hG hb hW hS hL)
theorem at_if_ge (pt pf : Nat) {x : Int32} {off : Int} (hd : decode M.2.1 pc = .ok (.ifCond .ge off, 3)) (ht : (pc : Int) + off = (pt : Int)) (hp : pc + 3 = pf) (kt : 0 ≤ x → At M G pt L rest h cs sl Z) (kf : ¬ 0 ≤ x → At M G pf L rest h cs sl Z) : At M G pc L (.int x :: rest) h cs sl Z := by
  intro l p e s m args below meth c D cy B H locs ls hC hK hG hb hW hS hL
  subst hp
  exact lv_if_ge hC.1 hC.2.1 hd ht (fun q => kt q l p e s m args below meth c D cy B H locs ls hC hK hG hb hW hS hL) (fun q => kf q l p e s m args below meth c D cy B H locs ls hC hK hG hb hW hS hL)
theorem at_if_gt (pt pf : Nat) {x : Int32} {off : Int} (hd : decode M.2.1 pc = .ok (.ifCond .gt off, 3)) (ht : (pc : Int) + off = (pt : Int)) (hp : pc + 3 = pf) (kt : 0 < x → At M G pt L rest h cs sl Z) (kf : ¬ 0 < x → At M G pf L rest h cs sl Z) : At M G pc L (.int x :: rest) h cs sl Z := by
  intro l p e s m args below meth c D cy B H locs ls hC hK hG hb hW hS hL
  subst hp
  exact lv_if_gt hC.1 hC.2.1 hd ht (fun q => kt q l p e s m args below meth c D cy B H locs ls hC hK hG hb hW hS hL) (fun q => kf q l p e s m args below meth c D cy B H locs ls hC hK hG hb hW hS hL)
theorem at_if_le (pt pf : Nat) {x : Int32} {off : Int} (hd : decode M.2.1 pc = .ok (.ifCond .le off, 3)) (ht : (pc : Int) + off = (pt : Int)) (hp : pc + 3 = pf) (kt : x ≤ 0 → At M G pt L rest h cs sl Z) (kf : ¬ x ≤ 0 → At M G pf L rest h cs sl Z) : At M G pc L (.int x :: rest) h cs sl Z := by
  intro l p e s m args below meth c D cy B H locs ls hC hK hG hb hW hS hL
  subst hp
  exact lv_if_le hC.1 hC.2.1 hd ht (fun q => kt q l p e s m args below meth c D cy B H locs ls hC hK hG hb hW hS hL) (fun q => kf q l p e s m args below meth c D cy B H locs ls hC hK hG hb hW hS hL)
theorem at_icmp_eq (pt pf : Nat) {x y : Int32} {off : Int} (hd : decode M.2.1 pc = .ok (.if_icmp .eq off, 3)) (ht : (pc : Int) + off = (pt : Int)) (hp : pc + 3 = pf) (kt : x = y → At M G pt L rest h cs sl Z) (kf : ¬ x = y → At M G pf L rest h cs sl Z) : At M G pc L (.int y :: .int x :: rest) h cs sl Z := by
  intro l p e s m args below meth c D cy B H locs ls hC hK hG hb hW hS hL
  subst hp
  exact lv_icmp_eq hC.1 hC.2.1 hd ht (fun q => kt q l p e s m args below meth c D cy B H locs ls hC hK hG hb hW hS hL) (fun q => kf q l p e s m args below meth c D cy B H locs ls hC hK hG hb hW hS hL)
theorem at_icmp_ne (pt pf : Nat) {x y : Int32} {off : Int} (hd : decode M.2.1 pc = .ok (.if_icmp .ne off, 3)) (ht : (pc : Int) + off = (pt : Int)) (hp : pc + 3 = pf) (kt : ¬ x = y → At M G pt L rest h cs sl Z) (kf : x = y → At M G pf L rest h cs sl Z) : At M G pc L (.int y :: .int x :: rest) h cs sl Z := by
  intro l p e s m args below meth c D cy B H locs ls hC hK hG hb hW hS hL
  subst hp
  exact lv_icmp_ne hC.1 hC.2.1 hd ht (fun q => kt q l p e s m args below meth c D cy B H locs ls hC hK hG hb hW hS hL) (fun q => kf q l p e s m args below meth c D cy B H locs ls hC hK hG hb hW hS hL)
theorem at_icmp_lt (pt pf : Nat) {x y : Int32} {off : Int} (hd : decode M.2.1 pc = .ok (.if_icmp .lt off, 3)) (ht : (pc : Int) + off = (pt : Int)) (hp : pc + 3 = pf) (kt : x < y → At M G pt L rest h cs sl Z) (kf : ¬ x < y → At M G pf L rest h cs sl Z) : At M G pc L (.int y :: .int x :: rest) h cs sl Z := by
  intro l p e s m args below meth c D cy B H locs ls hC hK hG hb hW hS hL
  subst hp
  exact lv_icmp_lt hC.1 hC.2.1 hd ht (fun q => kt q l p e s m args below meth c D cy B H locs ls hC hK hG hb hW hS hL) (fun q => kf q l p e s m args below meth c D cy B H locs ls hC hK hG hb hW hS hL)
theorem at_icmp_ge (pt pf : Nat) {x y : Int32} {off : Int} (hd : decode M.2.1 pc = .ok (.if_icmp .ge off, 3)) (ht : (pc : Int) + off = (pt : Int)) (hp : pc + 3 = pf) (kt : y ≤ x → At M G pt L rest h cs sl Z) (kf : ¬ y ≤ x → At M G pf L rest h cs sl Z) : At M G pc L (.int y :: .int x :: rest) h cs sl Z := by
  intro l p e s m args below meth c D cy B H locs ls hC hK hG hb hW hS hL
  subst hp
  exact lv_icmp_ge hC.1 hC.2.1 hd ht (fun q => kt q l p e s m args below meth c D cy B H locs ls hC hK hG hb hW hS hL) (fun q => kf q l p e s m args below meth c D cy B H locs ls hC hK hG hb hW hS hL)
theorem at_icmp_gt (pt pf : Nat) {x y : Int32} {off : Int} (hd : decode M.2.1 pc = .ok (.if_icmp .gt off, 3)) (ht : (pc : Int) + off = (pt : Int)) (hp : pc + 3 = pf) (kt : y < x → At M G pt L rest h cs sl Z) (kf : ¬ y < x → At M G pf L rest h cs sl Z) : At M G pc L (.int y :: .int x :: rest) h cs sl Z := by
  intro l p e s m args below meth c D cy B H locs ls hC hK hG hb hW hS hL
  subst hp
  exact lv_icmp_gt hC.1 hC.2.1 hd ht (fun q => kt q l p e s m args below meth c D cy B H locs ls hC hK hG hb hW hS hL) (fun q => kf q l p e s m args below meth c D cy B H locs ls hC hK hG hb hW hS hL)
theorem at_icmp_le (pt pf : Nat) {x y : Int32} {off : Int} (hd : decode M.2.1 pc = .ok (.if_icmp .le off, 3)) (ht : (pc : Int) + off = (pt : Int)) (hp : pc + 3 = pf) (kt : x ≤ y → At M G pt L rest h cs sl Z) (kf : ¬ x ≤ y → At M G pf L rest h cs sl Z) : At M G pc L (.int y :: .int x :: rest) h cs sl Z := by
  intro l p e s m args below meth c D cy B H locs ls hC hK hG hb hW hS hL
  subst hp
  exact lv_icmp_le hC.1 hC.2.1 hd ht (fun q => kt q l p e s m args below meth c D cy B H locs ls hC hK hG hb hW hS hL) (fun q => kf q l p e s m args below meth c D cy B H locs ls hC hK hG hb hW hS hL)
theorem at_goto (pt : Nat) {off : Int} (hd : decode M.2.1 pc = .ok (.goto off, 3)) (ht : (pc : Int) + off = (pt : Int)) (kk : At M G pt L rest h cs sl Z) : At M G pc L rest h cs sl Z := by
  intro l p e s m args below meth c D cy B H locs ls hC hK hG hb hW hS hL
  exact lv_goto hC.1 hC.2.1 hd ht (kk l p e s m args below meth c D cy B H locs ls hC hK hG hb hW hS hL)
theorem at_tabIn (pt : Nat) {dflt lo hi : Int} {offs : Array Int} {len : Nat} {x : Int32} {off : Int} (hd : decode M.2.1 pc = .ok (.tableswitch dflt lo hi offs, len)) (h1 : ¬ x.toInt < lo) (h2 : ¬ hi < x.toInt) (ho : offs[(x.toInt - lo).toNat]? = some off) (ht : (pc : Int) + off = (pt : Int)) (kk : At M G pt L rest h cs sl Z) : At M G pc L (.int x :: rest) h cs sl Z := by
  intro l p e s m args below meth c D cy B H locs ls hC hK hG hb hW hS hL
  exact lv_tableIn hC.1 hC.2.1 hd h1 h2 ho ht (kk l p e s m args below meth c D cy B H locs ls hC hK hG hb hW hS hL)
theorem at_tabOut (pt : Nat) {dflt lo hi : Int} {offs : Array Int} {len : Nat} {x : Int32} (hd : decode M.2.1 pc = .ok (.tableswitch dflt lo hi offs, len)) (h1 : x.toInt < lo ∨ hi < x.toInt) (ht : (pc : Int) + dflt = (pt : Int)) (kk : At M G pt L rest h cs sl Z) : At M G pc L (.int x :: rest) h cs sl Z := by
  intro l p e s m args below meth c D cy B H locs ls hC hK hG hb hW hS hL
  exact lv_tableOut hC.1 hC.2.1 hd h1 ht (kk l p e s m args below meth c D cy B H locs ls hC hK hG hb hW hS hL)

def FL (own : String) (idx ci k : Nat) : Prop := ∃ (C : String) (T : u_T) (N : Nat), clz[ci]? = some (C, T, N) ∧ k < N ∧ Cond.fieldLink own idx (T k).1 (T k).2.1 (T k).2.2.1 ∈ gw ∧ ∀ w ∈ u_ws C T N, w ∈ gw
def PL (fin : Bool) (own : String) (idx ci k : Nat) (ty : FieldType) : Prop := ∃ (C : String) (T : u_T) (N : Nat) (ty0 : Nat → FieldType), clz[ci]? = some (C, T, N) ∧ k < N ∧ Cond.fieldLink own idx (T k).1 (T k).2.1 (T k).2.2.1 ∈ gw ∧ (∀ w ∈ u_ws C T N, w ∈ gw) ∧
  (∀ k, k < N → parseFieldDescriptor (T k).2.2.1 = some (ty0 k)) ∧ (∀ a, a < N → ∀ b, b < N → a ≠ b → (T a).2.1 ≠ (T b).2.1) ∧ (T k).2.2.2 = fin ∧ (T k).1 = C ∧ parseFieldDescriptor (T k).2.2.1 = some ty
theorem at_get (pc' : Nat) {idx k ci j : Nat} {fs : List Value} {v : Value} (hd : decode M.2.1 pc = .ok (.getfield idx, 3)) (hp : pc + 3 = pc') (hf : FL M.1.cls idx ci j) (hh : h[k]? = some (.inr (ci, fs))) (hv : fs[j]? = some v) (kk : At M G pc' L (v :: rest) h cs sl Z) : At M G pc L (.ref k :: rest) h cs sl Z := by
  intro l p e s m args below meth c D cy B H locs ls hC hK hG hb hW hS hL
  subst hp
  obtain ⟨C, T, N, f1, f2, f3, f4⟩ := hf
  exact va_get hC.1 hC.2.1 hC.2.2.2.2.2.1 f4 hC.2.2.2.2.1 hK.1 hW.1 k (wo_get hh) f1 j f2 (hC.2.2.2.2.2.1 _ f3) (fun _ q => q) (v := tv B v) (by rw [List.getElem?_map, hv]; rfl) hd (kk l p e s m args below meth c D cy B H locs ls hC hK hG hb hW hS hL)
theorem map_set {α β : Type} (f : α → β) (l : List α) (k : Nat) (v : α) : (l.map f).set k (f v) = (l.set k v).map f := by
  apply List.ext_getElem?
  intro j
  simp only [List.getElem?_map, List.getElem?_set, List.length_map]
  by_cases e : k = j
  · subst e
    by_cases hl : k < l.length <;> simp [hl]
  · simp [e]
theorem WO.upd {D : va_G} {cy : Nat → ClassId} {B : Nat × Nat} {H H1 : Heap} {k : Nat} {c0 c : PC} (hW : WO D cy B h H) (hh : h[k]? = some c0) (he : va_at D clz (B.1 + k, tE cy B c) H1) (oq : ∀ q : Nat, q ≠ B.1 + k → H1[q]? = H[q]?) (hz : H1.size = H.size) : WO D cy B (h.set k c) H1 := by
  refine ⟨?_, by rw [hz, List.length_set]; exact hW.2⟩
  rw [← wo_set]
  exact hW.1.set (A := fun q => B.1 ≤ q) wo_D (wo_get hh) he oq
/-- what a store does to the plain heap -/
def Nw (h : List PC) (k : Nat) (c : PC) (h' : List PC) : Prop := h'[k]? = some c ∧ (∀ i, i ≠ k → h'[i]? = h[i]?) ∧ h'.length = h.length
theorem Nw.of {k : Nat} {c0 : PC} (hh : h[k]? = some c0) (c : PC) : Nw h k c (h.set k c) :=
  ⟨by rw [List.getElem?_set_self (List.getElem?_eq_some_iff.mp hh).1], fun i hi => by rw [List.getElem?_set_ne (fun q => hi q.symm)], by rw [List.length_set]⟩
theorem at_puti (pc' : Nat) {idx k ci j : Nat} {fs fs' : List Value} {x : Int32} {ty : FieldType} (hd : decode M.2.1 pc = .ok (.putfield idx, 3)) (hp : pc + 3 = pc') (hf : PL false M.1.cls idx ci j ty) (hh : h[k]? = some (.inr (ci, fs))) (hj : j < fs.length) (hn : narrow ty (.int x) = .int x) (hfit : fits ty (.int x) = true) (hfs : fs.set j (.int x) = fs') (kk : ∀ h' : List PC, Nw h k (.inr (ci, fs')) h' → At M G pc' L rest h' cs sl Z) : At M G pc L (.int x :: .ref k :: rest) h cs sl Z := by
  intro l p e s m args below meth c D cy B H locs ls hC hK hG hb hW hS hL
  subst hp; subst hfs
  obtain ⟨C, T, N, ty0, f1, f2, f3, f4, f5, f6, f7, f8, f9⟩ := hf
  have hap := va_apart (D := D) (own := M.1.cls) hC.2.2.2.2.2.1 f4 ty0 f5 f6 hK.1 f1
  obtain ⟨r, h1, cell, q1, q2, q3, q4⟩ := hW.1 k _ (wo_get hh)
  have hr : r = (C, T, N) := Option.some.inj (h1.symm.trans f1)
  subst hr
  obtain ⟨hSl, hfc, kC, hkC, hkind⟩ := hK.1.1 ci _ f1
  obtain ⟨cf, kf, fi, f, hi, hsl⟩ := hSl j f2
  have hlay := hC.2.2.2.2.2.1 _ (f4 _ (u_in_lay f2))
  unfold u_lay at hlay
  rw [if_neg (by rw [f7]; decide)] at hlay
  have hst := (u_facts hfc hkC (u_lays hC.2.2.2.2.2.1 f4 f2) hi).1
  have h6 := u_store hfc hkC hkind hlay hi f9 hn hfit
  refine W.putK hC.1 hC.2.1 (f := f) ⟨hC.2.2.2.2.1, hC.2.2.2.2.2.1 _ f3, ⟨_, _, _, hi⟩, hst⟩ (by rw [q2]; exact h6) q1 q3 (by rw [hsl]; exact k2_hasslot (q4 j f2)) rfl rfl hd fun H' e1 e2 e3 => ?_
  rw [hsl] at e1 ⊢
  have hl : j < (fs.map (tv B)).length := by rw [List.length_map]; exact hj
  have ha : va_at D clz (B.1 + k, tE cy B (.inr (ci, fs.set j (.int x)))) H' := by
    show va_at D clz (B.1 + k, .inr (ci, (fs.set j (.int x)).map (tv B))) H'
    rw [← map_set]
    exact ⟨_, f1, t_OB.to (V := updV (vp_V (fs.map (tv B))) j (tv B (.int x))) ⟨_, e1, q2, q3, t_set q4 hap f2 (tv B (.int x))⟩ (fun i _ => vp_updV_set hl (tv B (.int x)) i)⟩
  exact kk _ (Nw.of hh _) l p e s m args below meth c D cy B H' _ ls hC hK hG hb (hW.upd hh ha e3 e2) (hS.put e2 e3 (Nat.le_add_right _ _)) hL
theorem at_putl (pc' : Nat) {idx k ci j : Nat} {fs fs' : List Value} {x : Int64} {ty : FieldType} (hd : decode M.2.1 pc = .ok (.putfield idx, 3)) (hp : pc + 3 = pc') (hf : PL false M.1.cls idx ci j ty) (hh : h[k]? = some (.inr (ci, fs))) (hj : j < fs.length) (hn : narrow ty (.long x) = .long x) (hfit : fits ty (.long x) = true) (hfs : fs.set j (.long x) = fs') (kk : ∀ h' : List PC, Nw h k (.inr (ci, fs')) h' → At M G pc' L rest h' cs sl Z) : At M G pc L (.long x :: .ref k :: rest) h cs sl Z := by
  intro l p e s m args below meth c D cy B H locs ls hC hK hG hb hW hS hL
  subst hp; subst hfs
  obtain ⟨C, T, N, ty0, f1, f2, f3, f4, f5, f6, f7, f8, f9⟩ := hf
  have hap := va_apart (D := D) (own := M.1.cls) hC.2.2.2.2.2.1 f4 ty0 f5 f6 hK.1 f1
  obtain ⟨r, h1, cell, q1, q2, q3, q4⟩ := hW.1 k _ (wo_get hh)
  have hr : r = (C, T, N) := Option.some.inj (h1.symm.trans f1)
  subst hr
  obtain ⟨hSl, hfc, kC, hkC, hkind⟩ := hK.1.1 ci _ f1
  obtain ⟨cf, kf, fi, f, hi, hsl⟩ := hSl j f2
  have hlay := hC.2.2.2.2.2.1 _ (f4 _ (u_in_lay f2))
  unfold u_lay at hlay
  rw [if_neg (by rw [f7]; decide)] at hlay
  have hst := (u_facts hfc hkC (u_lays hC.2.2.2.2.2.1 f4 f2) hi).1
  have h6 := u_store hfc hkC hkind hlay hi f9 hn hfit
  refine W.putK hC.1 hC.2.1 (f := f) ⟨hC.2.2.2.2.1, hC.2.2.2.2.2.1 _ f3, ⟨_, _, _, hi⟩, hst⟩ (by rw [q2]; exact h6) q1 q3 (by rw [hsl]; exact k2_hasslot (q4 j f2)) rfl rfl hd fun H' e1 e2 e3 => ?_
  rw [hsl] at e1 ⊢
  have hl : j < (fs.map (tv B)).length := by rw [List.length_map]; exact hj
  have ha : va_at D clz (B.1 + k, tE cy B (.inr (ci, fs.set j (.long x)))) H' := by
    show va_at D clz (B.1 + k, .inr (ci, (fs.set j (.long x)).map (tv B))) H'
    rw [← map_set]
    exact ⟨_, f1, t_OB.to (V := updV (vp_V (fs.map (tv B))) j (tv B (.long x))) ⟨_, e1, q2, q3, t_set q4 hap f2 (tv B (.long x))⟩ (fun i _ => vp_updV_set hl (tv B (.long x)) i)⟩
  exact kk _ (Nw.of hh _) l p e s m args below meth c D cy B H' _ ls hC hK hG hb (hW.upd hh ha e3 e2) (hS.put e2 e3 (Nat.le_add_right _ _)) hL
theorem at_putr (pc' : Nat) {idx k ci j : Nat} {fs fs' : List Value} {x : Nat} {ty : FieldType} (hd : decode M.2.1 pc = .ok (.putfield idx, 3)) (hp : pc + 3 = pc') (hf : PL false M.1.cls idx ci j ty) (hh : h[k]? = some (.inr (ci, fs))) (hj : j < fs.length) (hn : ∀ a : Nat, narrow ty (.ref a) = .ref a) (hfit : ∀ a : Nat, fits ty (.ref a) = true) (hfs : fs.set j (.ref x) = fs') (kk : ∀ h' : List PC, Nw h k (.inr (ci, fs')) h' → At M G pc' L rest h' cs sl Z) : At M G pc L (.ref x :: .ref k :: rest) h cs sl Z := by
  intro l p e s m args below meth c D cy B H locs ls hC hK hG hb hW hS hL
  subst hp; subst hfs
  obtain ⟨C, T, N, ty0, f1, f2, f3, f4, f5, f6, f7, f8, f9⟩ := hf
  have hap := va_apart (D := D) (own := M.1.cls) hC.2.2.2.2.2.1 f4 ty0 f5 f6 hK.1 f1
  obtain ⟨r, h1, cell, q1, q2, q3, q4⟩ := hW.1 k _ (wo_get hh)
  have hr : r = (C, T, N) := Option.some.inj (h1.symm.trans f1)
  subst hr
  obtain ⟨hSl, hfc, kC, hkC, hkind⟩ := hK.1.1 ci _ f1
  obtain ⟨cf, kf, fi, f, hi, hsl⟩ := hSl j f2
  have hlay := hC.2.2.2.2.2.1 _ (f4 _ (u_in_lay f2))
  unfold u_lay at hlay
  rw [if_neg (by rw [f7]; decide)] at hlay
  have hst := (u_facts hfc hkC (u_lays hC.2.2.2.2.2.1 f4 f2) hi).1
  have h6 := u_store hfc hkC hkind hlay hi f9 (hn (B.1 + x)) (hfit (B.1 + x))
  refine W.putK hC.1 hC.2.1 (f := f) ⟨hC.2.2.2.2.1, hC.2.2.2.2.2.1 _ f3, ⟨_, _, _, hi⟩, hst⟩ (by rw [q2]; exact h6) q1 q3 (by rw [hsl]; exact k2_hasslot (q4 j f2)) rfl rfl hd fun H' e1 e2 e3 => ?_
  rw [hsl] at e1 ⊢
  have hl : j < (fs.map (tv B)).length := by rw [List.length_map]; exact hj
  have ha : va_at D clz (B.1 + k, tE cy B (.inr (ci, fs.set j (.ref x)))) H' := by
    show va_at D clz (B.1 + k, .inr (ci, (fs.set j (.ref x)).map (tv B))) H'
    rw [← map_set]
    exact ⟨_, f1, t_OB.to (V := updV (vp_V (fs.map (tv B))) j (tv B (.ref x))) ⟨_, e1, q2, q3, t_set q4 hap f2 (tv B (.ref x))⟩ (fun i _ => vp_updV_set hl (tv B (.ref x)) i)⟩
  exact kk _ (Nw.of hh _) l p e s m args below meth c D cy B H' _ ls hC hK hG hb (hW.upd hh ha e3 e2) (hS.put e2 e3 (Nat.le_add_right _ _)) hL
theorem at_putrF (pc' : Nat) {idx k ci j : Nat} {fs fs' : List Value} {x : Nat} {ty : FieldType} (hd : decode M.2.1 pc = .ok (.putfield idx, 3)) (hp : pc + 3 = pc') (hf : PL true M.1.cls idx ci j ty) (hh : h[k]? = some (.inr (ci, fs))) (hj : j < fs.length) (hn : ∀ a : Nat, narrow ty (.ref a) = .ref a) (hfit : ∀ a : Nat, fits ty (.ref a) = true) (hin : M.1.name = "<init>") (ho : ∀ C T N, clz[ci]? = some (C, T, N) → C = M.1.cls) (hfs : fs.set j (.ref x) = fs') (kk : ∀ h' : List PC, Nw h k (.inr (ci, fs')) h' → At M G pc' L rest h' cs sl Z) : At M G pc L (.ref x :: .ref k :: rest) h cs sl Z := by
  intro l p e s m args below meth c D cy B H locs ls hC hK hG hb hW hS hL
  subst hp; subst hfs
  obtain ⟨C, T, N, ty0, f1, f2, f3, f4, f5, f6, f7, f8, f9⟩ := hf
  have hap := va_apart (D := D) (own := M.1.cls) hC.2.2.2.2.2.1 f4 ty0 f5 f6 hK.1 f1
  obtain ⟨r, h1, cell, q1, q2, q3, q4⟩ := hW.1 k _ (wo_get hh)
  have hr : r = (C, T, N) := Option.some.inj (h1.symm.trans f1)
  subst hr
  obtain ⟨hSl, hfc, kC, hkC, hkind⟩ := hK.1.1 ci _ f1
  obtain ⟨cf, kf, fi, f, hi, hsl⟩ := hSl j f2
  have hlay := hC.2.2.2.2.2.1 _ (f4 _ (u_in_lay f2))
  unfold u_lay at hlay
  rw [if_pos f7] at hlay
  have hst := (u_facts hfc hkC (u_lays hC.2.2.2.2.2.1 f4 f2) hi).1
  have hcf : m.cls = cf := by
    obtain ⟨_, _, c', _, _, _, -, -, hf', -, -, -, hown2, -⟩ := Cond.laysFinal_spec hlay
    have e1 : c' = cf := by have := hi.symm.trans hf'; simp at this; exact this.1.symm
    rw [f8, ho C T N f1] at hown2
    rw [← e1]; exact Option.some.inj (hC.2.2.2.2.1.symm.trans hown2)
  have h6 := u_fits hfc hkC hkind (Or.inr hlay) hi f9 (hn (B.1 + x)) (hfit (B.1 + x))
  refine W.putFinK hC.1 hC.2.1 hC.2.2.2.2.1 (hC.2.2.2.2.2.1 _ f3) hi hst hcf (hC.2.2.2.2.2.2.2.trans hin) (by rw [q2]; exact h6) q1 q3 (by rw [hsl]; exact k2_hasslot (q4 j f2)) rfl rfl hd fun H' e1 e2 e3 => ?_
  rw [hsl] at e1 ⊢
  have hl : j < (fs.map (tv B)).length := by rw [List.length_map]; exact hj
  have ha : va_at D clz (B.1 + k, tE cy B (.inr (ci, fs.set j (.ref x)))) H' := by
    show va_at D clz (B.1 + k, .inr (ci, (fs.set j (.ref x)).map (tv B))) H'
    rw [← map_set]
    exact ⟨_, f1, t_OB.to (V := updV (vp_V (fs.map (tv B))) j (tv B (.ref x))) ⟨_, e1, q2, q3, t_set q4 hap f2 (tv B (.ref x))⟩ (fun i _ => vp_updV_set hl (tv B (.ref x)) i)⟩
  exact kk _ (Nw.of hh _) l p e s m args below meth c D cy B H' _ ls hC hK hG hb (hW.upd hh ha e3 e2) (hS.put e2 e3 (Nat.le_add_right _ _)) hL
def aG (n : Nat) (f : Nat → Int32) : PC := .inl (0, n, .inl f)
def aJ (n : Nat) (f : Nat → Int64) : PC := .inl (1, n, .inr (.inl f))
def aZ (n : Nat) (f : Nat → Int32) : PC := .inl (2, n, .inl f)
def aR (n : Nat) (f : Nat → Option Nat) : PC := .inl (3, n, .inr (.inr (.inr (.inr f))))
theorem at_ialdG (pc' : Nat) {k n : Nat} {f : Nat → Int32} {i : Int32} (hd : decode M.2.1 pc = .ok (.iaload, 1)) (hp : pc + 1 = pc') (hh : h[k]? = some (aG n f)) (hi : vp_in i n) (kk : At M G pc' L (.int (f i.toNatClampNeg) :: rest) h cs sl Z) : At M G pc L (.int i :: .ref k :: rest) h cs sl Z := by
  intro l p e s m args below meth c D cy B H locs ls hC hK hG hb hW hS hL
  subst hp
  exact va_iald hC.1 hC.2.1 hK.1 hW.1 k 0 (wo_get hh) rfl hi hd (kk l p e s m args below meth c D cy B H locs ls hC hK hG hb hW hS hL)
theorem at_laldG (pc' : Nat) {k n : Nat} {f : Nat → Int64} {i : Int32} (hd : decode M.2.1 pc = .ok (.laload, 1)) (hp : pc + 1 = pc') (hh : h[k]? = some (aJ n f)) (hi : vp_in i n) (kk : At M G pc' L (.long (f i.toNatClampNeg) :: rest) h cs sl Z) : At M G pc L (.int i :: .ref k :: rest) h cs sl Z := by
  intro l p e s m args below meth c D cy B H locs ls hC hK hG hb hW hS hL
  subst hp
  exact va_lald hC.1 hC.2.1 hK.1 hW.1 k 1 (wo_get hh) rfl hi hd (kk l p e s m args below meth c D cy B H locs ls hC hK hG hb hW hS hL)
theorem at_zaldG (pc' : Nat) {k n : Nat} {f : Nat → Int32} {i : Int32} (hd : decode M.2.1 pc = .ok (.baload, 1)) (hp : pc + 1 = pc') (hh : h[k]? = some (aZ n f)) (hi : vp_in i n) (kk : At M G pc' L (.int (f i.toNatClampNeg) :: rest) h cs sl Z) : At M G pc L (.int i :: .ref k :: rest) h cs sl Z := by
  intro l p e s m args below meth c D cy B H locs ls hC hK hG hb hW hS hL
  subst hp
  exact va_zald hC.1 hC.2.1 hK.1 hW.1 k 2 (wo_get hh) rfl hi hd (kk l p e s m args below meth c D cy B H locs ls hC hK hG hb hW hS hL)
theorem at_aald (pc' : Nat) {k n a : Nat} {f : Nat → Option Nat} {i : Int32} (hd : decode M.2.1 pc = .ok (.aaload, 1)) (hp : pc + 1 = pc') (hh : h[k]? = some (aR n f)) (hi : vp_in i n) (hv : f i.toNatClampNeg = some a) (kk : At M G pc' L (.ref a :: rest) h cs sl Z) : At M G pc L (.int i :: .ref k :: rest) h cs sl Z := by
  intro l p e s m args below meth c D cy B H locs ls hC hK hG hb hW hS hL
  subst hp
  have hlt : i.toNatClampNeg < n := Nat.not_le.mp fun q => hi (Or.inr q)
  exact W.aald (v := .ref (B.1 + a)) (ty := .array .int) hC.1 hC.2.1 (hW.1 k _ (wo_get hh)) ((hK.1.2 3 (cy 3, .array .int) rfl).1 n (fun j => va_rf ((f j).map (fun k => B.1 + k)))) rfl (fun q => by cases q) (by show ¬ (i < 0 ∨ (arrV _ _ _).slots.size ≤ _); rw [arrV_size]; exact hi) (by show (arrV (cy 3) n (fun j => va_rf ((f j).map (fun k => B.1 + k)))).slots[i.toNatClampNeg]? = _; rw [arrV_read _ _ hlt, hv]; rfl) rfl rfl hd (kk l p e s m args below meth c D cy B H locs ls hC hK hG hb hW hS hL)
theorem at_alen (pc' : Nat) {k t n : Nat} {v : Int32} {x : (Nat → Int32) ⊕ (Nat → Int64) ⊕ (Nat → UInt32) ⊕ (Nat → UInt64) ⊕ (Nat → Option Nat)} (ty : FieldType) (hd : decode M.2.1 pc = .ok (.arraylength, 1)) (hp : pc + 1 = pc') (hh : h[k]? = some (.inl (t, n, x))) (ht : ∀ cy : Nat → ClassId, (tyl cy)[t]? = some (cy t, ty)) (hv : Int32.ofNat n = v) (kk : At M G pc' L (.int v :: rest) h cs sl Z) : At M G pc L (.ref k :: rest) h cs sl Z := by
  intro l p e s m args below meth c D cy B H locs ls hC hK hG hb hW hS hL
  subst hp
  exact va_alen hC.1 hC.2.1 hK.1 hW.1 k t (wo_get hh) (ht cy) hv hd (kk l p e s m args below meth c D cy B H locs ls hC hK hG hb hW hS hL)
theorem at_iastG (pc' : Nat) {k n : Nat} {f : Nat → Int32} {i : Int32} {x : Int32} (hd : decode M.2.1 pc = .ok (.iastore, 1)) (hp : pc + 1 = pc') (hh : h[k]? = some (aG n f)) (hi : vp_in i n) (kk : ∀ h' : List PC, Nw h k (aG n (upd f i.toNatClampNeg x)) h' → At M G pc' L rest h' cs sl Z) : At M G pc L (.int x :: .int i :: .ref k :: rest) h cs sl Z := by
  intro l p e s m args below meth c D cy B H locs ls hC hK hG hb hW hS hL
  subst hp
  refine W.iast hC.1 hC.2.1 (hW.1 k _ (wo_get hh)) ((hK.1.2 0 _ rfl).1 n (fun j => .int (f j))) (fun q => by cases q) (by show ¬ (i < 0 ∨ (arrV _ _ _).slots.size ≤ _); rw [arrV_size]; exact hi) rfl rfl hd fun H1 e0 z oq => ?_
  have ha : va_at D clz (B.1 + k, tE cy B (aG n (upd f i.toNatClampNeg x))) H1 := by
    show H1[B.1 + k]? = some (vp_cell (cy 0) (n, .inl (upd f i.toNatClampNeg x)))
    rw [e0]
    show some ((vp_cell (cy 0) (n, .inl f)).setSlot _ _) = _
    first | rw [vp_cell_i, vp_cell_i, arrV_store] | rw [vp_cell_l, vp_cell_l, arrV_store]
    congr 2
    funext q
    by_cases hq : q = i.toNatClampNeg
    · subst hq
      simp [updV, upd, vp_updL, vp_nar, narrow]
    · simp [updV, upd, vp_updL, hq]
  exact kk _ (Nw.of hh _) l p e s m args below meth c D cy B H1 _ ls hC hK hG hb (hW.upd hh ha oq z) (hS.put z oq (Nat.le_add_right _ _)) hL
theorem at_lastG (pc' : Nat) {k n : Nat} {f : Nat → Int64} {i : Int32} {x : Int64} (hd : decode M.2.1 pc = .ok (.lastore, 1)) (hp : pc + 1 = pc') (hh : h[k]? = some (aJ n f)) (hi : vp_in i n) (kk : ∀ h' : List PC, Nw h k (aJ n (vp_updL f i.toNatClampNeg x)) h' → At M G pc' L rest h' cs sl Z) : At M G pc L (.long x :: .int i :: .ref k :: rest) h cs sl Z := by
  intro l p e s m args below meth c D cy B H locs ls hC hK hG hb hW hS hL
  subst hp
  refine W.last hC.1 hC.2.1 (hW.1 k _ (wo_get hh)) ((hK.1.2 1 _ rfl).1 n (fun j => .long (f j))) (fun q => by cases q) (by show ¬ (i < 0 ∨ (arrV _ _ _).slots.size ≤ _); rw [arrV_size]; exact hi) rfl rfl hd fun H1 e0 z oq => ?_
  have ha : va_at D clz (B.1 + k, tE cy B (aJ n (vp_updL f i.toNatClampNeg x))) H1 := by
    show H1[B.1 + k]? = some (vp_cell (cy 1) (n, .inr (.inl (vp_updL f i.toNatClampNeg x))))
    rw [e0]
    show some ((vp_cell (cy 1) (n, .inr (.inl f))).setSlot _ _) = _
    first | rw [vp_cell_i, vp_cell_i, arrV_store] | rw [vp_cell_l, vp_cell_l, arrV_store]
    congr 2
    funext q
    by_cases hq : q = i.toNatClampNeg
    · subst hq
      simp [updV, upd, vp_updL, vp_nar, narrow]
    · simp [updV, upd, vp_updL, hq]
  exact kk _ (Nw.of hh _) l p e s m args below meth c D cy B H1 _ ls hC hK hG hb (hW.upd hh ha oq z) (hS.put z oq (Nat.le_add_right _ _)) hL
theorem at_zastG (pc' : Nat) {k n : Nat} {f : Nat → Int32} {i : Int32} {x : Int32} (hd : decode M.2.1 pc = .ok (.bastore, 1)) (hp : pc + 1 = pc') (hh : h[k]? = some (aZ n f)) (hi : vp_in i n) (kk : ∀ h' : List PC, Nw h k (aZ n (upd f i.toNatClampNeg (vp_nar .boolean x))) h' → At M G pc' L rest h' cs sl Z) : At M G pc L (.int x :: .int i :: .ref k :: rest) h cs sl Z := by
  intro l p e s m args below meth c D cy B H locs ls hC hK hG hb hW hS hL
  subst hp
  refine W.zast hC.1 hC.2.1 (hW.1 k _ (wo_get hh)) ((hK.1.2 2 _ rfl).1 n (fun j => .int (f j))) (fun q => by cases q) (by show ¬ (i < 0 ∨ (arrV _ _ _).slots.size ≤ _); rw [arrV_size]; exact hi) rfl rfl hd fun H1 e0 z oq => ?_
  have ha : va_at D clz (B.1 + k, tE cy B (aZ n (upd f i.toNatClampNeg (vp_nar .boolean x)))) H1 := by
    show H1[B.1 + k]? = some (vp_cell (cy 2) (n, .inl (upd f i.toNatClampNeg (vp_nar .boolean x))))
    rw [e0]
    show some ((vp_cell (cy 2) (n, .inl f)).setSlot _ _) = _
    first | rw [vp_cell_i, vp_cell_i, arrV_store] | rw [vp_cell_l, vp_cell_l, arrV_store]
    congr 2
    funext q
    by_cases hq : q = i.toNatClampNeg
    · subst hq
      simp [updV, upd, vp_updL, vp_nar, narrow]
    · simp [updV, upd, vp_updL, hq]
  exact kk _ (Nw.of hh _) l p e s m args below meth c D cy B H1 _ ls hC hK hG hb (hW.upd hh ha oq z) (hS.put z oq (Nat.le_add_right _ _)) hL
end ATR
