/-! ===== rows over naturals ===== -/
def updN (w : Nat → Nat) (j x : Nat) : Nat → Nat := fun i => if i = j then x else w i
def aI (n : Nat) (w : Nat → Nat) : PC := aG n (fun i => nI (w i))
def aL (n : Nat) (w : Nat → Nat) : PC := aJ n (fun i => lN (w i))
def bI (b : Bool) : Int32 := if b then 1 else 0
theorem updN_I (w : Nat → Nat) (j x : Nat) : upd (fun i => nI (w i)) j (nI x) = fun i => nI (updN w j x i) := by
  funext i; unfold upd updN; by_cases e : i = j <;> simp [e]
theorem updN_L (w : Nat → Nat) (j x : Nat) : vp_updL (fun i => lN (w i)) j (lN x) = fun i => lN (updN w j x i) := by
  funext i; unfold vp_updL updN; by_cases e : i = j <;> simp [e]
theorem updN_s (w : Nat → Nat) (j x : Nat) : updN w j x j = x := if_pos rfl
theorem updN_n (w : Nat → Nat) {j i : Nat} (x : Nat) (h : i ≠ j) : updN w j x i = w i := if_neg h
def Fr (P : Nat → Prop) (h0 h : List PC) : Prop := (∀ j, ¬ P j → h[j]? = h0[j]?) ∧ h.length = h0.length
theorem Fr.rf {P : Nat → Prop} {h : List PC} : Fr P h h := ⟨fun _ _ => rfl, rfl⟩
theorem Fr.nw {P : Nat → Prop} {h0 h h' : List PC} {k : Nat} {c : PC} (f : Fr P h0 h) (n : Nw h k c h') (hk : P k) : Fr P h0 h' :=
  ⟨fun j q => (n.2.1 j (fun e => q (by rw [e]; exact hk))).trans (f.1 j q), n.2.2.trans f.2⟩
theorem Fr.tr {P P' : Nat → Prop} {h0 h h' : List PC} (f : Fr P h0 h) (g : Fr P' h h') (hk : ∀ j, P' j → P j) : Fr P h0 h' :=
  ⟨fun j q => (g.1 j (fun e => q (hk j e))).trans (f.1 j q), g.2.trans f.2⟩
theorem Fr.wk {P P' : Nat → Prop} {h0 h : List PC} (f : Fr P h0 h) (hk : ∀ j, P j → P' j) : Fr P' h0 h := ⟨fun j q => f.1 j (fun e => q (hk j e)), f.2⟩
theorem Fr.at {P : Nat → Prop} {h0 h : List PC} {x : Option PC} {k : Nat} (f : Fr P h0 h) (hk : ¬ P k) (e : h0[k]? = x) : h[k]? = x := (f.1 k hk).trans e
theorem Nw.o {h h' : List PC} {k j : Nat} {c : PC} {x : Option PC} (n : Nw h k c h') (hj : j ≠ k) (e : h[j]? = x) : h'[j]? = x := (n.2.1 j hj).trans e
section ATN
variable {M : MI} {G : GT} {pc : Nat} {L rest : List Value} {h : List PC} {cs sl : Nat} {Z : ZT}
theorem at_g (pc' : Nat) {idx k ci j : Nat} (hd : decode M.2.1 pc = .ok (.getfield idx, 3)) (hp : pc + 3 = pc') (hf : FL M.1.cls idx ci j) (kk : ∃ fs : List Value, h[k]? = some (.inr (ci, fs)) ∧ ∃ v, fs[j]? = some v ∧ At M G pc' L (v :: rest) h cs sl Z) : At M G pc L (.ref k :: rest) h cs sl Z := by
  obtain ⟨fs, h1, v, h2, h3⟩ := kk
  exact at_get pc' hd hp hf h1 h2 h3
theorem at_pi (pc' : Nat) {idx k ci j : Nat} {x : Int32} {ty : FieldType} (hd : decode M.2.1 pc = .ok (.putfield idx, 3)) (hp : pc + 3 = pc') (hf : PL false M.1.cls idx ci j ty) (hn : narrow ty (.int x) = .int x) (hfit : fits ty (.int x) = true) (kk : ∃ fs : List Value, h[k]? = some (.inr (ci, fs)) ∧ j < fs.length ∧ ∃ fs', fs.set j (.int x) = fs' ∧ ∀ h' : List PC, Nw h k (.inr (ci, fs')) h' → At M G pc' L rest h' cs sl Z) : At M G pc L (.int x :: .ref k :: rest) h cs sl Z := by
  obtain ⟨fs, h1, h2, fs', h3, h4⟩ := kk
  exact at_puti pc' hd hp hf h1 h2 hn hfit h3 h4
theorem at_pl (pc' : Nat) {idx k ci j : Nat} {x : Int64} (hd : decode M.2.1 pc = .ok (.putfield idx, 3)) (hp : pc + 3 = pc') (hf : PL false M.1.cls idx ci j .long) (kk : ∃ fs : List Value, h[k]? = some (.inr (ci, fs)) ∧ j < fs.length ∧ ∃ fs', fs.set j (.long x) = fs' ∧ ∀ h' : List PC, Nw h k (.inr (ci, fs')) h' → At M G pc' L rest h' cs sl Z) : At M G pc L (.long x :: .ref k :: rest) h cs sl Z := by
  obtain ⟨fs, h1, h2, fs', h3, h4⟩ := kk
  exact at_putl pc' hd hp hf h1 h2 rfl rfl h3 h4
theorem at_ia (pc' : Nat) {k j : Nat} (hd : decode M.2.1 pc = .ok (.iaload, 1)) (hp : pc + 1 = pc') (kk : ∃ (n : Nat) (w : Nat → Nat), h[k]? = some (aI n w) ∧ j < n ∧ n < 2 ^ 31 ∧ At M G pc' L (.int (nI (w j)) :: rest) h cs sl Z) : At M G pc L (.int (nI j) :: .ref k :: rest) h cs sl Z := by
  obtain ⟨n, w, h1, h2, h3, h4⟩ := kk
  refine at_ialdG pc' hd hp h1 (vp_in_nI h2 h3) ?_
  rw [nI_clamp (by omega)]
  exact h4
theorem at_iaG (pc' : Nat) {k j : Nat} (hd : decode M.2.1 pc = .ok (.iaload, 1)) (hp : pc + 1 = pc') (kk : ∃ (n : Nat) (f : Nat → Int32), h[k]? = some (aG n f) ∧ j < n ∧ n < 2 ^ 31 ∧ At M G pc' L (.int (f j) :: rest) h cs sl Z) : At M G pc L (.int (nI j) :: .ref k :: rest) h cs sl Z := by
  obtain ⟨n, w, h1, h2, h3, h4⟩ := kk
  refine at_ialdG pc' hd hp h1 (vp_in_nI h2 h3) ?_
  rw [nI_clamp (by omega)]
  exact h4
theorem at_za (pc' : Nat) {k j : Nat} (hd : decode M.2.1 pc = .ok (.baload, 1)) (hp : pc + 1 = pc') (kk : ∃ (n : Nat) (f : Nat → Int32), h[k]? = some (aZ n f) ∧ j < n ∧ n < 2 ^ 31 ∧ At M G pc' L (.int (f j) :: rest) h cs sl Z) : At M G pc L (.int (nI j) :: .ref k :: rest) h cs sl Z := by
  obtain ⟨n, w, h1, h2, h3, h4⟩ := kk
  refine at_zaldG pc' hd hp h1 (vp_in_nI h2 h3) ?_
  rw [nI_clamp (by omega)]
  exact h4
theorem at_la (pc' : Nat) {k j : Nat} (hd : decode M.2.1 pc = .ok (.laload, 1)) (hp : pc + 1 = pc') (kk : ∃ (n : Nat) (w : Nat → Nat), h[k]? = some (aL n w) ∧ j < n ∧ n < 2 ^ 31 ∧ At M G pc' L (.long (lN (w j)) :: rest) h cs sl Z) : At M G pc L (.int (nI j) :: .ref k :: rest) h cs sl Z := by
  obtain ⟨n, w, h1, h2, h3, h4⟩ := kk
  refine at_laldG pc' hd hp h1 (vp_in_nI h2 h3) ?_
  rw [nI_clamp (by omega)]
  exact h4
theorem at_laJ (pc' : Nat) {k j : Nat} (hd : decode M.2.1 pc = .ok (.laload, 1)) (hp : pc + 1 = pc') (kk : ∃ (n : Nat) (f : Nat → Int64), h[k]? = some (aJ n f) ∧ j < n ∧ n < 2 ^ 31 ∧ At M G pc' L (.long (f j) :: rest) h cs sl Z) : At M G pc L (.int (nI j) :: .ref k :: rest) h cs sl Z := by
  obtain ⟨n, w, h1, h2, h3, h4⟩ := kk
  refine at_laldG pc' hd hp h1 (vp_in_nI h2 h3) ?_
  rw [nI_clamp (by omega)]
  exact h4
theorem at_aa (pc' : Nat) {k j : Nat} (hd : decode M.2.1 pc = .ok (.aaload, 1)) (hp : pc + 1 = pc') (kk : ∃ (n : Nat) (f : Nat → Option Nat), h[k]? = some (aR n f) ∧ j < n ∧ n < 2 ^ 31 ∧ ∃ a, f j = some a ∧ At M G pc' L (.ref a :: rest) h cs sl Z) : At M G pc L (.int (nI j) :: .ref k :: rest) h cs sl Z := by
  obtain ⟨n, w, h1, h2, h3, a, h4, h5⟩ := kk
  exact at_aald pc' hd hp h1 (vp_in_nI h2 h3) (by rw [nI_clamp (by omega)]; exact h4) h5
theorem at_is (pc' : Nat) {k j x : Nat} (hd : decode M.2.1 pc = .ok (.iastore, 1)) (hp : pc + 1 = pc') (kk : ∃ (n : Nat) (w : Nat → Nat), h[k]? = some (aI n w) ∧ j < n ∧ n < 2 ^ 31 ∧ ∀ h' : List PC, Nw h k (aI n (updN w j x)) h' → At M G pc' L rest h' cs sl Z) : At M G pc L (.int (nI x) :: .int (nI j) :: .ref k :: rest) h cs sl Z := by
  obtain ⟨n, w, h1, h2, h3, h4⟩ := kk
  refine at_iastG pc' hd hp h1 (vp_in_nI h2 h3) (fun h' n' => h4 h' ?_)
  rw [nI_clamp (by omega), updN_I] at n'
  exact n'
theorem at_isG (pc' : Nat) {k j : Nat} {x : Int32} (hd : decode M.2.1 pc = .ok (.iastore, 1)) (hp : pc + 1 = pc') (kk : ∃ (n : Nat) (f : Nat → Int32), h[k]? = some (aG n f) ∧ j < n ∧ n < 2 ^ 31 ∧ ∀ h' : List PC, Nw h k (aG n (upd f j x)) h' → At M G pc' L rest h' cs sl Z) : At M G pc L (.int x :: .int (nI j) :: .ref k :: rest) h cs sl Z := by
  obtain ⟨n, w, h1, h2, h3, h4⟩ := kk
  refine at_iastG pc' hd hp h1 (vp_in_nI h2 h3) (fun h' n' => h4 h' ?_)
  rw [nI_clamp (by omega)] at n'
  exact n'
theorem at_zs (pc' : Nat) {k j : Nat} {b : Bool} (hd : decode M.2.1 pc = .ok (.bastore, 1)) (hp : pc + 1 = pc') (kk : ∃ (n : Nat) (f : Nat → Int32), h[k]? = some (aZ n f) ∧ j < n ∧ n < 2 ^ 31 ∧ ∀ h' : List PC, Nw h k (aZ n (upd f j (bI b))) h' → At M G pc' L rest h' cs sl Z) : At M G pc L (.int (bI b) :: .int (nI j) :: .ref k :: rest) h cs sl Z := by
  obtain ⟨n, w, h1, h2, h3, h4⟩ := kk
  refine at_zastG pc' hd hp h1 (vp_in_nI h2 h3) (fun h' n' => h4 h' ?_)
  rw [nI_clamp (by omega), show vp_nar .boolean (bI b) = bI b by cases b <;> rfl] at n'
  exact n'
theorem at_ls (pc' : Nat) {k j x : Nat} (hd : decode M.2.1 pc = .ok (.lastore, 1)) (hp : pc + 1 = pc') (kk : ∃ (n : Nat) (w : Nat → Nat), h[k]? = some (aL n w) ∧ j < n ∧ n < 2 ^ 31 ∧ ∀ h' : List PC, Nw h k (aL n (updN w j x)) h' → At M G pc' L rest h' cs sl Z) : At M G pc L (.long (lN x) :: .int (nI j) :: .ref k :: rest) h cs sl Z := by
  obtain ⟨n, w, h1, h2, h3, h4⟩ := kk
  refine at_lastG pc' hd hp h1 (vp_in_nI h2 h3) (fun h' n' => h4 h' ?_)
  rw [nI_clamp (by omega), updN_L] at n'
  exact n'
theorem at_lsJ (pc' : Nat) {k j : Nat} {x : Int64} (hd : decode M.2.1 pc = .ok (.lastore, 1)) (hp : pc + 1 = pc') (kk : ∃ (n : Nat) (f : Nat → Int64), h[k]? = some (aJ n f) ∧ j < n ∧ n < 2 ^ 31 ∧ ∀ h' : List PC, Nw h k (aJ n (vp_updL f j x)) h' → At M G pc' L rest h' cs sl Z) : At M G pc L (.long x :: .int (nI j) :: .ref k :: rest) h cs sl Z := by
  obtain ⟨n, w, h1, h2, h3, h4⟩ := kk
  refine at_lastG pc' hd hp h1 (vp_in_nI h2 h3) (fun h' n' => h4 h' ?_)
  rw [nI_clamp (by omega)] at n'
  exact n'
theorem at_iaddN (pc' : Nat) {a b : Nat} (hd : decode M.2.1 pc = .ok (.iadd, 1)) (hp : pc + 1 = pc') (kk : At M G pc' L (.int (nI (a + b)) :: rest) h cs sl Z) : At M G pc L (.int (nI b) :: .int (nI a) :: rest) h cs sl Z := at_iadd pc' hd hp (by rw [nI_add]; exact kk)
theorem at_imulN (pc' : Nat) {a b : Nat} (hd : decode M.2.1 pc = .ok (.imul, 1)) (hp : pc + 1 = pc') (kk : At M G pc' L (.int (nI (a * b)) :: rest) h cs sl Z) : At M G pc L (.int (nI b) :: .int (nI a) :: rest) h cs sl Z := at_imul pc' hd hp (by rw [pk_mul]; exact kk)
theorem at_isubN (pc' : Nat) {a b : Nat} (hd : decode M.2.1 pc = .ok (.isub, 1)) (hp : pc + 1 = pc') (hab : b ≤ a) (kk : At M G pc' L (.int (nI (a - b)) :: rest) h cs sl Z) : At M G pc L (.int (nI b) :: .int (nI a) :: rest) h cs sl Z := at_isub pc' hd hp (by rw [pk_sub hab]; exact kk)
theorem at_iincN (pc' : Nat) {i j : Nat} {n : Int} {q : Nat} {L' : List Value} (hd : decode M.2.1 pc = .ok (.iinc i n, 3)) (hp : pc + 3 = pc') (hq : Int32.ofInt n = nI q) (hi : L[i]? = some (.int (nI j))) (hn : i < M.2.2.1) (hc : nlb L i = true) (hl : L.set i (.int (nI (j + q))) = L') (kk : At M G pc' L' rest h cs sl Z) : At M G pc L rest h cs sl Z := at_iinc pc' hd hp (by rw [hq, nI_add]) hi hn hc hl kk
theorem at_idecN (pc' : Nat) {i j : Nat} {L' : List Value} (hd : decode M.2.1 pc = .ok (.iinc i (-1), 3)) (hp : pc + 3 = pc') (hi : L[i]? = some (.int (nI (j + 1)))) (hn : i < M.2.2.1) (hc : nlb L i = true) (hl : L.set i (.int (nI j)) = L') (kk : At M G pc' L' rest h cs sl Z) : At M G pc L rest h cs sl Z := at_iinc pc' hd hp (by rw [show Int32.ofInt (-1) = -1 by decide, pk_m1]) hi hn hc hl kk
theorem at_i2lN (pc' : Nat) {a : Nat} (hd : decode M.2.1 pc = .ok (.i2l, 1)) (hp : pc + 1 = pc') (ha : a < 2 ^ 31) (kk : At M G pc' L (.long (lN a) :: rest) h cs sl Z) : At M G pc L (.int (nI a) :: rest) h cs sl Z := at_i2l pc' hd hp (nI_l ha) kk
theorem at_l2iN (pc' : Nat) {a : Nat} (hd : decode M.2.1 pc = .ok (.l2i, 1)) (hp : pc + 1 = pc') (kk : At M G pc' L (.int (nI a) :: rest) h cs sl Z) : At M G pc L (.long (lN a) :: rest) h cs sl Z := at_l2i pc' hd hp (lN_i a) kk
theorem at_laddN (pc' : Nat) {a b : Nat} (hd : decode M.2.1 pc = .ok (.ladd, 1)) (hp : pc + 1 = pc') (kk : At M G pc' L (.long (lN (a + b)) :: rest) h cs sl Z) : At M G pc L (.long (lN b) :: .long (lN a) :: rest) h cs sl Z := at_ladd pc' hd hp (by rw [lN_add]; exact kk)
theorem at_lmulN (pc' : Nat) {a b : Nat} (hd : decode M.2.1 pc = .ok (.lmul, 1)) (hp : pc + 1 = pc') (kk : At M G pc' L (.long (lN (a * b)) :: rest) h cs sl Z) : At M G pc L (.long (lN b) :: .long (lN a) :: rest) h cs sl Z := at_lmul pc' hd hp (by rw [lN_mul]; exact kk)
theorem at_lsubN (pc' : Nat) {a b : Nat} (hd : decode M.2.1 pc = .ok (.lsub, 1)) (hp : pc + 1 = pc') (hab : b ≤ a) (kk : At M G pc' L (.long (lN (a - b)) :: rest) h cs sl Z) : At M G pc L (.long (lN b) :: .long (lN a) :: rest) h cs sl Z := at_lsub pc' hd hp (by rw [lN_sub hab]; exact kk)
theorem lN_ne0 {b : Nat} (h0 : 0 < b) (hb : b < 2 ^ 63) : ¬ lN b = 0 := by
  intro e
  have : lN b = lN 0 := e
  rw [pk_lEQ hb (by decide)] at this
  omega
theorem at_ldivN (pc' : Nat) {a b : Nat} (hd : decode M.2.1 pc = .ok (.ldiv, 1)) (hp : pc + 1 = pc') (ha : a < 2 ^ 63) (h0 : 0 < b) (hb : b < 2 ^ 63) (kk : At M G pc' L (.long (lN (a / b)) :: rest) h cs sl Z) : At M G pc L (.long (lN b) :: .long (lN a) :: rest) h cs sl Z := at_ldiv pc' hd hp (lN_ne0 h0 hb) (by rw [pk_lDiv ha h0 hb]; exact kk)
theorem at_lremN (pc' : Nat) {a b : Nat} (hd : decode M.2.1 pc = .ok (.lrem, 1)) (hp : pc + 1 = pc') (ha : a < 2 ^ 63) (h0 : 0 < b) (hb : b < 2 ^ 63) (kk : At M G pc' L (.long (lN (a % b)) :: rest) h cs sl Z) : At M G pc L (.long (lN b) :: .long (lN a) :: rest) h cs sl Z := at_lrem pc' hd hp (lN_ne0 h0 hb) (by rw [pk_lRem ha h0 hb]; exact kk)
theorem at_idivN (pc' : Nat) {a b : Nat} (hd : decode M.2.1 pc = .ok (.idiv, 1)) (hp : pc + 1 = pc') (ha : a < 2 ^ 31) (h0 : 0 < b) (hb : b < 2 ^ 31) (kk : At M G pc' L (.int (nI (a / b)) :: rest) h cs sl Z) : At M G pc L (.int (nI b) :: .int (nI a) :: rest) h cs sl Z := at_idiv pc' hd hp (nI_ne0 h0 hb) (by rw [pk_div ha h0 hb]; exact kk)
theorem at_iremN (pc' : Nat) {a b : Nat} (hd : decode M.2.1 pc = .ok (.irem, 1)) (hp : pc + 1 = pc') (ha : a < 2 ^ 31) (h0 : 0 < b) (hb : b < 2 ^ 31) (kk : At M G pc' L (.int (nI (a % b)) :: rest) h cs sl Z) : At M G pc L (.int (nI b) :: .int (nI a) :: rest) h cs sl Z := at_irem pc' hd hp (nI_ne0 h0 hb) (by rw [pk_rem ha h0 hb]; exact kk)
theorem at_icmp_eqN (pt pf : Nat) {a b : Nat} {off : Int} (hd : decode M.2.1 pc = .ok (.if_icmp .eq off, 3)) (ht : (pc : Int) + off = (pt : Int)) (hp : pc + 3 = pf) (ha : a < 2 ^ 31) (hb : b < 2 ^ 31) (kt : a = b → At M G pt L rest h cs sl Z) (kf : a ≠ b → At M G pf L rest h cs sl Z) : At M G pc L (.int (nI b) :: .int (nI a) :: rest) h cs sl Z := at_icmp_eq pt pf hd ht hp (fun q => kt ((nI_eq ha hb).mp q)) (fun q => kf (fun e => q (by rw [e])))
theorem at_icmp_neN (pt pf : Nat) {a b : Nat} {off : Int} (hd : decode M.2.1 pc = .ok (.if_icmp .ne off, 3)) (ht : (pc : Int) + off = (pt : Int)) (hp : pc + 3 = pf) (ha : a < 2 ^ 31) (hb : b < 2 ^ 31) (kt : a ≠ b → At M G pt L rest h cs sl Z) (kf : a = b → At M G pf L rest h cs sl Z) : At M G pc L (.int (nI b) :: .int (nI a) :: rest) h cs sl Z := at_icmp_ne pt pf hd ht hp (fun q => kt (fun e => q (by rw [e]))) (fun q => kf ((nI_eq ha hb).mp q))
theorem at_icmp_ltN (pt pf : Nat) {a b : Nat} {off : Int} (hd : decode M.2.1 pc = .ok (.if_icmp .lt off, 3)) (ht : (pc : Int) + off = (pt : Int)) (hp : pc + 3 = pf) (ha : a < 2 ^ 31) (hb : b < 2 ^ 31) (kt : a < b → At M G pt L rest h cs sl Z) (kf : b ≤ a → At M G pf L rest h cs sl Z) : At M G pc L (.int (nI b) :: .int (nI a) :: rest) h cs sl Z := at_icmp_lt pt pf hd ht hp (fun q => kt ((nI_ltI ha hb).mp q)) (fun q => kf (by have := mt (nI_ltI ha hb).mpr q; omega))
theorem at_icmp_geN (pt pf : Nat) {a b : Nat} {off : Int} (hd : decode M.2.1 pc = .ok (.if_icmp .ge off, 3)) (ht : (pc : Int) + off = (pt : Int)) (hp : pc + 3 = pf) (ha : a < 2 ^ 31) (hb : b < 2 ^ 31) (kt : b ≤ a → At M G pt L rest h cs sl Z) (kf : a < b → At M G pf L rest h cs sl Z) : At M G pc L (.int (nI b) :: .int (nI a) :: rest) h cs sl Z := at_icmp_ge pt pf hd ht hp (fun q => kt ((nI_leI hb ha).mp q)) (fun q => kf (by have := mt (nI_leI hb ha).mpr q; omega))
theorem at_icmp_gtN (pt pf : Nat) {a b : Nat} {off : Int} (hd : decode M.2.1 pc = .ok (.if_icmp .gt off, 3)) (ht : (pc : Int) + off = (pt : Int)) (hp : pc + 3 = pf) (ha : a < 2 ^ 31) (hb : b < 2 ^ 31) (kt : b < a → At M G pt L rest h cs sl Z) (kf : a ≤ b → At M G pf L rest h cs sl Z) : At M G pc L (.int (nI b) :: .int (nI a) :: rest) h cs sl Z := at_icmp_gt pt pf hd ht hp (fun q => kt ((nI_ltI hb ha).mp q)) (fun q => kf (by have := mt (nI_ltI hb ha).mpr q; omega))
theorem at_icmp_leN (pt pf : Nat) {a b : Nat} {off : Int} (hd : decode M.2.1 pc = .ok (.if_icmp .le off, 3)) (ht : (pc : Int) + off = (pt : Int)) (hp : pc + 3 = pf) (ha : a < 2 ^ 31) (hb : b < 2 ^ 31) (kt : a ≤ b → At M G pt L rest h cs sl Z) (kf : b < a → At M G pf L rest h cs sl Z) : At M G pc L (.int (nI b) :: .int (nI a) :: rest) h cs sl Z := at_icmp_le pt pf hd ht hp (fun q => kt ((nI_leI ha hb).mp q)) (fun q => kf (by have := mt (nI_leI ha hb).mpr q; omega))
theorem nI_z {a : Nat} (ha : a < 2 ^ 31) : nI a = 0 ↔ a = 0 := (nI_eq (b := 0) ha (by decide))
theorem at_if_eqN (pt pf : Nat) {a : Nat} {off : Int} (hd : decode M.2.1 pc = .ok (.ifCond .eq off, 3)) (ht : (pc : Int) + off = (pt : Int)) (hp : pc + 3 = pf) (ha : a < 2 ^ 31) (kt : a = 0 → At M G pt L rest h cs sl Z) (kf : a ≠ 0 → At M G pf L rest h cs sl Z) : At M G pc L (.int (nI a) :: rest) h cs sl Z := at_if_eq pt pf hd ht hp (fun q => kt ((nI_z ha).mp q)) (fun q => kf (fun e => q ((nI_z ha).mpr e)))
theorem at_if_neN (pt pf : Nat) {a : Nat} {off : Int} (hd : decode M.2.1 pc = .ok (.ifCond .ne off, 3)) (ht : (pc : Int) + off = (pt : Int)) (hp : pc + 3 = pf) (ha : a < 2 ^ 31) (kt : a ≠ 0 → At M G pt L rest h cs sl Z) (kf : a = 0 → At M G pf L rest h cs sl Z) : At M G pc L (.int (nI a) :: rest) h cs sl Z := at_if_ne pt pf hd ht hp (fun q => kt (fun e => q ((nI_z ha).mpr e))) (fun q => kf ((nI_z ha).mp q))
theorem at_if_ltN (pt pf : Nat) {a : Nat} {off : Int} (hd : decode M.2.1 pc = .ok (.ifCond .lt off, 3)) (ht : (pc : Int) + off = (pt : Int)) (hp : pc + 3 = pf) (ha : a < 2 ^ 31) (kf : At M G pf L rest h cs sl Z) : At M G pc L (.int (nI a) :: rest) h cs sl Z := at_if_lt pt pf hd ht hp (fun q => absurd q (nI_pos ha)) (fun _ => kf)
theorem at_if_geN (pt pf : Nat) {a : Nat} {off : Int} (hd : decode M.2.1 pc = .ok (.ifCond .ge off, 3)) (ht : (pc : Int) + off = (pt : Int)) (hp : pc + 3 = pf) (ha : a < 2 ^ 31) (kt : At M G pt L rest h cs sl Z) : At M G pc L (.int (nI a) :: rest) h cs sl Z := at_if_ge pt pf hd ht hp (fun _ => kt) (fun q => absurd (nI_pos' ha) q)
theorem at_if_leN (pt pf : Nat) {a : Nat} {off : Int} (hd : decode M.2.1 pc = .ok (.ifCond .le off, 3)) (ht : (pc : Int) + off = (pt : Int)) (hp : pc + 3 = pf) (ha : a < 2 ^ 31) (kt : a = 0 → At M G pt L rest h cs sl Z) (kf : 0 < a → At M G pf L rest h cs sl Z) : At M G pc L (.int (nI a) :: rest) h cs sl Z := at_if_le pt pf hd ht hp (fun q => kt (by have := (nI_leI (b := 0) ha (by decide)).mp q; omega)) (fun q => kf (by have := mt (nI_leI (b := 0) ha (by decide)).mpr q; omega))
theorem at_if_gtN (pt pf : Nat) {a : Nat} {off : Int} (hd : decode M.2.1 pc = .ok (.ifCond .gt off, 3)) (ht : (pc : Int) + off = (pt : Int)) (hp : pc + 3 = pf) (ha : a < 2 ^ 31) (kt : 0 < a → At M G pt L rest h cs sl Z) (kf : a = 0 → At M G pf L rest h cs sl Z) : At M G pc L (.int (nI a) :: rest) h cs sl Z := at_if_gt pt pf hd ht hp (fun q => kt ((nI_ltI (a := 0) (by decide) ha).mp q)) (fun q => kf (by have := mt (nI_ltI (a := 0) (by decide) ha).mpr q; omega))
theorem at_if_eqB (pt pf : Nat) {b : Bool} {off : Int} (hd : decode M.2.1 pc = .ok (.ifCond .eq off, 3)) (ht : (pc : Int) + off = (pt : Int)) (hp : pc + 3 = pf) (kt : b = false → At M G pt L rest h cs sl Z) (kf : b = true → At M G pf L rest h cs sl Z) : At M G pc L (.int (bI b) :: rest) h cs sl Z := at_if_eq pt pf hd ht hp (fun q => kt (by cases b; rfl; exact absurd q (by decide))) (fun q => kf (by cases b; exact absurd rfl q; rfl))
theorem at_if_neB (pt pf : Nat) {b : Bool} {off : Int} (hd : decode M.2.1 pc = .ok (.ifCond .ne off, 3)) (ht : (pc : Int) + off = (pt : Int)) (hp : pc + 3 = pf) (kt : b = true → At M G pt L rest h cs sl Z) (kf : b = false → At M G pf L rest h cs sl Z) : At M G pc L (.int (bI b) :: rest) h cs sl Z := at_if_ne pt pf hd ht hp (fun q => kt (by cases b; exact absurd rfl q; rfl)) (fun q => kf (by cases b; rfl; exact absurd q (by decide)))
theorem lgc_le {a b : Nat} (ha : a < 2 ^ 63) (hb : b < 2 ^ 63) : lg_cmp (lN a) (lN b) ≤ 0 ↔ a ≤ b := by
  unfold lg_cmp
  have h1 := pk_lLT ha hb
  have h2 := pk_lLT hb ha
  have h3 := pk_lEQ ha hb
  by_cases c1 : a < b
  · simp [h1, h2, h3, c1, show ¬ b < a by omega, show a ≤ b by omega, show ¬ a = b by omega]
  · by_cases c2 : a = b
    · subst c2; simp
    · simp [h1, h2, h3, c1, c2, show b < a by omega, show ¬ a ≤ b by omega]
theorem lgc_ge {a b : Nat} (ha : a < 2 ^ 63) (hb : b < 2 ^ 63) : 0 ≤ lg_cmp (lN a) (lN b) ↔ b ≤ a := by
  unfold lg_cmp
  have h1 := pk_lLT ha hb
  have h2 := pk_lLT hb ha
  have h3 := pk_lEQ ha hb
  by_cases c1 : a < b
  · simp [h1, h2, h3, c1, show ¬ b < a by omega, show ¬ b ≤ a by omega, show ¬ a = b by omega]
  · by_cases c2 : a = b
    · subst c2; simp
    · simp [h1, h2, h3, c1, c2, show b < a by omega, show b ≤ a by omega]
theorem at_lcmp_leN (pi pt pf : Nat) {a b : Nat} {off : Int} (hd : decode M.2.1 pc = .ok (.lcmp, 1)) (hp : pc + 1 = pi) (hd2 : decode M.2.1 pi = .ok (.ifCond .le off, 3)) (ht : (pi : Int) + off = (pt : Int)) (hpf : pi + 3 = pf) (ha : a < 2 ^ 63) (hb : b < 2 ^ 63) (kt : a ≤ b → At M G pt L rest h cs sl Z) (kf : b < a → At M G pf L rest h cs sl Z) : At M G pc L (.long (lN b) :: .long (lN a) :: rest) h cs sl Z :=
  at_lcmp pi hd hp (at_if_le pt pf hd2 ht hpf (fun q => kt ((lgc_le ha hb).mp q)) (fun q => kf (by have := mt (lgc_le ha hb).mpr q; omega)))
theorem at_lcmp_gtN (pi pt pf : Nat) {a b : Nat} {off : Int} (hd : decode M.2.1 pc = .ok (.lcmp, 1)) (hp : pc + 1 = pi) (hd2 : decode M.2.1 pi = .ok (.ifCond .gt off, 3)) (ht : (pi : Int) + off = (pt : Int)) (hpf : pi + 3 = pf) (ha : a < 2 ^ 63) (hb : b < 2 ^ 63) (kt : b < a → At M G pt L rest h cs sl Z) (kf : a ≤ b → At M G pf L rest h cs sl Z) : At M G pc L (.long (lN b) :: .long (lN a) :: rest) h cs sl Z :=
  at_lcmp pi hd hp (at_if_gt pt pf hd2 ht hpf (fun q => kt (by have h1 := (lgc_le ha hb); have : ¬ lg_cmp (lN a) (lN b) ≤ 0 := Int32.not_le.mpr q; rw [h1] at this; omega)) (fun q => kf ((lgc_le ha hb).mp (Int32.not_lt.mp q))))
theorem at_lcmp_ltN (pi pt pf : Nat) {a b : Nat} {off : Int} (hd : decode M.2.1 pc = .ok (.lcmp, 1)) (hp : pc + 1 = pi) (hd2 : decode M.2.1 pi = .ok (.ifCond .lt off, 3)) (ht : (pi : Int) + off = (pt : Int)) (hpf : pi + 3 = pf) (ha : a < 2 ^ 63) (hb : b < 2 ^ 63) (kt : a < b → At M G pt L rest h cs sl Z) (kf : b ≤ a → At M G pf L rest h cs sl Z) : At M G pc L (.long (lN b) :: .long (lN a) :: rest) h cs sl Z :=
  at_lcmp pi hd hp (at_if_lt pt pf hd2 ht hpf (fun q => kt (by have h1 := (lgc_ge ha hb); have : ¬ 0 ≤ lg_cmp (lN a) (lN b) := Int32.not_le.mpr q; rw [h1] at this; omega)) (fun q => kf ((lgc_ge ha hb).mp (Int32.not_lt.mp q))))
theorem at_lcmp_geN (pi pt pf : Nat) {a b : Nat} {off : Int} (hd : decode M.2.1 pc = .ok (.lcmp, 1)) (hp : pc + 1 = pi) (hd2 : decode M.2.1 pi = .ok (.ifCond .ge off, 3)) (ht : (pi : Int) + off = (pt : Int)) (hpf : pi + 3 = pf) (ha : a < 2 ^ 63) (hb : b < 2 ^ 63) (kt : b ≤ a → At M G pt L rest h cs sl Z) (kf : a < b → At M G pf L rest h cs sl Z) : At M G pc L (.long (lN b) :: .long (lN a) :: rest) h cs sl Z :=
  at_lcmp pi hd hp (at_if_ge pt pf hd2 ht hpf (fun q => kt ((lgc_ge ha hb).mp q)) (fun q => kf (by have := mt (lgc_ge ha hb).mpr q; omega)))
theorem at_lcmp_neN (pi pt pf : Nat) {a b : Nat} {off : Int} (hd : decode M.2.1 pc = .ok (.lcmp, 1)) (hp : pc + 1 = pi) (hd2 : decode M.2.1 pi = .ok (.ifCond .ne off, 3)) (ht : (pi : Int) + off = (pt : Int)) (hpf : pi + 3 = pf) (ha : a < 2 ^ 63) (hb : b < 2 ^ 63) (kt : a ≠ b → At M G pt L rest h cs sl Z) (kf : a = b → At M G pf L rest h cs sl Z) : At M G pc L (.long (lN b) :: .long (lN a) :: rest) h cs sl Z :=
  at_lcmp pi hd hp (at_if_ne pt pf hd2 ht hpf (fun q => kt (fun e => by subst e; exact q (by unfold lg_cmp; simp))) (fun q => kf (by have h1 := (lgc_ge ha hb).mp (by rw [q]; decide); have h2 := (lgc_le ha hb).mp (by rw [q]; decide); omega)))
end ATN
