/-! ===== sums, the greatest, sharing ===== -/
def sm (f : Nat → Nat) : Nat → Nat
  | 0 => 0
  | n + 1 => sm f n + f n
theorem sm_congr {f g : Nat → Nat} : ∀ {n : Nat}, (∀ i, i < n → f i = g i) → sm f n = sm g n
  | 0, _ => rfl
  | n + 1, h => by
    show sm f n + f n = sm g n + g n
    rw [sm_congr (fun i hi => h i (by omega)), h n (by omega)]
theorem sm_le {f g : Nat → Nat} : ∀ {n : Nat}, (∀ i, i < n → f i ≤ g i) → sm f n ≤ sm g n
  | 0, _ => Nat.le_refl _
  | n + 1, h => by
    have h1 := sm_le (n := n) (fun i hi => h i (by omega))
    have h2 := h n (by omega)
    show sm f n + f n ≤ sm g n + g n
    omega
theorem sm_mono (f : Nat → Nat) : ∀ {m n : Nat}, m ≤ n → sm f m ≤ sm f n
  | m, 0, h => by rw [Nat.le_zero.mp h]; exact Nat.le_refl _
  | m, n + 1, h => by
    rcases Nat.lt_or_ge m (n + 1) with q | q
    · have := sm_mono f (m := m) (n := n) (by omega)
      show sm f m ≤ sm f n + f n
      omega
    · rw [show m = n + 1 by omega]; exact Nat.le_refl _
theorem sm_el (f : Nat → Nat) {i n : Nat} (h : i < n) : f i ≤ sm f n := by
  have := sm_mono f (m := i + 1) (n := n) h
  have h2 : sm f (i + 1) = sm f i + f i := rfl
  omega
theorem sm_zero (n : Nat) : sm (fun _ => 0) n = 0 := by
  induction n with
  | zero => rfl
  | succ n ih => show sm (fun _ => 0) n + 0 = 0; omega
theorem sm_ext0 {f : Nat → Nat} {m : Nat} : ∀ {n : Nat}, m ≤ n → (∀ i, m ≤ i → i < n → f i = 0) → sm f n = sm f m
  | 0, h, _ => by rw [Nat.le_zero.mp h]
  | n + 1, h, h0 => by
    rcases Nat.lt_or_ge m (n + 1) with q | q
    · show sm f n + f n = _
      rw [h0 n (by omega) (by omega), sm_ext0 (m := m) (n := n) (by omega) (fun i a b => h0 i a (by omega))]
      omega
    · rw [show m = n + 1 by omega]
theorem sm_updN (f : Nat → Nat) (k x : Nat) : ∀ {n : Nat}, k < n → sm (updN f k x) n + f k = sm f n + x
  | 0, h => absurd h (Nat.not_lt_zero _)
  | n + 1, h => by
    show sm (updN f k x) n + updN f k x n + f k = sm f n + f n + x
    by_cases e : k = n
    · subst e
      rw [updN_s, sm_congr (g := f) (fun i hi => updN_n f x (by omega))]
      omega
    · have := sm_updN f k x (n := n) (by omega)
      rw [updN_n f x (fun q => e q.symm)]
      omega
theorem sm_mul (c : Nat) (f : Nat → Nat) : ∀ n, sm (fun i => c * f i) n = c * sm f n
  | 0 => by simp [sm]
  | n + 1 => by
    show sm (fun i => c * f i) n + c * f n = c * (sm f n + f n)
    rw [sm_mul c f n, Nat.mul_add]
theorem sm_add (f g : Nat → Nat) : ∀ n, sm (fun i => f i + g i) n = sm f n + sm g n
  | 0 => rfl
  | n + 1 => by
    show sm (fun i => f i + g i) n + (f n + g n) = sm f n + f n + (sm g n + g n)
    rw [sm_add f g n]; omega
theorem sm_bound {f : Nat → Nat} {c : Nat} : ∀ {n : Nat}, (∀ i, i < n → f i ≤ c) → sm f n ≤ n * c
  | 0, _ => by simp [sm]
  | n + 1, h => by
    have h1 := sm_bound (n := n) (fun i hi => h i (by omega))
    have h2 := h n (by omega)
    show sm f n + f n ≤ (n + 1) * c
    rw [Nat.succ_mul]; omega
def best (r : Nat → Nat) : Nat → Nat
  | 0 => 0
  | n + 1 => if r (best r n) < r n then n else best r n
theorem best_spec (r : Nat → Nat) : ∀ n, 0 < n → best r n < n ∧ (∀ i, i < n → r i ≤ r (best r n)) ∧ ∀ i, i < best r n → r i < r (best r n)
  | 0, h => absurd h (Nat.lt_irrefl _)
  | 1, _ => by
    have e : best r 1 = 0 := by simp [best]
    rw [e]
    exact ⟨by omega, fun i hi => by rw [show i = 0 by omega]; exact Nat.le_refl _, fun i hi => by omega⟩
  | n + 2, _ => by
    obtain ⟨h1, h2, h3⟩ := best_spec r (n + 1) (by omega)
    have e : best r (n + 2) = if r (best r (n + 1)) < r (n + 1) then n + 1 else best r (n + 1) := rfl
    by_cases c : r (best r (n + 1)) < r (n + 1)
    · rw [if_pos c] at e
      rw [e]
      refine ⟨by omega, fun i hi => ?_, fun i hi => ?_⟩
      · by_cases q : i = n + 1
        · rw [q]; exact Nat.le_refl _
        · have := h2 i (by omega); omega
      · have := h2 i hi; omega
    · rw [if_neg c] at e
      rw [e]
      refine ⟨by omega, fun i hi => ?_, h3⟩
      by_cases q : i = n + 1
      · rw [q]; omega
      · exact h2 i (by omega)
theorem best_uniq {r : Nat → Nat} {n b : Nat} (hb : b < n) (h2 : ∀ i, i < n → r i ≤ r b) (h3 : ∀ i, i < b → r i < r b) : best r n = b := by
  obtain ⟨k1, k2, k3⟩ := best_spec r n (by omega)
  rcases Nat.lt_trichotomy (best r n) b with q | q | q
  · have := h3 _ q
    have := k2 b hb
    omega
  · exact q
  · have := k3 _ q
    have := h2 _ k1
    omega
def cnt (r : Nat → Nat) : Nat → Nat
  | 0 => 0
  | n + 1 => cnt r n + (if 0 < r n then 1 else 0)
theorem cnt_ex {r : Nat → Nat} : ∀ {n : Nat}, 0 < cnt r n → ∃ i, i < n ∧ 0 < r i
  | 0, h => absurd h (Nat.lt_irrefl _)
  | n + 1, h => by
    by_cases c : 0 < r n
    · exact ⟨n, by omega, c⟩
    · have e : cnt r (n + 1) = cnt r n + (if 0 < r n then 1 else 0) := rfl
      rw [if_neg c] at e
      obtain ⟨i, h1, h2⟩ := cnt_ex (r := r) (n := n) (by omega)
      exact ⟨i, by omega, h2⟩
theorem cnt_upd {r : Nat → Nat} {b : Nat} (hb : 0 < r b) : ∀ {n : Nat}, b < n → cnt (updN r b 0) n + 1 = cnt r n
  | 0, h => absurd h (Nat.not_lt_zero _)
  | n + 1, h => by
    show cnt (updN r b 0) n + (if 0 < updN r b 0 n then 1 else 0) + 1 = cnt r n + (if 0 < r n then 1 else 0)
    by_cases e : b = n
    · subst e
      rw [updN_s, if_neg (by omega), if_pos hb]
      have : ∀ {m : Nat}, m ≤ b → cnt (updN r b 0) m = cnt r m := by
        intro m
        induction m with
        | zero => intro _; rfl
        | succ m ih =>
          intro hm
          show cnt (updN r b 0) m + (if 0 < updN r b 0 m then 1 else 0) = cnt r m + (if 0 < r m then 1 else 0)
          rw [ih (by omega), updN_n r 0 (by omega)]
      rw [this (Nat.le_refl _)]
    · have ih := cnt_upd hb (n := n) (by omega)
      rw [updN_n r 0 (fun q => e q.symm)]
      omega
theorem best_pos {r : Nat → Nat} {n : Nat} (h : 0 < cnt r n) : best r n < n ∧ 0 < r (best r n) := by
  obtain ⟨i, h1, h2⟩ := cnt_ex h
  obtain ⟨k1, k2, -⟩ := best_spec r n (by omega)
  exact ⟨k1, Nat.lt_of_lt_of_le h2 (k2 i h1)⟩
/-- one more to the greatest, k times -/
def give (n : Nat) : Nat → (Nat → Nat) → (Nat → Nat) → (Nat → Nat)
  | 0, _, got => got
  | k + 1, r, got => give n k (updN r (best r n) 0) (updN got (best r n) (got (best r n) + 1))
def prt (g : Nat) (w : Nat → Nat) (T i : Nat) : Nat := g * w i / T
def rst (g : Nat) (w : Nat → Nat) (T i : Nat) : Nat := g * w i % T
def share (g : Nat) (w : Nat → Nat) (n : Nat) : Nat → Nat := give n (g - sm (prt g w (sm w n)) n) (rst g w (sm w n)) (prt g w (sm w n))
theorem sm_split (g : Nat) (w : Nat → Nat) (T : Nat) (n : Nat) : T * sm (prt g w T) n + sm (rst g w T) n = g * sm w n := by
  rw [← sm_mul, ← sm_add, ← sm_mul]
  apply sm_congr
  intro i _
  show T * (g * w i / T) + g * w i % T = g * w i
  exact Nat.div_add_mod _ _
theorem rst_cnt {r : Nat → Nat} {T : Nat} (hT : 0 < T) : ∀ {n : Nat}, (∀ i, i < n → r i < T) → sm r n ≤ cnt r n * (T - 1)
  | 0, _ => by simp [sm]
  | n + 1, h => by
    have ih := rst_cnt hT (n := n) (fun i hi => h i (by omega))
    have h2 := h n (by omega)
    show sm r n + r n ≤ (cnt r n + (if 0 < r n then 1 else 0)) * (T - 1)
    by_cases c : 0 < r n
    · rw [if_pos c, Nat.succ_mul]; omega
    · rw [if_neg c]
      have : r n = 0 := by omega
      rw [this]; simpa using ih
theorem left_cnt {g : Nat} {w : Nat → Nat} {n : Nat} (hT : 0 < sm w n) : sm (prt g w (sm w n)) n ≤ g ∧ g - sm (prt g w (sm w n)) n ≤ cnt (rst g w (sm w n)) n := by
  have h1 := sm_split g w (sm w n) n
  have h2 := rst_cnt (r := rst g w (sm w n)) hT (n := n) (fun i _ => Nat.mod_lt _ hT)
  generalize sm w n = T at *
  generalize sm (prt g w T) n = a at *
  generalize sm (rst g w T) n = b at *
  generalize cnt (rst g w T) n = c at *
  have hag : a ≤ g := by
    have : T * a ≤ T * g := by rw [Nat.mul_comm T g]; omega
    exact Nat.le_of_mul_le_mul_left this hT
  refine ⟨hag, ?_⟩
  have e : T * (g - a) = b := by rw [Nat.mul_sub, Nat.mul_comm T g]; omega
  have h3 : T * (g - a) ≤ c * T := by
    have : c * (T - 1) ≤ c * T := Nat.mul_le_mul_left _ (by omega)
    omega
  rw [Nat.mul_comm] at h3
  exact Nat.le_of_mul_le_mul_right h3 hT
theorem give_sum (n : Nat) (hn : 0 < n) : ∀ (k : Nat) (r got : Nat → Nat), sm (give n k r got) n = sm got n + k
  | 0, _, _ => rfl
  | k + 1, r, got => by
    show sm (give n k _ _) n = _
    rw [give_sum n hn k]
    have := sm_updN got (best r n) (got (best r n) + 1) (best_spec r n hn).1
    omega
theorem give_out (n : Nat) : ∀ (k : Nat) (r got : Nat → Nat) (i : Nat), n ≤ i → 0 < n → give n k r got i = got i
  | 0, _, _, _, _, _ => rfl
  | k + 1, r, got, i, h, hn => by
    show give n k _ _ i = _
    rw [give_out n k _ _ i h hn, updN_n]
    have := (best_spec r n hn).1
    omega
/-- each place gets at most one, and only where there is a rest -/
theorem give_le (n : Nat) : ∀ (k : Nat) (r got : Nat → Nat), k ≤ cnt r n → ∀ i, got i ≤ give n k r got i ∧ give n k r got i ≤ got i + 1 ∧ (r i = 0 → give n k r got i = got i)
  | 0, _, _, _, i => ⟨Nat.le_refl _, Nat.le_succ _, fun _ => rfl⟩
  | k + 1, r, got, h, i => by
    obtain ⟨hb, hp⟩ := best_pos (r := r) (n := n) (by omega)
    have hc := cnt_upd hp hb
    have ih := give_le n k (updN r (best r n) 0) (updN got (best r n) (got (best r n) + 1)) (by omega) i
    show _ ≤ give n k _ _ i ∧ give n k _ _ i ≤ _ ∧ (_ → give n k _ _ i = _)
    by_cases e : i = best r n
    · have e2 := ih.2.2 (by rw [e, updN_s])
      rw [e2, e, updN_s]
      refine ⟨by omega, by omega, fun q => by omega⟩
    · rw [updN_n got _ e, updN_n r _ e] at ih
      exact ih
theorem share_sum {g : Nat} {w : Nat → Nat} {n : Nat} (hT : 0 < sm w n) : sm (share g w n) n = g := by
  have hn : 0 < n := by
    rcases Nat.eq_zero_or_pos n with q | q
    · rw [q] at hT; exact absurd hT (Nat.lt_irrefl _)
    · exact q
  unfold share
  rw [give_sum n hn]
  have := (left_cnt (g := g) hT).1
  omega
theorem share_zero {g : Nat} {w : Nat → Nat} {n i : Nat} (hT : 0 < sm w n) (h0 : w i = 0) : share g w n i = 0 := by
  have h := give_le n _ (rst g w (sm w n)) (prt g w (sm w n)) (left_cnt (g := g) hT).2 i
  unfold share
  rw [h.2.2 (by unfold rst; rw [h0]; simp)]
  unfold prt; rw [h0]; simp
theorem share_le {g : Nat} {w : Nat → Nat} {n : Nat} (hT : 0 < sm w n) (hg : g ≤ sm w n) (i : Nat) : share g w n i ≤ w i := by
  have h := give_le n _ (rst g w (sm w n)) (prt g w (sm w n)) (left_cnt (g := g) hT).2 i
  unfold share
  generalize hx : give n (g - sm (prt g w (sm w n)) n) (rst g w (sm w n)) (prt g w (sm w n)) i = x at *
  generalize sm w n = T at *
  have hdm : T * prt g w T i + rst g w T i = g * w i := Nat.div_add_mod _ _
  have h1 : g * w i ≤ T * w i := Nat.mul_le_mul_right _ hg
  by_cases c : rst g w T i = 0
  · rw [h.2.2 c]
    have : T * prt g w T i ≤ T * w i := by omega
    exact Nat.le_of_mul_le_mul_left this hT
  · have h2 : T * prt g w T i < T * w i := by omega
    have h3 : prt g w T i < w i := Nat.lt_of_mul_lt_mul_left h2
    omega
theorem share_le_g {g : Nat} {w : Nat → Nat} {n i : Nat} (hT : 0 < sm w n) (hi : i < n) : share g w n i ≤ g := by
  have := sm_el (share g w n) hi
  rw [share_sum hT] at this
  exact this
theorem best_scale {r : Nat → Nat} {c n : Nat} (hc : 0 < c) (hn : 0 < n) : best (fun i => c * r i) n = best r n := by
  obtain ⟨k1, k2, k3⟩ := best_spec r n hn
  exact best_uniq k1 (fun i hi => Nat.mul_le_mul_left _ (k2 i hi)) (fun i hi => Nat.mul_lt_mul_of_pos_left (k3 i hi) hc)
theorem give_scale {c n : Nat} (hc : 0 < c) (hn : 0 < n) : ∀ (k : Nat) (r got : Nat → Nat), give n k (fun i => c * r i) got = give n k r got
  | 0, _, _ => rfl
  | k + 1, r, got => by
    show give n k _ _ = give n k _ _
    rw [best_scale hc hn, ← give_scale hc hn k (updN r (best r n) 0)]
    congr 1
    funext i
    unfold updN
    by_cases e : i = best r n <;> simp [e]
theorem share_scale {g : Nat} {w : Nat → Nat} {c n : Nat} (hc : 0 < c) (hn : 0 < n) : share g (fun i => c * w i) n = share g w n := by
  unfold share
  rw [sm_mul]
  have e1 : prt g (fun i => c * w i) (c * sm w n) = prt g w (sm w n) := by
    funext i
    show g * (c * w i) / (c * sm w n) = g * w i / sm w n
    rw [Nat.mul_left_comm, Nat.mul_div_mul_left _ _ hc]
  have e2 : rst g (fun i => c * w i) (c * sm w n) = fun i => c * rst g w (sm w n) i := by
    funext i
    show g * (c * w i) % (c * sm w n) = c * (g * w i % sm w n)
    rw [Nat.mul_left_comm, Nat.mul_mod_mul_left]
  rw [e1, e2, give_scale hc hn]
theorem best_ext {r : Nat → Nat} {m n : Nat} (hmn : m ≤ n) (h0 : ∀ i, m ≤ i → i < n → r i = 0) (hc : 0 < cnt r m) : best r n = best r m := by
  obtain ⟨hb, hp⟩ := best_pos hc
  obtain ⟨k1, k2, k3⟩ := best_spec r m (by omega)
  refine best_uniq (by omega) (fun i hi => ?_) k3
  rcases Nat.lt_or_ge i m with q | q
  · exact k2 i q
  · rw [h0 i q hi]; omega
theorem give_ext {m n : Nat} (hmn : m ≤ n) : ∀ (k : Nat) (r got : Nat → Nat), k ≤ cnt r m → (∀ i, m ≤ i → i < n → r i = 0) → give n k r got = give m k r got
  | 0, _, _, _, _ => rfl
  | k + 1, r, got, h, h0 => by
    obtain ⟨hb, hp⟩ := best_pos (r := r) (n := m) (by omega)
    have hcu := cnt_upd hp hb
    show give n k _ _ = give m k _ _
    rw [best_ext hmn h0 (by omega)]
    exact give_ext hmn k _ _ (by omega) (fun i a b => by
      by_cases e : i = best r m
      · rw [e, updN_s]
      · rw [updN_n _ _ e]; exact h0 i a b)
theorem share_ext {g : Nat} {w : Nat → Nat} {m n : Nat} (hmn : m ≤ n) (h0 : ∀ i, m ≤ i → i < n → w i = 0) (hT : 0 < sm w m) : share g w n = share g w m := by
  unfold share
  have e : sm w n = sm w m := sm_ext0 hmn h0
  rw [e]
  have e2 : sm (prt g w (sm w m)) n = sm (prt g w (sm w m)) m := sm_ext0 hmn (fun i a b => by unfold prt; rw [h0 i a b]; simp)
  rw [e2]
  exact give_ext hmn _ _ _ (left_cnt hT).2 (fun i a b => by unfold rst; rw [h0 i a b]; simp)
theorem best_congr {r r' : Nat → Nat} : ∀ {n : Nat}, (∀ i, i < n → r i = r' i) → best r n = best r' n
  | 0, _ => rfl
  | 1, _ => by simp [best]
  | n + 2, h => by
    have ih := best_congr (n := n + 1) (fun i hi => h i (by omega))
    have hb := (best_spec r' (n + 1) (by omega)).1
    show (if r (best r (n + 1)) < r (n + 1) then n + 1 else best r (n + 1)) = (if r' (best r' (n + 1)) < r' (n + 1) then n + 1 else best r' (n + 1))
    rw [ih, h (n + 1) (by omega), h _ (by omega)]
theorem give_congr {n : Nat} (hn : 0 < n) : ∀ (k : Nat) (r r' got got' : Nat → Nat), (∀ i, i < n → r i = r' i) → (∀ i, i < n → got i = got' i) → ∀ i, i < n → give n k r got i = give n k r' got' i
  | 0, _, _, _, _, _, hg, i, hi => hg i hi
  | k + 1, r, r', got, got', hr, hg, i, hi => by
    show give n k _ _ i = give n k _ _ i
    have hb := (best_spec r' n hn).1
    rw [best_congr hr]
    refine give_congr hn k _ _ _ _ (fun i hi => ?_) (fun i hi => ?_) i hi
    · by_cases e : i = best r' n
      · rw [e, updN_s, updN_s]
      · rw [updN_n _ _ e, updN_n _ _ e, hr i hi]
    · by_cases e : i = best r' n
      · rw [e, updN_s, updN_s, hg _ hb]
      · rw [updN_n _ _ e, updN_n _ _ e, hg i hi]
theorem share_congr {g : Nat} {w w' : Nat → Nat} {n : Nat} (hn : 0 < n) (h : ∀ i, i < n → w i = w' i) : ∀ i, i < n → share g w n i = share g w' n i := by
  intro i hi
  unfold share
  rw [sm_congr h]
  have e : ∀ i, i < n → prt g w (sm w' n) i = prt g w' (sm w' n) i := fun i hi => by unfold prt; rw [h i hi]
  rw [sm_congr e]
  exact give_congr hn _ _ _ _ _ (fun i hi => by unfold rst; rw [h i hi]) e i hi
/-! the class's way: the rests above 0 alone, side by side -/
def Cmp (n : Nat) (r : Nat → Nat) (m : Nat) (p : Nat → Nat) : Prop := (∀ j, j < m → p j < n) ∧ (∀ i j, i < j → j < m → p i < p j) ∧ ∀ x, x < n → 0 < r x → ∃ j, j < m ∧ p j = x
theorem Cmp_best {n m : Nat} {r p c : Nat → Nat} (h : Cmp n r m p) (hc : ∀ j, j < m → c j = r (p j)) (hp : 0 < cnt r n) : p (best c m) = best r n ∧ best c m < m := by
  obtain ⟨x, hx, hx2⟩ := cnt_ex hp
  obtain ⟨j0, hj0, hj1⟩ := h.2.2 x hx hx2
  obtain ⟨k1, k2, k3⟩ := best_spec c m (by omega)
  have hpos : 0 < r (p (best c m)) := by
    have := k2 j0 hj0
    rw [hc _ hj0, hc _ k1, hj1] at this
    omega
  refine ⟨(best_uniq (h.1 _ k1) (fun i hi => ?_) (fun i hi => ?_)).symm, k1⟩
  · by_cases q : 0 < r i
    · obtain ⟨j, hj, e⟩ := h.2.2 i hi q
      have := k2 j hj
      rw [hc _ hj, hc _ k1, e] at this
      exact this
    · omega
  · by_cases q : 0 < r i
    · obtain ⟨j, hj, e⟩ := h.2.2 i (Nat.lt_trans hi (h.1 _ k1)) q
      have hlt : j < best c m := by
        rcases Nat.lt_trichotomy j (best c m) with z | z | z
        · exact z
        · rw [z] at e; omega
        · have := h.2.1 _ _ z hj; omega
      have := k3 j hlt
      rw [hc _ hj, hc _ k1, e] at this
      exact this
    · omega
def giveC (m : Nat) (p : Nat → Nat) : Nat → (Nat → Nat) → (Nat → Nat) → (Nat → Nat)
  | 0, _, o => o
  | k + 1, c, o => giveC m p k (updN c (best c m) 0) (updN o (p (best c m)) (o (p (best c m)) + 1))
theorem giveC_eq {n m a : Nat} {p : Nat → Nat} : ∀ (k : Nat) (r got c o : Nat → Nat), k ≤ cnt r n → Cmp n r m p → (∀ j, j < m → c j = r (p j)) → (∀ i, i < n → o (a + i) = got i) →
    (∀ i, i < n → giveC m (fun j => a + p j) k c o (a + i) = give n k r got i) ∧ ∀ x, (x < a ∨ a + n ≤ x) → giveC m (fun j => a + p j) k c o x = o x
  | 0, _, _, _, _, _, _, _, ho => ⟨ho, fun _ _ => rfl⟩
  | k + 1, r, got, c, o, hk, hC, hc, ho => by
    obtain ⟨hb, hp⟩ := best_pos (r := r) (n := n) (by omega)
    obtain ⟨e1, e2⟩ := Cmp_best hC hc (by omega)
    have hcu := cnt_upd hp hb
    have ih := giveC_eq (a := a) k (updN r (best r n) 0) (updN got (best r n) (got (best r n) + 1)) (updN c (best c m) 0) (updN o (a + p (best c m)) (o (a + p (best c m)) + 1)) (by omega)
      ⟨hC.1, hC.2.1, fun x hx hx2 => by
        by_cases e : x = best r n
        · rw [e, updN_s] at hx2; omega
        · rw [updN_n _ _ e] at hx2; exact hC.2.2 x hx hx2⟩
      (fun j hj => by
        by_cases e : j = best c m
        · rw [e, updN_s, e1, updN_s]
        · have : p j ≠ best r n := fun q => by
            rw [← e1] at q
            rcases Nat.lt_or_gt_of_ne e with z | z
            · have := hC.2.1 _ _ z e2; omega
            · have := hC.2.1 _ _ z hj; omega
          rw [updN_n _ _ e, updN_n _ _ this, hc j hj])
      (fun i hi => by
        by_cases e : i = best r n
        · rw [e, updN_s, e1, updN_s, ho _ hb]
        · rw [updN_n _ _ e, updN_n _ _ (by rw [e1]; omega), ho i hi])
    refine ⟨ih.1, fun x hx => ?_⟩
    have := ih.2 x hx
    rw [updN_n _ _ (by rw [e1]; omega)] at this
    exact this
/-! the reference's way: a taken rest is -1; W holds the rests and 1, a taken one 0 -/
theorem bestW {n : Nat} {r W : Nat → Nat} (h1 : ∀ i, i < n → W i ≤ r i + 1) (h2 : ∀ i, i < n → 0 < r i → W i = r i + 1) (hp : 0 < cnt r n) : best W n = best r n := by
  obtain ⟨hb, hpos⟩ := best_pos hp
  obtain ⟨k1, k2, k3⟩ := best_spec r n (by omega)
  refine best_uniq k1 (fun i hi => ?_) (fun i hi => ?_)
  · have := h1 i hi
    have := k2 i hi
    rw [h2 _ k1 hpos]; omega
  · have := h1 i (by omega)
    have := k3 i hi
    rw [h2 _ k1 hpos]; omega
