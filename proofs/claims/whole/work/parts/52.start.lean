/-! ===== the start ===== -/
theorem arr_kn {s : State} {args : Array Value} {ty : FieldType} (h : (Cond.arrayClass ty).before args s = true) : ∃ cA : ClassId, ArrOfT s cA ty ∧ s.vm.findClass ("[" ++ ty.toString) = some cA := by
  obtain ⟨cA, kA, comp, h1, h2, h3⟩ := Cond.arrayClass_spec h
  exact ⟨cA, fun n z => ⟨fun k h => (by cases h), kA, h2, comp, h3⟩, h1⟩
theorem arr_kna {s : State} {args : Array Value} (h : (Cond.arrayOver (.array .int)).before args s = true) : ∃ cA : ClassId, ArrOfT s cA (.array .int) ∧ s.vm.findClass ("[" ++ (FieldType.array .int).toString) = some cA := by
  obtain ⟨comp, c, k, h1, h2, h3, h4, h5⟩ := arrayOverA_spec h
  exact ⟨c, fun n z => ⟨fun k h => (by cases h), k, h3, comp, h4⟩, h5⟩
theorem kk_start {s : State} {args : Array Value} (hts : ∀ w ∈ lw_tbl, w.before args s = true) : ∃ (D : va_G) (cy : Nat → ClassId), KK D cy s := by
  have hgw : ∀ w ∈ gw, w.before args s = true := fun w hw => hts w (List.mem_filter.mp hw).1
  have hov : (Cond.arrayOver (.array .int)).before args s = true := hts _ (List.mem_of_getElem? (i := 74) (by decide +kernel))
  have hex : ∀ k : Nat, ∃ p : ClassId × (Nat → Nat), ∀ q : vw_C, clz[k]? = some q → u_Kn s q.1 q.2.1 q.2.2 p.1 p.2 := fun k => match k with
    | 0 => by
      obtain ⟨c, i, h⟩ := u_known (C := RX0) (T := TX0) (N := 7) (n := 7) hgw inX0 (hgw _ it_X0)
      exact ⟨(c, i), fun q hq => by cases hq; exact h⟩
    | 1 => by
      obtain ⟨c, i, h⟩ := u_known (C := RX1) (T := TX1) (N := 3) (n := 3) hgw inX1 (hgw _ it_X1)
      exact ⟨(c, i), fun q hq => by cases hq; exact h⟩
    | 2 => by
      obtain ⟨c, i, h⟩ := u_known (C := RX2) (T := TX2) (N := 6) (n := 6) hgw inX2 (hgw _ it_X2)
      exact ⟨(c, i), fun q hq => by cases hq; exact h⟩
    | 3 => by
      obtain ⟨c, i, h⟩ := u_known (C := RX3) (T := TX3) (N := 6) (n := 6) hgw inX3 (hgw _ it_X3)
      exact ⟨(c, i), fun q hq => by cases hq; exact h⟩
    | 4 => by
      obtain ⟨c, i, h⟩ := u_known (C := RX4) (T := TX4) (N := 3) (n := 3) hgw inX4 (hgw _ it_X4)
      exact ⟨(c, i), fun q hq => by cases hq; exact h⟩
    | 5 => by
      obtain ⟨c, i, h⟩ := u_known (C := RX5) (T := TX5) (N := 8) (n := 8) hgw inX5 (hgw _ it_X5)
      exact ⟨(c, i), fun q hq => by cases hq; exact h⟩
    | 6 => by
      obtain ⟨c, i, h⟩ := u_known (C := RX6) (T := TX6) (N := 3) (n := 3) hgw inX6 (hgw _ it_X6)
      exact ⟨(c, i), fun q hq => by cases hq; exact h⟩
    | 7 => by
      obtain ⟨c, i, h⟩ := u_known (C := RX7) (T := TX7) (N := 5) (n := 5) hgw inX7 (hgw _ it_X7)
      exact ⟨(c, i), fun q hq => by cases hq; exact h⟩
    | 8 => by
      obtain ⟨c, i, h⟩ := u_known (C := RX8) (T := TX8) (N := 4) (n := 4) hgw inX8 (hgw _ it_X8)
      exact ⟨(c, i), fun q hq => by cases hq; exact h⟩
    | 9 => by
      obtain ⟨c, i, h⟩ := u_known (C := RX9) (T := TX9) (N := 2) (n := 2) hgw inX9 (hgw _ it_X9)
      exact ⟨(c, i), fun q hq => by cases hq; exact h⟩
    | 10 => by
      obtain ⟨c, i, h⟩ := u_known (C := RX10) (T := TX10) (N := 8) (n := 8) hgw inX10 (hgw _ it_X10)
      exact ⟨(c, i), fun q hq => by cases hq; exact h⟩
    | 11 => by
      obtain ⟨c, i, h⟩ := u_known (C := RX11) (T := TX11) (N := 11) (n := 11) hgw inX11 (hgw _ it_X11)
      exact ⟨(c, i), fun q hq => by cases hq; exact h⟩
    | 12 => by
      obtain ⟨c, i, h⟩ := u_known (C := RX12) (T := TX12) (N := 40) (n := 40) hgw inX12 (hgw _ it_X12)
      exact ⟨(c, i), fun q hq => by cases hq; exact h⟩
    | k + 13 => ⟨(0, fun _ => 0), fun q hq => by cases hq⟩
  obtain ⟨f, hf⟩ := Classical.axiomOfChoice hex
  obtain ⟨c0, a0, b0⟩ := arr_kn (hgw _ ac_int)
  obtain ⟨c1, a1, b1⟩ := arr_kn (hgw _ ac_long)
  obtain ⟨c2, a2, b2⟩ := arr_kn (hgw _ ac_boolean)
  obtain ⟨c3, a3, b3⟩ := arr_kna hov
  refine ⟨(fun k => (f k).1, fun k => (f k).2), fun k => if k = 0 then c0 else if k = 1 then c1 else if k = 2 then c2 else c3, ⟨fun k q hq => hf k q hq, fun k q hq => ?_⟩, fun w hw hn => ?_, aoa_moved (u := s) (U := s) (Vm.Alike.refl s.vm) hov⟩
  · match k, hq with
    | 0, hq => cases hq; exact ⟨a0, b0⟩
    | 1, hq => cases hq; exact ⟨a1, b1⟩
    | 2, hq => cases hq; exact ⟨a2, b2⟩
    | 3, hq => cases hq; exact ⟨a3, b3⟩
    | k + 4, hq => cases hq
  · exact va_Nw.of (by cases w <;> first | rfl | cases hn) (hts w hw)
/-- from the entry, for every script of at most 4096 ints, the law comes to its end with true -/
theorem whole_start {p : Program} {e : Env} {s : State} {m : MethodId} {below : List Frame} {meth : Method} {c : Code} (l : Launch) {b L : Nat} {xs : Nat → Int32} (hL : L ≤ 4096) (C0 : lw_At p s m meth c b L xs) : W p l e room_1 s m #[Value.ref b] below meth c s.heap [] 0 0 (lw_Z below #[Value.ref b] s) (entryFrame m ([Value.ref b] : List Value).toArray 4) := by
  obtain ⟨hx, hb, hr, hml, hown, hts, hX, hbl, hlocks, hgv⟩ := C0
  obtain ⟨D, cy, hK⟩ := kk_start hts
  have hgw : ∀ w ∈ gw, w.before #[Value.ref b] s = true := fun w hw => hts w (List.mem_filter.mp hw).1
  have hl := lv_entry ([.ref b]) (n := 4) (Nat.le_of_ble_eq_true rfl)
  rw [lg_entry_eq]
  generalize (lg_sl ([.ref b]) ++ List.replicate (4 - (lg_sl ([.ref b])).length) Slot.unset).toArray = ls at hl ⊢
  have hl : lv_has ls 4 [(0, .ref b)] := hl
  have hLO : LO (s.heap.size, b) 4 [.retAddr 0, .null, .null, .null] ls := by
    refine ⟨hl.1, rfl, hl.2.1, fun i v hi hv => ?_⟩
    match i, hi with
    | 0, hi => cases hi; exact hl.2.2 (0, .ref b) List.mem_cons_self
    | 1, hi => cases hi; exact absurd rfl hv
    | 2, hi => cases hi; exact absurd rfl hv
    | 3, hi => cases hi; exact absurd rfl hv
    | i + 4, hi => cases hi
  have hW : WO D cy (s.heap.size, b) [] s.heap := ⟨fun k q h => (by cases k <;> cases h), rfl⟩
  exact law_at (nm := meth.name) (b := b) (xs := xs) hL l p e s m #[Value.ref b] below meth c D cy (s.heap.size, b) s.heap [] ls ⟨hx, hb, hml, hr, hown, hgw, hlocks, rfl⟩ hK ⟨rfl, hX, hbl⟩ (Nat.le_refl _) hW va_S.rf hLO
