/-! ===== the law ===== -/
def GS (b L : Nat) (xs : Nat → Int32) : GT := fun s B => B = (s.heap.size, b) ∧ va_X b L xs s s.heap ∧ b < s.heap.size
abbrev mLw (nm : String) : MI := (⟨RL, nm, "([I)Z"⟩, cL_law, 4, some .boolean, room_1)
def ZL : ZT := fun below args s _ _ _ => lw_Z below args s
section LAWR
variable {nm : String} {b Ln : Nat} {xs : Nat → Int32} {pc : Nat} {L rest : List Value} {h : List PC} {cs sl : Nat} {Z : ZT}
theorem at_sld (pc' : Nat) {j t : Nat} (hd : decode cL_law pc = .ok (.iaload, 1)) (hp : pc + 1 = pc') (hj : j < Ln ∧ j < 2 ^ 31) (kk : At (mLw nm) (GS b Ln xs) pc' L (.int (xs j) :: rest) h cs sl Z) : At (mLw nm) (GS b Ln xs) pc L (.int (nI j) :: .retAddr t :: rest) h cs sl Z := by
  intro l p e s m args below meth c D cy B H locs ls hC hK hG hb hW hS hL
  subst hp
  obtain ⟨rfl, hX, hbl⟩ := id hG
  have hc : (nI j).toNatClampNeg = j := nI_clamp hj.2
  refine va_sld hC.1 hC.2.1 hX hbl (Nat.not_le.mpr hbl) hS ?_ hd ?_
  · rintro (q | q)
    · exact nI_pos hj.2 q
    · rw [hc] at q; omega
  · rw [hc]
    exact kk l p e s m args below meth c D cy _ H locs ls hC hK hG hb hW hS hL
theorem at_slen (pc' : Nat) {t : Nat} (hd : decode cL_law pc = .ok (.arraylength, 1)) (hp : pc + 1 = pc') (kk : At (mLw nm) (GS b Ln xs) pc' L (.int (nI Ln) :: rest) h cs sl Z) : At (mLw nm) (GS b Ln xs) pc L (.retAddr t :: rest) h cs sl Z := by
  intro l p e s m args below meth c D cy B H locs ls hC hK hG hb hW hS hL
  subst hp
  obtain ⟨rfl, hX, hbl⟩ := id hG
  exact va_slen hC.1 hC.2.1 hX hbl (Nat.not_le.mpr hbl) hS hd (kk l p e s m args below meth c D cy _ H locs ls hC hK hG hb hW hS hL)
theorem lw_retG {p : Program} {l : Launch} {e : Env} {s : State} {m : MethodId} {args : Array Value} {below : List Frame} {meth : Method} {c : Code} (hx : p.tables.exec = Jvm.exec) (hb : c.code = code) (hr : meth.sig.returnType = ret) (hlocks : meth.locks = false) {pc : Nat} {H : Heap} {ls : Array Slot} (hdg : decode code pc = .ok (.ireturn, 1)) : W p l e room_1 s m args below meth c H [] 600000 7302250 (lw_Z below args s) (F0 m pc ls [.int 1]) := by
  intro T hT X
  obtain ⟨fs, hret, hrun, hended, hW, hframe⟩ := X.leave (v := some (.int 1)) (hlocks := hlocks) (fun h => by rw [hr] at h; cases h)
  have hmeth' : T.vm.method? m = some meth := X.method'
  refine ⟨T.setFrames fs, ?_, .returned (some (.int 1)), hrun, hended, rfl, ⟨_, rfl⟩, hW, hframe⟩
  jvm_step X.here [X.here.top, hx, hb, hdg, hmeth', hr, ret, narrow_b1]
  (try refine ⟨rfl, ?_⟩); (try refine ⟨rfl, ?_⟩)
  first | (intro acts; rw [hret _ acts rfl rfl rfl]) | rw [hret _ _ rfl rfl rfl]
  exact Steps.refl _
theorem at_lret (hd : decode cL_law pc = .ok (.ireturn, 1)) (hc : cs ≤ 600000) (hs : sl ≤ 7302250) : At (mLw nm) (GS b Ln xs) pc L [.int (nI 1)] h cs sl ZL := by
  intro l p e s m args below meth c D cy B H locs ls hC hK hG hb hW hS hL
  obtain ⟨rfl, hX, hbl⟩ := hG
  refine va_forget (fun q hq => hS.2.2 q hq) ?_
  refine W.widen (k := 600000) (n := 7302250) hc hs ?_
  exact lw_retG hC.1 hC.2.1 hC.2.2.2.1 hC.2.2.2.2.2.2.1 hd
end LAWR
theorem lt8 {L i : Nat} (hL : L ≤ 4096) (hi : i < 2 ^ 31) : nI L - nI 8 < nI i ↔ L < i + 8 := by
  rcases Nat.lt_or_ge L 8 with q | q
  · refine ⟨fun _ => by omega, fun _ => ?_⟩
    have h1 : nI L - nI 8 < 0 := by
      rcases (by omega : L = 0 ∨ L = 1 ∨ L = 2 ∨ L = 3 ∨ L = 4 ∨ L = 5 ∨ L = 6 ∨ L = 7) with rfl | rfl | rfl | rfl | rfl | rfl | rfl | rfl <;> decide
    exact Int32.lt_of_lt_of_le h1 (nI_pos' hi)
  · rw [pk_sub q, nI_ltI (by omega) hi]
    omega
theorem law_loop {nm : String} {b Ln : Nat} {xs : Nat → Int32} (hL : Ln ≤ 4096) : ∀ (n i : Nat) (s : St) (h : List PC), Ln + 1 ≤ i + n → i ≤ Ln → Inv s → RepC s h → RepM s h → At (mLw nm) (GS b Ln xs) 18 [.retAddr 0, .ref 0, .ref 106, .int (nI i)] [] h 135 14375 ZL := by
  intro n
  induction n with
  | zero =>
    intro i s h h1 h2
    omega
  | succ n ih =>
    intro i s h h1 h2 hI hC hM
    have r0 := hC.1
    have m0 := hM.1
    refine at_iload_n 19 dL_law_18 rfl rfl rfl ?_
    refine at_aloadS 20 dL_law_19 rfl rfl rfl ?_
    refine at_slen 21 dL_law_20 rfl ?_
    refine at_bipush 23 (nI 8) dL_law_21 rfl (by decide) ?_
    refine at_isub 24 dL_law_23 rfl ?_
    refine at_icmp_gt 869 27 dL_law_24 rfl rfl (fun cc => ?_) (fun cc => ?_)
    · refine at_iconst 870 (nI 1) dL_law_869 rfl (by decide) ?_
      exact at_lret dL_law_870 (by decide) (by decide)
    rw [lt8 hL (by omega)] at cc
    have next : ∀ (s' : St) (h' : List PC), Inv s' → RepC s' h' → RepM s' h' → At (mLw nm) (GS b Ln xs) 863 [.retAddr 0, .ref 0, .ref 106, .int (nI i)] [] h' 135 14375 ZL := by
      intro s' h' hI' hC' hM'
      refine at_iincN (q := 8) (L' := [_, _, _, _]) 866 dL_law_863 rfl (by decide) rfl (Nat.le_of_ble_eq_true rfl) rfl rfl ?_
      refine at_goto 18 dL_law_866 rfl ?_
      exact ih (i + 8) s' h' (by omega) (by omega) hI' hC' hM'
    refine at_aloadS 28 dL_law_27 rfl rfl rfl ?_
    refine at_iload_n 29 dL_law_28 rfl rfl rfl ?_
    refine at_sld 30 dL_law_29 rfl (by omega) ?_
    refine at_bipush 32 (nI 31) dL_law_30 rfl (by decide) ?_
    refine at_iand 33 dL_law_32 rfl ?_
    by_cases hv : ∃ j, j < 23 ∧ xs i &&& nI 31 = nI j
    · obtain ⟨j, hj, hv⟩ := hv
      rw [hv]
      rcases (by omega : j = 0 ∨ j = 1 ∨ j = 2 ∨ j = 3 ∨ j = 4 ∨ j = 5 ∨ j = 6 ∨ j = 7 ∨ j = 8 ∨ j = 9 ∨ j = 10 ∨ j = 11 ∨ j = 12 ∨ j = 13 ∨ j = 14 ∨ j = 15 ∨ j = 16 ∨ j = 17 ∨ j = 18 ∨ j = 19 ∨ j = 20 ∨ j = 21 ∨ j = 22) with rfl | rfl | rfl | rfl | rfl | rfl | rfl | rfl | rfl | rfl | rfl | rfl | rfl | rfl | rfl | rfl | rfl | rfl | rfl | rfl | rfl | rfl | rfl
      · refine at_tabIn (off := 107) 140 dL_law_33 (by decide) (by decide) rfl rfl ?_
        refine at_aload_n 141 dL_law_140 rfl rfl rfl ?_
        refine at_aloadS 142 dL_law_141 rfl rfl rfl ?_
        refine at_iload_n 143 dL_law_142 rfl rfl rfl ?_
        refine at_iconst 144 (nI 1) dL_law_143 rfl (by decide) ?_
        first | refine at_iaddN 145 dL_law_144 rfl ?_ | refine at_iadd 145 dL_law_144 rfl ?_
        refine at_sld 146 dL_law_145 rfl (by omega) ?_
        refine at_aloadS 147 dL_law_146 rfl rfl rfl ?_
        refine at_iload_n 148 dL_law_147 rfl rfl rfl ?_
        refine at_iconst 149 (nI 2) dL_law_148 rfl (by decide) ?_
        first | refine at_iaddN 150 dL_law_149 rfl ?_ | refine at_iadd 150 dL_law_149 rfl ?_
        refine at_sld 151 dL_law_150 rfl (by omega) ?_
        refine at_aloadS 152 dL_law_151 rfl rfl rfl ?_
        refine at_iload_n 153 dL_law_152 rfl rfl rfl ?_
        refine at_iconst 154 (nI 3) dL_law_153 rfl (by decide) ?_
        first | refine at_iaddN 155 dL_law_154 rfl ?_ | refine at_iadd 155 dL_law_154 rfl ?_
        refine at_sld 156 dL_law_155 rfl (by omega) ?_
        refine at_aloadS 157 dL_law_156 rfl rfl rfl ?_
        refine at_iload_n 158 dL_law_157 rfl rfl rfl ?_
        refine at_iconst 159 (nI 4) dL_law_158 rfl (by decide) ?_
        first | refine at_iaddN 160 dL_law_159 rfl ?_ | refine at_iadd 160 dL_law_159 rfl ?_
        refine at_sld 161 dL_law_160 rfl (by omega) ?_
        refine at_aloadS 162 dL_law_161 rfl rfl rfl ?_
        refine at_iload_n 163 dL_law_162 rfl rfl rfl ?_
        refine at_iconst 164 (nI 5) dL_law_163 rfl (by decide) ?_
        first | refine at_iaddN 165 dL_law_164 rfl ?_ | refine at_iadd 165 dL_law_164 rfl ?_
        refine at_sld 166 dL_law_165 rfl (by omega) ?_
        refine at_aloadS 167 dL_law_166 rfl rfl rfl ?_
        refine at_iload_n 168 dL_law_167 rfl rfl rfl ?_
        refine at_bipush 170 (nI 6) dL_law_168 rfl (by decide) ?_
        first | refine at_iaddN 171 dL_law_170 rfl ?_ | refine at_iadd 171 dL_law_170 rfl ?_
        refine at_sld 172 dL_law_171 rfl (by omega) ?_
        refine at_aloadS 173 dL_law_172 rfl rfl rfl ?_
        refine at_iload_n 174 dL_law_173 rfl rfl rfl ?_
        refine at_bipush 176 (nI 7) dL_law_174 rfl (by decide) ?_
        first | refine at_iaddN 177 dL_law_176 rfl ?_ | refine at_iadd 177 dL_law_176 rfl ?_
        refine at_sld 178 dL_law_177 rfl (by omega) ?_
        refine at_invV (ci := 11) 181 [_, _, _, _, _, _, _] _ (c_feed hI hC (xs (i + 1)) (xs (i + 2)) (xs (i + 3)) (xs (i + 4)) (xs (i + 5)) (xs (i + 6)) (xs (i + 7))) dL_law_178 rfl rfl (by assumption) rfl ml_L_13 cl_X11_feed vl_X11_feed rfl (Nat.le_of_ble_eq_true rfl) ⟨(Nat.le_of_ble_eq_true rfl), (Nat.le_of_ble_eq_true rfl)⟩ ⟨(Nat.le_of_ble_eq_true rfl), (Nat.le_of_ble_eq_true rfl)⟩ (fun rr hh qq => ?_)
        obtain ⟨rfl, cR, cfr⟩ := qq
        have mR := hM.fr cfr (fun j hj => by omega)
        have m0' := mR.1
        refine at_aload_n 182 dL_law_181 rfl rfl rfl ?_
        refine at_aloadS 183 dL_law_182 rfl rfl rfl ?_
        refine at_iload_n 184 dL_law_183 rfl rfl rfl ?_
        refine at_iconst 185 (nI 1) dL_law_184 rfl (by decide) ?_
        first | refine at_iaddN 186 dL_law_185 rfl ?_ | refine at_iadd 186 dL_law_185 rfl ?_
        refine at_sld 187 dL_law_186 rfl (by omega) ?_
        refine at_aloadS 188 dL_law_187 rfl rfl rfl ?_
        refine at_iload_n 189 dL_law_188 rfl rfl rfl ?_
        refine at_iconst 190 (nI 2) dL_law_189 rfl (by decide) ?_
        first | refine at_iaddN 191 dL_law_190 rfl ?_ | refine at_iadd 191 dL_law_190 rfl ?_
        refine at_sld 192 dL_law_191 rfl (by omega) ?_
        refine at_aloadS 193 dL_law_192 rfl rfl rfl ?_
        refine at_iload_n 194 dL_law_193 rfl rfl rfl ?_
        refine at_iconst 195 (nI 3) dL_law_194 rfl (by decide) ?_
        first | refine at_iaddN 196 dL_law_195 rfl ?_ | refine at_iadd 196 dL_law_195 rfl ?_
        refine at_sld 197 dL_law_196 rfl (by omega) ?_
        refine at_aloadS 198 dL_law_197 rfl rfl rfl ?_
        refine at_iload_n 199 dL_law_198 rfl rfl rfl ?_
        refine at_iconst 200 (nI 4) dL_law_199 rfl (by decide) ?_
        first | refine at_iaddN 201 dL_law_200 rfl ?_ | refine at_iadd 201 dL_law_200 rfl ?_
        refine at_sld 202 dL_law_201 rfl (by omega) ?_
        refine at_aloadS 203 dL_law_202 rfl rfl rfl ?_
        refine at_iload_n 204 dL_law_203 rfl rfl rfl ?_
        refine at_iconst 205 (nI 5) dL_law_204 rfl (by decide) ?_
        first | refine at_iaddN 206 dL_law_205 rfl ?_ | refine at_iadd 206 dL_law_205 rfl ?_
        refine at_sld 207 dL_law_206 rfl (by omega) ?_
        refine at_aloadS 208 dL_law_207 rfl rfl rfl ?_
        refine at_iload_n 209 dL_law_208 rfl rfl rfl ?_
        refine at_bipush 211 (nI 6) dL_law_209 rfl (by decide) ?_
        first | refine at_iaddN 212 dL_law_211 rfl ?_ | refine at_iadd 212 dL_law_211 rfl ?_
        refine at_sld 213 dL_law_212 rfl (by omega) ?_
        refine at_aloadS 214 dL_law_213 rfl rfl rfl ?_
        refine at_iload_n 215 dL_law_214 rfl rfl rfl ?_
        refine at_bipush 217 (nI 7) dL_law_215 rfl (by decide) ?_
        first | refine at_iaddN 218 dL_law_217 rfl ?_ | refine at_iadd 218 dL_law_217 rfl ?_
        refine at_sld 219 dL_law_218 rfl (by omega) ?_
        refine at_invV (ci := 12) 222 [_, _, _, _, _, _, _] _ (m_feed hI mR (xs (i + 1)) (xs (i + 2)) (xs (i + 3)) (xs (i + 4)) (xs (i + 5)) (xs (i + 6)) (xs (i + 7))) dL_law_219 rfl rfl (by assumption) rfl ml_L_17 cl_X12_feed vl_X12_feed rfl (Nat.le_of_ble_eq_true rfl) ⟨(Nat.le_of_ble_eq_true rfl), (Nat.le_of_ble_eq_true rfl)⟩ ⟨(Nat.le_of_ble_eq_true rfl), (Nat.le_of_ble_eq_true rfl)⟩ (fun rr hh qq => ?_)
        obtain ⟨rfl, mR2, mfr⟩ := qq
        refine at_icmp_eq 863 225 dL_law_222 rfl rfl (fun cc => ?_) (fun cc => ?_)
        · exact next _ _ (inv_feed hI (xs (i + 1)) (xs (i + 2)) (xs (i + 3)) (xs (i + 4)) (xs (i + 5)) (xs (i + 6)) (xs (i + 7))) (cR.fr mfr (fun j hj => by omega)) mR2
        · exact absurd rfl cc
      · refine at_tabIn (off := 194) 227 dL_law_33 (by decide) (by decide) rfl rfl ?_
        refine at_aload_n 228 dL_law_227 rfl rfl rfl ?_
        refine at_aloadS 229 dL_law_228 rfl rfl rfl ?_
        refine at_iload_n 230 dL_law_229 rfl rfl rfl ?_
        refine at_iconst 231 (nI 1) dL_law_230 rfl (by decide) ?_
        first | refine at_iaddN 232 dL_law_231 rfl ?_ | refine at_iadd 232 dL_law_231 rfl ?_
        refine at_sld 233 dL_law_232 rfl (by omega) ?_
        refine at_aloadS 234 dL_law_233 rfl rfl rfl ?_
        refine at_iload_n 235 dL_law_234 rfl rfl rfl ?_
        refine at_iconst 236 (nI 2) dL_law_235 rfl (by decide) ?_
        first | refine at_iaddN 237 dL_law_236 rfl ?_ | refine at_iadd 237 dL_law_236 rfl ?_
        refine at_sld 238 dL_law_237 rfl (by omega) ?_
        refine at_invV (ci := 11) 241 [_, _] _ (c_stock hI hC (xs (i + 1)) (xs (i + 2))) dL_law_238 rfl rfl (by assumption) rfl ml_L_18 cl_X11_stock vl_X11_stock rfl (Nat.le_of_ble_eq_true rfl) ⟨(Nat.le_of_ble_eq_true rfl), (Nat.le_of_ble_eq_true rfl)⟩ ⟨(Nat.le_of_ble_eq_true rfl), (Nat.le_of_ble_eq_true rfl)⟩ (fun rr hh qq => ?_)
        obtain ⟨rfl, cR, cfr⟩ := qq
        have mR := hM.fr cfr (fun j hj => by omega)
        have m0' := mR.1
        refine at_aload_n 242 dL_law_241 rfl rfl rfl ?_
        refine at_aloadS 243 dL_law_242 rfl rfl rfl ?_
        refine at_iload_n 244 dL_law_243 rfl rfl rfl ?_
        refine at_iconst 245 (nI 1) dL_law_244 rfl (by decide) ?_
        first | refine at_iaddN 246 dL_law_245 rfl ?_ | refine at_iadd 246 dL_law_245 rfl ?_
        refine at_sld 247 dL_law_246 rfl (by omega) ?_
        refine at_aloadS 248 dL_law_247 rfl rfl rfl ?_
        refine at_iload_n 249 dL_law_248 rfl rfl rfl ?_
        refine at_iconst 250 (nI 2) dL_law_249 rfl (by decide) ?_
        first | refine at_iaddN 251 dL_law_250 rfl ?_ | refine at_iadd 251 dL_law_250 rfl ?_
        refine at_sld 252 dL_law_251 rfl (by omega) ?_
        refine at_invV (ci := 12) 255 [_, _] _ (m_stock hI mR (xs (i + 1)) (xs (i + 2))) dL_law_252 rfl rfl (by assumption) rfl ml_L_22 cl_X12_stock vl_X12_stock rfl (Nat.le_of_ble_eq_true rfl) ⟨(Nat.le_of_ble_eq_true rfl), (Nat.le_of_ble_eq_true rfl)⟩ ⟨(Nat.le_of_ble_eq_true rfl), (Nat.le_of_ble_eq_true rfl)⟩ (fun rr hh qq => ?_)
        obtain ⟨rfl, mR2, mfr⟩ := qq
        refine at_icmp_eq 863 258 dL_law_255 rfl rfl (fun cc => ?_) (fun cc => ?_)
        · exact next _ _ (inv_stock hI (xs (i + 1)) (xs (i + 2))) (cR.fr mfr (fun j hj => by omega)) mR2
        · exact absurd rfl cc
      · refine at_tabIn (off := 227) 260 dL_law_33 (by decide) (by decide) rfl rfl ?_
        refine at_aload_n 261 dL_law_260 rfl rfl rfl ?_
        refine at_aloadS 262 dL_law_261 rfl rfl rfl ?_
        refine at_iload_n 263 dL_law_262 rfl rfl rfl ?_
        refine at_iconst 264 (nI 1) dL_law_263 rfl (by decide) ?_
        first | refine at_iaddN 265 dL_law_264 rfl ?_ | refine at_iadd 265 dL_law_264 rfl ?_
        refine at_sld 266 dL_law_265 rfl (by omega) ?_
        refine at_aloadS 267 dL_law_266 rfl rfl rfl ?_
        refine at_iload_n 268 dL_law_267 rfl rfl rfl ?_
        refine at_iconst 269 (nI 2) dL_law_268 rfl (by decide) ?_
        first | refine at_iaddN 270 dL_law_269 rfl ?_ | refine at_iadd 270 dL_law_269 rfl ?_
        refine at_sld 271 dL_law_270 rfl (by omega) ?_
        refine at_invV (ci := 11) 274 [_, _] _ (c_of hI hC (xs (i + 1)) (xs (i + 2))) dL_law_271 rfl rfl (by assumption) rfl ml_L_23 cl_X11_of vl_X11_of rfl (Nat.le_of_ble_eq_true rfl) ⟨(Nat.le_of_ble_eq_true rfl), (Nat.le_of_ble_eq_true rfl)⟩ ⟨(Nat.le_of_ble_eq_true rfl), (Nat.le_of_ble_eq_true rfl)⟩ (fun rr hh qq => ?_)
        obtain ⟨rfl, cR, cfr⟩ := qq
        have mR := hM.fr cfr (fun j hj => by omega)
        have m0' := mR.1
        refine at_aload_n 275 dL_law_274 rfl rfl rfl ?_
        refine at_aloadS 276 dL_law_275 rfl rfl rfl ?_
        refine at_iload_n 277 dL_law_276 rfl rfl rfl ?_
        refine at_iconst 278 (nI 1) dL_law_277 rfl (by decide) ?_
        first | refine at_iaddN 279 dL_law_278 rfl ?_ | refine at_iadd 279 dL_law_278 rfl ?_
        refine at_sld 280 dL_law_279 rfl (by omega) ?_
        refine at_aloadS 281 dL_law_280 rfl rfl rfl ?_
        refine at_iload_n 282 dL_law_281 rfl rfl rfl ?_
        refine at_iconst 283 (nI 2) dL_law_282 rfl (by decide) ?_
        first | refine at_iaddN 284 dL_law_283 rfl ?_ | refine at_iadd 284 dL_law_283 rfl ?_
        refine at_sld 285 dL_law_284 rfl (by omega) ?_
        refine at_invV (ci := 12) 288 [_, _] _ (m_of hI mR (xs (i + 1)) (xs (i + 2))) dL_law_285 rfl rfl (by assumption) rfl ml_L_26 cl_X12_of vl_X12_of rfl (Nat.le_of_ble_eq_true rfl) ⟨(Nat.le_of_ble_eq_true rfl), (Nat.le_of_ble_eq_true rfl)⟩ ⟨(Nat.le_of_ble_eq_true rfl), (Nat.le_of_ble_eq_true rfl)⟩ (fun rr hh qq => ?_)
        obtain ⟨rfl, mR2, mfr⟩ := qq
        refine at_icmp_eq 863 291 dL_law_288 rfl rfl (fun cc => ?_) (fun cc => ?_)
        · exact next _ _ (inv_of hI (xs (i + 1)) (xs (i + 2))) (cR.fr mfr (fun j hj => by omega)) mR2
        · exact absurd rfl cc
      · refine at_tabIn (off := 260) 293 dL_law_33 (by decide) (by decide) rfl rfl ?_
        refine at_aload_n 294 dL_law_293 rfl rfl rfl ?_
        refine at_aloadS 295 dL_law_294 rfl rfl rfl ?_
        refine at_iload_n 296 dL_law_295 rfl rfl rfl ?_
        refine at_iconst 297 (nI 1) dL_law_296 rfl (by decide) ?_
        first | refine at_iaddN 298 dL_law_297 rfl ?_ | refine at_iadd 298 dL_law_297 rfl ?_
        refine at_sld 299 dL_law_298 rfl (by omega) ?_
        refine at_aloadS 300 dL_law_299 rfl rfl rfl ?_
        refine at_iload_n 301 dL_law_300 rfl rfl rfl ?_
        refine at_iconst 302 (nI 2) dL_law_301 rfl (by decide) ?_
        first | refine at_iaddN 303 dL_law_302 rfl ?_ | refine at_iadd 303 dL_law_302 rfl ?_
        refine at_sld 304 dL_law_303 rfl (by omega) ?_
        refine at_aloadS 305 dL_law_304 rfl rfl rfl ?_
        refine at_iload_n 306 dL_law_305 rfl rfl rfl ?_
        refine at_iconst 307 (nI 3) dL_law_306 rfl (by decide) ?_
        first | refine at_iaddN 308 dL_law_307 rfl ?_ | refine at_iadd 308 dL_law_307 rfl ?_
        refine at_sld 309 dL_law_308 rfl (by omega) ?_
        refine at_aloadS 310 dL_law_309 rfl rfl rfl ?_
        refine at_iload_n 311 dL_law_310 rfl rfl rfl ?_
        refine at_iconst 312 (nI 4) dL_law_311 rfl (by decide) ?_
        first | refine at_iaddN 313 dL_law_312 rfl ?_ | refine at_iadd 313 dL_law_312 rfl ?_
        refine at_sld 314 dL_law_313 rfl (by omega) ?_
        refine at_invV (ci := 11) 317 [_, _, _, _] _ (c_tank hI hC (xs (i + 1)) (xs (i + 2)) (xs (i + 3)) (xs (i + 4))) dL_law_314 rfl rfl (by assumption) rfl ml_L_27 cl_X11_tank vl_X11_tank rfl (Nat.le_of_ble_eq_true rfl) ⟨(Nat.le_of_ble_eq_true rfl), (Nat.le_of_ble_eq_true rfl)⟩ ⟨(Nat.le_of_ble_eq_true rfl), (Nat.le_of_ble_eq_true rfl)⟩ (fun rr hh qq => ?_)
        obtain ⟨rfl, cR, cfr⟩ := qq
        have mR := hM.fr cfr (fun j hj => by omega)
        have m0' := mR.1
        refine at_aload_n 318 dL_law_317 rfl rfl rfl ?_
        refine at_aloadS 319 dL_law_318 rfl rfl rfl ?_
        refine at_iload_n 320 dL_law_319 rfl rfl rfl ?_
        refine at_iconst 321 (nI 1) dL_law_320 rfl (by decide) ?_
        first | refine at_iaddN 322 dL_law_321 rfl ?_ | refine at_iadd 322 dL_law_321 rfl ?_
        refine at_sld 323 dL_law_322 rfl (by omega) ?_
        refine at_aloadS 324 dL_law_323 rfl rfl rfl ?_
        refine at_iload_n 325 dL_law_324 rfl rfl rfl ?_
        refine at_iconst 326 (nI 2) dL_law_325 rfl (by decide) ?_
        first | refine at_iaddN 327 dL_law_326 rfl ?_ | refine at_iadd 327 dL_law_326 rfl ?_
        refine at_sld 328 dL_law_327 rfl (by omega) ?_
        refine at_aloadS 329 dL_law_328 rfl rfl rfl ?_
        refine at_iload_n 330 dL_law_329 rfl rfl rfl ?_
        refine at_iconst 331 (nI 3) dL_law_330 rfl (by decide) ?_
        first | refine at_iaddN 332 dL_law_331 rfl ?_ | refine at_iadd 332 dL_law_331 rfl ?_
        refine at_sld 333 dL_law_332 rfl (by omega) ?_
        refine at_aloadS 334 dL_law_333 rfl rfl rfl ?_
        refine at_iload_n 335 dL_law_334 rfl rfl rfl ?_
        refine at_iconst 336 (nI 4) dL_law_335 rfl (by decide) ?_
        first | refine at_iaddN 337 dL_law_336 rfl ?_ | refine at_iadd 337 dL_law_336 rfl ?_
        refine at_sld 338 dL_law_337 rfl (by omega) ?_
        refine at_invV (ci := 12) 341 [_, _, _, _] _ (m_tank hI mR (xs (i + 1)) (xs (i + 2)) (xs (i + 3)) (xs (i + 4))) dL_law_338 rfl rfl (by assumption) rfl ml_L_31 cl_X12_tank vl_X12_tank rfl (Nat.le_of_ble_eq_true rfl) ⟨(Nat.le_of_ble_eq_true rfl), (Nat.le_of_ble_eq_true rfl)⟩ ⟨(Nat.le_of_ble_eq_true rfl), (Nat.le_of_ble_eq_true rfl)⟩ (fun rr hh qq => ?_)
        obtain ⟨rfl, mR2, mfr⟩ := qq
        refine at_icmp_eq 863 344 dL_law_341 rfl rfl (fun cc => ?_) (fun cc => ?_)
        · exact next _ _ (inv_tank hI (xs (i + 1)) (xs (i + 2)) (xs (i + 3)) (xs (i + 4))) (cR.fr mfr (fun j hj => by omega)) mR2
        · exact absurd rfl cc
      · refine at_tabIn (off := 313) 346 dL_law_33 (by decide) (by decide) rfl rfl ?_
        refine at_aload_n 347 dL_law_346 rfl rfl rfl ?_
        refine at_aloadS 348 dL_law_347 rfl rfl rfl ?_
        refine at_iload_n 349 dL_law_348 rfl rfl rfl ?_
        refine at_iconst 350 (nI 1) dL_law_349 rfl (by decide) ?_
        first | refine at_iaddN 351 dL_law_350 rfl ?_ | refine at_iadd 351 dL_law_350 rfl ?_
        refine at_sld 352 dL_law_351 rfl (by omega) ?_
        refine at_invV (ci := 11) 355 [_] _ (c_pull hI hC (xs (i + 1))) dL_law_352 rfl rfl (by assumption) rfl ml_L_32 cl_X11_pull vl_X11_pull rfl (Nat.le_of_ble_eq_true rfl) ⟨(Nat.le_of_ble_eq_true rfl), (Nat.le_of_ble_eq_true rfl)⟩ ⟨(Nat.le_of_ble_eq_true rfl), (Nat.le_of_ble_eq_true rfl)⟩ (fun rr hh qq => ?_)
        obtain ⟨rfl, cR, cfr⟩ := qq
        have mR := hM.fr cfr (fun j hj => by omega)
        have m0' := mR.1
        refine at_aload_n 356 dL_law_355 rfl rfl rfl ?_
        refine at_aloadS 357 dL_law_356 rfl rfl rfl ?_
        refine at_iload_n 358 dL_law_357 rfl rfl rfl ?_
        refine at_iconst 359 (nI 1) dL_law_358 rfl (by decide) ?_
        first | refine at_iaddN 360 dL_law_359 rfl ?_ | refine at_iadd 360 dL_law_359 rfl ?_
        refine at_sld 361 dL_law_360 rfl (by omega) ?_
        refine at_invV (ci := 12) 364 [_] _ (m_pull hI mR (xs (i + 1))) dL_law_361 rfl rfl (by assumption) rfl ml_L_36 cl_X12_pull vl_X12_pull rfl (Nat.le_of_ble_eq_true rfl) ⟨(Nat.le_of_ble_eq_true rfl), (Nat.le_of_ble_eq_true rfl)⟩ ⟨(Nat.le_of_ble_eq_true rfl), (Nat.le_of_ble_eq_true rfl)⟩ (fun rr hh qq => ?_)
        obtain ⟨rfl, mR2, mfr⟩ := qq
        refine at_icmp_eq 863 367 dL_law_364 rfl rfl (fun cc => ?_) (fun cc => ?_)
        · exact next _ _ (inv_pull hI (xs (i + 1))) (cR.fr mfr (fun j hj => by omega)) mR2
        · exact absurd rfl cc
      · refine at_tabIn (off := 336) 369 dL_law_33 (by decide) (by decide) rfl rfl ?_
        refine at_aload_n 370 dL_law_369 rfl rfl rfl ?_
        refine at_aloadS 371 dL_law_370 rfl rfl rfl ?_
        refine at_iload_n 372 dL_law_371 rfl rfl rfl ?_
        refine at_iconst 373 (nI 1) dL_law_372 rfl (by decide) ?_
        first | refine at_iaddN 374 dL_law_373 rfl ?_ | refine at_iadd 374 dL_law_373 rfl ?_
        refine at_sld 375 dL_law_374 rfl (by omega) ?_
        refine at_aloadS 376 dL_law_375 rfl rfl rfl ?_
        refine at_iload_n 377 dL_law_376 rfl rfl rfl ?_
        refine at_iconst 378 (nI 2) dL_law_377 rfl (by decide) ?_
        first | refine at_iaddN 379 dL_law_378 rfl ?_ | refine at_iadd 379 dL_law_378 rfl ?_
        refine at_sld 380 dL_law_379 rfl (by omega) ?_
        refine at_aloadS 381 dL_law_380 rfl rfl rfl ?_
        refine at_iload_n 382 dL_law_381 rfl rfl rfl ?_
        refine at_iconst 383 (nI 3) dL_law_382 rfl (by decide) ?_
        first | refine at_iaddN 384 dL_law_383 rfl ?_ | refine at_iadd 384 dL_law_383 rfl ?_
        refine at_sld 385 dL_law_384 rfl (by omega) ?_
        refine at_invV (ci := 11) 388 [_, _, _] _ (c_cell hI hC (xs (i + 1)) (xs (i + 2)) (xs (i + 3))) dL_law_385 rfl rfl (by assumption) rfl ml_L_37 cl_X11_cell vl_X11_cell rfl (Nat.le_of_ble_eq_true rfl) ⟨(Nat.le_of_ble_eq_true rfl), (Nat.le_of_ble_eq_true rfl)⟩ ⟨(Nat.le_of_ble_eq_true rfl), (Nat.le_of_ble_eq_true rfl)⟩ (fun rr hh qq => ?_)
        obtain ⟨rfl, cR, cfr⟩ := qq
        have mR := hM.fr cfr (fun j hj => by omega)
        have m0' := mR.1
        refine at_aload_n 389 dL_law_388 rfl rfl rfl ?_
        refine at_aloadS 390 dL_law_389 rfl rfl rfl ?_
        refine at_iload_n 391 dL_law_390 rfl rfl rfl ?_
        refine at_iconst 392 (nI 1) dL_law_391 rfl (by decide) ?_
        first | refine at_iaddN 393 dL_law_392 rfl ?_ | refine at_iadd 393 dL_law_392 rfl ?_
        refine at_sld 394 dL_law_393 rfl (by omega) ?_
        refine at_aloadS 395 dL_law_394 rfl rfl rfl ?_
        refine at_iload_n 396 dL_law_395 rfl rfl rfl ?_
        refine at_iconst 397 (nI 2) dL_law_396 rfl (by decide) ?_
        first | refine at_iaddN 398 dL_law_397 rfl ?_ | refine at_iadd 398 dL_law_397 rfl ?_
        refine at_sld 399 dL_law_398 rfl (by omega) ?_
        refine at_aloadS 400 dL_law_399 rfl rfl rfl ?_
        refine at_iload_n 401 dL_law_400 rfl rfl rfl ?_
        refine at_iconst 402 (nI 3) dL_law_401 rfl (by decide) ?_
        first | refine at_iaddN 403 dL_law_402 rfl ?_ | refine at_iadd 403 dL_law_402 rfl ?_
        refine at_sld 404 dL_law_403 rfl (by omega) ?_
        refine at_invV (ci := 12) 407 [_, _, _] _ (m_cell hI mR (xs (i + 1)) (xs (i + 2)) (xs (i + 3))) dL_law_404 rfl rfl (by assumption) rfl ml_L_41 cl_X12_cell vl_X12_cell rfl (Nat.le_of_ble_eq_true rfl) ⟨(Nat.le_of_ble_eq_true rfl), (Nat.le_of_ble_eq_true rfl)⟩ ⟨(Nat.le_of_ble_eq_true rfl), (Nat.le_of_ble_eq_true rfl)⟩ (fun rr hh qq => ?_)
        obtain ⟨rfl, mR2, mfr⟩ := qq
        refine at_icmp_eq 863 410 dL_law_407 rfl rfl (fun cc => ?_) (fun cc => ?_)
        · exact next _ _ (inv_cell hI (xs (i + 1)) (xs (i + 2)) (xs (i + 3))) (cR.fr mfr (fun j hj => by omega)) mR2
        · exact absurd rfl cc
      · refine at_tabIn (off := 379) 412 dL_law_33 (by decide) (by decide) rfl rfl ?_
        refine at_aload_n 413 dL_law_412 rfl rfl rfl ?_
        refine at_aloadS 414 dL_law_413 rfl rfl rfl ?_
        refine at_iload_n 415 dL_law_414 rfl rfl rfl ?_
        refine at_iconst 416 (nI 1) dL_law_415 rfl (by decide) ?_
        first | refine at_iaddN 417 dL_law_416 rfl ?_ | refine at_iadd 417 dL_law_416 rfl ?_
        refine at_sld 418 dL_law_417 rfl (by omega) ?_
        refine at_aloadS 419 dL_law_418 rfl rfl rfl ?_
        refine at_iload_n 420 dL_law_419 rfl rfl rfl ?_
        refine at_iconst 421 (nI 2) dL_law_420 rfl (by decide) ?_
        first | refine at_iaddN 422 dL_law_421 rfl ?_ | refine at_iadd 422 dL_law_421 rfl ?_
        refine at_sld 423 dL_law_422 rfl (by omega) ?_
        refine at_invV (ci := 11) 426 [_, _] _ (c_share hI hC (xs (i + 1)) (xs (i + 2))) dL_law_423 rfl rfl (by assumption) rfl ml_L_42 cl_X11_share vl_X11_share rfl (Nat.le_of_ble_eq_true rfl) ⟨(Nat.le_of_ble_eq_true rfl), (Nat.le_of_ble_eq_true rfl)⟩ ⟨(Nat.le_of_ble_eq_true rfl), (Nat.le_of_ble_eq_true rfl)⟩ (fun rr hh qq => ?_)
        obtain ⟨rfl, cR, cfr⟩ := qq
        have mR := hM.fr cfr (fun j hj => by omega)
        have m0' := mR.1
        refine at_aload_n 427 dL_law_426 rfl rfl rfl ?_
        refine at_aloadS 428 dL_law_427 rfl rfl rfl ?_
        refine at_iload_n 429 dL_law_428 rfl rfl rfl ?_
        refine at_iconst 430 (nI 1) dL_law_429 rfl (by decide) ?_
        first | refine at_iaddN 431 dL_law_430 rfl ?_ | refine at_iadd 431 dL_law_430 rfl ?_
        refine at_sld 432 dL_law_431 rfl (by omega) ?_
        refine at_aloadS 433 dL_law_432 rfl rfl rfl ?_
        refine at_iload_n 434 dL_law_433 rfl rfl rfl ?_
        refine at_iconst 435 (nI 2) dL_law_434 rfl (by decide) ?_
        first | refine at_iaddN 436 dL_law_435 rfl ?_ | refine at_iadd 436 dL_law_435 rfl ?_
        refine at_sld 437 dL_law_436 rfl (by omega) ?_
        refine at_invV (ci := 12) 440 [_, _] _ (m_share hI mR (xs (i + 1)) (xs (i + 2))) dL_law_437 rfl rfl (by assumption) rfl ml_L_45 cl_X12_share vl_X12_share rfl (Nat.le_of_ble_eq_true rfl) ⟨(Nat.le_of_ble_eq_true rfl), (Nat.le_of_ble_eq_true rfl)⟩ ⟨(Nat.le_of_ble_eq_true rfl), (Nat.le_of_ble_eq_true rfl)⟩ (fun rr hh qq => ?_)
        obtain ⟨rfl, mR2, mfr⟩ := qq
        refine at_icmp_eq 863 443 dL_law_440 rfl rfl (fun cc => ?_) (fun cc => ?_)
        · exact next _ _ (inv_share hI (xs (i + 1)) (xs (i + 2))) (cR.fr mfr (fun j hj => by omega)) mR2
        · exact absurd rfl cc
      · refine at_tabIn (off := 412) 445 dL_law_33 (by decide) (by decide) rfl rfl ?_
        refine at_aload_n 446 dL_law_445 rfl rfl rfl ?_
        refine at_invV (ci := 11) 449 [] _ (c_mix hI hC) dL_law_446 rfl rfl (by assumption) rfl ml_L_46 cl_X11_mix vl_X11_mix rfl (Nat.le_of_ble_eq_true rfl) ⟨(Nat.le_of_ble_eq_true rfl), (Nat.le_of_ble_eq_true rfl)⟩ ⟨(Nat.le_of_ble_eq_true rfl), (Nat.le_of_ble_eq_true rfl)⟩ (fun rr hh qq => ?_)
        obtain ⟨rfl, cR, cfr⟩ := qq
        have mR := hM.fr cfr (fun j hj => by omega)
        have m0' := mR.1
        refine at_aload_n 450 dL_law_449 rfl rfl rfl ?_
        refine at_invV (ci := 12) 453 [] _ (m_mix hI mR) dL_law_450 rfl rfl (by assumption) rfl ml_L_50 cl_X12_mix vl_X12_mix rfl (Nat.le_of_ble_eq_true rfl) ⟨(Nat.le_of_ble_eq_true rfl), (Nat.le_of_ble_eq_true rfl)⟩ ⟨(Nat.le_of_ble_eq_true rfl), (Nat.le_of_ble_eq_true rfl)⟩ (fun rr hh qq => ?_)
        obtain ⟨rfl, mR2, mfr⟩ := qq
        refine at_icmp_eq 863 456 dL_law_453 rfl rfl (fun cc => ?_) (fun cc => ?_)
        · exact next _ _ (inv_mix hI ) (cR.fr mfr (fun j hj => by omega)) mR2
        · exact absurd rfl cc
      · refine at_tabIn (off := 425) 458 dL_law_33 (by decide) (by decide) rfl rfl ?_
        refine at_aload_n 459 dL_law_458 rfl rfl rfl ?_
        refine at_invV (ci := 11) 462 [] _ (c_colour hI hC) dL_law_459 rfl rfl (by assumption) rfl ml_L_51 cl_X11_colour vl_X11_colour rfl (Nat.le_of_ble_eq_true rfl) ⟨(Nat.le_of_ble_eq_true rfl), (Nat.le_of_ble_eq_true rfl)⟩ ⟨(Nat.le_of_ble_eq_true rfl), (Nat.le_of_ble_eq_true rfl)⟩ (fun rr hh qq => ?_)
        obtain ⟨rfl, cR, cfr⟩ := qq
        have mR := hM.fr cfr (fun j hj => by omega)
        have m0' := mR.1
        refine at_aload_n 463 dL_law_462 rfl rfl rfl ?_
        refine at_invV (ci := 12) 466 [] _ (m_colour hI mR) dL_law_463 rfl rfl (by assumption) rfl ml_L_54 cl_X12_colour vl_X12_colour rfl (Nat.le_of_ble_eq_true rfl) ⟨(Nat.le_of_ble_eq_true rfl), (Nat.le_of_ble_eq_true rfl)⟩ ⟨(Nat.le_of_ble_eq_true rfl), (Nat.le_of_ble_eq_true rfl)⟩ (fun rr hh qq => ?_)
        obtain ⟨rfl, mR2, mfr⟩ := qq
        refine at_icmp_eq 863 469 dL_law_466 rfl rfl (fun cc => ?_) (fun cc => ?_)
        · exact next _ _ (inv_colour hI ) (cR.fr mfr (fun j hj => by omega)) mR2
        · exact absurd rfl cc
      · refine at_tabIn (off := 438) 471 dL_law_33 (by decide) (by decide) rfl rfl ?_
        refine at_aload_n 472 dL_law_471 rfl rfl rfl ?_
        refine at_aloadS 473 dL_law_472 rfl rfl rfl ?_
        refine at_iload_n 474 dL_law_473 rfl rfl rfl ?_
        refine at_iconst 475 (nI 1) dL_law_474 rfl (by decide) ?_
        first | refine at_iaddN 476 dL_law_475 rfl ?_ | refine at_iadd 476 dL_law_475 rfl ?_
        refine at_sld 477 dL_law_476 rfl (by omega) ?_
        refine at_aloadS 478 dL_law_477 rfl rfl rfl ?_
        refine at_iload_n 479 dL_law_478 rfl rfl rfl ?_
        refine at_iconst 480 (nI 2) dL_law_479 rfl (by decide) ?_
        first | refine at_iaddN 481 dL_law_480 rfl ?_ | refine at_iadd 481 dL_law_480 rfl ?_
        refine at_sld 482 dL_law_481 rfl (by omega) ?_
        refine at_aloadS 483 dL_law_482 rfl rfl rfl ?_
        refine at_iload_n 484 dL_law_483 rfl rfl rfl ?_
        refine at_iconst 485 (nI 3) dL_law_484 rfl (by decide) ?_
        first | refine at_iaddN 486 dL_law_485 rfl ?_ | refine at_iadd 486 dL_law_485 rfl ?_
        refine at_sld 487 dL_law_486 rfl (by omega) ?_
        refine at_aloadS 488 dL_law_487 rfl rfl rfl ?_
        refine at_iload_n 489 dL_law_488 rfl rfl rfl ?_
        refine at_iconst 490 (nI 4) dL_law_489 rfl (by decide) ?_
        first | refine at_iaddN 491 dL_law_490 rfl ?_ | refine at_iadd 491 dL_law_490 rfl ?_
        refine at_sld 492 dL_law_491 rfl (by omega) ?_
        refine at_invV (ci := 11) 495 [_, _, _, _] _ (c_span hI hC (xs (i + 1)) (xs (i + 2)) (xs (i + 3)) (xs (i + 4))) dL_law_492 rfl rfl (by assumption) rfl ml_L_55 cl_X11_span vl_X11_span rfl (Nat.le_of_ble_eq_true rfl) ⟨(Nat.le_of_ble_eq_true rfl), (Nat.le_of_ble_eq_true rfl)⟩ ⟨(Nat.le_of_ble_eq_true rfl), (Nat.le_of_ble_eq_true rfl)⟩ (fun rr hh qq => ?_)
        obtain ⟨rfl, cR, cfr⟩ := qq
        have mR := hM.fr cfr (fun j hj => by omega)
        have m0' := mR.1
        refine at_aload_n 496 dL_law_495 rfl rfl rfl ?_
        refine at_aloadS 497 dL_law_496 rfl rfl rfl ?_
        refine at_iload_n 498 dL_law_497 rfl rfl rfl ?_
        refine at_iconst 499 (nI 1) dL_law_498 rfl (by decide) ?_
        first | refine at_iaddN 500 dL_law_499 rfl ?_ | refine at_iadd 500 dL_law_499 rfl ?_
        refine at_sld 501 dL_law_500 rfl (by omega) ?_
        refine at_aloadS 502 dL_law_501 rfl rfl rfl ?_
        refine at_iload_n 503 dL_law_502 rfl rfl rfl ?_
        refine at_iconst 504 (nI 2) dL_law_503 rfl (by decide) ?_
        first | refine at_iaddN 505 dL_law_504 rfl ?_ | refine at_iadd 505 dL_law_504 rfl ?_
        refine at_sld 506 dL_law_505 rfl (by omega) ?_
        refine at_aloadS 507 dL_law_506 rfl rfl rfl ?_
        refine at_iload_n 508 dL_law_507 rfl rfl rfl ?_
        refine at_iconst 509 (nI 3) dL_law_508 rfl (by decide) ?_
        first | refine at_iaddN 510 dL_law_509 rfl ?_ | refine at_iadd 510 dL_law_509 rfl ?_
        refine at_sld 511 dL_law_510 rfl (by omega) ?_
        refine at_aloadS 512 dL_law_511 rfl rfl rfl ?_
        refine at_iload_n 513 dL_law_512 rfl rfl rfl ?_
        refine at_iconst 514 (nI 4) dL_law_513 rfl (by decide) ?_
        first | refine at_iaddN 515 dL_law_514 rfl ?_ | refine at_iadd 515 dL_law_514 rfl ?_
        refine at_sld 516 dL_law_515 rfl (by omega) ?_
        refine at_invV (ci := 12) 519 [_, _, _, _] _ (m_span hI mR (xs (i + 1)) (xs (i + 2)) (xs (i + 3)) (xs (i + 4))) dL_law_516 rfl rfl (by assumption) rfl ml_L_58 cl_X12_span vl_X12_span rfl (Nat.le_of_ble_eq_true rfl) ⟨(Nat.le_of_ble_eq_true rfl), (Nat.le_of_ble_eq_true rfl)⟩ ⟨(Nat.le_of_ble_eq_true rfl), (Nat.le_of_ble_eq_true rfl)⟩ (fun rr hh qq => ?_)
        obtain ⟨rfl, mR2, mfr⟩ := qq
        refine at_icmp_eq 863 522 dL_law_519 rfl rfl (fun cc => ?_) (fun cc => ?_)
        · exact next _ _ (inv_span hI (xs (i + 1)) (xs (i + 2)) (xs (i + 3)) (xs (i + 4))) (cR.fr mfr (fun j hj => by omega)) mR2
        · exact absurd rfl cc
      · refine at_tabIn (off := 491) 524 dL_law_33 (by decide) (by decide) rfl rfl ?_
        refine at_aload_n 525 dL_law_524 rfl rfl rfl ?_
        refine at_aloadS 526 dL_law_525 rfl rfl rfl ?_
        refine at_iload_n 527 dL_law_526 rfl rfl rfl ?_
        refine at_iconst 528 (nI 1) dL_law_527 rfl (by decide) ?_
        first | refine at_iaddN 529 dL_law_528 rfl ?_ | refine at_iadd 529 dL_law_528 rfl ?_
        refine at_sld 530 dL_law_529 rfl (by omega) ?_
        refine at_invV (ci := 11) 533 [_] _ (c_sure hI hC (xs (i + 1))) dL_law_530 rfl rfl (by assumption) rfl ml_L_59 cl_X11_sure vl_X11_sure rfl (Nat.le_of_ble_eq_true rfl) ⟨(Nat.le_of_ble_eq_true rfl), (Nat.le_of_ble_eq_true rfl)⟩ ⟨(Nat.le_of_ble_eq_true rfl), (Nat.le_of_ble_eq_true rfl)⟩ (fun rr hh qq => ?_)
        obtain ⟨rfl, cR, cfr⟩ := qq
        have mR := hM.fr cfr (fun j hj => by omega)
        have m0' := mR.1
        refine at_aload_n 534 dL_law_533 rfl rfl rfl ?_
        refine at_aloadS 535 dL_law_534 rfl rfl rfl ?_
        refine at_iload_n 536 dL_law_535 rfl rfl rfl ?_
        refine at_iconst 537 (nI 1) dL_law_536 rfl (by decide) ?_
        first | refine at_iaddN 538 dL_law_537 rfl ?_ | refine at_iadd 538 dL_law_537 rfl ?_
        refine at_sld 539 dL_law_538 rfl (by omega) ?_
        refine at_invV (ci := 12) 542 [_] _ (m_sure hI mR (xs (i + 1))) dL_law_539 rfl rfl (by assumption) rfl ml_L_62 cl_X12_sure vl_X12_sure rfl (Nat.le_of_ble_eq_true rfl) ⟨(Nat.le_of_ble_eq_true rfl), (Nat.le_of_ble_eq_true rfl)⟩ ⟨(Nat.le_of_ble_eq_true rfl), (Nat.le_of_ble_eq_true rfl)⟩ (fun rr hh qq => ?_)
        obtain ⟨rfl, mR2, mfr⟩ := qq
        refine at_icmp_eq 863 545 dL_law_542 rfl rfl (fun cc => ?_) (fun cc => ?_)
        · exact next _ _ (inv_sure hI (xs (i + 1))) (cR.fr mfr (fun j hj => by omega)) mR2
        · exact absurd rfl cc
      · refine at_tabIn (off := 514) 547 dL_law_33 (by decide) (by decide) rfl rfl ?_
        refine at_aload_n 548 dL_law_547 rfl rfl rfl ?_
        refine at_aloadS 549 dL_law_548 rfl rfl rfl ?_
        refine at_iload_n 550 dL_law_549 rfl rfl rfl ?_
        refine at_iconst 551 (nI 1) dL_law_550 rfl (by decide) ?_
        first | refine at_iaddN 552 dL_law_551 rfl ?_ | refine at_iadd 552 dL_law_551 rfl ?_
        refine at_sld 553 dL_law_552 rfl (by omega) ?_
        refine at_invV (ci := 11) 556 [_] _ (c_cheapest hI hC (xs (i + 1))) dL_law_553 rfl rfl (by assumption) rfl ml_L_63 cl_X11_cheapest vl_X11_cheapest rfl (Nat.le_of_ble_eq_true rfl) ⟨(Nat.le_of_ble_eq_true rfl), (Nat.le_of_ble_eq_true rfl)⟩ ⟨(Nat.le_of_ble_eq_true rfl), (Nat.le_of_ble_eq_true rfl)⟩ (fun rr hh qq => ?_)
        obtain ⟨rfl, cR, cfr⟩ := qq
        have mR := hM.fr cfr (fun j hj => by omega)
        have m0' := mR.1
        refine at_aload_n 557 dL_law_556 rfl rfl rfl ?_
        refine at_aloadS 558 dL_law_557 rfl rfl rfl ?_
        refine at_iload_n 559 dL_law_558 rfl rfl rfl ?_
        refine at_iconst 560 (nI 1) dL_law_559 rfl (by decide) ?_
        first | refine at_iaddN 561 dL_law_560 rfl ?_ | refine at_iadd 561 dL_law_560 rfl ?_
        refine at_sld 562 dL_law_561 rfl (by omega) ?_
        refine at_invV (ci := 12) 565 [_] _ (m_cheapest hI mR (xs (i + 1))) dL_law_562 rfl rfl (by assumption) rfl ml_L_66 cl_X12_cheapest vl_X12_cheapest rfl (Nat.le_of_ble_eq_true rfl) ⟨(Nat.le_of_ble_eq_true rfl), (Nat.le_of_ble_eq_true rfl)⟩ ⟨(Nat.le_of_ble_eq_true rfl), (Nat.le_of_ble_eq_true rfl)⟩ (fun rr hh qq => ?_)
        obtain ⟨rfl, mR2, mfr⟩ := qq
        refine at_icmp_eq 863 568 dL_law_565 rfl rfl (fun cc => ?_) (fun cc => ?_)
        · exact next _ _ (inv_cheapest hI (xs (i + 1))) (cR.fr mfr (fun j hj => by omega)) mR2
        · exact absurd rfl cc
      · refine at_tabIn (off := 537) 570 dL_law_33 (by decide) (by decide) rfl rfl ?_
        refine at_aload_n 571 dL_law_570 rfl rfl rfl ?_
        refine at_aloadS 572 dL_law_571 rfl rfl rfl ?_
        refine at_iload_n 573 dL_law_572 rfl rfl rfl ?_
        refine at_iconst 574 (nI 1) dL_law_573 rfl (by decide) ?_
        first | refine at_iaddN 575 dL_law_574 rfl ?_ | refine at_iadd 575 dL_law_574 rfl ?_
        refine at_sld 576 dL_law_575 rfl (by omega) ?_
        refine at_invV (ci := 11) 579 [_] _ (c_want hI hC (xs (i + 1))) dL_law_576 rfl rfl (by assumption) rfl ml_L_67 cl_X11_want vl_X11_want rfl (Nat.le_of_ble_eq_true rfl) ⟨(Nat.le_of_ble_eq_true rfl), (Nat.le_of_ble_eq_true rfl)⟩ ⟨(Nat.le_of_ble_eq_true rfl), (Nat.le_of_ble_eq_true rfl)⟩ (fun rr hh qq => ?_)
        obtain ⟨rfl, cR, cfr⟩ := qq
        have mR := hM.fr cfr (fun j hj => by omega)
        have m0' := mR.1
        refine at_aload_n 580 dL_law_579 rfl rfl rfl ?_
        refine at_aloadS 581 dL_law_580 rfl rfl rfl ?_
        refine at_iload_n 582 dL_law_581 rfl rfl rfl ?_
        refine at_iconst 583 (nI 1) dL_law_582 rfl (by decide) ?_
        first | refine at_iaddN 584 dL_law_583 rfl ?_ | refine at_iadd 584 dL_law_583 rfl ?_
        refine at_sld 585 dL_law_584 rfl (by omega) ?_
        refine at_invV (ci := 12) 588 [_] _ (m_want hI mR (xs (i + 1))) dL_law_585 rfl rfl (by assumption) rfl ml_L_70 cl_X12_want vl_X12_want rfl (Nat.le_of_ble_eq_true rfl) ⟨(Nat.le_of_ble_eq_true rfl), (Nat.le_of_ble_eq_true rfl)⟩ ⟨(Nat.le_of_ble_eq_true rfl), (Nat.le_of_ble_eq_true rfl)⟩ (fun rr hh qq => ?_)
        obtain ⟨rfl, mR2, mfr⟩ := qq
        refine at_icmp_eq 863 591 dL_law_588 rfl rfl (fun cc => ?_) (fun cc => ?_)
        · exact next _ _ (inv_want hI (xs (i + 1))) (cR.fr mfr (fun j hj => by omega)) mR2
        · exact absurd rfl cc
      · refine at_tabIn (off := 560) 593 dL_law_33 (by decide) (by decide) rfl rfl ?_
        refine at_aload_n 594 dL_law_593 rfl rfl rfl ?_
        refine at_aloadS 595 dL_law_594 rfl rfl rfl ?_
        refine at_iload_n 596 dL_law_595 rfl rfl rfl ?_
        refine at_iconst 597 (nI 1) dL_law_596 rfl (by decide) ?_
        first | refine at_iaddN 598 dL_law_597 rfl ?_ | refine at_iadd 598 dL_law_597 rfl ?_
        refine at_sld 599 dL_law_598 rfl (by omega) ?_
        refine at_invV (ci := 11) 602 [_] _ (c_hours hI hC (xs (i + 1))) dL_law_599 rfl rfl (by assumption) rfl ml_L_71 cl_X11_hours vl_X11_hours rfl (Nat.le_of_ble_eq_true rfl) ⟨(Nat.le_of_ble_eq_true rfl), (Nat.le_of_ble_eq_true rfl)⟩ ⟨(Nat.le_of_ble_eq_true rfl), (Nat.le_of_ble_eq_true rfl)⟩ (fun rr hh qq => ?_)
        obtain ⟨rfl, cR, cfr⟩ := qq
        have mR := hM.fr cfr (fun j hj => by omega)
        have m0' := mR.1
        refine at_aload_n 603 dL_law_602 rfl rfl rfl ?_
        refine at_aloadS 604 dL_law_603 rfl rfl rfl ?_
        refine at_iload_n 605 dL_law_604 rfl rfl rfl ?_
        refine at_iconst 606 (nI 1) dL_law_605 rfl (by decide) ?_
        first | refine at_iaddN 607 dL_law_606 rfl ?_ | refine at_iadd 607 dL_law_606 rfl ?_
        refine at_sld 608 dL_law_607 rfl (by omega) ?_
        refine at_invV (ci := 12) 611 [_] _ (m_hours hI mR (xs (i + 1))) dL_law_608 rfl rfl (by assumption) rfl ml_L_74 cl_X12_hours vl_X12_hours rfl (Nat.le_of_ble_eq_true rfl) ⟨(Nat.le_of_ble_eq_true rfl), (Nat.le_of_ble_eq_true rfl)⟩ ⟨(Nat.le_of_ble_eq_true rfl), (Nat.le_of_ble_eq_true rfl)⟩ (fun rr hh qq => ?_)
        obtain ⟨rfl, mR2, mfr⟩ := qq
        refine at_icmp_eq 863 614 dL_law_611 rfl rfl (fun cc => ?_) (fun cc => ?_)
        · exact next _ _ (inv_hours hI (xs (i + 1))) (cR.fr mfr (fun j hj => by omega)) mR2
        · exact absurd rfl cc
      · refine at_tabIn (off := 583) 616 dL_law_33 (by decide) (by decide) rfl rfl ?_
        refine at_aload_n 617 dL_law_616 rfl rfl rfl ?_
        refine at_aloadS 618 dL_law_617 rfl rfl rfl ?_
        refine at_iload_n 619 dL_law_618 rfl rfl rfl ?_
        refine at_iconst 620 (nI 1) dL_law_619 rfl (by decide) ?_
        first | refine at_iaddN 621 dL_law_620 rfl ?_ | refine at_iadd 621 dL_law_620 rfl ?_
        refine at_sld 622 dL_law_621 rfl (by omega) ?_
        refine at_aloadS 623 dL_law_622 rfl rfl rfl ?_
        refine at_iload_n 624 dL_law_623 rfl rfl rfl ?_
        refine at_iconst 625 (nI 2) dL_law_624 rfl (by decide) ?_
        first | refine at_iaddN 626 dL_law_625 rfl ?_ | refine at_iadd 626 dL_law_625 rfl ?_
        refine at_sld 627 dL_law_626 rfl (by omega) ?_
        refine at_invV (ci := 11) 630 [_, _] _ (c_glass hI hC (xs (i + 1)) (xs (i + 2))) dL_law_627 rfl rfl (by assumption) rfl ml_L_75 cl_X11_glass vl_X11_glass rfl (Nat.le_of_ble_eq_true rfl) ⟨(Nat.le_of_ble_eq_true rfl), (Nat.le_of_ble_eq_true rfl)⟩ ⟨(Nat.le_of_ble_eq_true rfl), (Nat.le_of_ble_eq_true rfl)⟩ (fun rr hh qq => ?_)
        obtain ⟨rfl, cR, cfr⟩ := qq
        have mR := hM.fr cfr (fun j hj => by omega)
        have m0' := mR.1
        refine at_aload_n 631 dL_law_630 rfl rfl rfl ?_
        refine at_aloadS 632 dL_law_631 rfl rfl rfl ?_
        refine at_iload_n 633 dL_law_632 rfl rfl rfl ?_
        refine at_iconst 634 (nI 1) dL_law_633 rfl (by decide) ?_
        first | refine at_iaddN 635 dL_law_634 rfl ?_ | refine at_iadd 635 dL_law_634 rfl ?_
        refine at_sld 636 dL_law_635 rfl (by omega) ?_
        refine at_aloadS 637 dL_law_636 rfl rfl rfl ?_
        refine at_iload_n 638 dL_law_637 rfl rfl rfl ?_
        refine at_iconst 639 (nI 2) dL_law_638 rfl (by decide) ?_
        first | refine at_iaddN 640 dL_law_639 rfl ?_ | refine at_iadd 640 dL_law_639 rfl ?_
        refine at_sld 641 dL_law_640 rfl (by omega) ?_
        refine at_invV (ci := 12) 644 [_, _] _ (m_glass hI mR (xs (i + 1)) (xs (i + 2))) dL_law_641 rfl rfl (by assumption) rfl ml_L_78 cl_X12_glass vl_X12_glass rfl (Nat.le_of_ble_eq_true rfl) ⟨(Nat.le_of_ble_eq_true rfl), (Nat.le_of_ble_eq_true rfl)⟩ ⟨(Nat.le_of_ble_eq_true rfl), (Nat.le_of_ble_eq_true rfl)⟩ (fun rr hh qq => ?_)
        obtain ⟨rfl, mR2, mfr⟩ := qq
        refine at_icmp_eq 863 647 dL_law_644 rfl rfl (fun cc => ?_) (fun cc => ?_)
        · exact next _ _ (inv_glass hI (xs (i + 1)) (xs (i + 2))) (cR.fr mfr (fun j hj => by omega)) mR2
        · exact absurd rfl cc
      · refine at_tabIn (off := 616) 649 dL_law_33 (by decide) (by decide) rfl rfl ?_
        refine at_aload_n 650 dL_law_649 rfl rfl rfl ?_
        refine at_aloadS 651 dL_law_650 rfl rfl rfl ?_
        refine at_iload_n 652 dL_law_651 rfl rfl rfl ?_
        refine at_iconst 653 (nI 1) dL_law_652 rfl (by decide) ?_
        first | refine at_iaddN 654 dL_law_653 rfl ?_ | refine at_iadd 654 dL_law_653 rfl ?_
        refine at_sld 655 dL_law_654 rfl (by omega) ?_
        refine at_aloadS 656 dL_law_655 rfl rfl rfl ?_
        refine at_iload_n 657 dL_law_656 rfl rfl rfl ?_
        refine at_iconst 658 (nI 2) dL_law_657 rfl (by decide) ?_
        first | refine at_iaddN 659 dL_law_658 rfl ?_ | refine at_iadd 659 dL_law_658 rfl ?_
        refine at_sld 660 dL_law_659 rfl (by omega) ?_
        refine at_invV (ci := 11) 663 [_, _] _ (c_lead hI hC (xs (i + 1)) (xs (i + 2))) dL_law_660 rfl rfl (by assumption) rfl ml_L_79 cl_X11_lead vl_X11_lead rfl (Nat.le_of_ble_eq_true rfl) ⟨(Nat.le_of_ble_eq_true rfl), (Nat.le_of_ble_eq_true rfl)⟩ ⟨(Nat.le_of_ble_eq_true rfl), (Nat.le_of_ble_eq_true rfl)⟩ (fun rr hh qq => ?_)
        obtain ⟨rfl, cR, cfr⟩ := qq
        have mR := hM.fr cfr (fun j hj => by omega)
        have m0' := mR.1
        refine at_aload_n 664 dL_law_663 rfl rfl rfl ?_
        refine at_aloadS 665 dL_law_664 rfl rfl rfl ?_
        refine at_iload_n 666 dL_law_665 rfl rfl rfl ?_
        refine at_iconst 667 (nI 1) dL_law_666 rfl (by decide) ?_
        first | refine at_iaddN 668 dL_law_667 rfl ?_ | refine at_iadd 668 dL_law_667 rfl ?_
        refine at_sld 669 dL_law_668 rfl (by omega) ?_
        refine at_aloadS 670 dL_law_669 rfl rfl rfl ?_
        refine at_iload_n 671 dL_law_670 rfl rfl rfl ?_
        refine at_iconst 672 (nI 2) dL_law_671 rfl (by decide) ?_
        first | refine at_iaddN 673 dL_law_672 rfl ?_ | refine at_iadd 673 dL_law_672 rfl ?_
        refine at_sld 674 dL_law_673 rfl (by omega) ?_
        refine at_invV (ci := 12) 677 [_, _] _ (m_lead hI mR (xs (i + 1)) (xs (i + 2))) dL_law_674 rfl rfl (by assumption) rfl ml_L_82 cl_X12_lead vl_X12_lead rfl (Nat.le_of_ble_eq_true rfl) ⟨(Nat.le_of_ble_eq_true rfl), (Nat.le_of_ble_eq_true rfl)⟩ ⟨(Nat.le_of_ble_eq_true rfl), (Nat.le_of_ble_eq_true rfl)⟩ (fun rr hh qq => ?_)
        obtain ⟨rfl, mR2, mfr⟩ := qq
        refine at_icmp_eq 863 680 dL_law_677 rfl rfl (fun cc => ?_) (fun cc => ?_)
        · exact next _ _ (inv_lead hI (xs (i + 1)) (xs (i + 2))) (cR.fr mfr (fun j hj => by omega)) mR2
        · exact absurd rfl cc
      · refine at_tabIn (off := 649) 682 dL_law_33 (by decide) (by decide) rfl rfl ?_
        refine at_aload_n 683 dL_law_682 rfl rfl rfl ?_
        refine at_aloadS 684 dL_law_683 rfl rfl rfl ?_
        refine at_iload_n 685 dL_law_684 rfl rfl rfl ?_
        refine at_iconst 686 (nI 1) dL_law_685 rfl (by decide) ?_
        first | refine at_iaddN 687 dL_law_686 rfl ?_ | refine at_iadd 687 dL_law_686 rfl ?_
        refine at_sld 688 dL_law_687 rfl (by omega) ?_
        refine at_invV (ci := 11) 691 [_] _ (c_when hI hC (xs (i + 1))) dL_law_688 rfl rfl (by assumption) rfl ml_L_83 cl_X11_when vl_X11_when rfl (Nat.le_of_ble_eq_true rfl) ⟨(Nat.le_of_ble_eq_true rfl), (Nat.le_of_ble_eq_true rfl)⟩ ⟨(Nat.le_of_ble_eq_true rfl), (Nat.le_of_ble_eq_true rfl)⟩ (fun rr hh qq => ?_)
        obtain ⟨rfl, cR, cfr⟩ := qq
        have mR := hM.fr cfr (fun j hj => by omega)
        have m0' := mR.1
        refine at_aload_n 692 dL_law_691 rfl rfl rfl ?_
        refine at_aloadS 693 dL_law_692 rfl rfl rfl ?_
        refine at_iload_n 694 dL_law_693 rfl rfl rfl ?_
        refine at_iconst 695 (nI 1) dL_law_694 rfl (by decide) ?_
        first | refine at_iaddN 696 dL_law_695 rfl ?_ | refine at_iadd 696 dL_law_695 rfl ?_
        refine at_sld 697 dL_law_696 rfl (by omega) ?_
        refine at_invV (ci := 12) 700 [_] _ (m_when hI mR (xs (i + 1))) dL_law_697 rfl rfl (by assumption) rfl ml_L_86 cl_X12_when vl_X12_when rfl (Nat.le_of_ble_eq_true rfl) ⟨(Nat.le_of_ble_eq_true rfl), (Nat.le_of_ble_eq_true rfl)⟩ ⟨(Nat.le_of_ble_eq_true rfl), (Nat.le_of_ble_eq_true rfl)⟩ (fun rr hh qq => ?_)
        obtain ⟨rfl, mR2, mfr⟩ := qq
        refine at_icmp_eq 863 703 dL_law_700 rfl rfl (fun cc => ?_) (fun cc => ?_)
        · exact next _ _ (inv_when hI (xs (i + 1))) (cR.fr mfr (fun j hj => by omega)) mR2
        · exact absurd rfl cc
      · refine at_tabIn (off := 672) 705 dL_law_33 (by decide) (by decide) rfl rfl ?_
        refine at_aload_n 706 dL_law_705 rfl rfl rfl ?_
        refine at_invV (ci := 11) 709 [] _ (c_between hI hC) dL_law_706 rfl rfl (by assumption) rfl ml_L_87 cl_X11_between vl_X11_between rfl (Nat.le_of_ble_eq_true rfl) ⟨(Nat.le_of_ble_eq_true rfl), (Nat.le_of_ble_eq_true rfl)⟩ ⟨(Nat.le_of_ble_eq_true rfl), (Nat.le_of_ble_eq_true rfl)⟩ (fun rr hh qq => ?_)
        obtain ⟨rfl, cR, cfr⟩ := qq
        have mR := hM.fr cfr (fun j hj => by omega)
        have m0' := mR.1
        refine at_aload_n 710 dL_law_709 rfl rfl rfl ?_
        refine at_invV (ci := 12) 713 [] _ (m_between hI mR) dL_law_710 rfl rfl (by assumption) rfl ml_L_90 cl_X12_between vl_X12_between rfl (Nat.le_of_ble_eq_true rfl) ⟨(Nat.le_of_ble_eq_true rfl), (Nat.le_of_ble_eq_true rfl)⟩ ⟨(Nat.le_of_ble_eq_true rfl), (Nat.le_of_ble_eq_true rfl)⟩ (fun rr hh qq => ?_)
        obtain ⟨rfl, mR2, mfr⟩ := qq
        refine at_icmp_eq 863 716 dL_law_713 rfl rfl (fun cc => ?_) (fun cc => ?_)
        · exact next _ _ (inv_between hI ) (cR.fr mfr (fun j hj => by omega)) mR2
        · exact absurd rfl cc
      · refine at_tabIn (off := 685) 718 dL_law_33 (by decide) (by decide) rfl rfl ?_
        refine at_aload_n 719 dL_law_718 rfl rfl rfl ?_
        refine at_aloadS 720 dL_law_719 rfl rfl rfl ?_
        refine at_iload_n 721 dL_law_720 rfl rfl rfl ?_
        refine at_iconst 722 (nI 1) dL_law_721 rfl (by decide) ?_
        first | refine at_iaddN 723 dL_law_722 rfl ?_ | refine at_iadd 723 dL_law_722 rfl ?_
        refine at_sld 724 dL_law_723 rfl (by omega) ?_
        refine at_aloadS 725 dL_law_724 rfl rfl rfl ?_
        refine at_iload_n 726 dL_law_725 rfl rfl rfl ?_
        refine at_iconst 727 (nI 2) dL_law_726 rfl (by decide) ?_
        first | refine at_iaddN 728 dL_law_727 rfl ?_ | refine at_iadd 728 dL_law_727 rfl ?_
        refine at_sld 729 dL_law_728 rfl (by omega) ?_
        refine at_invV (ci := 11) 732 [_, _] _ (c_dose hI hC (xs (i + 1)) (xs (i + 2))) dL_law_729 rfl rfl (by assumption) rfl ml_L_91 cl_X11_dose vl_X11_dose rfl (Nat.le_of_ble_eq_true rfl) ⟨(Nat.le_of_ble_eq_true rfl), (Nat.le_of_ble_eq_true rfl)⟩ ⟨(Nat.le_of_ble_eq_true rfl), (Nat.le_of_ble_eq_true rfl)⟩ (fun rr hh qq => ?_)
        obtain ⟨rfl, cR, cfr⟩ := qq
        have mR := hM.fr cfr (fun j hj => by omega)
        have m0' := mR.1
        refine at_aload_n 733 dL_law_732 rfl rfl rfl ?_
        refine at_aloadS 734 dL_law_733 rfl rfl rfl ?_
        refine at_iload_n 735 dL_law_734 rfl rfl rfl ?_
        refine at_iconst 736 (nI 1) dL_law_735 rfl (by decide) ?_
        first | refine at_iaddN 737 dL_law_736 rfl ?_ | refine at_iadd 737 dL_law_736 rfl ?_
        refine at_sld 738 dL_law_737 rfl (by omega) ?_
        refine at_aloadS 739 dL_law_738 rfl rfl rfl ?_
        refine at_iload_n 740 dL_law_739 rfl rfl rfl ?_
        refine at_iconst 741 (nI 2) dL_law_740 rfl (by decide) ?_
        first | refine at_iaddN 742 dL_law_741 rfl ?_ | refine at_iadd 742 dL_law_741 rfl ?_
        refine at_sld 743 dL_law_742 rfl (by omega) ?_
        refine at_invV (ci := 12) 746 [_, _] _ (m_dose hI mR (xs (i + 1)) (xs (i + 2))) dL_law_743 rfl rfl (by assumption) rfl ml_L_94 cl_X12_dose vl_X12_dose rfl (Nat.le_of_ble_eq_true rfl) ⟨(Nat.le_of_ble_eq_true rfl), (Nat.le_of_ble_eq_true rfl)⟩ ⟨(Nat.le_of_ble_eq_true rfl), (Nat.le_of_ble_eq_true rfl)⟩ (fun rr hh qq => ?_)
        obtain ⟨rfl, mR2, mfr⟩ := qq
        refine at_icmp_eq 863 749 dL_law_746 rfl rfl (fun cc => ?_) (fun cc => ?_)
        · exact next _ _ (inv_dose hI (xs (i + 1)) (xs (i + 2))) (cR.fr mfr (fun j hj => by omega)) mR2
        · exact absurd rfl cc
      · refine at_tabIn (off := 718) 751 dL_law_33 (by decide) (by decide) rfl rfl ?_
        refine at_aload_n 752 dL_law_751 rfl rfl rfl ?_
        refine at_aloadS 753 dL_law_752 rfl rfl rfl ?_
        refine at_iload_n 754 dL_law_753 rfl rfl rfl ?_
        refine at_iconst 755 (nI 1) dL_law_754 rfl (by decide) ?_
        first | refine at_iaddN 756 dL_law_755 rfl ?_ | refine at_iadd 756 dL_law_755 rfl ?_
        refine at_sld 757 dL_law_756 rfl (by omega) ?_
        refine at_aloadS 758 dL_law_757 rfl rfl rfl ?_
        refine at_iload_n 759 dL_law_758 rfl rfl rfl ?_
        refine at_iconst 760 (nI 2) dL_law_759 rfl (by decide) ?_
        first | refine at_iaddN 761 dL_law_760 rfl ?_ | refine at_iadd 761 dL_law_760 rfl ?_
        refine at_sld 762 dL_law_761 rfl (by omega) ?_
        refine at_aloadS 763 dL_law_762 rfl rfl rfl ?_
        refine at_iload_n 764 dL_law_763 rfl rfl rfl ?_
        refine at_iconst 765 (nI 3) dL_law_764 rfl (by decide) ?_
        first | refine at_iaddN 766 dL_law_765 rfl ?_ | refine at_iadd 766 dL_law_765 rfl ?_
        refine at_sld 767 dL_law_766 rfl (by omega) ?_
        refine at_invV (ci := 11) 770 [_, _, _] _ (c_change hI hC (xs (i + 1)) (xs (i + 2)) (xs (i + 3))) dL_law_767 rfl rfl (by assumption) rfl ml_L_95 cl_X11_change vl_X11_change rfl (Nat.le_of_ble_eq_true rfl) ⟨(Nat.le_of_ble_eq_true rfl), (Nat.le_of_ble_eq_true rfl)⟩ ⟨(Nat.le_of_ble_eq_true rfl), (Nat.le_of_ble_eq_true rfl)⟩ (fun rr hh qq => ?_)
        obtain ⟨rfl, cR, cfr⟩ := qq
        have mR := hM.fr cfr (fun j hj => by omega)
        have m0' := mR.1
        refine at_aload_n 771 dL_law_770 rfl rfl rfl ?_
        refine at_aloadS 772 dL_law_771 rfl rfl rfl ?_
        refine at_iload_n 773 dL_law_772 rfl rfl rfl ?_
        refine at_iconst 774 (nI 1) dL_law_773 rfl (by decide) ?_
        first | refine at_iaddN 775 dL_law_774 rfl ?_ | refine at_iadd 775 dL_law_774 rfl ?_
        refine at_sld 776 dL_law_775 rfl (by omega) ?_
        refine at_aloadS 777 dL_law_776 rfl rfl rfl ?_
        refine at_iload_n 778 dL_law_777 rfl rfl rfl ?_
        refine at_iconst 779 (nI 2) dL_law_778 rfl (by decide) ?_
        first | refine at_iaddN 780 dL_law_779 rfl ?_ | refine at_iadd 780 dL_law_779 rfl ?_
        refine at_sld 781 dL_law_780 rfl (by omega) ?_
        refine at_aloadS 782 dL_law_781 rfl rfl rfl ?_
        refine at_iload_n 783 dL_law_782 rfl rfl rfl ?_
        refine at_iconst 784 (nI 3) dL_law_783 rfl (by decide) ?_
        first | refine at_iaddN 785 dL_law_784 rfl ?_ | refine at_iadd 785 dL_law_784 rfl ?_
        refine at_sld 786 dL_law_785 rfl (by omega) ?_
        refine at_invV (ci := 12) 789 [_, _, _] _ (m_change hI mR (xs (i + 1)) (xs (i + 2)) (xs (i + 3))) dL_law_786 rfl rfl (by assumption) rfl ml_L_98 cl_X12_change vl_X12_change rfl (Nat.le_of_ble_eq_true rfl) ⟨(Nat.le_of_ble_eq_true rfl), (Nat.le_of_ble_eq_true rfl)⟩ ⟨(Nat.le_of_ble_eq_true rfl), (Nat.le_of_ble_eq_true rfl)⟩ (fun rr hh qq => ?_)
        obtain ⟨rfl, mR2, mfr⟩ := qq
        refine at_icmp_eq 863 792 dL_law_789 rfl rfl (fun cc => ?_) (fun cc => ?_)
        · exact next _ _ (inv_change hI (xs (i + 1)) (xs (i + 2)) (xs (i + 3))) (cR.fr mfr (fun j hj => by omega)) mR2
        · exact absurd rfl cc
      · refine at_tabIn (off := 761) 794 dL_law_33 (by decide) (by decide) rfl rfl ?_
        refine at_aload_n 795 dL_law_794 rfl rfl rfl ?_
        refine at_aloadS 796 dL_law_795 rfl rfl rfl ?_
        refine at_iload_n 797 dL_law_796 rfl rfl rfl ?_
        refine at_iconst 798 (nI 1) dL_law_797 rfl (by decide) ?_
        first | refine at_iaddN 799 dL_law_798 rfl ?_ | refine at_iadd 799 dL_law_798 rfl ?_
        refine at_sld 800 dL_law_799 rfl (by omega) ?_
        refine at_invV (ci := 11) 803 [_] _ (c_ring hI hC (xs (i + 1))) dL_law_800 rfl rfl (by assumption) rfl ml_L_99 cl_X11_ring vl_X11_ring rfl (Nat.le_of_ble_eq_true rfl) ⟨(Nat.le_of_ble_eq_true rfl), (Nat.le_of_ble_eq_true rfl)⟩ ⟨(Nat.le_of_ble_eq_true rfl), (Nat.le_of_ble_eq_true rfl)⟩ (fun rr hh qq => ?_)
        obtain ⟨rfl, cR, cfr⟩ := qq
        have mR := hM.fr cfr (fun j hj => by omega)
        have m0' := mR.1
        refine at_aload_n 804 dL_law_803 rfl rfl rfl ?_
        refine at_aloadS 805 dL_law_804 rfl rfl rfl ?_
        refine at_iload_n 806 dL_law_805 rfl rfl rfl ?_
        refine at_iconst 807 (nI 1) dL_law_806 rfl (by decide) ?_
        first | refine at_iaddN 808 dL_law_807 rfl ?_ | refine at_iadd 808 dL_law_807 rfl ?_
        refine at_sld 809 dL_law_808 rfl (by omega) ?_
        refine at_invV (ci := 12) 812 [_] _ (m_ring hI mR (xs (i + 1))) dL_law_809 rfl rfl (by assumption) rfl ml_L_102 cl_X12_ring vl_X12_ring rfl (Nat.le_of_ble_eq_true rfl) ⟨(Nat.le_of_ble_eq_true rfl), (Nat.le_of_ble_eq_true rfl)⟩ ⟨(Nat.le_of_ble_eq_true rfl), (Nat.le_of_ble_eq_true rfl)⟩ (fun rr hh qq => ?_)
        obtain ⟨rfl, mR2, mfr⟩ := qq
        refine at_icmp_eq 863 815 dL_law_812 rfl rfl (fun cc => ?_) (fun cc => ?_)
        · exact next _ _ (inv_ring hI (xs (i + 1))) (cR.fr mfr (fun j hj => by omega)) mR2
        · exact absurd rfl cc
      · refine at_tabIn (off := 784) 817 dL_law_33 (by decide) (by decide) rfl rfl ?_
        refine at_aload_n 818 dL_law_817 rfl rfl rfl ?_
        refine at_aloadS 819 dL_law_818 rfl rfl rfl ?_
        refine at_iload_n 820 dL_law_819 rfl rfl rfl ?_
        refine at_iconst 821 (nI 1) dL_law_820 rfl (by decide) ?_
        first | refine at_iaddN 822 dL_law_821 rfl ?_ | refine at_iadd 822 dL_law_821 rfl ?_
        refine at_sld 823 dL_law_822 rfl (by omega) ?_
        refine at_invV (ci := 11) 826 [_] _ (c_next hI hC (xs (i + 1))) dL_law_823 rfl rfl (by assumption) rfl ml_L_103 cl_X11_next vl_X11_next rfl (Nat.le_of_ble_eq_true rfl) ⟨(Nat.le_of_ble_eq_true rfl), (Nat.le_of_ble_eq_true rfl)⟩ ⟨(Nat.le_of_ble_eq_true rfl), (Nat.le_of_ble_eq_true rfl)⟩ (fun rr hh qq => ?_)
        obtain ⟨rfl, cR, cfr⟩ := qq
        have mR := hM.fr cfr (fun j hj => by omega)
        have m0' := mR.1
        refine at_aload_n 827 dL_law_826 rfl rfl rfl ?_
        refine at_aloadS 828 dL_law_827 rfl rfl rfl ?_
        refine at_iload_n 829 dL_law_828 rfl rfl rfl ?_
        refine at_iconst 830 (nI 1) dL_law_829 rfl (by decide) ?_
        first | refine at_iaddN 831 dL_law_830 rfl ?_ | refine at_iadd 831 dL_law_830 rfl ?_
        refine at_sld 832 dL_law_831 rfl (by omega) ?_
        refine at_invV (ci := 12) 835 [_] _ (m_next hI mR (xs (i + 1))) dL_law_832 rfl rfl (by assumption) rfl ml_L_106 cl_X12_next vl_X12_next rfl (Nat.le_of_ble_eq_true rfl) ⟨(Nat.le_of_ble_eq_true rfl), (Nat.le_of_ble_eq_true rfl)⟩ ⟨(Nat.le_of_ble_eq_true rfl), (Nat.le_of_ble_eq_true rfl)⟩ (fun rr hh qq => ?_)
        obtain ⟨rfl, mR2, mfr⟩ := qq
        refine at_icmp_eq 863 838 dL_law_835 rfl rfl (fun cc => ?_) (fun cc => ?_)
        · exact next _ _ (inv_next hI (xs (i + 1))) (cR.fr mfr (fun j hj => by omega)) mR2
        · exact absurd rfl cc
      · refine at_tabIn (off := 807) 840 dL_law_33 (by decide) (by decide) rfl rfl ?_
        refine at_aload_n 841 dL_law_840 rfl rfl rfl ?_
        refine at_aloadS 842 dL_law_841 rfl rfl rfl ?_
        refine at_iload_n 843 dL_law_842 rfl rfl rfl ?_
        refine at_iconst 844 (nI 1) dL_law_843 rfl (by decide) ?_
        first | refine at_iaddN 845 dL_law_844 rfl ?_ | refine at_iadd 845 dL_law_844 rfl ?_
        refine at_sld 846 dL_law_845 rfl (by omega) ?_
        refine at_invV (ci := 11) 849 [_] _ (c_told hI hC (xs (i + 1))) dL_law_846 rfl rfl (by assumption) rfl ml_L_107 cl_X11_told vl_X11_told rfl (Nat.le_of_ble_eq_true rfl) ⟨(Nat.le_of_ble_eq_true rfl), (Nat.le_of_ble_eq_true rfl)⟩ ⟨(Nat.le_of_ble_eq_true rfl), (Nat.le_of_ble_eq_true rfl)⟩ (fun rr hh qq => ?_)
        obtain ⟨rfl, cR, cfr⟩ := qq
        have mR := hM.fr cfr (fun j hj => by omega)
        have m0' := mR.1
        refine at_aload_n 850 dL_law_849 rfl rfl rfl ?_
        refine at_aloadS 851 dL_law_850 rfl rfl rfl ?_
        refine at_iload_n 852 dL_law_851 rfl rfl rfl ?_
        refine at_iconst 853 (nI 1) dL_law_852 rfl (by decide) ?_
        first | refine at_iaddN 854 dL_law_853 rfl ?_ | refine at_iadd 854 dL_law_853 rfl ?_
        refine at_sld 855 dL_law_854 rfl (by omega) ?_
        refine at_invV (ci := 12) 858 [_] _ (m_told hI mR (xs (i + 1))) dL_law_855 rfl rfl (by assumption) rfl ml_L_110 cl_X12_told vl_X12_told rfl (Nat.le_of_ble_eq_true rfl) ⟨(Nat.le_of_ble_eq_true rfl), (Nat.le_of_ble_eq_true rfl)⟩ ⟨(Nat.le_of_ble_eq_true rfl), (Nat.le_of_ble_eq_true rfl)⟩ (fun rr hh qq => ?_)
        obtain ⟨rfl, mR2, mfr⟩ := qq
        refine at_icmp_eq 863 861 dL_law_858 rfl rfl (fun cc => ?_) (fun cc => ?_)
        · exact next _ _ (inv_told hI (xs (i + 1))) (cR.fr mfr (fun j hj => by omega)) mR2
        · exact absurd rfl cc
    · have hout : (xs i &&& nI 31).toInt < 0 ∨ 22 < (xs i &&& nI 31).toInt := by
        apply Classical.byContradiction
        intro hc
        obtain ⟨j, hj, he⟩ := nI_of (x := xs i &&& nI 31) (by rw [Int32.lt_iff_toInt_lt]; show ¬ (xs i &&& nI 31).toInt < 0; omega)
        rw [he, nI_toInt hj] at hc
        exact hv ⟨j, by omega, he⟩
      refine at_tabOut 863 dL_law_33 hout rfl ?_
      exact next s h hI hC hM
theorem law_at {nm : String} {b Ln : Nat} {xs : Nat → Int32} (hL : Ln ≤ 4096) : At (mLw nm) (GS b Ln xs) 0 [.retAddr 0, .null, .null, .null] [] [] 0 0 ZL := by
  have hl : ([] : List PC).length = 0 := rfl
  refine at_new (ci := 11) 3 dX11 tyX11 dL_law_0 rfl rfl ck_L_7 it_X11 ii_X11 inX11 tyX11_ok df_X11 (fun _ => rfl) hl (Nat.le_of_ble_eq_true rfl) (Nat.le_of_ble_eq_true rfl) (fun hh1 nn1 => ?_)
  replace hl := nn1.2.2
  have o1 := nn1.1
  clear nn1
  refine at_dup 4 dL_law_3 rfl rfl ?_
  refine at_invI 7 [] _ (c_X11_init hl o1) dL_law_4 rfl rfl rfl rfl (Or.inl ml_L_9) cl_X11_init iv_X11_init rfl (Nat.le_of_ble_eq_true rfl) ⟨(Nat.le_of_ble_eq_true rfl), (Nat.le_of_ble_eq_true rfl)⟩ ⟨(Nat.le_of_ble_eq_true rfl), (Nat.le_of_ble_eq_true rfl)⟩ (fun rr hh qq => ?_)
  obtain ⟨rfl, hl2, cR⟩ := qq
  clear hl o1
  rename List PC => h1
  refine at_astore_n (L' := [_, _, _, _]) 8 dL_law_7 rfl rfl (Nat.le_of_ble_eq_true rfl) rfl rfl ?_
  refine at_new (ci := 12) 11 dX12 tyX12 dL_law_8 rfl rfl ck_L_10 it_X12 ii_X12 inX12 tyX12_ok df_X12 (fun _ => rfl) hl2 (Nat.le_of_ble_eq_true rfl) (Nat.le_of_ble_eq_true rfl) (fun h2 n2 => ?_)
  have cR2 := cR.mg n2.mg (fun j _ q => q)
  refine at_dup 12 dL_law_11 rfl rfl ?_
  refine at_invI 15 [] _ (c_X12_init n2.2.2 n2.1) dL_law_12 rfl rfl rfl rfl (Or.inl ml_L_12) cl_X12_init iv_X12_init rfl (Nat.le_of_ble_eq_true rfl) ⟨(Nat.le_of_ble_eq_true rfl), (Nat.le_of_ble_eq_true rfl)⟩ ⟨(Nat.le_of_ble_eq_true rfl), (Nat.le_of_ble_eq_true rfl)⟩ (fun rr hh qq => ?_)
  obtain ⟨rfl, -, mg, mR⟩ := qq
  have cR3 := cR2.mg mg (fun j hj q => by omega)
  refine at_astore_n (L' := [_, _, _, _]) 16 dL_law_15 rfl rfl (Nat.le_of_ble_eq_true rfl) rfl rfl ?_
  refine at_iconst 17 (nI 0) dL_law_16 rfl (by decide) ?_
  refine at_istore_n (L' := [_, _, _, _]) 18 dL_law_17 rfl rfl (Nat.le_of_ble_eq_true rfl) rfl rfl ?_
  exact law_loop hL (Ln + 1) 0 s0 _ (by omega) (by omega) inv_s0 cR3 mR

