theorem XR.f {I I' : pm_I} {L L' : pm_L} {X : xS} (h : XR I L X) (e : ∀ a : Nat, a < 40 → I' a = I a ∧ L' a = L a) : XR I' L' X := by
  refine ⟨h.1.e (fun a _ _ => (e a (by omega)).1), ?_, ?_, fun q hq => ⟨?_, fun k hk => by rw [(e (33 + 2 * q) (by omega)).2]; exact (h.2.2.2 q hq).2 k hk⟩⟩
  · have h1 := h.2.1
    unfold XI at h1 ⊢
    split
    · rename_i hz; rw [hz] at h1; rw [(e 0 (by omega)).1]; exact h1
    · rename_i s' hz
      rw [hz] at h1
      exact ⟨by rw [(e 0 (by omega)).1]; exact h1.1, h1.2.e (fun a _ _ => (e a (by omega)).1)⟩
  · have h1 := h.2.2.1
    unfold XT at h1 ⊢
    rw [(e 22 (by omega)).1, (e 23 (by omega)).1]; exact h1
  · have h1 := (h.2.2.2 q hq).1
    unfold XS at h1 ⊢
    rw [(e (32 + 2 * q) (by omega)).1]; exact h1
theorem MR.f {I I' : pm_I} {L L' : pm_L} {X : xS} (h : MR I L X) (e : xF I I' L L') : MR I' L' X := by
  have e1 : ∀ a : Nat, 40 ≤ a → I' a = I a := fun a ha => (e a ha).1
  refine ⟨h.1.k (fun c h1 h2 => e1 c (by omega)) (by rw [e1 40 (by omega)]) (by rw [e1 40 (by omega)]), ?_, ?_, fun q hq => ⟨?_, fun k hk => by rw [(e 63 (by omega)).2]; exact (h.2.2.2 q hq).2 k hk⟩⟩
  · have h1 := h.2.1
    unfold MO MI at h1 ⊢
    rw [e1 40 (by omega), e1 60 (by omega)]; exact h1
  · have h1 := h.2.2.1
    unfold MT_ at h1 ⊢
    rw [e1 40 (by omega), e1 48 (by omega)]; exact h1
  · have h1 := (h.2.2.2 q hq).1
    unfold MS at h1 ⊢
    rw [e1 61 (by omega), e1 62 (by omega)]; exact h1
theorem pm_inc6 (i : Nat) : nI i + Int32.ofInt 6 = nI (i + 6) := nI_add i 6
abbrev yLaw (nm : String) : MethodName := ⟨"WormHeapLaw", nm, "([I)Z"⟩
set_option maxRecDepth 100000 in
set_option maxHeartbeats 2000000 in
theorem l_case0 {la : Launch} {P : pm_E} {nm : String} {Tg : List Frame → Array Value → State → State → Prop} {i : Nat} (hi : i + 6 ≤ pm_n P) (hN : pm_n P ≤ 384) {I : pm_I} {L : pm_L} {X : xS} (hR : XR I L X) (hM : MR I L X) (hX : xInv X) (k9 : ∀ (I : pm_I) (L : pm_L) (X : xS), XR I L X → MR I L X → xInv X → PW la P (yLaw nm) code 4 ret room_1 Tg 65 1568 1127 [some (.ref 2000), some (.ref 0), some (.ref 40), some (.int (nI i))] [] GG I L) : PW la P (yLaw nm) code 4 ret room_1 Tg 65 1568 156 [some (.ref 2000), some (.ref 0), some (.ref 40), some (.int (nI i))] [] GG I L := by
  refine pm_aload_n (pc := 156) dL_law_156 rfl ?_
  refine pm_aload_n (pc := 157) dL_law_157 rfl ?_
  refine pm_iload_n (pc := 158) dL_law_158 rfl ?_
  refine pm_iconst (pc := 159) (v := nI 1) dL_law_159 (by decide) ?_
  refine pm_iadd (pc := 160) dL_law_160 ?_
  refine pm_top (nI_add _ _) ?_
  refine pm_sld (pc := 161) (vp_in_nI (by omega) (by omega)) dL_law_161 ?_
  refine pm_aload_n (pc := 162) dL_law_162 rfl ?_
  refine pm_iload_n (pc := 163) dL_law_163 rfl ?_
  refine pm_iconst (pc := 164) (v := nI 2) dL_law_164 (by decide) ?_
  refine pm_iadd (pc := 165) dL_law_165 ?_
  refine pm_top (nI_add _ _) ?_
  refine pm_sld (pc := 166) (vp_in_nI (by omega) (by omega)) dL_law_166 ?_
  refine pm_aload_n (pc := 167) dL_law_167 rfl ?_
  refine pm_iload_n (pc := 168) dL_law_168 rfl ?_
  refine pm_iconst (pc := 169) (v := nI 3) dL_law_169 (by decide) ?_
  refine pm_iadd (pc := 170) dL_law_170 ?_
  refine pm_top (nI_add _ _) ?_
  refine pm_sld (pc := 171) (vp_in_nI (by omega) (by omega)) dL_law_171 ?_
  refine pm_aload_n (pc := 172) dL_law_172 rfl ?_
  refine pm_iload_n (pc := 173) dL_law_173 rfl ?_
  refine pm_iconst (pc := 174) (v := nI 4) dL_law_174 (by decide) ?_
  refine pm_iadd (pc := 175) dL_law_175 ?_
  refine pm_top (nI_add _ _) ?_
  refine pm_sld (pc := 176) (vp_in_nI (by omega) (by omega)) dL_law_176 ?_
  refine pm_cVI (pc := 177) dL_law_177 (x_piece hR hX) wq_X9_piece wm_L_13 wi_X9_piece ws_X9_piece rfl rfl ⟨Nat.le_of_ble_eq_true rfl, Nat.le_of_ble_eq_true rfl⟩ ⟨Nat.le_of_ble_eq_true rfl, Nat.le_of_ble_eq_true rfl⟩ rfl (Nat.le_of_ble_eq_true rfl) (fun r177 I177 L177 q177 => ?_)
  obtain ⟨er177, R177, F177⟩ := q177
  have M177 := hM.f F177
  refine pm_aload_n (pc := 180) dL_law_180 rfl ?_
  refine pm_aload_n (pc := 181) dL_law_181 rfl ?_
  refine pm_iload_n (pc := 182) dL_law_182 rfl ?_
  refine pm_iconst (pc := 183) (v := nI 1) dL_law_183 (by decide) ?_
  refine pm_iadd (pc := 184) dL_law_184 ?_
  refine pm_top (nI_add _ _) ?_
  refine pm_sld (pc := 185) (vp_in_nI (by omega) (by omega)) dL_law_185 ?_
  refine pm_aload_n (pc := 186) dL_law_186 rfl ?_
  refine pm_iload_n (pc := 187) dL_law_187 rfl ?_
  refine pm_iconst (pc := 188) (v := nI 2) dL_law_188 (by decide) ?_
  refine pm_iadd (pc := 189) dL_law_189 ?_
  refine pm_top (nI_add _ _) ?_
  refine pm_sld (pc := 190) (vp_in_nI (by omega) (by omega)) dL_law_190 ?_
  refine pm_aload_n (pc := 191) dL_law_191 rfl ?_
  refine pm_iload_n (pc := 192) dL_law_192 rfl ?_
  refine pm_iconst (pc := 193) (v := nI 3) dL_law_193 (by decide) ?_
  refine pm_iadd (pc := 194) dL_law_194 ?_
  refine pm_top (nI_add _ _) ?_
  refine pm_sld (pc := 195) (vp_in_nI (by omega) (by omega)) dL_law_195 ?_
  refine pm_aload_n (pc := 196) dL_law_196 rfl ?_
  refine pm_iload_n (pc := 197) dL_law_197 rfl ?_
  refine pm_iconst (pc := 198) (v := nI 4) dL_law_198 (by decide) ?_
  refine pm_iadd (pc := 199) dL_law_199 ?_
  refine pm_top (nI_add _ _) ?_
  refine pm_sld (pc := 200) (vp_in_nI (by omega) (by omega)) dL_law_200 ?_
  refine pm_cVI (pc := 201) dL_law_201 (y_piece M177 hX) wq_X10_piece wm_L_17 wi_X10_piece ws_X10_piece rfl rfl ⟨Nat.le_of_ble_eq_true rfl, Nat.le_of_ble_eq_true rfl⟩ ⟨Nat.le_of_ble_eq_true rfl, Nat.le_of_ble_eq_true rfl⟩ rfl (Nat.le_of_ble_eq_true rfl) (fun r201 I201 L201 q201 => ?_)
  obtain ⟨er201, N201, E201⟩ := q201
  have R201 := R177.f E201
  refine pm_icmp_eq (pc := 204) (tgt := 1127) dL_law_204 rfl (fun h204 => ?_) (fun h204 => absurd (er177.trans er201.symm) h204)
  exact k9 I201 L201 _ R201 N201 (xi_piece hX)
set_option maxRecDepth 100000 in
set_option maxHeartbeats 2000000 in
theorem l_case1 {la : Launch} {P : pm_E} {nm : String} {Tg : List Frame → Array Value → State → State → Prop} {i : Nat} (hi : i + 6 ≤ pm_n P) (hN : pm_n P ≤ 384) {I : pm_I} {L : pm_L} {X : xS} (hR : XR I L X) (hM : MR I L X) (hX : xInv X) (k9 : ∀ (I : pm_I) (L : pm_L) (X : xS), XR I L X → MR I L X → xInv X → PW la P (yLaw nm) code 4 ret room_1 Tg 65 1568 1127 [some (.ref 2000), some (.ref 0), some (.ref 40), some (.int (nI i))] [] GG I L) : PW la P (yLaw nm) code 4 ret room_1 Tg 65 1568 209 [some (.ref 2000), some (.ref 0), some (.ref 40), some (.int (nI i))] [] GG I L := by
  refine pm_aload_n (pc := 209) dL_law_209 rfl ?_
  refine pm_aload_n (pc := 210) dL_law_210 rfl ?_
  refine pm_iload_n (pc := 211) dL_law_211 rfl ?_
  refine pm_iconst (pc := 212) (v := nI 1) dL_law_212 (by decide) ?_
  refine pm_iadd (pc := 213) dL_law_213 ?_
  refine pm_top (nI_add _ _) ?_
  refine pm_sld (pc := 214) (vp_in_nI (by omega) (by omega)) dL_law_214 ?_
  refine pm_aload_n (pc := 215) dL_law_215 rfl ?_
  refine pm_iload_n (pc := 216) dL_law_216 rfl ?_
  refine pm_iconst (pc := 217) (v := nI 2) dL_law_217 (by decide) ?_
  refine pm_iadd (pc := 218) dL_law_218 ?_
  refine pm_top (nI_add _ _) ?_
  refine pm_sld (pc := 219) (vp_in_nI (by omega) (by omega)) dL_law_219 ?_
  refine pm_cVI (pc := 220) dL_law_220 (x_told hR hX) wq_X9_told wm_L_18 wi_X9_told ws_X9_told rfl rfl ⟨Nat.le_of_ble_eq_true rfl, Nat.le_of_ble_eq_true rfl⟩ ⟨Nat.le_of_ble_eq_true rfl, Nat.le_of_ble_eq_true rfl⟩ rfl (Nat.le_of_ble_eq_true rfl) (fun r220 I220 L220 q220 => ?_)
  obtain ⟨er220, R220, F220⟩ := q220
  have M220 := hM.f F220
  refine pm_aload_n (pc := 223) dL_law_223 rfl ?_
  refine pm_aload_n (pc := 224) dL_law_224 rfl ?_
  refine pm_iload_n (pc := 225) dL_law_225 rfl ?_
  refine pm_iconst (pc := 226) (v := nI 1) dL_law_226 (by decide) ?_
  refine pm_iadd (pc := 227) dL_law_227 ?_
  refine pm_top (nI_add _ _) ?_
  refine pm_sld (pc := 228) (vp_in_nI (by omega) (by omega)) dL_law_228 ?_
  refine pm_aload_n (pc := 229) dL_law_229 rfl ?_
  refine pm_iload_n (pc := 230) dL_law_230 rfl ?_
  refine pm_iconst (pc := 231) (v := nI 2) dL_law_231 (by decide) ?_
  refine pm_iadd (pc := 232) dL_law_232 ?_
  refine pm_top (nI_add _ _) ?_
  refine pm_sld (pc := 233) (vp_in_nI (by omega) (by omega)) dL_law_233 ?_
  refine pm_cVI (pc := 234) dL_law_234 (y_told M220 hX) wq_X10_told wm_L_22 wi_X10_told ws_X10_told rfl rfl ⟨Nat.le_of_ble_eq_true rfl, Nat.le_of_ble_eq_true rfl⟩ ⟨Nat.le_of_ble_eq_true rfl, Nat.le_of_ble_eq_true rfl⟩ rfl (Nat.le_of_ble_eq_true rfl) (fun r234 I234 L234 q234 => ?_)
  obtain ⟨er234, N234, E234⟩ := q234
  have R234 := R220.f E234
  refine pm_icmp_eq (pc := 237) (tgt := 1127) dL_law_237 rfl (fun h237 => ?_) (fun h237 => absurd (er220.trans er234.symm) h237)
  exact k9 I234 L234 _ R234 N234 (xi_told hX)
set_option maxRecDepth 100000 in
set_option maxHeartbeats 2000000 in
theorem l_case2 {la : Launch} {P : pm_E} {nm : String} {Tg : List Frame → Array Value → State → State → Prop} {i : Nat} (hi : i + 6 ≤ pm_n P) (hN : pm_n P ≤ 384) {I : pm_I} {L : pm_L} {X : xS} (hR : XR I L X) (hM : MR I L X) (hX : xInv X) (k9 : ∀ (I : pm_I) (L : pm_L) (X : xS), XR I L X → MR I L X → xInv X → PW la P (yLaw nm) code 4 ret room_1 Tg 65 1568 1127 [some (.ref 2000), some (.ref 0), some (.ref 40), some (.int (nI i))] [] GG I L) : PW la P (yLaw nm) code 4 ret room_1 Tg 65 1568 242 [some (.ref 2000), some (.ref 0), some (.ref 40), some (.int (nI i))] [] GG I L := by
  refine pm_aload_n (pc := 242) dL_law_242 rfl ?_
  refine pm_aload_n (pc := 243) dL_law_243 rfl ?_
  refine pm_iload_n (pc := 244) dL_law_244 rfl ?_
  refine pm_iconst (pc := 245) (v := nI 1) dL_law_245 (by decide) ?_
  refine pm_iadd (pc := 246) dL_law_246 ?_
  refine pm_top (nI_add _ _) ?_
  refine pm_sld (pc := 247) (vp_in_nI (by omega) (by omega)) dL_law_247 ?_
  refine pm_aload_n (pc := 248) dL_law_248 rfl ?_
  refine pm_iload_n (pc := 249) dL_law_249 rfl ?_
  refine pm_iconst (pc := 250) (v := nI 2) dL_law_250 (by decide) ?_
  refine pm_iadd (pc := 251) dL_law_251 ?_
  refine pm_top (nI_add _ _) ?_
  refine pm_sld (pc := 252) (vp_in_nI (by omega) (by omega)) dL_law_252 ?_
  refine pm_cVI (pc := 253) dL_law_253 (x_of hR hX) wq_X9_of wm_L_23 wi_X9_of ws_X9_of rfl rfl ⟨Nat.le_of_ble_eq_true rfl, Nat.le_of_ble_eq_true rfl⟩ ⟨Nat.le_of_ble_eq_true rfl, Nat.le_of_ble_eq_true rfl⟩ rfl (Nat.le_of_ble_eq_true rfl) (fun r253 I253 L253 q253 => ?_)
  obtain ⟨er253, R253, F253⟩ := q253
  have M253 := hM.f F253
  refine pm_aload_n (pc := 256) dL_law_256 rfl ?_
  refine pm_aload_n (pc := 257) dL_law_257 rfl ?_
  refine pm_iload_n (pc := 258) dL_law_258 rfl ?_
  refine pm_iconst (pc := 259) (v := nI 1) dL_law_259 (by decide) ?_
  refine pm_iadd (pc := 260) dL_law_260 ?_
  refine pm_top (nI_add _ _) ?_
  refine pm_sld (pc := 261) (vp_in_nI (by omega) (by omega)) dL_law_261 ?_
  refine pm_aload_n (pc := 262) dL_law_262 rfl ?_
  refine pm_iload_n (pc := 263) dL_law_263 rfl ?_
  refine pm_iconst (pc := 264) (v := nI 2) dL_law_264 (by decide) ?_
  refine pm_iadd (pc := 265) dL_law_265 ?_
  refine pm_top (nI_add _ _) ?_
  refine pm_sld (pc := 266) (vp_in_nI (by omega) (by omega)) dL_law_266 ?_
  refine pm_cVI (pc := 267) dL_law_267 (y_of M253 hX) wq_X10_of wm_L_26 wi_X10_of ws_X10_of rfl rfl ⟨Nat.le_of_ble_eq_true rfl, Nat.le_of_ble_eq_true rfl⟩ ⟨Nat.le_of_ble_eq_true rfl, Nat.le_of_ble_eq_true rfl⟩ rfl (Nat.le_of_ble_eq_true rfl) (fun r267 I267 L267 q267 => ?_)
  obtain ⟨er267, N267, E267⟩ := q267
  have R267 := R253.f E267
  refine pm_icmp_eq (pc := 270) (tgt := 1127) dL_law_270 rfl (fun h270 => ?_) (fun h270 => absurd (er253.trans er267.symm) h270)
  exact k9 I267 L267 _ R267 N267 (xi_of hX)
set_option maxRecDepth 100000 in
set_option maxHeartbeats 2000000 in
theorem l_case3 {la : Launch} {P : pm_E} {nm : String} {Tg : List Frame → Array Value → State → State → Prop} {i : Nat} (hi : i + 6 ≤ pm_n P) (hN : pm_n P ≤ 384) {I : pm_I} {L : pm_L} {X : xS} (hR : XR I L X) (hM : MR I L X) (hX : xInv X) (k9 : ∀ (I : pm_I) (L : pm_L) (X : xS), XR I L X → MR I L X → xInv X → PW la P (yLaw nm) code 4 ret room_1 Tg 65 1568 1127 [some (.ref 2000), some (.ref 0), some (.ref 40), some (.int (nI i))] [] GG I L) : PW la P (yLaw nm) code 4 ret room_1 Tg 65 1568 275 [some (.ref 2000), some (.ref 0), some (.ref 40), some (.int (nI i))] [] GG I L := by
  refine pm_aload_n (pc := 275) dL_law_275 rfl ?_
  refine pm_aload_n (pc := 276) dL_law_276 rfl ?_
  refine pm_iload_n (pc := 277) dL_law_277 rfl ?_
  refine pm_iconst (pc := 278) (v := nI 1) dL_law_278 (by decide) ?_
  refine pm_iadd (pc := 279) dL_law_279 ?_
  refine pm_top (nI_add _ _) ?_
  refine pm_sld (pc := 280) (vp_in_nI (by omega) (by omega)) dL_law_280 ?_
  refine pm_aload_n (pc := 281) dL_law_281 rfl ?_
  refine pm_iload_n (pc := 282) dL_law_282 rfl ?_
  refine pm_iconst (pc := 283) (v := nI 2) dL_law_283 (by decide) ?_
  refine pm_iadd (pc := 284) dL_law_284 ?_
  refine pm_top (nI_add _ _) ?_
  refine pm_sld (pc := 285) (vp_in_nI (by omega) (by omega)) dL_law_285 ?_
  refine pm_cVI (pc := 286) dL_law_286 (x_sense hR hX) wq_X9_sense wm_L_27 wi_X9_sense ws_X9_sense rfl rfl ⟨Nat.le_of_ble_eq_true rfl, Nat.le_of_ble_eq_true rfl⟩ ⟨Nat.le_of_ble_eq_true rfl, Nat.le_of_ble_eq_true rfl⟩ rfl (Nat.le_of_ble_eq_true rfl) (fun r286 I286 L286 q286 => ?_)
  obtain ⟨er286, R286, F286⟩ := q286
  have M286 := hM.f F286
  refine pm_aload_n (pc := 289) dL_law_289 rfl ?_
  refine pm_aload_n (pc := 290) dL_law_290 rfl ?_
  refine pm_iload_n (pc := 291) dL_law_291 rfl ?_
  refine pm_iconst (pc := 292) (v := nI 1) dL_law_292 (by decide) ?_
  refine pm_iadd (pc := 293) dL_law_293 ?_
  refine pm_top (nI_add _ _) ?_
  refine pm_sld (pc := 294) (vp_in_nI (by omega) (by omega)) dL_law_294 ?_
  refine pm_aload_n (pc := 295) dL_law_295 rfl ?_
  refine pm_iload_n (pc := 296) dL_law_296 rfl ?_
  refine pm_iconst (pc := 297) (v := nI 2) dL_law_297 (by decide) ?_
  refine pm_iadd (pc := 298) dL_law_298 ?_
  refine pm_top (nI_add _ _) ?_
  refine pm_sld (pc := 299) (vp_in_nI (by omega) (by omega)) dL_law_299 ?_
  refine pm_cVI (pc := 300) dL_law_300 (y_sense M286 hX) wq_X10_sense wm_L_30 wi_X10_sense ws_X10_sense rfl rfl ⟨Nat.le_of_ble_eq_true rfl, Nat.le_of_ble_eq_true rfl⟩ ⟨Nat.le_of_ble_eq_true rfl, Nat.le_of_ble_eq_true rfl⟩ rfl (Nat.le_of_ble_eq_true rfl) (fun r300 I300 L300 q300 => ?_)
  obtain ⟨er300, N300, E300⟩ := q300
  have R300 := R286.f E300
  refine pm_icmp_eq (pc := 303) (tgt := 1127) dL_law_303 rfl (fun h303 => ?_) (fun h303 => absurd (er286.trans er300.symm) h303)
  exact k9 I300 L300 _ R300 N300 (xi_sense hX)
set_option maxRecDepth 100000 in
set_option maxHeartbeats 2000000 in
theorem l_case4 {la : Launch} {P : pm_E} {nm : String} {Tg : List Frame → Array Value → State → State → Prop} {i : Nat} (hi : i + 6 ≤ pm_n P) (hN : pm_n P ≤ 384) {I : pm_I} {L : pm_L} {X : xS} (hR : XR I L X) (hM : MR I L X) (hX : xInv X) (k9 : ∀ (I : pm_I) (L : pm_L) (X : xS), XR I L X → MR I L X → xInv X → PW la P (yLaw nm) code 4 ret room_1 Tg 65 1568 1127 [some (.ref 2000), some (.ref 0), some (.ref 40), some (.int (nI i))] [] GG I L) : PW la P (yLaw nm) code 4 ret room_1 Tg 65 1568 308 [some (.ref 2000), some (.ref 0), some (.ref 40), some (.int (nI i))] [] GG I L := by
  refine pm_aload_n (pc := 308) dL_law_308 rfl ?_
  refine pm_aload_n (pc := 309) dL_law_309 rfl ?_
  refine pm_iload_n (pc := 310) dL_law_310 rfl ?_
  refine pm_iconst (pc := 311) (v := nI 1) dL_law_311 (by decide) ?_
  refine pm_iadd (pc := 312) dL_law_312 ?_
  refine pm_top (nI_add _ _) ?_
  refine pm_sld (pc := 313) (vp_in_nI (by omega) (by omega)) dL_law_313 ?_
  refine pm_i2l (pc := 314) dL_law_314 ?_
  refine pm_bipush (pc := 315) (v := nI 32) dL_law_315 (by decide) ?_
  refine pm_lshl (pc := 317) dL_law_317 ?_
  refine pm_aload_n (pc := 318) dL_law_318 rfl ?_
  refine pm_iload_n (pc := 319) dL_law_319 rfl ?_
  refine pm_iconst (pc := 320) (v := nI 2) dL_law_320 (by decide) ?_
  refine pm_iadd (pc := 321) dL_law_321 ?_
  refine pm_top (nI_add _ _) ?_
  refine pm_sld (pc := 322) (vp_in_nI (by omega) (by omega)) dL_law_322 ?_
  refine pm_i2l (pc := 323) dL_law_323 ?_
  refine pm_ldc2 (pc := 324) wk_L_31 dL_law_324 ?_
  refine pm_land (pc := 327) dL_law_327 ?_
  refine pm_lor (pc := 328) dL_law_328 ?_
  refine pm_aload_n (pc := 329) dL_law_329 rfl ?_
  refine pm_iload_n (pc := 330) dL_law_330 rfl ?_
  refine pm_iconst (pc := 331) (v := nI 3) dL_law_331 (by decide) ?_
  refine pm_iadd (pc := 332) dL_law_332 ?_
  refine pm_top (nI_add _ _) ?_
  refine pm_sld (pc := 333) (vp_in_nI (by omega) (by omega)) dL_law_333 ?_
  refine pm_cVI (pc := 334) dL_law_334 (x_type hR hX) wq_X9_type wm_L_33 wi_X9_type ws_X9_type rfl rfl ⟨Nat.le_of_ble_eq_true rfl, Nat.le_of_ble_eq_true rfl⟩ ⟨Nat.le_of_ble_eq_true rfl, Nat.le_of_ble_eq_true rfl⟩ rfl (Nat.le_of_ble_eq_true rfl) (fun r334 I334 L334 q334 => ?_)
  obtain ⟨er334, R334, F334⟩ := q334
  have M334 := hM.f F334
  refine pm_aload_n (pc := 337) dL_law_337 rfl ?_
  refine pm_aload_n (pc := 338) dL_law_338 rfl ?_
  refine pm_iload_n (pc := 339) dL_law_339 rfl ?_
  refine pm_iconst (pc := 340) (v := nI 1) dL_law_340 (by decide) ?_
  refine pm_iadd (pc := 341) dL_law_341 ?_
  refine pm_top (nI_add _ _) ?_
  refine pm_sld (pc := 342) (vp_in_nI (by omega) (by omega)) dL_law_342 ?_
  refine pm_i2l (pc := 343) dL_law_343 ?_
  refine pm_bipush (pc := 344) (v := nI 32) dL_law_344 (by decide) ?_
  refine pm_lshl (pc := 346) dL_law_346 ?_
  refine pm_aload_n (pc := 347) dL_law_347 rfl ?_
  refine pm_iload_n (pc := 348) dL_law_348 rfl ?_
  refine pm_iconst (pc := 349) (v := nI 2) dL_law_349 (by decide) ?_
  refine pm_iadd (pc := 350) dL_law_350 ?_
  refine pm_top (nI_add _ _) ?_
  refine pm_sld (pc := 351) (vp_in_nI (by omega) (by omega)) dL_law_351 ?_
  refine pm_i2l (pc := 352) dL_law_352 ?_
  refine pm_ldc2 (pc := 353) wk_L_31 dL_law_353 ?_
  refine pm_land (pc := 356) dL_law_356 ?_
  refine pm_lor (pc := 357) dL_law_357 ?_
  refine pm_aload_n (pc := 358) dL_law_358 rfl ?_
  refine pm_iload_n (pc := 359) dL_law_359 rfl ?_
  refine pm_iconst (pc := 360) (v := nI 3) dL_law_360 (by decide) ?_
  refine pm_iadd (pc := 361) dL_law_361 ?_
  refine pm_top (nI_add _ _) ?_
  refine pm_sld (pc := 362) (vp_in_nI (by omega) (by omega)) dL_law_362 ?_
  refine pm_cVI (pc := 363) dL_law_363 (y_type M334 hX) wq_X10_type wm_L_37 wi_X10_type ws_X10_type rfl rfl ⟨Nat.le_of_ble_eq_true rfl, Nat.le_of_ble_eq_true rfl⟩ ⟨Nat.le_of_ble_eq_true rfl, Nat.le_of_ble_eq_true rfl⟩ rfl (Nat.le_of_ble_eq_true rfl) (fun r363 I363 L363 q363 => ?_)
  obtain ⟨er363, N363, E363⟩ := q363
  have R363 := R334.f E363
  refine pm_icmp_eq (pc := 366) (tgt := 1127) dL_law_366 rfl (fun h366 => ?_) (fun h366 => absurd (er334.trans er363.symm) h366)
  exact k9 I363 L363 _ R363 N363 (xi_type hX)
set_option maxRecDepth 100000 in
set_option maxHeartbeats 2000000 in
theorem l_case5 {la : Launch} {P : pm_E} {nm : String} {Tg : List Frame → Array Value → State → State → Prop} {i : Nat} (hi : i + 6 ≤ pm_n P) (hN : pm_n P ≤ 384) {I : pm_I} {L : pm_L} {X : xS} (hR : XR I L X) (hM : MR I L X) (hX : xInv X) (k9 : ∀ (I : pm_I) (L : pm_L) (X : xS), XR I L X → MR I L X → xInv X → PW la P (yLaw nm) code 4 ret room_1 Tg 65 1568 1127 [some (.ref 2000), some (.ref 0), some (.ref 40), some (.int (nI i))] [] GG I L) : PW la P (yLaw nm) code 4 ret room_1 Tg 65 1568 371 [some (.ref 2000), some (.ref 0), some (.ref 40), some (.int (nI i))] [] GG I L := by
  refine pm_aload_n (pc := 371) dL_law_371 rfl ?_
  refine pm_cVI (pc := 372) dL_law_372 (x_heap hR hX) wq_X9_heap wm_L_38 wi_X9_heap ws_X9_heap rfl rfl ⟨Nat.le_of_ble_eq_true rfl, Nat.le_of_ble_eq_true rfl⟩ ⟨Nat.le_of_ble_eq_true rfl, Nat.le_of_ble_eq_true rfl⟩ rfl (Nat.le_of_ble_eq_true rfl) (fun r372 I372 L372 q372 => ?_)
  obtain ⟨er372, R372, F372⟩ := q372
  have M372 := hM.f F372
  refine pm_aload_n (pc := 375) dL_law_375 rfl ?_
  refine pm_cVI (pc := 376) dL_law_376 (y_heap M372 hX) wq_X10_heap wm_L_42 wi_X10_heap ws_X10_heap rfl rfl ⟨Nat.le_of_ble_eq_true rfl, Nat.le_of_ble_eq_true rfl⟩ ⟨Nat.le_of_ble_eq_true rfl, Nat.le_of_ble_eq_true rfl⟩ rfl (Nat.le_of_ble_eq_true rfl) (fun r376 I376 L376 q376 => ?_)
  obtain ⟨er376, N376, E376⟩ := q376
  have R376 := R372.f E376
  refine pm_icmp_eq (pc := 379) (tgt := 1127) dL_law_379 rfl (fun h379 => ?_) (fun h379 => absurd (er372.trans er376.symm) h379)
  exact k9 I376 L376 _ R376 N376 (xi_heap hX)
set_option maxRecDepth 100000 in
set_option maxHeartbeats 2000000 in
theorem l_case6 {la : Launch} {P : pm_E} {nm : String} {Tg : List Frame → Array Value → State → State → Prop} {i : Nat} (hi : i + 6 ≤ pm_n P) (hN : pm_n P ≤ 384) {I : pm_I} {L : pm_L} {X : xS} (hR : XR I L X) (hM : MR I L X) (hX : xInv X) (k9 : ∀ (I : pm_I) (L : pm_L) (X : xS), XR I L X → MR I L X → xInv X → PW la P (yLaw nm) code 4 ret room_1 Tg 65 1568 1127 [some (.ref 2000), some (.ref 0), some (.ref 40), some (.int (nI i))] [] GG I L) : PW la P (yLaw nm) code 4 ret room_1 Tg 65 1568 384 [some (.ref 2000), some (.ref 0), some (.ref 40), some (.int (nI i))] [] GG I L := by
  refine pm_aload_n (pc := 384) dL_law_384 rfl ?_
  refine pm_cVI (pc := 385) dL_law_385 (x_night hR hX) wq_X9_night wm_L_43 wi_X9_night ws_X9_night rfl rfl ⟨Nat.le_of_ble_eq_true rfl, Nat.le_of_ble_eq_true rfl⟩ ⟨Nat.le_of_ble_eq_true rfl, Nat.le_of_ble_eq_true rfl⟩ rfl (Nat.le_of_ble_eq_true rfl) (fun r385 I385 L385 q385 => ?_)
  obtain ⟨er385, R385, F385⟩ := q385
  have M385 := hM.f F385
  refine pm_aload_n (pc := 388) dL_law_388 rfl ?_
  refine pm_cVI (pc := 389) dL_law_389 (y_night M385 hX) wq_X10_night wm_L_46 wi_X10_night ws_X10_night rfl rfl ⟨Nat.le_of_ble_eq_true rfl, Nat.le_of_ble_eq_true rfl⟩ ⟨Nat.le_of_ble_eq_true rfl, Nat.le_of_ble_eq_true rfl⟩ rfl (Nat.le_of_ble_eq_true rfl) (fun r389 I389 L389 q389 => ?_)
  obtain ⟨er389, N389, E389⟩ := q389
  have R389 := R385.f E389
  refine pm_icmp_eq (pc := 392) (tgt := 1127) dL_law_392 rfl (fun h392 => ?_) (fun h392 => absurd (er385.trans er389.symm) h392)
  exact k9 I389 L389 _ R389 N389 (xi_night hX)
set_option maxRecDepth 100000 in
set_option maxHeartbeats 2000000 in
theorem l_case7 {la : Launch} {P : pm_E} {nm : String} {Tg : List Frame → Array Value → State → State → Prop} {i : Nat} (hi : i + 6 ≤ pm_n P) (hN : pm_n P ≤ 384) {I : pm_I} {L : pm_L} {X : xS} (hR : XR I L X) (hM : MR I L X) (hX : xInv X) (k9 : ∀ (I : pm_I) (L : pm_L) (X : xS), XR I L X → MR I L X → xInv X → PW la P (yLaw nm) code 4 ret room_1 Tg 65 1568 1127 [some (.ref 2000), some (.ref 0), some (.ref 40), some (.int (nI i))] [] GG I L) : PW la P (yLaw nm) code 4 ret room_1 Tg 65 1568 397 [some (.ref 2000), some (.ref 0), some (.ref 40), some (.int (nI i))] [] GG I L := by
  refine pm_aload_n (pc := 397) dL_law_397 rfl ?_
  refine pm_aload_n (pc := 398) dL_law_398 rfl ?_
  refine pm_iload_n (pc := 399) dL_law_399 rfl ?_
  refine pm_iconst (pc := 400) (v := nI 1) dL_law_400 (by decide) ?_
  refine pm_iadd (pc := 401) dL_law_401 ?_
  refine pm_top (nI_add _ _) ?_
  refine pm_sld (pc := 402) (vp_in_nI (by omega) (by omega)) dL_law_402 ?_
  refine pm_cVI (pc := 403) dL_law_403 (x_count hR hX) wq_X9_count wm_L_47 wi_X9_count ws_X9_count rfl rfl ⟨Nat.le_of_ble_eq_true rfl, Nat.le_of_ble_eq_true rfl⟩ ⟨Nat.le_of_ble_eq_true rfl, Nat.le_of_ble_eq_true rfl⟩ rfl (Nat.le_of_ble_eq_true rfl) (fun r403 I403 L403 q403 => ?_)
  obtain ⟨er403, R403, F403⟩ := q403
  have M403 := hM.f F403
  refine pm_aload_n (pc := 406) dL_law_406 rfl ?_
  refine pm_aload_n (pc := 407) dL_law_407 rfl ?_
  refine pm_iload_n (pc := 408) dL_law_408 rfl ?_
  refine pm_iconst (pc := 409) (v := nI 1) dL_law_409 (by decide) ?_
  refine pm_iadd (pc := 410) dL_law_410 ?_
  refine pm_top (nI_add _ _) ?_
  refine pm_sld (pc := 411) (vp_in_nI (by omega) (by omega)) dL_law_411 ?_
  refine pm_cVI (pc := 412) dL_law_412 (y_count M403 hX) wq_X10_count wm_L_51 wi_X10_count ws_X10_count rfl rfl ⟨Nat.le_of_ble_eq_true rfl, Nat.le_of_ble_eq_true rfl⟩ ⟨Nat.le_of_ble_eq_true rfl, Nat.le_of_ble_eq_true rfl⟩ rfl (Nat.le_of_ble_eq_true rfl) (fun r412 I412 L412 q412 => ?_)
  obtain ⟨er412, N412, E412⟩ := q412
  have R412 := R403.f E412
  refine pm_icmp_eq (pc := 415) (tgt := 1127) dL_law_415 rfl (fun h415 => ?_) (fun h415 => absurd (er403.trans er412.symm) h415)
  exact k9 I412 L412 _ R412 N412 (xi_count hX)
set_option maxRecDepth 100000 in
set_option maxHeartbeats 2000000 in
theorem l_case8 {la : Launch} {P : pm_E} {nm : String} {Tg : List Frame → Array Value → State → State → Prop} {i : Nat} (hi : i + 6 ≤ pm_n P) (hN : pm_n P ≤ 384) {I : pm_I} {L : pm_L} {X : xS} (hR : XR I L X) (hM : MR I L X) (hX : xInv X) (k9 : ∀ (I : pm_I) (L : pm_L) (X : xS), XR I L X → MR I L X → xInv X → PW la P (yLaw nm) code 4 ret room_1 Tg 65 1568 1127 [some (.ref 2000), some (.ref 0), some (.ref 40), some (.int (nI i))] [] GG I L) : PW la P (yLaw nm) code 4 ret room_1 Tg 65 1568 420 [some (.ref 2000), some (.ref 0), some (.ref 40), some (.int (nI i))] [] GG I L := by
  refine pm_aload_n (pc := 420) dL_law_420 rfl ?_
  refine pm_aload_n (pc := 421) dL_law_421 rfl ?_
  refine pm_iload_n (pc := 422) dL_law_422 rfl ?_
  refine pm_iconst (pc := 423) (v := nI 1) dL_law_423 (by decide) ?_
  refine pm_iadd (pc := 424) dL_law_424 ?_
  refine pm_top (nI_add _ _) ?_
  refine pm_sld (pc := 425) (vp_in_nI (by omega) (by omega)) dL_law_425 ?_
  refine pm_cVI (pc := 426) dL_law_426 (x_lift hR hX) wq_X9_lift wm_L_52 wi_X9_lift ws_X9_lift rfl rfl ⟨Nat.le_of_ble_eq_true rfl, Nat.le_of_ble_eq_true rfl⟩ ⟨Nat.le_of_ble_eq_true rfl, Nat.le_of_ble_eq_true rfl⟩ rfl (Nat.le_of_ble_eq_true rfl) (fun r426 I426 L426 q426 => ?_)
  obtain ⟨er426, R426, F426⟩ := q426
  have M426 := hM.f F426
  refine pm_aload_n (pc := 429) dL_law_429 rfl ?_
  refine pm_aload_n (pc := 430) dL_law_430 rfl ?_
  refine pm_iload_n (pc := 431) dL_law_431 rfl ?_
  refine pm_iconst (pc := 432) (v := nI 1) dL_law_432 (by decide) ?_
  refine pm_iadd (pc := 433) dL_law_433 ?_
  refine pm_top (nI_add _ _) ?_
  refine pm_sld (pc := 434) (vp_in_nI (by omega) (by omega)) dL_law_434 ?_
  refine pm_cVI (pc := 435) dL_law_435 (y_lift M426 hX) wq_X10_lift wm_L_55 wi_X10_lift ws_X10_lift rfl rfl ⟨Nat.le_of_ble_eq_true rfl, Nat.le_of_ble_eq_true rfl⟩ ⟨Nat.le_of_ble_eq_true rfl, Nat.le_of_ble_eq_true rfl⟩ rfl (Nat.le_of_ble_eq_true rfl) (fun r435 I435 L435 q435 => ?_)
  obtain ⟨er435, N435, E435⟩ := q435
  have R435 := R426.f E435
  refine pm_icmp_eq (pc := 438) (tgt := 1127) dL_law_438 rfl (fun h438 => ?_) (fun h438 => absurd (er426.trans er435.symm) h438)
  exact k9 I435 L435 _ R435 N435 (xi_lift hX)
set_option maxRecDepth 100000 in
set_option maxHeartbeats 2000000 in
theorem l_case9 {la : Launch} {P : pm_E} {nm : String} {Tg : List Frame → Array Value → State → State → Prop} {i : Nat} (hi : i + 6 ≤ pm_n P) (hN : pm_n P ≤ 384) {I : pm_I} {L : pm_L} {X : xS} (hR : XR I L X) (hM : MR I L X) (hX : xInv X) (k9 : ∀ (I : pm_I) (L : pm_L) (X : xS), XR I L X → MR I L X → xInv X → PW la P (yLaw nm) code 4 ret room_1 Tg 65 1568 1127 [some (.ref 2000), some (.ref 0), some (.ref 40), some (.int (nI i))] [] GG I L) : PW la P (yLaw nm) code 4 ret room_1 Tg 65 1568 443 [some (.ref 2000), some (.ref 0), some (.ref 40), some (.int (nI i))] [] GG I L := by
  refine pm_aload_n (pc := 443) dL_law_443 rfl ?_
  refine pm_aload_n (pc := 444) dL_law_444 rfl ?_
  refine pm_iload_n (pc := 445) dL_law_445 rfl ?_
  refine pm_iconst (pc := 446) (v := nI 1) dL_law_446 (by decide) ?_
  refine pm_iadd (pc := 447) dL_law_447 ?_
  refine pm_top (nI_add _ _) ?_
  refine pm_sld (pc := 448) (vp_in_nI (by omega) (by omega)) dL_law_448 ?_
  refine pm_aload_n (pc := 449) dL_law_449 rfl ?_
  refine pm_iload_n (pc := 450) dL_law_450 rfl ?_
  refine pm_iconst (pc := 451) (v := nI 2) dL_law_451 (by decide) ?_
  refine pm_iadd (pc := 452) dL_law_452 ?_
  refine pm_top (nI_add _ _) ?_
  refine pm_sld (pc := 453) (vp_in_nI (by omega) (by omega)) dL_law_453 ?_
  refine pm_cVI (pc := 454) dL_law_454 (x_lay hR hX) wq_X9_lay wm_L_56 wi_X9_lay ws_X9_lay rfl rfl ⟨Nat.le_of_ble_eq_true rfl, Nat.le_of_ble_eq_true rfl⟩ ⟨Nat.le_of_ble_eq_true rfl, Nat.le_of_ble_eq_true rfl⟩ rfl (Nat.le_of_ble_eq_true rfl) (fun r454 I454 L454 q454 => ?_)
  obtain ⟨er454, R454, F454⟩ := q454
  have M454 := hM.f F454
  refine pm_aload_n (pc := 457) dL_law_457 rfl ?_
  refine pm_aload_n (pc := 458) dL_law_458 rfl ?_
  refine pm_iload_n (pc := 459) dL_law_459 rfl ?_
  refine pm_iconst (pc := 460) (v := nI 1) dL_law_460 (by decide) ?_
  refine pm_iadd (pc := 461) dL_law_461 ?_
  refine pm_top (nI_add _ _) ?_
  refine pm_sld (pc := 462) (vp_in_nI (by omega) (by omega)) dL_law_462 ?_
  refine pm_aload_n (pc := 463) dL_law_463 rfl ?_
  refine pm_iload_n (pc := 464) dL_law_464 rfl ?_
  refine pm_iconst (pc := 465) (v := nI 2) dL_law_465 (by decide) ?_
  refine pm_iadd (pc := 466) dL_law_466 ?_
  refine pm_top (nI_add _ _) ?_
  refine pm_sld (pc := 467) (vp_in_nI (by omega) (by omega)) dL_law_467 ?_
  refine pm_cVI (pc := 468) dL_law_468 (y_lay M454 hX) wq_X10_lay wm_L_59 wi_X10_lay ws_X10_lay rfl rfl ⟨Nat.le_of_ble_eq_true rfl, Nat.le_of_ble_eq_true rfl⟩ ⟨Nat.le_of_ble_eq_true rfl, Nat.le_of_ble_eq_true rfl⟩ rfl (Nat.le_of_ble_eq_true rfl) (fun r468 I468 L468 q468 => ?_)
  obtain ⟨er468, N468, E468⟩ := q468
  have R468 := R454.f E468
  refine pm_icmp_eq (pc := 471) (tgt := 1127) dL_law_471 rfl (fun h471 => ?_) (fun h471 => absurd (er454.trans er468.symm) h471)
  exact k9 I468 L468 _ R468 N468 (xi_lay hX)
set_option maxRecDepth 100000 in
set_option maxHeartbeats 2000000 in
theorem l_case10 {la : Launch} {P : pm_E} {nm : String} {Tg : List Frame → Array Value → State → State → Prop} {i : Nat} (hi : i + 6 ≤ pm_n P) (hN : pm_n P ≤ 384) {I : pm_I} {L : pm_L} {X : xS} (hR : XR I L X) (hM : MR I L X) (hX : xInv X) (k9 : ∀ (I : pm_I) (L : pm_L) (X : xS), XR I L X → MR I L X → xInv X → PW la P (yLaw nm) code 4 ret room_1 Tg 65 1568 1127 [some (.ref 2000), some (.ref 0), some (.ref 40), some (.int (nI i))] [] GG I L) : PW la P (yLaw nm) code 4 ret room_1 Tg 65 1568 476 [some (.ref 2000), some (.ref 0), some (.ref 40), some (.int (nI i))] [] GG I L := by
  refine pm_aload_n (pc := 476) dL_law_476 rfl ?_
  refine pm_aload_n (pc := 477) dL_law_477 rfl ?_
  refine pm_iload_n (pc := 478) dL_law_478 rfl ?_
  refine pm_iconst (pc := 479) (v := nI 1) dL_law_479 (by decide) ?_
  refine pm_iadd (pc := 480) dL_law_480 ?_
  refine pm_top (nI_add _ _) ?_
  refine pm_sld (pc := 481) (vp_in_nI (by omega) (by omega)) dL_law_481 ?_
  refine pm_aload_n (pc := 482) dL_law_482 rfl ?_
  refine pm_iload_n (pc := 483) dL_law_483 rfl ?_
  refine pm_iconst (pc := 484) (v := nI 2) dL_law_484 (by decide) ?_
  refine pm_iadd (pc := 485) dL_law_485 ?_
  refine pm_top (nI_add _ _) ?_
  refine pm_sld (pc := 486) (vp_in_nI (by omega) (by omega)) dL_law_486 ?_
  refine pm_cVI (pc := 487) dL_law_487 (x_swap hR hX) wq_X9_swap wm_L_60 wi_X9_swap ws_X9_swap rfl rfl ⟨Nat.le_of_ble_eq_true rfl, Nat.le_of_ble_eq_true rfl⟩ ⟨Nat.le_of_ble_eq_true rfl, Nat.le_of_ble_eq_true rfl⟩ rfl (Nat.le_of_ble_eq_true rfl) (fun r487 I487 L487 q487 => ?_)
  obtain ⟨er487, R487, F487⟩ := q487
  have M487 := hM.f F487
  refine pm_aload_n (pc := 490) dL_law_490 rfl ?_
  refine pm_aload_n (pc := 491) dL_law_491 rfl ?_
  refine pm_iload_n (pc := 492) dL_law_492 rfl ?_
  refine pm_iconst (pc := 493) (v := nI 1) dL_law_493 (by decide) ?_
  refine pm_iadd (pc := 494) dL_law_494 ?_
  refine pm_top (nI_add _ _) ?_
  refine pm_sld (pc := 495) (vp_in_nI (by omega) (by omega)) dL_law_495 ?_
  refine pm_aload_n (pc := 496) dL_law_496 rfl ?_
  refine pm_iload_n (pc := 497) dL_law_497 rfl ?_
  refine pm_iconst (pc := 498) (v := nI 2) dL_law_498 (by decide) ?_
  refine pm_iadd (pc := 499) dL_law_499 ?_
  refine pm_top (nI_add _ _) ?_
  refine pm_sld (pc := 500) (vp_in_nI (by omega) (by omega)) dL_law_500 ?_
  refine pm_cVI (pc := 501) dL_law_501 (y_swap M487 hX) wq_X10_swap wm_L_63 wi_X10_swap ws_X10_swap rfl rfl ⟨Nat.le_of_ble_eq_true rfl, Nat.le_of_ble_eq_true rfl⟩ ⟨Nat.le_of_ble_eq_true rfl, Nat.le_of_ble_eq_true rfl⟩ rfl (Nat.le_of_ble_eq_true rfl) (fun r501 I501 L501 q501 => ?_)
  obtain ⟨er501, N501, E501⟩ := q501
  have R501 := R487.f E501
  refine pm_icmp_eq (pc := 504) (tgt := 1127) dL_law_504 rfl (fun h504 => ?_) (fun h504 => absurd (er487.trans er501.symm) h504)
  exact k9 I501 L501 _ R501 N501 (xi_swap hX)
set_option maxRecDepth 100000 in
set_option maxHeartbeats 2000000 in
theorem l_case11 {la : Launch} {P : pm_E} {nm : String} {Tg : List Frame → Array Value → State → State → Prop} {i : Nat} (hi : i + 6 ≤ pm_n P) (hN : pm_n P ≤ 384) {I : pm_I} {L : pm_L} {X : xS} (hR : XR I L X) (hM : MR I L X) (hX : xInv X) (k9 : ∀ (I : pm_I) (L : pm_L) (X : xS), XR I L X → MR I L X → xInv X → PW la P (yLaw nm) code 4 ret room_1 Tg 65 1568 1127 [some (.ref 2000), some (.ref 0), some (.ref 40), some (.int (nI i))] [] GG I L) : PW la P (yLaw nm) code 4 ret room_1 Tg 65 1568 509 [some (.ref 2000), some (.ref 0), some (.ref 40), some (.int (nI i))] [] GG I L := by
  refine pm_aload_n (pc := 509) dL_law_509 rfl ?_
  refine pm_aload_n (pc := 510) dL_law_510 rfl ?_
  refine pm_iload_n (pc := 511) dL_law_511 rfl ?_
  refine pm_iconst (pc := 512) (v := nI 1) dL_law_512 (by decide) ?_
  refine pm_iadd (pc := 513) dL_law_513 ?_
  refine pm_top (nI_add _ _) ?_
  refine pm_sld (pc := 514) (vp_in_nI (by omega) (by omega)) dL_law_514 ?_
  refine pm_aload_n (pc := 515) dL_law_515 rfl ?_
  refine pm_iload_n (pc := 516) dL_law_516 rfl ?_
  refine pm_iconst (pc := 517) (v := nI 2) dL_law_517 (by decide) ?_
  refine pm_iadd (pc := 518) dL_law_518 ?_
  refine pm_top (nI_add _ _) ?_
  refine pm_sld (pc := 519) (vp_in_nI (by omega) (by omega)) dL_law_519 ?_
  refine pm_cVI (pc := 520) dL_law_520 (x_push hR hX) wq_X9_push wm_L_64 wi_X9_push ws_X9_push rfl rfl ⟨Nat.le_of_ble_eq_true rfl, Nat.le_of_ble_eq_true rfl⟩ ⟨Nat.le_of_ble_eq_true rfl, Nat.le_of_ble_eq_true rfl⟩ rfl (Nat.le_of_ble_eq_true rfl) (fun r520 I520 L520 q520 => ?_)
  obtain ⟨er520, R520, F520⟩ := q520
  have M520 := hM.f F520
  refine pm_aload_n (pc := 523) dL_law_523 rfl ?_
  refine pm_aload_n (pc := 524) dL_law_524 rfl ?_
  refine pm_iload_n (pc := 525) dL_law_525 rfl ?_
  refine pm_iconst (pc := 526) (v := nI 1) dL_law_526 (by decide) ?_
  refine pm_iadd (pc := 527) dL_law_527 ?_
  refine pm_top (nI_add _ _) ?_
  refine pm_sld (pc := 528) (vp_in_nI (by omega) (by omega)) dL_law_528 ?_
  refine pm_aload_n (pc := 529) dL_law_529 rfl ?_
  refine pm_iload_n (pc := 530) dL_law_530 rfl ?_
  refine pm_iconst (pc := 531) (v := nI 2) dL_law_531 (by decide) ?_
  refine pm_iadd (pc := 532) dL_law_532 ?_
  refine pm_top (nI_add _ _) ?_
  refine pm_sld (pc := 533) (vp_in_nI (by omega) (by omega)) dL_law_533 ?_
  refine pm_cVI (pc := 534) dL_law_534 (y_push M520 hX) wq_X10_push wm_L_67 wi_X10_push ws_X10_push rfl rfl ⟨Nat.le_of_ble_eq_true rfl, Nat.le_of_ble_eq_true rfl⟩ ⟨Nat.le_of_ble_eq_true rfl, Nat.le_of_ble_eq_true rfl⟩ rfl (Nat.le_of_ble_eq_true rfl) (fun r534 I534 L534 q534 => ?_)
  obtain ⟨er534, N534, E534⟩ := q534
  have R534 := R520.f E534
  refine pm_icmp_eq (pc := 537) (tgt := 1127) dL_law_537 rfl (fun h537 => ?_) (fun h537 => absurd (er520.trans er534.symm) h537)
  exact k9 I534 L534 _ R534 N534 (xi_push hX)
set_option maxRecDepth 100000 in
set_option maxHeartbeats 2000000 in
theorem l_case12 {la : Launch} {P : pm_E} {nm : String} {Tg : List Frame → Array Value → State → State → Prop} {i : Nat} (hi : i + 6 ≤ pm_n P) (hN : pm_n P ≤ 384) {I : pm_I} {L : pm_L} {X : xS} (hR : XR I L X) (hM : MR I L X) (hX : xInv X) (k9 : ∀ (I : pm_I) (L : pm_L) (X : xS), XR I L X → MR I L X → xInv X → PW la P (yLaw nm) code 4 ret room_1 Tg 65 1568 1127 [some (.ref 2000), some (.ref 0), some (.ref 40), some (.int (nI i))] [] GG I L) : PW la P (yLaw nm) code 4 ret room_1 Tg 65 1568 542 [some (.ref 2000), some (.ref 0), some (.ref 40), some (.int (nI i))] [] GG I L := by
  refine pm_aload_n (pc := 542) dL_law_542 rfl ?_
  refine pm_cVI (pc := 543) dL_law_543 (x_turn hR hX) wq_X9_turn wm_L_68 wi_X9_turn ws_X9_turn rfl rfl ⟨Nat.le_of_ble_eq_true rfl, Nat.le_of_ble_eq_true rfl⟩ ⟨Nat.le_of_ble_eq_true rfl, Nat.le_of_ble_eq_true rfl⟩ rfl (Nat.le_of_ble_eq_true rfl) (fun r543 I543 L543 q543 => ?_)
  obtain ⟨er543, R543, F543⟩ := q543
  have M543 := hM.f F543
  refine pm_aload_n (pc := 546) dL_law_546 rfl ?_
  refine pm_cVI (pc := 547) dL_law_547 (y_turn M543 hX) wq_X10_turn wm_L_71 wi_X10_turn ws_X10_turn rfl rfl ⟨Nat.le_of_ble_eq_true rfl, Nat.le_of_ble_eq_true rfl⟩ ⟨Nat.le_of_ble_eq_true rfl, Nat.le_of_ble_eq_true rfl⟩ rfl (Nat.le_of_ble_eq_true rfl) (fun r547 I547 L547 q547 => ?_)
  obtain ⟨er547, N547, E547⟩ := q547
  have R547 := R543.f E547
  refine pm_icmp_eq (pc := 550) (tgt := 1127) dL_law_550 rfl (fun h550 => ?_) (fun h550 => absurd (er543.trans er547.symm) h550)
  exact k9 I547 L547 _ R547 N547 (xi_turn hX)
set_option maxRecDepth 100000 in
set_option maxHeartbeats 2000000 in
theorem l_case13 {la : Launch} {P : pm_E} {nm : String} {Tg : List Frame → Array Value → State → State → Prop} {i : Nat} (hi : i + 6 ≤ pm_n P) (hN : pm_n P ≤ 384) {I : pm_I} {L : pm_L} {X : xS} (hR : XR I L X) (hM : MR I L X) (hX : xInv X) (k9 : ∀ (I : pm_I) (L : pm_L) (X : xS), XR I L X → MR I L X → xInv X → PW la P (yLaw nm) code 4 ret room_1 Tg 65 1568 1127 [some (.ref 2000), some (.ref 0), some (.ref 40), some (.int (nI i))] [] GG I L) : PW la P (yLaw nm) code 4 ret room_1 Tg 65 1568 555 [some (.ref 2000), some (.ref 0), some (.ref 40), some (.int (nI i))] [] GG I L := by
  refine pm_aload_n (pc := 555) dL_law_555 rfl ?_
  refine pm_aload_n (pc := 556) dL_law_556 rfl ?_
  refine pm_iload_n (pc := 557) dL_law_557 rfl ?_
  refine pm_iconst (pc := 558) (v := nI 1) dL_law_558 (by decide) ?_
  refine pm_iadd (pc := 559) dL_law_559 ?_
  refine pm_top (nI_add _ _) ?_
  refine pm_sld (pc := 560) (vp_in_nI (by omega) (by omega)) dL_law_560 ?_
  refine pm_aload_n (pc := 561) dL_law_561 rfl ?_
  refine pm_iload_n (pc := 562) dL_law_562 rfl ?_
  refine pm_iconst (pc := 563) (v := nI 2) dL_law_563 (by decide) ?_
  refine pm_iadd (pc := 564) dL_law_564 ?_
  refine pm_top (nI_add _ _) ?_
  refine pm_sld (pc := 565) (vp_in_nI (by omega) (by omega)) dL_law_565 ?_
  refine pm_cVI (pc := 566) dL_law_566 (x_had hR hX) wq_X9_had wm_L_72 wi_X9_had ws_X9_had rfl rfl ⟨Nat.le_of_ble_eq_true rfl, Nat.le_of_ble_eq_true rfl⟩ ⟨Nat.le_of_ble_eq_true rfl, Nat.le_of_ble_eq_true rfl⟩ rfl (Nat.le_of_ble_eq_true rfl) (fun r566 I566 L566 q566 => ?_)
  obtain ⟨er566, R566, F566⟩ := q566
  have M566 := hM.f F566
  refine pm_aload_n (pc := 569) dL_law_569 rfl ?_
  refine pm_aload_n (pc := 570) dL_law_570 rfl ?_
  refine pm_iload_n (pc := 571) dL_law_571 rfl ?_
  refine pm_iconst (pc := 572) (v := nI 1) dL_law_572 (by decide) ?_
  refine pm_iadd (pc := 573) dL_law_573 ?_
  refine pm_top (nI_add _ _) ?_
  refine pm_sld (pc := 574) (vp_in_nI (by omega) (by omega)) dL_law_574 ?_
  refine pm_aload_n (pc := 575) dL_law_575 rfl ?_
  refine pm_iload_n (pc := 576) dL_law_576 rfl ?_
  refine pm_iconst (pc := 577) (v := nI 2) dL_law_577 (by decide) ?_
  refine pm_iadd (pc := 578) dL_law_578 ?_
  refine pm_top (nI_add _ _) ?_
  refine pm_sld (pc := 579) (vp_in_nI (by omega) (by omega)) dL_law_579 ?_
  refine pm_cVI (pc := 580) dL_law_580 (y_had M566 hX) wq_X10_had wm_L_75 wi_X10_had ws_X10_had rfl rfl ⟨Nat.le_of_ble_eq_true rfl, Nat.le_of_ble_eq_true rfl⟩ ⟨Nat.le_of_ble_eq_true rfl, Nat.le_of_ble_eq_true rfl⟩ rfl (Nat.le_of_ble_eq_true rfl) (fun r580 I580 L580 q580 => ?_)
  obtain ⟨er580, N580, E580⟩ := q580
  have R580 := R566.f E580
  refine pm_icmp_eq (pc := 583) (tgt := 1127) dL_law_583 rfl (fun h583 => ?_) (fun h583 => absurd (er566.trans er580.symm) h583)
  exact k9 I580 L580 _ R580 N580 (xi_had hX)
set_option maxRecDepth 100000 in
set_option maxHeartbeats 2000000 in
theorem l_case14 {la : Launch} {P : pm_E} {nm : String} {Tg : List Frame → Array Value → State → State → Prop} {i : Nat} (hi : i + 6 ≤ pm_n P) (hN : pm_n P ≤ 384) {I : pm_I} {L : pm_L} {X : xS} (hR : XR I L X) (hM : MR I L X) (hX : xInv X) (k9 : ∀ (I : pm_I) (L : pm_L) (X : xS), XR I L X → MR I L X → xInv X → PW la P (yLaw nm) code 4 ret room_1 Tg 65 1568 1127 [some (.ref 2000), some (.ref 0), some (.ref 40), some (.int (nI i))] [] GG I L) : PW la P (yLaw nm) code 4 ret room_1 Tg 65 1568 588 [some (.ref 2000), some (.ref 0), some (.ref 40), some (.int (nI i))] [] GG I L := by
  refine pm_aload_n (pc := 588) dL_law_588 rfl ?_
  refine pm_aload_n (pc := 589) dL_law_589 rfl ?_
  refine pm_iload_n (pc := 590) dL_law_590 rfl ?_
  refine pm_iconst (pc := 591) (v := nI 1) dL_law_591 (by decide) ?_
  refine pm_iadd (pc := 592) dL_law_592 ?_
  refine pm_top (nI_add _ _) ?_
  refine pm_sld (pc := 593) (vp_in_nI (by omega) (by omega)) dL_law_593 ?_
  refine pm_cVI (pc := 594) dL_law_594 (x_under hR hX) wq_X9_under wm_L_76 wi_X9_under ws_X9_under rfl rfl ⟨Nat.le_of_ble_eq_true rfl, Nat.le_of_ble_eq_true rfl⟩ ⟨Nat.le_of_ble_eq_true rfl, Nat.le_of_ble_eq_true rfl⟩ rfl (Nat.le_of_ble_eq_true rfl) (fun r594 I594 L594 q594 => ?_)
  obtain ⟨er594, R594, F594⟩ := q594
  have M594 := hM.f F594
  refine pm_aload_n (pc := 597) dL_law_597 rfl ?_
  refine pm_aload_n (pc := 598) dL_law_598 rfl ?_
  refine pm_iload_n (pc := 599) dL_law_599 rfl ?_
  refine pm_iconst (pc := 600) (v := nI 1) dL_law_600 (by decide) ?_
  refine pm_iadd (pc := 601) dL_law_601 ?_
  refine pm_top (nI_add _ _) ?_
  refine pm_sld (pc := 602) (vp_in_nI (by omega) (by omega)) dL_law_602 ?_
  refine pm_cVI (pc := 603) dL_law_603 (y_under M594 hX) wq_X10_under wm_L_79 wi_X10_under ws_X10_under rfl rfl ⟨Nat.le_of_ble_eq_true rfl, Nat.le_of_ble_eq_true rfl⟩ ⟨Nat.le_of_ble_eq_true rfl, Nat.le_of_ble_eq_true rfl⟩ rfl (Nat.le_of_ble_eq_true rfl) (fun r603 I603 L603 q603 => ?_)
  obtain ⟨er603, N603, E603⟩ := q603
  have R603 := R594.f E603
  refine pm_icmp_eq (pc := 606) (tgt := 1127) dL_law_606 rfl (fun h606 => ?_) (fun h606 => absurd (er594.trans er603.symm) h606)
  exact k9 I603 L603 _ R603 N603 (xi_under hX)
set_option maxRecDepth 100000 in
set_option maxHeartbeats 2000000 in
theorem l_case15 {la : Launch} {P : pm_E} {nm : String} {Tg : List Frame → Array Value → State → State → Prop} {i : Nat} (hi : i + 6 ≤ pm_n P) (hN : pm_n P ≤ 384) {I : pm_I} {L : pm_L} {X : xS} (hR : XR I L X) (hM : MR I L X) (hX : xInv X) (k9 : ∀ (I : pm_I) (L : pm_L) (X : xS), XR I L X → MR I L X → xInv X → PW la P (yLaw nm) code 4 ret room_1 Tg 65 1568 1127 [some (.ref 2000), some (.ref 0), some (.ref 40), some (.int (nI i))] [] GG I L) : PW la P (yLaw nm) code 4 ret room_1 Tg 65 1568 611 [some (.ref 2000), some (.ref 0), some (.ref 40), some (.int (nI i))] [] GG I L := by
  refine pm_aload_n (pc := 611) dL_law_611 rfl ?_
  refine pm_cVI (pc := 612) dL_law_612 (x_own hR hX) wq_X9_own wm_L_80 wi_X9_own ws_X9_own rfl rfl ⟨Nat.le_of_ble_eq_true rfl, Nat.le_of_ble_eq_true rfl⟩ ⟨Nat.le_of_ble_eq_true rfl, Nat.le_of_ble_eq_true rfl⟩ rfl (Nat.le_of_ble_eq_true rfl) (fun r612 I612 L612 q612 => ?_)
  obtain ⟨er612, R612, F612⟩ := q612
  have M612 := hM.f F612
  refine pm_aload_n (pc := 615) dL_law_615 rfl ?_
  refine pm_cVI (pc := 616) dL_law_616 (y_own M612 hX) wq_X10_own wm_L_83 wi_X10_own ws_X10_own rfl rfl ⟨Nat.le_of_ble_eq_true rfl, Nat.le_of_ble_eq_true rfl⟩ ⟨Nat.le_of_ble_eq_true rfl, Nat.le_of_ble_eq_true rfl⟩ rfl (Nat.le_of_ble_eq_true rfl) (fun r616 I616 L616 q616 => ?_)
  obtain ⟨er616, N616, E616⟩ := q616
  have R616 := R612.f E616
  refine pm_icmp_eq (pc := 619) (tgt := 1127) dL_law_619 rfl (fun h619 => ?_) (fun h619 => absurd (er612.trans er616.symm) h619)
  exact k9 I616 L616 _ R616 N616 (xi_own hX)
set_option maxRecDepth 100000 in
set_option maxHeartbeats 2000000 in
theorem l_case16 {la : Launch} {P : pm_E} {nm : String} {Tg : List Frame → Array Value → State → State → Prop} {i : Nat} (hi : i + 6 ≤ pm_n P) (hN : pm_n P ≤ 384) {I : pm_I} {L : pm_L} {X : xS} (hR : XR I L X) (hM : MR I L X) (hX : xInv X) (k9 : ∀ (I : pm_I) (L : pm_L) (X : xS), XR I L X → MR I L X → xInv X → PW la P (yLaw nm) code 4 ret room_1 Tg 65 1568 1127 [some (.ref 2000), some (.ref 0), some (.ref 40), some (.int (nI i))] [] GG I L) : PW la P (yLaw nm) code 4 ret room_1 Tg 65 1568 624 [some (.ref 2000), some (.ref 0), some (.ref 40), some (.int (nI i))] [] GG I L := by
  refine pm_aload_n (pc := 624) dL_law_624 rfl ?_
  refine pm_aload_n (pc := 625) dL_law_625 rfl ?_
  refine pm_iload_n (pc := 626) dL_law_626 rfl ?_
  refine pm_iconst (pc := 627) (v := nI 1) dL_law_627 (by decide) ?_
  refine pm_iadd (pc := 628) dL_law_628 ?_
  refine pm_top (nI_add _ _) ?_
  refine pm_sld (pc := 629) (vp_in_nI (by omega) (by omega)) dL_law_629 ?_
  refine pm_aload_n (pc := 630) dL_law_630 rfl ?_
  refine pm_iload_n (pc := 631) dL_law_631 rfl ?_
  refine pm_iconst (pc := 632) (v := nI 2) dL_law_632 (by decide) ?_
  refine pm_iadd (pc := 633) dL_law_633 ?_
  refine pm_top (nI_add _ _) ?_
  refine pm_sld (pc := 634) (vp_in_nI (by omega) (by omega)) dL_law_634 ?_
  refine pm_aload_n (pc := 635) dL_law_635 rfl ?_
  refine pm_iload_n (pc := 636) dL_law_636 rfl ?_
  refine pm_iconst (pc := 637) (v := nI 3) dL_law_637 (by decide) ?_
  refine pm_iadd (pc := 638) dL_law_638 ?_
  refine pm_top (nI_add _ _) ?_
  refine pm_sld (pc := 639) (vp_in_nI (by omega) (by omega)) dL_law_639 ?_
  refine pm_aload_n (pc := 640) dL_law_640 rfl ?_
  refine pm_iload_n (pc := 641) dL_law_641 rfl ?_
  refine pm_iconst (pc := 642) (v := nI 4) dL_law_642 (by decide) ?_
  refine pm_iadd (pc := 643) dL_law_643 ?_
  refine pm_top (nI_add _ _) ?_
  refine pm_sld (pc := 644) (vp_in_nI (by omega) (by omega)) dL_law_644 ?_
  refine pm_aload_n (pc := 645) dL_law_645 rfl ?_
  refine pm_iload_n (pc := 646) dL_law_646 rfl ?_
  refine pm_iconst (pc := 647) (v := nI 5) dL_law_647 (by decide) ?_
  refine pm_iadd (pc := 648) dL_law_648 ?_
  refine pm_top (nI_add _ _) ?_
  refine pm_sld (pc := 649) (vp_in_nI (by omega) (by omega)) dL_law_649 ?_
  refine pm_cVI (pc := 650) dL_law_650 (x_odds hR hX) wq_X9_odds wm_L_84 wi_X9_odds ws_X9_odds rfl rfl ⟨Nat.le_of_ble_eq_true rfl, Nat.le_of_ble_eq_true rfl⟩ ⟨Nat.le_of_ble_eq_true rfl, Nat.le_of_ble_eq_true rfl⟩ rfl (Nat.le_of_ble_eq_true rfl) (fun r650 I650 L650 q650 => ?_)
  obtain ⟨er650, R650, F650⟩ := q650
  have M650 := hM.f F650
  refine pm_aload_n (pc := 653) dL_law_653 rfl ?_
  refine pm_aload_n (pc := 654) dL_law_654 rfl ?_
  refine pm_iload_n (pc := 655) dL_law_655 rfl ?_
  refine pm_iconst (pc := 656) (v := nI 1) dL_law_656 (by decide) ?_
  refine pm_iadd (pc := 657) dL_law_657 ?_
  refine pm_top (nI_add _ _) ?_
  refine pm_sld (pc := 658) (vp_in_nI (by omega) (by omega)) dL_law_658 ?_
  refine pm_aload_n (pc := 659) dL_law_659 rfl ?_
  refine pm_iload_n (pc := 660) dL_law_660 rfl ?_
  refine pm_iconst (pc := 661) (v := nI 2) dL_law_661 (by decide) ?_
  refine pm_iadd (pc := 662) dL_law_662 ?_
  refine pm_top (nI_add _ _) ?_
  refine pm_sld (pc := 663) (vp_in_nI (by omega) (by omega)) dL_law_663 ?_
  refine pm_aload_n (pc := 664) dL_law_664 rfl ?_
  refine pm_iload_n (pc := 665) dL_law_665 rfl ?_
  refine pm_iconst (pc := 666) (v := nI 3) dL_law_666 (by decide) ?_
  refine pm_iadd (pc := 667) dL_law_667 ?_
  refine pm_top (nI_add _ _) ?_
  refine pm_sld (pc := 668) (vp_in_nI (by omega) (by omega)) dL_law_668 ?_
  refine pm_aload_n (pc := 669) dL_law_669 rfl ?_
  refine pm_iload_n (pc := 670) dL_law_670 rfl ?_
  refine pm_iconst (pc := 671) (v := nI 4) dL_law_671 (by decide) ?_
  refine pm_iadd (pc := 672) dL_law_672 ?_
  refine pm_top (nI_add _ _) ?_
  refine pm_sld (pc := 673) (vp_in_nI (by omega) (by omega)) dL_law_673 ?_
  refine pm_aload_n (pc := 674) dL_law_674 rfl ?_
  refine pm_iload_n (pc := 675) dL_law_675 rfl ?_
  refine pm_iconst (pc := 676) (v := nI 5) dL_law_676 (by decide) ?_
  refine pm_iadd (pc := 677) dL_law_677 ?_
  refine pm_top (nI_add _ _) ?_
  refine pm_sld (pc := 678) (vp_in_nI (by omega) (by omega)) dL_law_678 ?_
  refine pm_cVI (pc := 679) dL_law_679 (y_odds M650 hX) wq_X10_odds wm_L_88 wi_X10_odds ws_X10_odds rfl rfl ⟨Nat.le_of_ble_eq_true rfl, Nat.le_of_ble_eq_true rfl⟩ ⟨Nat.le_of_ble_eq_true rfl, Nat.le_of_ble_eq_true rfl⟩ rfl (Nat.le_of_ble_eq_true rfl) (fun r679 I679 L679 q679 => ?_)
  obtain ⟨er679, N679, E679⟩ := q679
  have R679 := R650.f E679
  refine pm_icmp_eq (pc := 682) (tgt := 1127) dL_law_682 rfl (fun h682 => ?_) (fun h682 => absurd (er650.trans er679.symm) h682)
  exact k9 I679 L679 _ R679 N679 (xi_odds hX)
set_option maxRecDepth 100000 in
set_option maxHeartbeats 2000000 in
theorem l_case17 {la : Launch} {P : pm_E} {nm : String} {Tg : List Frame → Array Value → State → State → Prop} {i : Nat} (hi : i + 6 ≤ pm_n P) (hN : pm_n P ≤ 384) {I : pm_I} {L : pm_L} {X : xS} (hR : XR I L X) (hM : MR I L X) (hX : xInv X) (k9 : ∀ (I : pm_I) (L : pm_L) (X : xS), XR I L X → MR I L X → xInv X → PW la P (yLaw nm) code 4 ret room_1 Tg 65 1568 1127 [some (.ref 2000), some (.ref 0), some (.ref 40), some (.int (nI i))] [] GG I L) : PW la P (yLaw nm) code 4 ret room_1 Tg 65 1568 687 [some (.ref 2000), some (.ref 0), some (.ref 40), some (.int (nI i))] [] GG I L := by
  refine pm_aload_n (pc := 687) dL_law_687 rfl ?_
  refine pm_aload_n (pc := 688) dL_law_688 rfl ?_
  refine pm_iload_n (pc := 689) dL_law_689 rfl ?_
  refine pm_iconst (pc := 690) (v := nI 1) dL_law_690 (by decide) ?_
  refine pm_iadd (pc := 691) dL_law_691 ?_
  refine pm_top (nI_add _ _) ?_
  refine pm_sld (pc := 692) (vp_in_nI (by omega) (by omega)) dL_law_692 ?_
  refine pm_aload_n (pc := 693) dL_law_693 rfl ?_
  refine pm_iload_n (pc := 694) dL_law_694 rfl ?_
  refine pm_iconst (pc := 695) (v := nI 2) dL_law_695 (by decide) ?_
  refine pm_iadd (pc := 696) dL_law_696 ?_
  refine pm_top (nI_add _ _) ?_
  refine pm_sld (pc := 697) (vp_in_nI (by omega) (by omega)) dL_law_697 ?_
  refine pm_aload_n (pc := 698) dL_law_698 rfl ?_
  refine pm_iload_n (pc := 699) dL_law_699 rfl ?_
  refine pm_iconst (pc := 700) (v := nI 3) dL_law_700 (by decide) ?_
  refine pm_iadd (pc := 701) dL_law_701 ?_
  refine pm_top (nI_add _ _) ?_
  refine pm_sld (pc := 702) (vp_in_nI (by omega) (by omega)) dL_law_702 ?_
  refine pm_cVI (pc := 703) dL_law_703 (x_share hR hX) wq_X9_share wm_L_89 wi_X9_share ws_X9_share rfl rfl ⟨Nat.le_of_ble_eq_true rfl, Nat.le_of_ble_eq_true rfl⟩ ⟨Nat.le_of_ble_eq_true rfl, Nat.le_of_ble_eq_true rfl⟩ rfl (Nat.le_of_ble_eq_true rfl) (fun r703 I703 L703 q703 => ?_)
  obtain ⟨er703, R703, F703⟩ := q703
  have M703 := hM.f F703
  refine pm_aload_n (pc := 706) dL_law_706 rfl ?_
  refine pm_aload_n (pc := 707) dL_law_707 rfl ?_
  refine pm_iload_n (pc := 708) dL_law_708 rfl ?_
  refine pm_iconst (pc := 709) (v := nI 1) dL_law_709 (by decide) ?_
  refine pm_iadd (pc := 710) dL_law_710 ?_
  refine pm_top (nI_add _ _) ?_
  refine pm_sld (pc := 711) (vp_in_nI (by omega) (by omega)) dL_law_711 ?_
  refine pm_aload_n (pc := 712) dL_law_712 rfl ?_
  refine pm_iload_n (pc := 713) dL_law_713 rfl ?_
  refine pm_iconst (pc := 714) (v := nI 2) dL_law_714 (by decide) ?_
  refine pm_iadd (pc := 715) dL_law_715 ?_
  refine pm_top (nI_add _ _) ?_
  refine pm_sld (pc := 716) (vp_in_nI (by omega) (by omega)) dL_law_716 ?_
  refine pm_aload_n (pc := 717) dL_law_717 rfl ?_
  refine pm_iload_n (pc := 718) dL_law_718 rfl ?_
  refine pm_iconst (pc := 719) (v := nI 3) dL_law_719 (by decide) ?_
  refine pm_iadd (pc := 720) dL_law_720 ?_
  refine pm_top (nI_add _ _) ?_
  refine pm_sld (pc := 721) (vp_in_nI (by omega) (by omega)) dL_law_721 ?_
  refine pm_cVI (pc := 722) dL_law_722 (y_share M703 hX) wq_X10_share wm_L_93 wi_X10_share ws_X10_share rfl rfl ⟨Nat.le_of_ble_eq_true rfl, Nat.le_of_ble_eq_true rfl⟩ ⟨Nat.le_of_ble_eq_true rfl, Nat.le_of_ble_eq_true rfl⟩ rfl (Nat.le_of_ble_eq_true rfl) (fun r722 I722 L722 q722 => ?_)
  obtain ⟨er722, N722, E722⟩ := q722
  have R722 := R703.f E722
  refine pm_icmp_eq (pc := 725) (tgt := 1127) dL_law_725 rfl (fun h725 => ?_) (fun h725 => absurd (er703.trans er722.symm) h725)
  exact k9 I722 L722 _ R722 N722 (xi_share hX)
set_option maxRecDepth 100000 in
set_option maxHeartbeats 2000000 in
theorem l_case18 {la : Launch} {P : pm_E} {nm : String} {Tg : List Frame → Array Value → State → State → Prop} {i : Nat} (hi : i + 6 ≤ pm_n P) (hN : pm_n P ≤ 384) {I : pm_I} {L : pm_L} {X : xS} (hR : XR I L X) (hM : MR I L X) (hX : xInv X) (k9 : ∀ (I : pm_I) (L : pm_L) (X : xS), XR I L X → MR I L X → xInv X → PW la P (yLaw nm) code 4 ret room_1 Tg 65 1568 1127 [some (.ref 2000), some (.ref 0), some (.ref 40), some (.int (nI i))] [] GG I L) : PW la P (yLaw nm) code 4 ret room_1 Tg 65 1568 730 [some (.ref 2000), some (.ref 0), some (.ref 40), some (.int (nI i))] [] GG I L := by
  refine pm_aload_n (pc := 730) dL_law_730 rfl ?_
  refine pm_cVI (pc := 731) dL_law_731 (x_image hR hX) wq_X9_image wm_L_94 wi_X9_image ws_X9_image rfl rfl ⟨Nat.le_of_ble_eq_true rfl, Nat.le_of_ble_eq_true rfl⟩ ⟨Nat.le_of_ble_eq_true rfl, Nat.le_of_ble_eq_true rfl⟩ rfl (Nat.le_of_ble_eq_true rfl) (fun r731 I731 L731 q731 => ?_)
  obtain ⟨er731, R731, F731⟩ := q731
  have M731 := hM.f F731
  refine pm_aload_n (pc := 734) dL_law_734 rfl ?_
  refine pm_cVI (pc := 735) dL_law_735 (y_image M731 hX) wq_X10_image wm_L_97 wi_X10_image ws_X10_image rfl rfl ⟨Nat.le_of_ble_eq_true rfl, Nat.le_of_ble_eq_true rfl⟩ ⟨Nat.le_of_ble_eq_true rfl, Nat.le_of_ble_eq_true rfl⟩ rfl (Nat.le_of_ble_eq_true rfl) (fun r735 I735 L735 q735 => ?_)
  obtain ⟨er735, N735, E735⟩ := q735
  have R735 := R731.f E735
  refine pm_icmp_eq (pc := 738) (tgt := 1127) dL_law_738 rfl (fun h738 => ?_) (fun h738 => absurd (er731.trans er735.symm) h738)
  exact k9 I735 L735 _ R735 N735 (xi_image hX)
set_option maxRecDepth 100000 in
set_option maxHeartbeats 2000000 in
theorem l_case19 {la : Launch} {P : pm_E} {nm : String} {Tg : List Frame → Array Value → State → State → Prop} {i : Nat} (hi : i + 6 ≤ pm_n P) (hN : pm_n P ≤ 384) {I : pm_I} {L : pm_L} {X : xS} (hR : XR I L X) (hM : MR I L X) (hX : xInv X) (k9 : ∀ (I : pm_I) (L : pm_L) (X : xS), XR I L X → MR I L X → xInv X → PW la P (yLaw nm) code 4 ret room_1 Tg 65 1568 1127 [some (.ref 2000), some (.ref 0), some (.ref 40), some (.int (nI i))] [] GG I L) : PW la P (yLaw nm) code 4 ret room_1 Tg 65 1568 743 [some (.ref 2000), some (.ref 0), some (.ref 40), some (.int (nI i))] [] GG I L := by
  refine pm_aload_n (pc := 743) dL_law_743 rfl ?_
  refine pm_cVI (pc := 744) dL_law_744 (x_restore hR hX) wq_X9_restore wm_L_98 wi_X9_restore ws_X9_restore rfl rfl ⟨Nat.le_of_ble_eq_true rfl, Nat.le_of_ble_eq_true rfl⟩ ⟨Nat.le_of_ble_eq_true rfl, Nat.le_of_ble_eq_true rfl⟩ rfl (Nat.le_of_ble_eq_true rfl) (fun r744 I744 L744 q744 => ?_)
  obtain ⟨er744, R744, F744⟩ := q744
  have M744 := hM.f F744
  refine pm_aload_n (pc := 747) dL_law_747 rfl ?_
  refine pm_cVI (pc := 748) dL_law_748 (y_restore M744 hX) wq_X10_restore wm_L_101 wi_X10_restore ws_X10_restore rfl rfl ⟨Nat.le_of_ble_eq_true rfl, Nat.le_of_ble_eq_true rfl⟩ ⟨Nat.le_of_ble_eq_true rfl, Nat.le_of_ble_eq_true rfl⟩ rfl (Nat.le_of_ble_eq_true rfl) (fun r748 I748 L748 q748 => ?_)
  obtain ⟨er748, N748, E748⟩ := q748
  have R748 := R744.f E748
  refine pm_icmp_eq (pc := 751) (tgt := 1127) dL_law_751 rfl (fun h751 => ?_) (fun h751 => absurd (er744.trans er748.symm) h751)
  exact k9 I748 L748 _ R748 N748 (xi_restore hX)
set_option maxRecDepth 100000 in
set_option maxHeartbeats 2000000 in
theorem l_case20 {la : Launch} {P : pm_E} {nm : String} {Tg : List Frame → Array Value → State → State → Prop} {i : Nat} (hi : i + 6 ≤ pm_n P) (hN : pm_n P ≤ 384) {I : pm_I} {L : pm_L} {X : xS} (hR : XR I L X) (hM : MR I L X) (hX : xInv X) (k9 : ∀ (I : pm_I) (L : pm_L) (X : xS), XR I L X → MR I L X → xInv X → PW la P (yLaw nm) code 4 ret room_1 Tg 65 1568 1127 [some (.ref 2000), some (.ref 0), some (.ref 40), some (.int (nI i))] [] GG I L) : PW la P (yLaw nm) code 4 ret room_1 Tg 65 1568 756 [some (.ref 2000), some (.ref 0), some (.ref 40), some (.int (nI i))] [] GG I L := by
  refine pm_aload_n (pc := 756) dL_law_756 rfl ?_
  refine pm_aload_n (pc := 757) dL_law_757 rfl ?_
  refine pm_iload_n (pc := 758) dL_law_758 rfl ?_
  refine pm_iconst (pc := 759) (v := nI 1) dL_law_759 (by decide) ?_
  refine pm_iadd (pc := 760) dL_law_760 ?_
  refine pm_top (nI_add _ _) ?_
  refine pm_sld (pc := 761) (vp_in_nI (by omega) (by omega)) dL_law_761 ?_
  refine pm_aload_n (pc := 762) dL_law_762 rfl ?_
  refine pm_iload_n (pc := 763) dL_law_763 rfl ?_
  refine pm_iconst (pc := 764) (v := nI 2) dL_law_764 (by decide) ?_
  refine pm_iadd (pc := 765) dL_law_765 ?_
  refine pm_top (nI_add _ _) ?_
  refine pm_sld (pc := 766) (vp_in_nI (by omega) (by omega)) dL_law_766 ?_
  refine pm_aload_n (pc := 767) dL_law_767 rfl ?_
  refine pm_iload_n (pc := 768) dL_law_768 rfl ?_
  refine pm_iconst (pc := 769) (v := nI 3) dL_law_769 (by decide) ?_
  refine pm_iadd (pc := 770) dL_law_770 ?_
  refine pm_top (nI_add _ _) ?_
  refine pm_sld (pc := 771) (vp_in_nI (by omega) (by omega)) dL_law_771 ?_
  refine pm_aload_n (pc := 772) dL_law_772 rfl ?_
  refine pm_iload_n (pc := 773) dL_law_773 rfl ?_
  refine pm_iconst (pc := 774) (v := nI 4) dL_law_774 (by decide) ?_
  refine pm_iadd (pc := 775) dL_law_775 ?_
  refine pm_top (nI_add _ _) ?_
  refine pm_sld (pc := 776) (vp_in_nI (by omega) (by omega)) dL_law_776 ?_
  refine pm_cVI (pc := 777) dL_law_777 (x_dents hR hX) wq_X9_dents wm_L_102 wi_X9_dents ws_X9_dents rfl rfl ⟨Nat.le_of_ble_eq_true rfl, Nat.le_of_ble_eq_true rfl⟩ ⟨Nat.le_of_ble_eq_true rfl, Nat.le_of_ble_eq_true rfl⟩ rfl (Nat.le_of_ble_eq_true rfl) (fun r777 I777 L777 q777 => ?_)
  obtain ⟨er777, R777, F777⟩ := q777
  have M777 := hM.f F777
  refine pm_aload_n (pc := 780) dL_law_780 rfl ?_
  refine pm_aload_n (pc := 781) dL_law_781 rfl ?_
  refine pm_iload_n (pc := 782) dL_law_782 rfl ?_
  refine pm_iconst (pc := 783) (v := nI 1) dL_law_783 (by decide) ?_
  refine pm_iadd (pc := 784) dL_law_784 ?_
  refine pm_top (nI_add _ _) ?_
  refine pm_sld (pc := 785) (vp_in_nI (by omega) (by omega)) dL_law_785 ?_
  refine pm_aload_n (pc := 786) dL_law_786 rfl ?_
  refine pm_iload_n (pc := 787) dL_law_787 rfl ?_
  refine pm_iconst (pc := 788) (v := nI 2) dL_law_788 (by decide) ?_
  refine pm_iadd (pc := 789) dL_law_789 ?_
  refine pm_top (nI_add _ _) ?_
  refine pm_sld (pc := 790) (vp_in_nI (by omega) (by omega)) dL_law_790 ?_
  refine pm_aload_n (pc := 791) dL_law_791 rfl ?_
  refine pm_iload_n (pc := 792) dL_law_792 rfl ?_
  refine pm_iconst (pc := 793) (v := nI 3) dL_law_793 (by decide) ?_
  refine pm_iadd (pc := 794) dL_law_794 ?_
  refine pm_top (nI_add _ _) ?_
  refine pm_sld (pc := 795) (vp_in_nI (by omega) (by omega)) dL_law_795 ?_
  refine pm_aload_n (pc := 796) dL_law_796 rfl ?_
  refine pm_iload_n (pc := 797) dL_law_797 rfl ?_
  refine pm_iconst (pc := 798) (v := nI 4) dL_law_798 (by decide) ?_
  refine pm_iadd (pc := 799) dL_law_799 ?_
  refine pm_top (nI_add _ _) ?_
  refine pm_sld (pc := 800) (vp_in_nI (by omega) (by omega)) dL_law_800 ?_
  refine pm_cVI (pc := 801) dL_law_801 (y_dents M777 hX) wq_X10_dents wm_L_105 wi_X10_dents ws_X10_dents rfl rfl ⟨Nat.le_of_ble_eq_true rfl, Nat.le_of_ble_eq_true rfl⟩ ⟨Nat.le_of_ble_eq_true rfl, Nat.le_of_ble_eq_true rfl⟩ rfl (Nat.le_of_ble_eq_true rfl) (fun r801 I801 L801 q801 => ?_)
  obtain ⟨er801, N801, E801⟩ := q801
  have R801 := R777.f E801
  refine pm_icmp_eq (pc := 804) (tgt := 1127) dL_law_804 rfl (fun h804 => ?_) (fun h804 => absurd (er777.trans er801.symm) h804)
  exact k9 I801 L801 _ R801 N801 (xi_dents hX)
set_option maxRecDepth 100000 in
set_option maxHeartbeats 2000000 in
theorem l_case21 {la : Launch} {P : pm_E} {nm : String} {Tg : List Frame → Array Value → State → State → Prop} {i : Nat} (hi : i + 6 ≤ pm_n P) (hN : pm_n P ≤ 384) {I : pm_I} {L : pm_L} {X : xS} (hR : XR I L X) (hM : MR I L X) (hX : xInv X) (k9 : ∀ (I : pm_I) (L : pm_L) (X : xS), XR I L X → MR I L X → xInv X → PW la P (yLaw nm) code 4 ret room_1 Tg 65 1568 1127 [some (.ref 2000), some (.ref 0), some (.ref 40), some (.int (nI i))] [] GG I L) : PW la P (yLaw nm) code 4 ret room_1 Tg 65 1568 809 [some (.ref 2000), some (.ref 0), some (.ref 40), some (.int (nI i))] [] GG I L := by
  refine pm_aload_n (pc := 809) dL_law_809 rfl ?_
  refine pm_aload_n (pc := 810) dL_law_810 rfl ?_
  refine pm_iload_n (pc := 811) dL_law_811 rfl ?_
  refine pm_iconst (pc := 812) (v := nI 1) dL_law_812 (by decide) ?_
  refine pm_iadd (pc := 813) dL_law_813 ?_
  refine pm_top (nI_add _ _) ?_
  refine pm_sld (pc := 814) (vp_in_nI (by omega) (by omega)) dL_law_814 ?_
  refine pm_aload_n (pc := 815) dL_law_815 rfl ?_
  refine pm_iload_n (pc := 816) dL_law_816 rfl ?_
  refine pm_iconst (pc := 817) (v := nI 2) dL_law_817 (by decide) ?_
  refine pm_iadd (pc := 818) dL_law_818 ?_
  refine pm_top (nI_add _ _) ?_
  refine pm_sld (pc := 819) (vp_in_nI (by omega) (by omega)) dL_law_819 ?_
  refine pm_aload_n (pc := 820) dL_law_820 rfl ?_
  refine pm_iload_n (pc := 821) dL_law_821 rfl ?_
  refine pm_iconst (pc := 822) (v := nI 3) dL_law_822 (by decide) ?_
  refine pm_iadd (pc := 823) dL_law_823 ?_
  refine pm_top (nI_add _ _) ?_
  refine pm_sld (pc := 824) (vp_in_nI (by omega) (by omega)) dL_law_824 ?_
  refine pm_aload_n (pc := 825) dL_law_825 rfl ?_
  refine pm_iload_n (pc := 826) dL_law_826 rfl ?_
  refine pm_iconst (pc := 827) (v := nI 4) dL_law_827 (by decide) ?_
  refine pm_iadd (pc := 828) dL_law_828 ?_
  refine pm_top (nI_add _ _) ?_
  refine pm_sld (pc := 829) (vp_in_nI (by omega) (by omega)) dL_law_829 ?_
  refine pm_aload_n (pc := 830) dL_law_830 rfl ?_
  refine pm_iload_n (pc := 831) dL_law_831 rfl ?_
  refine pm_iconst (pc := 832) (v := nI 5) dL_law_832 (by decide) ?_
  refine pm_iadd (pc := 833) dL_law_833 ?_
  refine pm_top (nI_add _ _) ?_
  refine pm_sld (pc := 834) (vp_in_nI (by omega) (by omega)) dL_law_834 ?_
  refine pm_cVI (pc := 835) dL_law_835 (x_tried hR hX) wq_X9_tried wm_L_106 wi_X9_tried ws_X9_tried rfl rfl ⟨Nat.le_of_ble_eq_true rfl, Nat.le_of_ble_eq_true rfl⟩ ⟨Nat.le_of_ble_eq_true rfl, Nat.le_of_ble_eq_true rfl⟩ rfl (Nat.le_of_ble_eq_true rfl) (fun r835 I835 L835 q835 => ?_)
  obtain ⟨er835, R835, F835⟩ := q835
  have M835 := hM.f F835
  refine pm_aload_n (pc := 838) dL_law_838 rfl ?_
  refine pm_aload_n (pc := 839) dL_law_839 rfl ?_
  refine pm_iload_n (pc := 840) dL_law_840 rfl ?_
  refine pm_iconst (pc := 841) (v := nI 1) dL_law_841 (by decide) ?_
  refine pm_iadd (pc := 842) dL_law_842 ?_
  refine pm_top (nI_add _ _) ?_
  refine pm_sld (pc := 843) (vp_in_nI (by omega) (by omega)) dL_law_843 ?_
  refine pm_aload_n (pc := 844) dL_law_844 rfl ?_
  refine pm_iload_n (pc := 845) dL_law_845 rfl ?_
  refine pm_iconst (pc := 846) (v := nI 2) dL_law_846 (by decide) ?_
  refine pm_iadd (pc := 847) dL_law_847 ?_
  refine pm_top (nI_add _ _) ?_
  refine pm_sld (pc := 848) (vp_in_nI (by omega) (by omega)) dL_law_848 ?_
  refine pm_aload_n (pc := 849) dL_law_849 rfl ?_
  refine pm_iload_n (pc := 850) dL_law_850 rfl ?_
  refine pm_iconst (pc := 851) (v := nI 3) dL_law_851 (by decide) ?_
  refine pm_iadd (pc := 852) dL_law_852 ?_
  refine pm_top (nI_add _ _) ?_
  refine pm_sld (pc := 853) (vp_in_nI (by omega) (by omega)) dL_law_853 ?_
  refine pm_aload_n (pc := 854) dL_law_854 rfl ?_
  refine pm_iload_n (pc := 855) dL_law_855 rfl ?_
  refine pm_iconst (pc := 856) (v := nI 4) dL_law_856 (by decide) ?_
  refine pm_iadd (pc := 857) dL_law_857 ?_
  refine pm_top (nI_add _ _) ?_
  refine pm_sld (pc := 858) (vp_in_nI (by omega) (by omega)) dL_law_858 ?_
  refine pm_aload_n (pc := 859) dL_law_859 rfl ?_
  refine pm_iload_n (pc := 860) dL_law_860 rfl ?_
  refine pm_iconst (pc := 861) (v := nI 5) dL_law_861 (by decide) ?_
  refine pm_iadd (pc := 862) dL_law_862 ?_
  refine pm_top (nI_add _ _) ?_
  refine pm_sld (pc := 863) (vp_in_nI (by omega) (by omega)) dL_law_863 ?_
  refine pm_cVI (pc := 864) dL_law_864 (y_tried M835 hX) wq_X10_tried wm_L_109 wi_X10_tried ws_X10_tried rfl rfl ⟨Nat.le_of_ble_eq_true rfl, Nat.le_of_ble_eq_true rfl⟩ ⟨Nat.le_of_ble_eq_true rfl, Nat.le_of_ble_eq_true rfl⟩ rfl (Nat.le_of_ble_eq_true rfl) (fun r864 I864 L864 q864 => ?_)
  obtain ⟨er864, N864, E864⟩ := q864
  have R864 := R835.f E864
  refine pm_icmp_eq (pc := 867) (tgt := 1127) dL_law_867 rfl (fun h867 => ?_) (fun h867 => absurd (er835.trans er864.symm) h867)
  exact k9 I864 L864 _ R864 N864 (xi_tried hX)
set_option maxRecDepth 100000 in
set_option maxHeartbeats 2000000 in
theorem l_case22 {la : Launch} {P : pm_E} {nm : String} {Tg : List Frame → Array Value → State → State → Prop} {i : Nat} (hi : i + 6 ≤ pm_n P) (hN : pm_n P ≤ 384) {I : pm_I} {L : pm_L} {X : xS} (hR : XR I L X) (hM : MR I L X) (hX : xInv X) (k9 : ∀ (I : pm_I) (L : pm_L) (X : xS), XR I L X → MR I L X → xInv X → PW la P (yLaw nm) code 4 ret room_1 Tg 65 1568 1127 [some (.ref 2000), some (.ref 0), some (.ref 40), some (.int (nI i))] [] GG I L) : PW la P (yLaw nm) code 4 ret room_1 Tg 65 1568 872 [some (.ref 2000), some (.ref 0), some (.ref 40), some (.int (nI i))] [] GG I L := by
  refine pm_aload_n (pc := 872) dL_law_872 rfl ?_
  refine pm_aload_n (pc := 873) dL_law_873 rfl ?_
  refine pm_iload_n (pc := 874) dL_law_874 rfl ?_
  refine pm_iconst (pc := 875) (v := nI 1) dL_law_875 (by decide) ?_
  refine pm_iadd (pc := 876) dL_law_876 ?_
  refine pm_top (nI_add _ _) ?_
  refine pm_sld (pc := 877) (vp_in_nI (by omega) (by omega)) dL_law_877 ?_
  refine pm_aload_n (pc := 878) dL_law_878 rfl ?_
  refine pm_iload_n (pc := 879) dL_law_879 rfl ?_
  refine pm_iconst (pc := 880) (v := nI 2) dL_law_880 (by decide) ?_
  refine pm_iadd (pc := 881) dL_law_881 ?_
  refine pm_top (nI_add _ _) ?_
  refine pm_sld (pc := 882) (vp_in_nI (by omega) (by omega)) dL_law_882 ?_
  refine pm_aload_n (pc := 883) dL_law_883 rfl ?_
  refine pm_iload_n (pc := 884) dL_law_884 rfl ?_
  refine pm_iconst (pc := 885) (v := nI 3) dL_law_885 (by decide) ?_
  refine pm_iadd (pc := 886) dL_law_886 ?_
  refine pm_top (nI_add _ _) ?_
  refine pm_sld (pc := 887) (vp_in_nI (by omega) (by omega)) dL_law_887 ?_
  refine pm_cVI (pc := 888) dL_law_888 (x_film hR hX) wq_X9_film wm_L_110 wi_X9_film ws_X9_film rfl rfl ⟨Nat.le_of_ble_eq_true rfl, Nat.le_of_ble_eq_true rfl⟩ ⟨Nat.le_of_ble_eq_true rfl, Nat.le_of_ble_eq_true rfl⟩ rfl (Nat.le_of_ble_eq_true rfl) (fun r888 I888 L888 q888 => ?_)
  obtain ⟨er888, R888, F888⟩ := q888
  have M888 := hM.f F888
  refine pm_aload_n (pc := 891) dL_law_891 rfl ?_
  refine pm_aload_n (pc := 892) dL_law_892 rfl ?_
  refine pm_iload_n (pc := 893) dL_law_893 rfl ?_
  refine pm_iconst (pc := 894) (v := nI 1) dL_law_894 (by decide) ?_
  refine pm_iadd (pc := 895) dL_law_895 ?_
  refine pm_top (nI_add _ _) ?_
  refine pm_sld (pc := 896) (vp_in_nI (by omega) (by omega)) dL_law_896 ?_
  refine pm_aload_n (pc := 897) dL_law_897 rfl ?_
  refine pm_iload_n (pc := 898) dL_law_898 rfl ?_
  refine pm_iconst (pc := 899) (v := nI 2) dL_law_899 (by decide) ?_
  refine pm_iadd (pc := 900) dL_law_900 ?_
  refine pm_top (nI_add _ _) ?_
  refine pm_sld (pc := 901) (vp_in_nI (by omega) (by omega)) dL_law_901 ?_
  refine pm_aload_n (pc := 902) dL_law_902 rfl ?_
  refine pm_iload_n (pc := 903) dL_law_903 rfl ?_
  refine pm_iconst (pc := 904) (v := nI 3) dL_law_904 (by decide) ?_
  refine pm_iadd (pc := 905) dL_law_905 ?_
  refine pm_top (nI_add _ _) ?_
  refine pm_sld (pc := 906) (vp_in_nI (by omega) (by omega)) dL_law_906 ?_
  refine pm_cVI (pc := 907) dL_law_907 (y_film M888 hX) wq_X10_film wm_L_113 wi_X10_film ws_X10_film rfl rfl ⟨Nat.le_of_ble_eq_true rfl, Nat.le_of_ble_eq_true rfl⟩ ⟨Nat.le_of_ble_eq_true rfl, Nat.le_of_ble_eq_true rfl⟩ rfl (Nat.le_of_ble_eq_true rfl) (fun r907 I907 L907 q907 => ?_)
  obtain ⟨er907, N907, E907⟩ := q907
  have R907 := R888.f E907
  refine pm_icmp_eq (pc := 910) (tgt := 1127) dL_law_910 rfl (fun h910 => ?_) (fun h910 => absurd (er888.trans er907.symm) h910)
  exact k9 I907 L907 _ R907 N907 (xi_film hX)
set_option maxRecDepth 100000 in
set_option maxHeartbeats 2000000 in
theorem l_case23 {la : Launch} {P : pm_E} {nm : String} {Tg : List Frame → Array Value → State → State → Prop} {i : Nat} (hi : i + 6 ≤ pm_n P) (hN : pm_n P ≤ 384) {I : pm_I} {L : pm_L} {X : xS} (hR : XR I L X) (hM : MR I L X) (hX : xInv X) (k9 : ∀ (I : pm_I) (L : pm_L) (X : xS), XR I L X → MR I L X → xInv X → PW la P (yLaw nm) code 4 ret room_1 Tg 65 1568 1127 [some (.ref 2000), some (.ref 0), some (.ref 40), some (.int (nI i))] [] GG I L) : PW la P (yLaw nm) code 4 ret room_1 Tg 65 1568 915 [some (.ref 2000), some (.ref 0), some (.ref 40), some (.int (nI i))] [] GG I L := by
  refine pm_aload_n (pc := 915) dL_law_915 rfl ?_
  refine pm_aload_n (pc := 916) dL_law_916 rfl ?_
  refine pm_iload_n (pc := 917) dL_law_917 rfl ?_
  refine pm_iconst (pc := 918) (v := nI 1) dL_law_918 (by decide) ?_
  refine pm_iadd (pc := 919) dL_law_919 ?_
  refine pm_top (nI_add _ _) ?_
  refine pm_sld (pc := 920) (vp_in_nI (by omega) (by omega)) dL_law_920 ?_
  refine pm_aload_n (pc := 921) dL_law_921 rfl ?_
  refine pm_iload_n (pc := 922) dL_law_922 rfl ?_
  refine pm_iconst (pc := 923) (v := nI 2) dL_law_923 (by decide) ?_
  refine pm_iadd (pc := 924) dL_law_924 ?_
  refine pm_top (nI_add _ _) ?_
  refine pm_sld (pc := 925) (vp_in_nI (by omega) (by omega)) dL_law_925 ?_
  refine pm_aload_n (pc := 926) dL_law_926 rfl ?_
  refine pm_iload_n (pc := 927) dL_law_927 rfl ?_
  refine pm_iconst (pc := 928) (v := nI 3) dL_law_928 (by decide) ?_
  refine pm_iadd (pc := 929) dL_law_929 ?_
  refine pm_top (nI_add _ _) ?_
  refine pm_sld (pc := 930) (vp_in_nI (by omega) (by omega)) dL_law_930 ?_
  refine pm_cVI (pc := 931) dL_law_931 (x_sheet hR hX) wq_X9_sheet wm_L_114 wi_X9_sheet ws_X9_sheet rfl rfl ⟨Nat.le_of_ble_eq_true rfl, Nat.le_of_ble_eq_true rfl⟩ ⟨Nat.le_of_ble_eq_true rfl, Nat.le_of_ble_eq_true rfl⟩ rfl (Nat.le_of_ble_eq_true rfl) (fun r931 I931 L931 q931 => ?_)
  obtain ⟨er931, R931, F931⟩ := q931
  have M931 := hM.f F931
  refine pm_aload_n (pc := 934) dL_law_934 rfl ?_
  refine pm_aload_n (pc := 935) dL_law_935 rfl ?_
  refine pm_iload_n (pc := 936) dL_law_936 rfl ?_
  refine pm_iconst (pc := 937) (v := nI 1) dL_law_937 (by decide) ?_
  refine pm_iadd (pc := 938) dL_law_938 ?_
  refine pm_top (nI_add _ _) ?_
  refine pm_sld (pc := 939) (vp_in_nI (by omega) (by omega)) dL_law_939 ?_
  refine pm_aload_n (pc := 940) dL_law_940 rfl ?_
  refine pm_iload_n (pc := 941) dL_law_941 rfl ?_
  refine pm_iconst (pc := 942) (v := nI 2) dL_law_942 (by decide) ?_
  refine pm_iadd (pc := 943) dL_law_943 ?_
  refine pm_top (nI_add _ _) ?_
  refine pm_sld (pc := 944) (vp_in_nI (by omega) (by omega)) dL_law_944 ?_
  refine pm_aload_n (pc := 945) dL_law_945 rfl ?_
  refine pm_iload_n (pc := 946) dL_law_946 rfl ?_
  refine pm_iconst (pc := 947) (v := nI 3) dL_law_947 (by decide) ?_
  refine pm_iadd (pc := 948) dL_law_948 ?_
  refine pm_top (nI_add _ _) ?_
  refine pm_sld (pc := 949) (vp_in_nI (by omega) (by omega)) dL_law_949 ?_
  refine pm_cVI (pc := 950) dL_law_950 (y_sheet M931 hX) wq_X10_sheet wm_L_117 wi_X10_sheet ws_X10_sheet rfl rfl ⟨Nat.le_of_ble_eq_true rfl, Nat.le_of_ble_eq_true rfl⟩ ⟨Nat.le_of_ble_eq_true rfl, Nat.le_of_ble_eq_true rfl⟩ rfl (Nat.le_of_ble_eq_true rfl) (fun r950 I950 L950 q950 => ?_)
  obtain ⟨er950, N950, E950⟩ := q950
  have R950 := R931.f E950
  refine pm_icmp_eq (pc := 953) (tgt := 1127) dL_law_953 rfl (fun h953 => ?_) (fun h953 => absurd (er931.trans er950.symm) h953)
  exact k9 I950 L950 _ R950 N950 (xi_sheet hX)
set_option maxRecDepth 100000 in
set_option maxHeartbeats 2000000 in
theorem l_case24 {la : Launch} {P : pm_E} {nm : String} {Tg : List Frame → Array Value → State → State → Prop} {i : Nat} (hi : i + 6 ≤ pm_n P) (hN : pm_n P ≤ 384) {I : pm_I} {L : pm_L} {X : xS} (hR : XR I L X) (hM : MR I L X) (hX : xInv X) (k9 : ∀ (I : pm_I) (L : pm_L) (X : xS), XR I L X → MR I L X → xInv X → PW la P (yLaw nm) code 4 ret room_1 Tg 65 1568 1127 [some (.ref 2000), some (.ref 0), some (.ref 40), some (.int (nI i))] [] GG I L) : PW la P (yLaw nm) code 4 ret room_1 Tg 65 1568 958 [some (.ref 2000), some (.ref 0), some (.ref 40), some (.int (nI i))] [] GG I L := by
  refine pm_aload_n (pc := 958) dL_law_958 rfl ?_
  refine pm_aload_n (pc := 959) dL_law_959 rfl ?_
  refine pm_iload_n (pc := 960) dL_law_960 rfl ?_
  refine pm_iconst (pc := 961) (v := nI 1) dL_law_961 (by decide) ?_
  refine pm_iadd (pc := 962) dL_law_962 ?_
  refine pm_top (nI_add _ _) ?_
  refine pm_sld (pc := 963) (vp_in_nI (by omega) (by omega)) dL_law_963 ?_
  refine pm_cVI (pc := 964) dL_law_964 (x_drop hR hX) wq_X9_drop wm_L_118 wi_X9_drop ws_X9_drop rfl rfl ⟨Nat.le_of_ble_eq_true rfl, Nat.le_of_ble_eq_true rfl⟩ ⟨Nat.le_of_ble_eq_true rfl, Nat.le_of_ble_eq_true rfl⟩ rfl (Nat.le_of_ble_eq_true rfl) (fun r964 I964 L964 q964 => ?_)
  obtain ⟨er964, R964, F964⟩ := q964
  have M964 := hM.f F964
  refine pm_aload_n (pc := 967) dL_law_967 rfl ?_
  refine pm_aload_n (pc := 968) dL_law_968 rfl ?_
  refine pm_iload_n (pc := 969) dL_law_969 rfl ?_
  refine pm_iconst (pc := 970) (v := nI 1) dL_law_970 (by decide) ?_
  refine pm_iadd (pc := 971) dL_law_971 ?_
  refine pm_top (nI_add _ _) ?_
  refine pm_sld (pc := 972) (vp_in_nI (by omega) (by omega)) dL_law_972 ?_
  refine pm_cVI (pc := 973) dL_law_973 (y_drop M964 hX) wq_X10_drop wm_L_121 wi_X10_drop ws_X10_drop rfl rfl ⟨Nat.le_of_ble_eq_true rfl, Nat.le_of_ble_eq_true rfl⟩ ⟨Nat.le_of_ble_eq_true rfl, Nat.le_of_ble_eq_true rfl⟩ rfl (Nat.le_of_ble_eq_true rfl) (fun r973 I973 L973 q973 => ?_)
  obtain ⟨er973, N973, E973⟩ := q973
  have R973 := R964.f E973
  refine pm_icmp_eq (pc := 976) (tgt := 1127) dL_law_976 rfl (fun h976 => ?_) (fun h976 => absurd (er964.trans er973.symm) h976)
  exact k9 I973 L973 _ R973 N973 (xi_drop hX)
set_option maxRecDepth 100000 in
set_option maxHeartbeats 2000000 in
theorem l_case25 {la : Launch} {P : pm_E} {nm : String} {Tg : List Frame → Array Value → State → State → Prop} {i : Nat} (hi : i + 6 ≤ pm_n P) (hN : pm_n P ≤ 384) {I : pm_I} {L : pm_L} {X : xS} (hR : XR I L X) (hM : MR I L X) (hX : xInv X) (k9 : ∀ (I : pm_I) (L : pm_L) (X : xS), XR I L X → MR I L X → xInv X → PW la P (yLaw nm) code 4 ret room_1 Tg 65 1568 1127 [some (.ref 2000), some (.ref 0), some (.ref 40), some (.int (nI i))] [] GG I L) : PW la P (yLaw nm) code 4 ret room_1 Tg 65 1568 981 [some (.ref 2000), some (.ref 0), some (.ref 40), some (.int (nI i))] [] GG I L := by
  refine pm_aload_n (pc := 981) dL_law_981 rfl ?_
  refine pm_aload_n (pc := 982) dL_law_982 rfl ?_
  refine pm_iload_n (pc := 983) dL_law_983 rfl ?_
  refine pm_iconst (pc := 984) (v := nI 1) dL_law_984 (by decide) ?_
  refine pm_iadd (pc := 985) dL_law_985 ?_
  refine pm_top (nI_add _ _) ?_
  refine pm_sld (pc := 986) (vp_in_nI (by omega) (by omega)) dL_law_986 ?_
  refine pm_aload_n (pc := 987) dL_law_987 rfl ?_
  refine pm_iload_n (pc := 988) dL_law_988 rfl ?_
  refine pm_iconst (pc := 989) (v := nI 2) dL_law_989 (by decide) ?_
  refine pm_iadd (pc := 990) dL_law_990 ?_
  refine pm_top (nI_add _ _) ?_
  refine pm_sld (pc := 991) (vp_in_nI (by omega) (by omega)) dL_law_991 ?_
  refine pm_aload_n (pc := 992) dL_law_992 rfl ?_
  refine pm_iload_n (pc := 993) dL_law_993 rfl ?_
  refine pm_iconst (pc := 994) (v := nI 3) dL_law_994 (by decide) ?_
  refine pm_iadd (pc := 995) dL_law_995 ?_
  refine pm_top (nI_add _ _) ?_
  refine pm_sld (pc := 996) (vp_in_nI (by omega) (by omega)) dL_law_996 ?_
  refine pm_aload_n (pc := 997) dL_law_997 rfl ?_
  refine pm_iload_n (pc := 998) dL_law_998 rfl ?_
  refine pm_iconst (pc := 999) (v := nI 4) dL_law_999 (by decide) ?_
  refine pm_iadd (pc := 1000) dL_law_1000 ?_
  refine pm_top (nI_add _ _) ?_
  refine pm_sld (pc := 1001) (vp_in_nI (by omega) (by omega)) dL_law_1001 ?_
  refine pm_i2l (pc := 1002) dL_law_1002 ?_
  refine pm_bipush (pc := 1003) (v := nI 32) dL_law_1003 (by decide) ?_
  refine pm_lshl (pc := 1005) dL_law_1005 ?_
  refine pm_aload_n (pc := 1006) dL_law_1006 rfl ?_
  refine pm_iload_n (pc := 1007) dL_law_1007 rfl ?_
  refine pm_iconst (pc := 1008) (v := nI 5) dL_law_1008 (by decide) ?_
  refine pm_iadd (pc := 1009) dL_law_1009 ?_
  refine pm_top (nI_add _ _) ?_
  refine pm_sld (pc := 1010) (vp_in_nI (by omega) (by omega)) dL_law_1010 ?_
  refine pm_i2l (pc := 1011) dL_law_1011 ?_
  refine pm_ldc2 (pc := 1012) wk_L_31 dL_law_1012 ?_
  refine pm_land (pc := 1015) dL_law_1015 ?_
  refine pm_lor (pc := 1016) dL_law_1016 ?_
  refine pm_cVI (pc := 1017) dL_law_1017 (x_item hR hX) wq_X9_item wm_L_122 wi_X9_item ws_X9_item rfl rfl ⟨Nat.le_of_ble_eq_true rfl, Nat.le_of_ble_eq_true rfl⟩ ⟨Nat.le_of_ble_eq_true rfl, Nat.le_of_ble_eq_true rfl⟩ rfl (Nat.le_of_ble_eq_true rfl) (fun r1017 I1017 L1017 q1017 => ?_)
  obtain ⟨er1017, R1017, F1017⟩ := q1017
  have M1017 := hM.f F1017
  refine pm_aload_n (pc := 1020) dL_law_1020 rfl ?_
  refine pm_aload_n (pc := 1021) dL_law_1021 rfl ?_
  refine pm_iload_n (pc := 1022) dL_law_1022 rfl ?_
  refine pm_iconst (pc := 1023) (v := nI 1) dL_law_1023 (by decide) ?_
  refine pm_iadd (pc := 1024) dL_law_1024 ?_
  refine pm_top (nI_add _ _) ?_
  refine pm_sld (pc := 1025) (vp_in_nI (by omega) (by omega)) dL_law_1025 ?_
  refine pm_aload_n (pc := 1026) dL_law_1026 rfl ?_
  refine pm_iload_n (pc := 1027) dL_law_1027 rfl ?_
  refine pm_iconst (pc := 1028) (v := nI 2) dL_law_1028 (by decide) ?_
  refine pm_iadd (pc := 1029) dL_law_1029 ?_
  refine pm_top (nI_add _ _) ?_
  refine pm_sld (pc := 1030) (vp_in_nI (by omega) (by omega)) dL_law_1030 ?_
  refine pm_aload_n (pc := 1031) dL_law_1031 rfl ?_
  refine pm_iload_n (pc := 1032) dL_law_1032 rfl ?_
  refine pm_iconst (pc := 1033) (v := nI 3) dL_law_1033 (by decide) ?_
  refine pm_iadd (pc := 1034) dL_law_1034 ?_
  refine pm_top (nI_add _ _) ?_
  refine pm_sld (pc := 1035) (vp_in_nI (by omega) (by omega)) dL_law_1035 ?_
  refine pm_aload_n (pc := 1036) dL_law_1036 rfl ?_
  refine pm_iload_n (pc := 1037) dL_law_1037 rfl ?_
  refine pm_iconst (pc := 1038) (v := nI 4) dL_law_1038 (by decide) ?_
  refine pm_iadd (pc := 1039) dL_law_1039 ?_
  refine pm_top (nI_add _ _) ?_
  refine pm_sld (pc := 1040) (vp_in_nI (by omega) (by omega)) dL_law_1040 ?_
  refine pm_i2l (pc := 1041) dL_law_1041 ?_
  refine pm_bipush (pc := 1042) (v := nI 32) dL_law_1042 (by decide) ?_
  refine pm_lshl (pc := 1044) dL_law_1044 ?_
  refine pm_aload_n (pc := 1045) dL_law_1045 rfl ?_
  refine pm_iload_n (pc := 1046) dL_law_1046 rfl ?_
  refine pm_iconst (pc := 1047) (v := nI 5) dL_law_1047 (by decide) ?_
  refine pm_iadd (pc := 1048) dL_law_1048 ?_
  refine pm_top (nI_add _ _) ?_
  refine pm_sld (pc := 1049) (vp_in_nI (by omega) (by omega)) dL_law_1049 ?_
  refine pm_i2l (pc := 1050) dL_law_1050 ?_
  refine pm_ldc2 (pc := 1051) wk_L_31 dL_law_1051 ?_
  refine pm_land (pc := 1054) dL_law_1054 ?_
  refine pm_lor (pc := 1055) dL_law_1055 ?_
  refine pm_cVI (pc := 1056) dL_law_1056 (y_item M1017 hX) wq_X10_item wm_L_126 wi_X10_item ws_X10_item rfl rfl ⟨Nat.le_of_ble_eq_true rfl, Nat.le_of_ble_eq_true rfl⟩ ⟨Nat.le_of_ble_eq_true rfl, Nat.le_of_ble_eq_true rfl⟩ rfl (Nat.le_of_ble_eq_true rfl) (fun r1056 I1056 L1056 q1056 => ?_)
  obtain ⟨er1056, N1056, E1056⟩ := q1056
  have R1056 := R1017.f E1056
  refine pm_icmp_eq (pc := 1059) (tgt := 1127) dL_law_1059 rfl (fun h1059 => ?_) (fun h1059 => absurd (er1017.trans er1056.symm) h1059)
  exact k9 I1056 L1056 _ R1056 N1056 (xi_item hX)
set_option maxRecDepth 100000 in
set_option maxHeartbeats 2000000 in
theorem l_case26 {la : Launch} {P : pm_E} {nm : String} {Tg : List Frame → Array Value → State → State → Prop} {i : Nat} (hi : i + 6 ≤ pm_n P) (hN : pm_n P ≤ 384) {I : pm_I} {L : pm_L} {X : xS} (hR : XR I L X) (hM : MR I L X) (hX : xInv X) (k9 : ∀ (I : pm_I) (L : pm_L) (X : xS), XR I L X → MR I L X → xInv X → PW la P (yLaw nm) code 4 ret room_1 Tg 65 1568 1127 [some (.ref 2000), some (.ref 0), some (.ref 40), some (.int (nI i))] [] GG I L) : PW la P (yLaw nm) code 4 ret room_1 Tg 65 1568 1064 [some (.ref 2000), some (.ref 0), some (.ref 40), some (.int (nI i))] [] GG I L := by
  refine pm_aload_n (pc := 1064) dL_law_1064 rfl ?_
  refine pm_aload_n (pc := 1065) dL_law_1065 rfl ?_
  refine pm_iload_n (pc := 1066) dL_law_1066 rfl ?_
  refine pm_iconst (pc := 1067) (v := nI 1) dL_law_1067 (by decide) ?_
  refine pm_iadd (pc := 1068) dL_law_1068 ?_
  refine pm_top (nI_add _ _) ?_
  refine pm_sld (pc := 1069) (vp_in_nI (by omega) (by omega)) dL_law_1069 ?_
  refine pm_aload_n (pc := 1070) dL_law_1070 rfl ?_
  refine pm_iload_n (pc := 1071) dL_law_1071 rfl ?_
  refine pm_iconst (pc := 1072) (v := nI 2) dL_law_1072 (by decide) ?_
  refine pm_iadd (pc := 1073) dL_law_1073 ?_
  refine pm_top (nI_add _ _) ?_
  refine pm_sld (pc := 1074) (vp_in_nI (by omega) (by omega)) dL_law_1074 ?_
  refine pm_aload_n (pc := 1075) dL_law_1075 rfl ?_
  refine pm_iload_n (pc := 1076) dL_law_1076 rfl ?_
  refine pm_iconst (pc := 1077) (v := nI 3) dL_law_1077 (by decide) ?_
  refine pm_iadd (pc := 1078) dL_law_1078 ?_
  refine pm_top (nI_add _ _) ?_
  refine pm_sld (pc := 1079) (vp_in_nI (by omega) (by omega)) dL_law_1079 ?_
  refine pm_aload_n (pc := 1080) dL_law_1080 rfl ?_
  refine pm_iload_n (pc := 1081) dL_law_1081 rfl ?_
  refine pm_iconst (pc := 1082) (v := nI 4) dL_law_1082 (by decide) ?_
  refine pm_iadd (pc := 1083) dL_law_1083 ?_
  refine pm_top (nI_add _ _) ?_
  refine pm_sld (pc := 1084) (vp_in_nI (by omega) (by omega)) dL_law_1084 ?_
  refine pm_aload_n (pc := 1085) dL_law_1085 rfl ?_
  refine pm_iload_n (pc := 1086) dL_law_1086 rfl ?_
  refine pm_iconst (pc := 1087) (v := nI 5) dL_law_1087 (by decide) ?_
  refine pm_iadd (pc := 1088) dL_law_1088 ?_
  refine pm_top (nI_add _ _) ?_
  refine pm_sld (pc := 1089) (vp_in_nI (by omega) (by omega)) dL_law_1089 ?_
  refine pm_cVI (pc := 1090) dL_law_1090 (x_copy hR hX) wq_X9_copy wm_L_127 wi_X9_copy ws_X9_copy rfl rfl ⟨Nat.le_of_ble_eq_true rfl, Nat.le_of_ble_eq_true rfl⟩ ⟨Nat.le_of_ble_eq_true rfl, Nat.le_of_ble_eq_true rfl⟩ rfl (Nat.le_of_ble_eq_true rfl) (fun r1090 I1090 L1090 q1090 => ?_)
  obtain ⟨er1090, R1090, F1090⟩ := q1090
  have M1090 := hM.f F1090
  refine pm_aload_n (pc := 1093) dL_law_1093 rfl ?_
  refine pm_aload_n (pc := 1094) dL_law_1094 rfl ?_
  refine pm_iload_n (pc := 1095) dL_law_1095 rfl ?_
  refine pm_iconst (pc := 1096) (v := nI 1) dL_law_1096 (by decide) ?_
  refine pm_iadd (pc := 1097) dL_law_1097 ?_
  refine pm_top (nI_add _ _) ?_
  refine pm_sld (pc := 1098) (vp_in_nI (by omega) (by omega)) dL_law_1098 ?_
  refine pm_aload_n (pc := 1099) dL_law_1099 rfl ?_
  refine pm_iload_n (pc := 1100) dL_law_1100 rfl ?_
  refine pm_iconst (pc := 1101) (v := nI 2) dL_law_1101 (by decide) ?_
  refine pm_iadd (pc := 1102) dL_law_1102 ?_
  refine pm_top (nI_add _ _) ?_
  refine pm_sld (pc := 1103) (vp_in_nI (by omega) (by omega)) dL_law_1103 ?_
  refine pm_aload_n (pc := 1104) dL_law_1104 rfl ?_
  refine pm_iload_n (pc := 1105) dL_law_1105 rfl ?_
  refine pm_iconst (pc := 1106) (v := nI 3) dL_law_1106 (by decide) ?_
  refine pm_iadd (pc := 1107) dL_law_1107 ?_
  refine pm_top (nI_add _ _) ?_
  refine pm_sld (pc := 1108) (vp_in_nI (by omega) (by omega)) dL_law_1108 ?_
  refine pm_aload_n (pc := 1109) dL_law_1109 rfl ?_
  refine pm_iload_n (pc := 1110) dL_law_1110 rfl ?_
  refine pm_iconst (pc := 1111) (v := nI 4) dL_law_1111 (by decide) ?_
  refine pm_iadd (pc := 1112) dL_law_1112 ?_
  refine pm_top (nI_add _ _) ?_
  refine pm_sld (pc := 1113) (vp_in_nI (by omega) (by omega)) dL_law_1113 ?_
  refine pm_aload_n (pc := 1114) dL_law_1114 rfl ?_
  refine pm_iload_n (pc := 1115) dL_law_1115 rfl ?_
  refine pm_iconst (pc := 1116) (v := nI 5) dL_law_1116 (by decide) ?_
  refine pm_iadd (pc := 1117) dL_law_1117 ?_
  refine pm_top (nI_add _ _) ?_
  refine pm_sld (pc := 1118) (vp_in_nI (by omega) (by omega)) dL_law_1118 ?_
  refine pm_cVI (pc := 1119) dL_law_1119 (y_copy M1090 hX) wq_X10_copy wm_L_130 wi_X10_copy ws_X10_copy rfl rfl ⟨Nat.le_of_ble_eq_true rfl, Nat.le_of_ble_eq_true rfl⟩ ⟨Nat.le_of_ble_eq_true rfl, Nat.le_of_ble_eq_true rfl⟩ rfl (Nat.le_of_ble_eq_true rfl) (fun r1119 I1119 L1119 q1119 => ?_)
  obtain ⟨er1119, N1119, E1119⟩ := q1119
  have R1119 := R1090.f E1119
  refine pm_icmp_eq (pc := 1122) (tgt := 1127) dL_law_1122 rfl (fun h1122 => ?_) (fun h1122 => absurd (er1090.trans er1119.symm) h1122)
  exact k9 I1119 L1119 _ R1119 N1119 (xi_copy hX)
set_option maxRecDepth 100000 in
set_option maxHeartbeats 2000000 in
theorem l_law18 {la : Launch} {P : pm_E} {nm : String} {Tg : List Frame → Array Value → State → State → Prop} (hN : pm_n P ≤ 384) (hend : ∀ (G : List pm_S) (I : pm_I) (L : pm_L) (ls : List (Option Value)), PW la P (yLaw nm) code 4 ret room_1 Tg 65 1568 1134 ls [.int (nI 1)] G I L) : ∀ (m i : Nat) (I : pm_I) (L : pm_L) (X : xS), pm_n P ≤ i + 6 * m → i ≤ 400 → XR I L X → MR I L X → xInv X → PW la P (yLaw nm) code 4 ret room_1 Tg 65 1568 18 [some (.ref 2000), some (.ref 0), some (.ref 40), some (.int (nI i))] [] GG I L
  | 0, i, I, L, X, hm, hi4, hR, hM, hX => by
    refine pm_iload_n (pc := 18) dL_law_18 rfl ?_
    refine pm_aload_n (pc := 19) dL_law_19 rfl ?_
    refine pm_slen (pc := 20) dL_law_20 ?_
    refine pm_top (x' := nI (pm_n P)) rfl ?_
    refine pm_bipush (pc := 21) (v := nI 6) dL_law_21 (by decide) ?_
    refine pm_isub (pc := 23) dL_law_23 ?_
    refine pm_icmp_gt (pc := 24) (tgt := 1133) dL_law_24 rfl (fun h24 => ?_) (fun h24 => (by rw [pm_ltI, fb_subI (by rw [nI_toInt (by omega), nI_toInt (by decide)]; omega) (by rw [nI_toInt (by omega), nI_toInt (by decide)]; omega), nI_toInt (by omega), nI_toInt (by decide), nI_toInt (by omega)] at h24; omega))
    refine pm_iconst (pc := 1133) (v := nI 1) dL_law_1133 (by decide) ?_
    exact hend GG I L _
  | m + 1, i, I, L, X, hm, hi4, hR, hM, hX => by
    refine pm_iload_n (pc := 18) dL_law_18 rfl ?_
    refine pm_aload_n (pc := 19) dL_law_19 rfl ?_
    refine pm_slen (pc := 20) dL_law_20 ?_
    refine pm_top (x' := nI (pm_n P)) rfl ?_
    refine pm_bipush (pc := 21) (v := nI 6) dL_law_21 (by decide) ?_
    refine pm_isub (pc := 23) dL_law_23 ?_
    refine pm_icmp_gt (pc := 24) (tgt := 1133) dL_law_24 rfl (fun h24 => ?_) (fun h24 => ?_)
    · refine pm_iconst (pc := 1133) (v := nI 1) dL_law_1133 (by decide) ?_
      exact hend GG I L _
    · rw [pm_ltI, fb_subI (by rw [nI_toInt (by omega), nI_toInt (by decide)]; omega) (by rw [nI_toInt (by omega), nI_toInt (by decide)]; omega), nI_toInt (by omega), nI_toInt (by decide), nI_toInt (by omega)] at h24
      have hi : i + 6 ≤ pm_n P := by omega
      refine pm_aload_n (pc := 27) dL_law_27 rfl ?_
      refine pm_iload_n (pc := 28) dL_law_28 rfl ?_
      refine pm_sld (pc := 29) (vp_in_nI (by omega) (by omega)) dL_law_29 ?_
      refine pm_bipush (pc := 30) (v := nI 31) dL_law_30 (by decide) ?_
      have k18 : ∀ (I : pm_I) (L : pm_L) (X : xS), XR I L X → MR I L X → xInv X → PW la P (yLaw nm) code 4 ret room_1 Tg 65 1568 1127 [some (.ref 2000), some (.ref 0), some (.ref 40), some (.int (nI i))] [] GG I L := fun I L X hR hM hX => by
        refine pm_iinc (pc := 1127) dL_law_1127 rfl (pm_inc6 _) (by decide) rfl ?_
        refine pm_goto (pc := 1130) (tgt := 18) dL_law_1130 rfl ?_
        exact l_law18 hN hend m (i + 6) I L X (by omega) (by omega) hR hM hX
      refine pm_iand (pc := 32) dL_law_32 ?_
      obtain ⟨v, hv, ev⟩ := pk_andE (pm_xs P (nI i).toNatClampNeg) (m := 31) 5 (by decide)
      refine pm_top ev ?_
      by_cases hs0 : v = 0
      · subst hs0
        refine pm_tableIn (pc := 33) (tgt := 156) dL_law_33 (by decide) (by decide) (by rfl) rfl ?_
        exact l_case0 hi hN hR hM hX k18
      by_cases hs1 : v = 1
      · subst hs1
        refine pm_tableIn (pc := 33) (tgt := 209) dL_law_33 (by decide) (by decide) (by rfl) rfl ?_
        exact l_case1 hi hN hR hM hX k18
      by_cases hs2 : v = 2
      · subst hs2
        refine pm_tableIn (pc := 33) (tgt := 242) dL_law_33 (by decide) (by decide) (by rfl) rfl ?_
        exact l_case2 hi hN hR hM hX k18
      by_cases hs3 : v = 3
      · subst hs3
        refine pm_tableIn (pc := 33) (tgt := 275) dL_law_33 (by decide) (by decide) (by rfl) rfl ?_
        exact l_case3 hi hN hR hM hX k18
      by_cases hs4 : v = 4
      · subst hs4
        refine pm_tableIn (pc := 33) (tgt := 308) dL_law_33 (by decide) (by decide) (by rfl) rfl ?_
        exact l_case4 hi hN hR hM hX k18
      by_cases hs5 : v = 5
      · subst hs5
        refine pm_tableIn (pc := 33) (tgt := 371) dL_law_33 (by decide) (by decide) (by rfl) rfl ?_
        exact l_case5 hi hN hR hM hX k18
      by_cases hs6 : v = 6
      · subst hs6
        refine pm_tableIn (pc := 33) (tgt := 384) dL_law_33 (by decide) (by decide) (by rfl) rfl ?_
        exact l_case6 hi hN hR hM hX k18
      by_cases hs7 : v = 7
      · subst hs7
        refine pm_tableIn (pc := 33) (tgt := 397) dL_law_33 (by decide) (by decide) (by rfl) rfl ?_
        exact l_case7 hi hN hR hM hX k18
      by_cases hs8 : v = 8
      · subst hs8
        refine pm_tableIn (pc := 33) (tgt := 420) dL_law_33 (by decide) (by decide) (by rfl) rfl ?_
        exact l_case8 hi hN hR hM hX k18
      by_cases hs9 : v = 9
      · subst hs9
        refine pm_tableIn (pc := 33) (tgt := 443) dL_law_33 (by decide) (by decide) (by rfl) rfl ?_
        exact l_case9 hi hN hR hM hX k18
      by_cases hs10 : v = 10
      · subst hs10
        refine pm_tableIn (pc := 33) (tgt := 476) dL_law_33 (by decide) (by decide) (by rfl) rfl ?_
        exact l_case10 hi hN hR hM hX k18
      by_cases hs11 : v = 11
      · subst hs11
        refine pm_tableIn (pc := 33) (tgt := 509) dL_law_33 (by decide) (by decide) (by rfl) rfl ?_
        exact l_case11 hi hN hR hM hX k18
      by_cases hs12 : v = 12
      · subst hs12
        refine pm_tableIn (pc := 33) (tgt := 542) dL_law_33 (by decide) (by decide) (by rfl) rfl ?_
        exact l_case12 hi hN hR hM hX k18
      by_cases hs13 : v = 13
      · subst hs13
        refine pm_tableIn (pc := 33) (tgt := 555) dL_law_33 (by decide) (by decide) (by rfl) rfl ?_
        exact l_case13 hi hN hR hM hX k18
      by_cases hs14 : v = 14
      · subst hs14
        refine pm_tableIn (pc := 33) (tgt := 588) dL_law_33 (by decide) (by decide) (by rfl) rfl ?_
        exact l_case14 hi hN hR hM hX k18
      by_cases hs15 : v = 15
      · subst hs15
        refine pm_tableIn (pc := 33) (tgt := 611) dL_law_33 (by decide) (by decide) (by rfl) rfl ?_
        exact l_case15 hi hN hR hM hX k18
      by_cases hs16 : v = 16
      · subst hs16
        refine pm_tableIn (pc := 33) (tgt := 624) dL_law_33 (by decide) (by decide) (by rfl) rfl ?_
        exact l_case16 hi hN hR hM hX k18
      by_cases hs17 : v = 17
      · subst hs17
        refine pm_tableIn (pc := 33) (tgt := 687) dL_law_33 (by decide) (by decide) (by rfl) rfl ?_
        exact l_case17 hi hN hR hM hX k18
      by_cases hs18 : v = 18
      · subst hs18
        refine pm_tableIn (pc := 33) (tgt := 730) dL_law_33 (by decide) (by decide) (by rfl) rfl ?_
        exact l_case18 hi hN hR hM hX k18
      by_cases hs19 : v = 19
      · subst hs19
        refine pm_tableIn (pc := 33) (tgt := 743) dL_law_33 (by decide) (by decide) (by rfl) rfl ?_
        exact l_case19 hi hN hR hM hX k18
      by_cases hs20 : v = 20
      · subst hs20
        refine pm_tableIn (pc := 33) (tgt := 756) dL_law_33 (by decide) (by decide) (by rfl) rfl ?_
        exact l_case20 hi hN hR hM hX k18
      by_cases hs21 : v = 21
      · subst hs21
        refine pm_tableIn (pc := 33) (tgt := 809) dL_law_33 (by decide) (by decide) (by rfl) rfl ?_
        exact l_case21 hi hN hR hM hX k18
      by_cases hs22 : v = 22
      · subst hs22
        refine pm_tableIn (pc := 33) (tgt := 872) dL_law_33 (by decide) (by decide) (by rfl) rfl ?_
        exact l_case22 hi hN hR hM hX k18
      by_cases hs23 : v = 23
      · subst hs23
        refine pm_tableIn (pc := 33) (tgt := 915) dL_law_33 (by decide) (by decide) (by rfl) rfl ?_
        exact l_case23 hi hN hR hM hX k18
      by_cases hs24 : v = 24
      · subst hs24
        refine pm_tableIn (pc := 33) (tgt := 958) dL_law_33 (by decide) (by decide) (by rfl) rfl ?_
        exact l_case24 hi hN hR hM hX k18
      by_cases hs25 : v = 25
      · subst hs25
        refine pm_tableIn (pc := 33) (tgt := 981) dL_law_33 (by decide) (by decide) (by rfl) rfl ?_
        exact l_case25 hi hN hR hM hX k18
      by_cases hs26 : v = 26
      · subst hs26
        refine pm_tableIn (pc := 33) (tgt := 1064) dL_law_33 (by decide) (by decide) (by rfl) rfl ?_
        exact l_case26 hi hN hR hM hX k18
      refine pm_tableOut (pc := 33) (tgt := 1127) dL_law_33 (by rw [nI_toInt (by omega)]; right; omega) rfl ?_
      exact k18 I L X hR hM hX
set_option maxRecDepth 100000 in
set_option maxHeartbeats 2000000 in
theorem l_law0 {la : Launch} {P : pm_E} {nm : String} {Tg : List Frame → Array Value → State → State → Prop} (hN : pm_n P ≤ 384) (hend : ∀ (G : List pm_S) (I : pm_I) (L : pm_L) (ls : List (Option Value)), PW la P (yLaw nm) code 4 ret room_1 Tg 65 1568 1134 ls [.int (nI 1)] G I L) {I : pm_I} {L : pm_L} : PW la P (yLaw nm) code 4 ret room_1 Tg 0 0 0 [some (.ref 2000), none, none, none] [] [] I L := by
  refine pm_new (pc := 0) (ci := 7) (C0 := RX9) (T := TX9) (M := 9) (fs := [some none, some none, none, some none, some none, some none, some none, some none, some none]) rfl in_X9 tyX9 tyX9_ok wc_L_7 wn_X9 (tb1 1 (by decide +kernel) rfl) (fun j hj => by rcases (show j = 0 ∨ j = 1 ∨ j = 2 ∨ j = 3 ∨ j = 4 ∨ j = 5 ∨ j = 6 ∨ j = 7 ∨ j = 8 by omega) with rfl | rfl | rfl | rfl | rfl | rfl | rfl | rfl | rfl <;> rfl) rfl (by decide) ⟨Nat.le_of_ble_eq_true rfl, Nat.le_of_ble_eq_true rfl⟩ dL_law_0 ?_
  refine pm_eq rfl (st' := [.ref 0]) rfl (G' := [.inl (7, [some none, some none, none, some none, some none, some none, some none, some none, some none])]) rfl (I' := (pm_u I 0 (fun _ => 0))) rfl (L' := (pm_u L 0 (fun _ => 0))) rfl ?_
  refine pm_dup (pc := 3) dL_law_3 rfl ?_
  refine pm_cI (pc := 4) dL_law_4 (c_init9 (fun k => by rw [pm_us])) wq_X9_init wm_L_9 wi_X9_init rfl ⟨Nat.le_of_ble_eq_true rfl, Nat.le_of_ble_eq_true rfl⟩ ⟨Nat.le_of_ble_eq_true rfl, Nat.le_of_ble_eq_true rfl⟩ rfl (Nat.le_of_ble_eq_true rfl) (fun v G9 I4 L4 q => ?_)
  obtain ⟨rfl, rfl, R4⟩ := q
  refine pm_eq rfl (st' := [.ref 0]) rfl rfl rfl rfl ?_
  refine pm_astore_n (pc := 7) dL_law_7 (by decide) rfl ?_
  refine pm_new (pc := 8) (ci := 8) (C0 := RX10) (T := TX10) (M := 34) (fs := [none, some none, some none, some none, some none, some none, some none, some none, none, some none, none, none, none, none, some none, some none, some none, some none, none, some none, some none, some none, some none, some none, some none, some none, none, none, none, some none, some none, some none, some none, some none]) rfl in_X10 tyX10 tyX10_ok wc_L_10 wn_X10 (tb1 10 (by decide +kernel) rfl) (fun j hj => by rcases (show j = 0 ∨ j = 1 ∨ j = 2 ∨ j = 3 ∨ j = 4 ∨ j = 5 ∨ j = 6 ∨ j = 7 ∨ j = 8 ∨ j = 9 ∨ j = 10 ∨ j = 11 ∨ j = 12 ∨ j = 13 ∨ j = 14 ∨ j = 15 ∨ j = 16 ∨ j = 17 ∨ j = 18 ∨ j = 19 ∨ j = 20 ∨ j = 21 ∨ j = 22 ∨ j = 23 ∨ j = 24 ∨ j = 25 ∨ j = 26 ∨ j = 27 ∨ j = 28 ∨ j = 29 ∨ j = 30 ∨ j = 31 ∨ j = 32 ∨ j = 33 by omega) with rfl | rfl | rfl | rfl | rfl | rfl | rfl | rfl | rfl | rfl | rfl | rfl | rfl | rfl | rfl | rfl | rfl | rfl | rfl | rfl | rfl | rfl | rfl | rfl | rfl | rfl | rfl | rfl | rfl | rfl | rfl | rfl | rfl | rfl <;> rfl) rfl (by decide) ⟨Nat.le_of_ble_eq_true rfl, Nat.le_of_ble_eq_true rfl⟩ dL_law_8 ?_
  refine pm_eq rfl (st' := [.ref 40]) rfl (G' := GX ++ [.inl (8, [none, some none, some none, some none, some none, some none, some none, some none, none, some none, none, none, none, none, some none, some none, some none, some none, none, some none, some none, some none, some none, some none, some none, some none, none, none, none, some none, some none, some none, some none, some none])]) rfl (I' := (pm_u I4 40 (fun _ => 0))) rfl (L' := (pm_u L4 40 (fun _ => 0))) rfl ?_
  refine pm_dup (pc := 11) dL_law_11 rfl ?_
  refine pm_cI (pc := 12) dL_law_12 (c_init10 (fun k => by rw [pm_us])) wq_X10_init wm_L_12 wi_X10_init rfl ⟨Nat.le_of_ble_eq_true rfl, Nat.le_of_ble_eq_true rfl⟩ ⟨Nat.le_of_ble_eq_true rfl, Nat.le_of_ble_eq_true rfl⟩ rfl (Nat.le_of_ble_eq_true rfl) (fun v G9 I12 L12 q => ?_)
  obtain ⟨rfl, rfl, M12, F12⟩ := q
  refine pm_eq rfl (st' := [.ref 40]) rfl rfl rfl rfl ?_
  refine pm_astore_n (pc := 15) dL_law_15 (by decide) rfl ?_
  refine pm_iconst (pc := 16) (v := nI 0) dL_law_16 (by decide) ?_
  refine pm_istore_n (pc := 17) dL_law_17 (by decide) rfl ?_
  have R12 : XR I12 L12 x_0 := R4.f (fun a ha => ⟨(F12 a ha).1.trans (pm_un (by omega)), (F12 a ha).2.trans (pm_un (by omega))⟩)
  exact l_law18 hN hend 64 0 I12 L12 x_0 (by omega) (by omega) R12 M12 xi_0
