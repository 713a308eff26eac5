/-! the law: the script, the cases, the loop -/
section ZLAW
variable {G : zG} {γ : zF} {w : zW} {k : Nat × Nat} {own : String} {cc : ByteArray} {nL fr lo pc n : Nat} {ls : zL} {st : List zV} {M : zM}
theorem v_sald (ok : zOK G γ own cc nL fr lo) {i : Int} (hi : 0 ≤ i ∧ i < (zGs G 306 : Int)) (hm : zGs G 306 ≤ 448) (hd : decode cc pc = .ok (.iaload, 1)) (hn : pc + 1 = n) (kk : zVV G γ w k n ls (zi (zGt G 306 i) :: st) M) : zVV G γ w k pc ls (zi i :: zr 306 :: st) M := by
  subst hn
  intro H locs cls h1 h2 h3
  obtain ⟨cell, y1, y2, y3, y4, y5, y6, y7⟩ := ok.2.2.2.2.2.1.2.2.1 306 (by decide) (by decide)
  have hc : H[w.1 306]? = some cell := by rw [h1.2.2.2.2 306 (by decide), h1.2.1 _ (Nat.not_le.mp y7)]; exact y1
  refine W.iald (v := .int (Int32.ofInt (zGt G 306 i))) ok.1 ok.2.1 hc y2 y3 ?_ ?_ rfl rfl hd (kk H locs cls h1 h2 h3)
  · have := zn_in hi (by omega)
    exact fun q => this (q.imp id (fun y => by omega))
  · rw [zn_clamp (by omega), y6 _ (by omega)]
    show some (Value.int (Int32.ofInt (zGt G 306 ((i.toNat : Nat) : Int)))) = _
    rw [zi_nat hi.1]
theorem v_salen (ok : zOK G γ own cc nL fr lo) {m : Int} (hm : (zGs G 306 : Int) = m) (hd : decode cc pc = .ok (.arraylength, 1)) (hn : pc + 1 = n) (kk : zVV G γ w k n ls (zi m :: st) M) : zVV G γ w k pc ls (zr 306 :: st) M := by
  subst hn
  subst hm
  intro H locs cls h1 h2 h3
  obtain ⟨cell, y1, y2, y3, y4, y5, y6, y7⟩ := ok.2.2.2.2.2.1.2.2.1 306 (by decide) (by decide)
  have hc : H[w.1 306]? = some cell := by rw [h1.2.2.2.2 306 (by decide), h1.2.1 _ (Nat.not_le.mp y7)]; exact y1
  exact W.alen (n := Int32.ofInt (zGs G 306 : Int)) ok.1 ok.2.1 hc y2 y5 rfl rfl hd (kk H locs cls h1 h2 h3)
theorem v_icmp_same (ok : zOK G γ own cc nL fr lo) {x : Int} {off : Int} {tgt : Nat} (hd : decode cc pc = .ok (.if_icmp .eq off, 3)) (ht : (pc : Int) + off = (tgt : Int)) (kt : zVV G γ w k tgt ls st M) : zVV G γ w k pc ls (zi x :: zi x :: st) M := by
  intro H locs cls h1 h2 h3
  exact lv_icmp_eq ok.1 ok.2.1 hd ht (fun _ => kt H locs cls h1 h2 h3) (fun q => absurd rfl q)
end ZLAW
/-- the script's numbers are ints -/
def zsc (G : zG) : Prop := zGs G 306 ≤ 448 ∧ ∀ j, -2147483648 ≤ zGt G 306 j ∧ zGt G 306 j ≤ 2147483647
set_option maxHeartbeats 4000000 in
set_option maxRecDepth 100000 in
theorem l_case0 {G : zG} {γ : zF} {ad : Int → Nat} {k : Nat × Nat} {M : zM} {i : Int} (ok : zOK G γ RL cL_law 4 7 151) (hs : zsc G) (hk : k.1 ≤ (zFR γ).cells ∧ k.2 ≤ (zFR γ).slots) (hi : 0 ≤ i ∧ i + 7 ≤ (zGs G 306 : Int)) (hR : zRel M) (kk : ∀ M2, zRel M2 → zVV G γ (zw ad) k 1225 [some (zr 306), some (zr 0), some (zr 200), some (zi i)] [] M2) : zVV G γ (zw ad) k 156 [some (zr 306), some (zr 0), some (zr 200), some (zi i)] [] M := by
  refine v_aload_1 ok dL_law_156 (n := 157) rfl ?_
  refine v_aload_0 ok dL_law_157 (n := 158) rfl ?_
  refine v_iload_3 ok dL_law_158 (n := 159) rfl ?_
  refine v_iconst ok dL_law_159 (n := 160) rfl ?_
  refine v_iadd ok dL_law_160 (n := 161) rfl ?_
  refine v_sald ok (by omega) hs.1 dL_law_161 (n := 162) rfl ?_
  refine v_aload_0 ok dL_law_162 (n := 163) rfl ?_
  refine v_iload_3 ok dL_law_163 (n := 164) rfl ?_
  refine v_iconst ok dL_law_164 (n := 165) rfl ?_
  refine v_iadd ok dL_law_165 (n := 166) rfl ?_
  refine v_sald ok (by omega) hs.1 dL_law_166 (n := 167) rfl ?_
  refine v_aload_0 ok dL_law_167 (n := 168) rfl ?_
  refine v_iload_3 ok dL_law_168 (n := 169) rfl ?_
  refine v_iconst ok dL_law_169 (n := 170) rfl ?_
  refine v_iadd ok dL_law_170 (n := 171) rfl ?_
  refine v_sald ok (by omega) hs.1 dL_law_171 (n := 172) rfl ?_
  refine v_aload_0 ok dL_law_172 (n := 173) rfl ?_
  refine v_iload_3 ok dL_law_173 (n := 174) rfl ?_
  refine v_iconst ok dL_law_174 (n := 175) rfl ?_
  refine v_iadd ok dL_law_175 (n := 176) rfl ?_
  refine v_sald ok (by omega) hs.1 dL_law_176 (n := 177) rfl ?_
  refine v_callVI ok (mi := mi_X7_bride) mc_X7_bride cv_L_13 ly_0 rfl rfl rfl (by decide) hk dL_law_177 (n := 180) rfl rfl rfl (Nat.le_of_ble_eq_true rfl) (s_bride (hs.2 _) (hs.2 _) (hs.2 _) (hs.2 _) hR) (fun x M1 h1 => ?_)
  refine v_aload_2 ok dL_law_180 (n := 181) rfl ?_
  refine v_aload_0 ok dL_law_181 (n := 182) rfl ?_
  refine v_iload_3 ok dL_law_182 (n := 183) rfl ?_
  refine v_iconst ok dL_law_183 (n := 184) rfl ?_
  refine v_iadd ok dL_law_184 (n := 185) rfl ?_
  refine v_sald ok (by omega) hs.1 dL_law_185 (n := 186) rfl ?_
  refine v_aload_0 ok dL_law_186 (n := 187) rfl ?_
  refine v_iload_3 ok dL_law_187 (n := 188) rfl ?_
  refine v_iconst ok dL_law_188 (n := 189) rfl ?_
  refine v_iadd ok dL_law_189 (n := 190) rfl ?_
  refine v_sald ok (by omega) hs.1 dL_law_190 (n := 191) rfl ?_
  refine v_aload_0 ok dL_law_191 (n := 192) rfl ?_
  refine v_iload_3 ok dL_law_192 (n := 193) rfl ?_
  refine v_iconst ok dL_law_193 (n := 194) rfl ?_
  refine v_iadd ok dL_law_194 (n := 195) rfl ?_
  refine v_sald ok (by omega) hs.1 dL_law_195 (n := 196) rfl ?_
  refine v_aload_0 ok dL_law_196 (n := 197) rfl ?_
  refine v_iload_3 ok dL_law_197 (n := 198) rfl ?_
  refine v_iconst ok dL_law_198 (n := 199) rfl ?_
  refine v_iadd ok dL_law_199 (n := 200) rfl ?_
  refine v_sald ok (by omega) hs.1 dL_law_200 (n := 201) rfl ?_
  refine v_callVI ok (mi := mi_X8_bride) mc_X8_bride cv_L_17 ly_200 rfl rfl rfl (by decide) hk dL_law_201 (n := 204) rfl rfl rfl (Nat.le_of_ble_eq_true rfl) h1 (fun y M2 h2 => ?_)
  obtain ⟨rfl, h2⟩ := h2
  exact v_icmp_same ok dL_law_204 (tgt := 1225) (by decide) (kk _ h2)
set_option maxHeartbeats 4000000 in
set_option maxRecDepth 100000 in
theorem l_case1 {G : zG} {γ : zF} {ad : Int → Nat} {k : Nat × Nat} {M : zM} {i : Int} (ok : zOK G γ RL cL_law 4 7 151) (hs : zsc G) (hk : k.1 ≤ (zFR γ).cells ∧ k.2 ≤ (zFR γ).slots) (hi : 0 ≤ i ∧ i + 7 ≤ (zGs G 306 : Int)) (hR : zRel M) (kk : ∀ M2, zRel M2 → zVV G γ (zw ad) k 1225 [some (zr 306), some (zr 0), some (zr 200), some (zi i)] [] M2) : zVV G γ (zw ad) k 209 [some (zr 306), some (zr 0), some (zr 200), some (zi i)] [] M := by
  refine v_aload_1 ok dL_law_209 (n := 210) rfl ?_
  refine v_aload_0 ok dL_law_210 (n := 211) rfl ?_
  refine v_iload_3 ok dL_law_211 (n := 212) rfl ?_
  refine v_iconst ok dL_law_212 (n := 213) rfl ?_
  refine v_iadd ok dL_law_213 (n := 214) rfl ?_
  refine v_sald ok (by omega) hs.1 dL_law_214 (n := 215) rfl ?_
  refine v_aload_0 ok dL_law_215 (n := 216) rfl ?_
  refine v_iload_3 ok dL_law_216 (n := 217) rfl ?_
  refine v_iconst ok dL_law_217 (n := 218) rfl ?_
  refine v_iadd ok dL_law_218 (n := 219) rfl ?_
  refine v_sald ok (by omega) hs.1 dL_law_219 (n := 220) rfl ?_
  refine v_aload_0 ok dL_law_220 (n := 221) rfl ?_
  refine v_iload_3 ok dL_law_221 (n := 222) rfl ?_
  refine v_iconst ok dL_law_222 (n := 223) rfl ?_
  refine v_iadd ok dL_law_223 (n := 224) rfl ?_
  refine v_sald ok (by omega) hs.1 dL_law_224 (n := 225) rfl ?_
  refine v_callVI ok (mi := mi_X7_make) mc_X7_make cv_L_18 ly_0 rfl rfl rfl (by decide) hk dL_law_225 (n := 228) rfl rfl rfl (Nat.le_of_ble_eq_true rfl) (s_make (hs.2 _) (hs.2 _) (hs.2 _) hR) (fun x M1 h1 => ?_)
  refine v_aload_2 ok dL_law_228 (n := 229) rfl ?_
  refine v_aload_0 ok dL_law_229 (n := 230) rfl ?_
  refine v_iload_3 ok dL_law_230 (n := 231) rfl ?_
  refine v_iconst ok dL_law_231 (n := 232) rfl ?_
  refine v_iadd ok dL_law_232 (n := 233) rfl ?_
  refine v_sald ok (by omega) hs.1 dL_law_233 (n := 234) rfl ?_
  refine v_aload_0 ok dL_law_234 (n := 235) rfl ?_
  refine v_iload_3 ok dL_law_235 (n := 236) rfl ?_
  refine v_iconst ok dL_law_236 (n := 237) rfl ?_
  refine v_iadd ok dL_law_237 (n := 238) rfl ?_
  refine v_sald ok (by omega) hs.1 dL_law_238 (n := 239) rfl ?_
  refine v_aload_0 ok dL_law_239 (n := 240) rfl ?_
  refine v_iload_3 ok dL_law_240 (n := 241) rfl ?_
  refine v_iconst ok dL_law_241 (n := 242) rfl ?_
  refine v_iadd ok dL_law_242 (n := 243) rfl ?_
  refine v_sald ok (by omega) hs.1 dL_law_243 (n := 244) rfl ?_
  refine v_callVI ok (mi := mi_X8_make) mc_X8_make cv_L_22 ly_200 rfl rfl rfl (by decide) hk dL_law_244 (n := 247) rfl rfl rfl (Nat.le_of_ble_eq_true rfl) h1 (fun y M2 h2 => ?_)
  obtain ⟨rfl, h2⟩ := h2
  exact v_icmp_same ok dL_law_247 (tgt := 1225) (by decide) (kk _ h2)
set_option maxHeartbeats 4000000 in
set_option maxRecDepth 100000 in
theorem l_case2 {G : zG} {γ : zF} {ad : Int → Nat} {k : Nat × Nat} {M : zM} {i : Int} (ok : zOK G γ RL cL_law 4 7 151) (hs : zsc G) (hk : k.1 ≤ (zFR γ).cells ∧ k.2 ≤ (zFR γ).slots) (hi : 0 ≤ i ∧ i + 7 ≤ (zGs G 306 : Int)) (hR : zRel M) (kk : ∀ M2, zRel M2 → zVV G γ (zw ad) k 1225 [some (zr 306), some (zr 0), some (zr 200), some (zi i)] [] M2) : zVV G γ (zw ad) k 252 [some (zr 306), some (zr 0), some (zr 200), some (zi i)] [] M := by
  refine v_aload_1 ok dL_law_252 (n := 253) rfl ?_
  refine v_aload_0 ok dL_law_253 (n := 254) rfl ?_
  refine v_iload_3 ok dL_law_254 (n := 255) rfl ?_
  refine v_iconst ok dL_law_255 (n := 256) rfl ?_
  refine v_iadd ok dL_law_256 (n := 257) rfl ?_
  refine v_sald ok (by omega) hs.1 dL_law_257 (n := 258) rfl ?_
  refine v_aload_0 ok dL_law_258 (n := 259) rfl ?_
  refine v_iload_3 ok dL_law_259 (n := 260) rfl ?_
  refine v_iconst ok dL_law_260 (n := 261) rfl ?_
  refine v_iadd ok dL_law_261 (n := 262) rfl ?_
  refine v_sald ok (by omega) hs.1 dL_law_262 (n := 263) rfl ?_
  refine v_aload_0 ok dL_law_263 (n := 264) rfl ?_
  refine v_iload_3 ok dL_law_264 (n := 265) rfl ?_
  refine v_iconst ok dL_law_265 (n := 266) rfl ?_
  refine v_iadd ok dL_law_266 (n := 267) rfl ?_
  refine v_sald ok (by omega) hs.1 dL_law_267 (n := 268) rfl ?_
  refine v_callVI ok (mi := mi_X7_shoe) mc_X7_shoe cv_L_23 ly_0 rfl rfl rfl (by decide) hk dL_law_268 (n := 271) rfl rfl rfl (Nat.le_of_ble_eq_true rfl) (s_shoe (hs.2 _) (hs.2 _) (hs.2 _) hR) (fun x M1 h1 => ?_)
  refine v_aload_2 ok dL_law_271 (n := 272) rfl ?_
  refine v_aload_0 ok dL_law_272 (n := 273) rfl ?_
  refine v_iload_3 ok dL_law_273 (n := 274) rfl ?_
  refine v_iconst ok dL_law_274 (n := 275) rfl ?_
  refine v_iadd ok dL_law_275 (n := 276) rfl ?_
  refine v_sald ok (by omega) hs.1 dL_law_276 (n := 277) rfl ?_
  refine v_aload_0 ok dL_law_277 (n := 278) rfl ?_
  refine v_iload_3 ok dL_law_278 (n := 279) rfl ?_
  refine v_iconst ok dL_law_279 (n := 280) rfl ?_
  refine v_iadd ok dL_law_280 (n := 281) rfl ?_
  refine v_sald ok (by omega) hs.1 dL_law_281 (n := 282) rfl ?_
  refine v_aload_0 ok dL_law_282 (n := 283) rfl ?_
  refine v_iload_3 ok dL_law_283 (n := 284) rfl ?_
  refine v_iconst ok dL_law_284 (n := 285) rfl ?_
  refine v_iadd ok dL_law_285 (n := 286) rfl ?_
  refine v_sald ok (by omega) hs.1 dL_law_286 (n := 287) rfl ?_
  refine v_callVI ok (mi := mi_X8_shoe) mc_X8_shoe cv_L_26 ly_200 rfl rfl rfl (by decide) hk dL_law_287 (n := 290) rfl rfl rfl (Nat.le_of_ble_eq_true rfl) h1 (fun y M2 h2 => ?_)
  obtain ⟨rfl, h2⟩ := h2
  exact v_icmp_same ok dL_law_290 (tgt := 1225) (by decide) (kk _ h2)
set_option maxHeartbeats 4000000 in
set_option maxRecDepth 100000 in
theorem l_case3 {G : zG} {γ : zF} {ad : Int → Nat} {k : Nat × Nat} {M : zM} {i : Int} (ok : zOK G γ RL cL_law 4 7 151) (hs : zsc G) (hk : k.1 ≤ (zFR γ).cells ∧ k.2 ≤ (zFR γ).slots) (hi : 0 ≤ i ∧ i + 7 ≤ (zGs G 306 : Int)) (hR : zRel M) (kk : ∀ M2, zRel M2 → zVV G γ (zw ad) k 1225 [some (zr 306), some (zr 0), some (zr 200), some (zi i)] [] M2) : zVV G γ (zw ad) k 295 [some (zr 306), some (zr 0), some (zr 200), some (zi i)] [] M := by
  refine v_aload_1 ok dL_law_295 (n := 296) rfl ?_
  refine v_aload_0 ok dL_law_296 (n := 297) rfl ?_
  refine v_iload_3 ok dL_law_297 (n := 298) rfl ?_
  refine v_iconst ok dL_law_298 (n := 299) rfl ?_
  refine v_iadd ok dL_law_299 (n := 300) rfl ?_
  refine v_sald ok (by omega) hs.1 dL_law_300 (n := 301) rfl ?_
  refine v_aload_0 ok dL_law_301 (n := 302) rfl ?_
  refine v_iload_3 ok dL_law_302 (n := 303) rfl ?_
  refine v_iconst ok dL_law_303 (n := 304) rfl ?_
  refine v_iadd ok dL_law_304 (n := 305) rfl ?_
  refine v_sald ok (by omega) hs.1 dL_law_305 (n := 306) rfl ?_
  refine v_callVI ok (mi := mi_X7_told) mc_X7_told cv_L_27 ly_0 rfl rfl rfl (by decide) hk dL_law_306 (n := 309) rfl rfl rfl (Nat.le_of_ble_eq_true rfl) (s_told (hs.2 _) (hs.2 _) hR) (fun x M1 h1 => ?_)
  refine v_aload_2 ok dL_law_309 (n := 310) rfl ?_
  refine v_aload_0 ok dL_law_310 (n := 311) rfl ?_
  refine v_iload_3 ok dL_law_311 (n := 312) rfl ?_
  refine v_iconst ok dL_law_312 (n := 313) rfl ?_
  refine v_iadd ok dL_law_313 (n := 314) rfl ?_
  refine v_sald ok (by omega) hs.1 dL_law_314 (n := 315) rfl ?_
  refine v_aload_0 ok dL_law_315 (n := 316) rfl ?_
  refine v_iload_3 ok dL_law_316 (n := 317) rfl ?_
  refine v_iconst ok dL_law_317 (n := 318) rfl ?_
  refine v_iadd ok dL_law_318 (n := 319) rfl ?_
  refine v_sald ok (by omega) hs.1 dL_law_319 (n := 320) rfl ?_
  refine v_callVI ok (mi := mi_X8_told) mc_X8_told cv_L_31 ly_200 rfl rfl rfl (by decide) hk dL_law_320 (n := 323) rfl rfl rfl (Nat.le_of_ble_eq_true rfl) h1 (fun y M2 h2 => ?_)
  obtain ⟨rfl, h2⟩ := h2
  exact v_icmp_same ok dL_law_323 (tgt := 1225) (by decide) (kk _ h2)
set_option maxHeartbeats 4000000 in
set_option maxRecDepth 100000 in
theorem l_case4 {G : zG} {γ : zF} {ad : Int → Nat} {k : Nat × Nat} {M : zM} {i : Int} (ok : zOK G γ RL cL_law 4 7 151) (hs : zsc G) (hk : k.1 ≤ (zFR γ).cells ∧ k.2 ≤ (zFR γ).slots) (hi : 0 ≤ i ∧ i + 7 ≤ (zGs G 306 : Int)) (hR : zRel M) (kk : ∀ M2, zRel M2 → zVV G γ (zw ad) k 1225 [some (zr 306), some (zr 0), some (zr 200), some (zi i)] [] M2) : zVV G γ (zw ad) k 328 [some (zr 306), some (zr 0), some (zr 200), some (zi i)] [] M := by
  refine v_aload_1 ok dL_law_328 (n := 329) rfl ?_
  refine v_aload_0 ok dL_law_329 (n := 330) rfl ?_
  refine v_iload_3 ok dL_law_330 (n := 331) rfl ?_
  refine v_iconst ok dL_law_331 (n := 332) rfl ?_
  refine v_iadd ok dL_law_332 (n := 333) rfl ?_
  refine v_sald ok (by omega) hs.1 dL_law_333 (n := 334) rfl ?_
  refine v_aload_0 ok dL_law_334 (n := 335) rfl ?_
  refine v_iload_3 ok dL_law_335 (n := 336) rfl ?_
  refine v_iconst ok dL_law_336 (n := 337) rfl ?_
  refine v_iadd ok dL_law_337 (n := 338) rfl ?_
  refine v_sald ok (by omega) hs.1 dL_law_338 (n := 339) rfl ?_
  refine v_if_eq ok dL_law_339 (tgt := 346) (by decide) (n := 342) rfl (hs.2 _) (fun cc9 => ?_) (fun cc9 => ?_)
  · have cc8 := cc9
    refine v_iconst ok dL_law_346 (n := 347) rfl ?_
    refine v_callVI ok (mi := mi_X7_lose) mc_X7_lose cv_L_32 ly_0 rfl rfl rfl (by decide) hk dL_law_347 (n := 350) rfl rfl rfl (Nat.le_of_ble_eq_true rfl) (s_lose (hs.2 _) (by decide) hR) (fun x M1 h1 => ?_)
    refine v_aload_2 ok dL_law_350 (n := 351) rfl ?_
    refine v_aload_0 ok dL_law_351 (n := 352) rfl ?_
    refine v_iload_3 ok dL_law_352 (n := 353) rfl ?_
    refine v_iconst ok dL_law_353 (n := 354) rfl ?_
    refine v_iadd ok dL_law_354 (n := 355) rfl ?_
    refine v_sald ok (by omega) hs.1 dL_law_355 (n := 356) rfl ?_
    refine v_aload_0 ok dL_law_356 (n := 357) rfl ?_
    refine v_iload_3 ok dL_law_357 (n := 358) rfl ?_
    refine v_iconst ok dL_law_358 (n := 359) rfl ?_
    refine v_iadd ok dL_law_359 (n := 360) rfl ?_
    refine v_sald ok (by omega) hs.1 dL_law_360 (n := 361) rfl ?_
    refine v_if_eq ok dL_law_361 (tgt := 368) (by decide) (n := 364) rfl (hs.2 _) (fun cc9 => ?_) (fun cc9 => ?_)
    rotate_left
    · exact absurd cc8 cc9
    refine v_iconst ok dL_law_368 (n := 369) rfl ?_
    refine v_callVI ok (mi := mi_X8_lose) mc_X8_lose cv_L_36 ly_200 rfl rfl rfl (by decide) hk dL_law_369 (n := 372) rfl rfl rfl (Nat.le_of_ble_eq_true rfl) h1 (fun y M2 h2 => ?_)
    obtain ⟨rfl, h2⟩ := h2
    exact v_icmp_same ok dL_law_372 (tgt := 1225) (by decide) (kk _ h2)
  · have cc8 := cc9
    refine v_iconst ok dL_law_342 (n := 343) rfl ?_
    refine v_goto ok dL_law_343 (n := 347) (by decide) ?_
    refine v_callVI ok (mi := mi_X7_lose) mc_X7_lose cv_L_32 ly_0 rfl rfl rfl (by decide) hk dL_law_347 (n := 350) rfl rfl rfl (Nat.le_of_ble_eq_true rfl) (s_lose (hs.2 _) (by decide) hR) (fun x M1 h1 => ?_)
    refine v_aload_2 ok dL_law_350 (n := 351) rfl ?_
    refine v_aload_0 ok dL_law_351 (n := 352) rfl ?_
    refine v_iload_3 ok dL_law_352 (n := 353) rfl ?_
    refine v_iconst ok dL_law_353 (n := 354) rfl ?_
    refine v_iadd ok dL_law_354 (n := 355) rfl ?_
    refine v_sald ok (by omega) hs.1 dL_law_355 (n := 356) rfl ?_
    refine v_aload_0 ok dL_law_356 (n := 357) rfl ?_
    refine v_iload_3 ok dL_law_357 (n := 358) rfl ?_
    refine v_iconst ok dL_law_358 (n := 359) rfl ?_
    refine v_iadd ok dL_law_359 (n := 360) rfl ?_
    refine v_sald ok (by omega) hs.1 dL_law_360 (n := 361) rfl ?_
    refine v_if_eq ok dL_law_361 (tgt := 368) (by decide) (n := 364) rfl (hs.2 _) (fun cc9 => ?_) (fun cc9 => ?_)
    · exact absurd cc9 cc8
    refine v_iconst ok dL_law_364 (n := 365) rfl ?_
    refine v_goto ok dL_law_365 (n := 369) (by decide) ?_
    refine v_callVI ok (mi := mi_X8_lose) mc_X8_lose cv_L_36 ly_200 rfl rfl rfl (by decide) hk dL_law_369 (n := 372) rfl rfl rfl (Nat.le_of_ble_eq_true rfl) h1 (fun y M2 h2 => ?_)
    obtain ⟨rfl, h2⟩ := h2
    exact v_icmp_same ok dL_law_372 (tgt := 1225) (by decide) (kk _ h2)
set_option maxHeartbeats 4000000 in
set_option maxRecDepth 100000 in
theorem l_case5 {G : zG} {γ : zF} {ad : Int → Nat} {k : Nat × Nat} {M : zM} {i : Int} (ok : zOK G γ RL cL_law 4 7 151) (hs : zsc G) (hk : k.1 ≤ (zFR γ).cells ∧ k.2 ≤ (zFR γ).slots) (hi : 0 ≤ i ∧ i + 7 ≤ (zGs G 306 : Int)) (hR : zRel M) (kk : ∀ M2, zRel M2 → zVV G γ (zw ad) k 1225 [some (zr 306), some (zr 0), some (zr 200), some (zi i)] [] M2) : zVV G γ (zw ad) k 377 [some (zr 306), some (zr 0), some (zr 200), some (zi i)] [] M := by
  refine v_aload_1 ok dL_law_377 (n := 378) rfl ?_
  refine v_aload_0 ok dL_law_378 (n := 379) rfl ?_
  refine v_iload_3 ok dL_law_379 (n := 380) rfl ?_
  refine v_iconst ok dL_law_380 (n := 381) rfl ?_
  refine v_iadd ok dL_law_381 (n := 382) rfl ?_
  refine v_sald ok (by omega) hs.1 dL_law_382 (n := 383) rfl ?_
  refine v_aload_0 ok dL_law_383 (n := 384) rfl ?_
  refine v_iload_3 ok dL_law_384 (n := 385) rfl ?_
  refine v_iconst ok dL_law_385 (n := 386) rfl ?_
  refine v_iadd ok dL_law_386 (n := 387) rfl ?_
  refine v_sald ok (by omega) hs.1 dL_law_387 (n := 388) rfl ?_
  refine v_callVI ok (mi := mi_X7_set) mc_X7_set cv_L_37 ly_0 rfl rfl rfl (by decide) hk dL_law_388 (n := 391) rfl rfl rfl (Nat.le_of_ble_eq_true rfl) (s_setg (hs.2 _) (hs.2 _) hR) (fun x M1 h1 => ?_)
  refine v_aload_2 ok dL_law_391 (n := 392) rfl ?_
  refine v_aload_0 ok dL_law_392 (n := 393) rfl ?_
  refine v_iload_3 ok dL_law_393 (n := 394) rfl ?_
  refine v_iconst ok dL_law_394 (n := 395) rfl ?_
  refine v_iadd ok dL_law_395 (n := 396) rfl ?_
  refine v_sald ok (by omega) hs.1 dL_law_396 (n := 397) rfl ?_
  refine v_aload_0 ok dL_law_397 (n := 398) rfl ?_
  refine v_iload_3 ok dL_law_398 (n := 399) rfl ?_
  refine v_iconst ok dL_law_399 (n := 400) rfl ?_
  refine v_iadd ok dL_law_400 (n := 401) rfl ?_
  refine v_sald ok (by omega) hs.1 dL_law_401 (n := 402) rfl ?_
  refine v_callVI ok (mi := mi_X8_set) mc_X8_set cv_L_40 ly_200 rfl rfl rfl (by decide) hk dL_law_402 (n := 405) rfl rfl rfl (Nat.le_of_ble_eq_true rfl) h1 (fun y M2 h2 => ?_)
  obtain ⟨rfl, h2⟩ := h2
  exact v_icmp_same ok dL_law_405 (tgt := 1225) (by decide) (kk _ h2)
set_option maxHeartbeats 4000000 in
set_option maxRecDepth 100000 in
theorem l_case6 {G : zG} {γ : zF} {ad : Int → Nat} {k : Nat × Nat} {M : zM} {i : Int} (ok : zOK G γ RL cL_law 4 7 151) (hs : zsc G) (hk : k.1 ≤ (zFR γ).cells ∧ k.2 ≤ (zFR γ).slots) (hi : 0 ≤ i ∧ i + 7 ≤ (zGs G 306 : Int)) (hR : zRel M) (kk : ∀ M2, zRel M2 → zVV G γ (zw ad) k 1225 [some (zr 306), some (zr 0), some (zr 200), some (zi i)] [] M2) : zVV G γ (zw ad) k 410 [some (zr 306), some (zr 0), some (zr 200), some (zi i)] [] M := by
  refine v_aload_1 ok dL_law_410 (n := 411) rfl ?_
  refine v_aload_0 ok dL_law_411 (n := 412) rfl ?_
  refine v_iload_3 ok dL_law_412 (n := 413) rfl ?_
  refine v_iconst ok dL_law_413 (n := 414) rfl ?_
  refine v_iadd ok dL_law_414 (n := 415) rfl ?_
  refine v_sald ok (by omega) hs.1 dL_law_415 (n := 416) rfl ?_
  refine v_aload_0 ok dL_law_416 (n := 417) rfl ?_
  refine v_iload_3 ok dL_law_417 (n := 418) rfl ?_
  refine v_iconst ok dL_law_418 (n := 419) rfl ?_
  refine v_iadd ok dL_law_419 (n := 420) rfl ?_
  refine v_sald ok (by omega) hs.1 dL_law_420 (n := 421) rfl ?_
  refine v_aload_0 ok dL_law_421 (n := 422) rfl ?_
  refine v_iload_3 ok dL_law_422 (n := 423) rfl ?_
  refine v_iconst ok dL_law_423 (n := 424) rfl ?_
  refine v_iadd ok dL_law_424 (n := 425) rfl ?_
  refine v_sald ok (by omega) hs.1 dL_law_425 (n := 426) rfl ?_
  refine v_callVI ok (mi := mi_X7_foot) mc_X7_foot cv_L_41 ly_0 rfl rfl rfl (by decide) hk dL_law_426 (n := 429) rfl rfl rfl (Nat.le_of_ble_eq_true rfl) (s_foot (hs.2 _) (hs.2 _) (hs.2 _) hR) (fun x M1 h1 => ?_)
  refine v_aload_2 ok dL_law_429 (n := 430) rfl ?_
  refine v_aload_0 ok dL_law_430 (n := 431) rfl ?_
  refine v_iload_3 ok dL_law_431 (n := 432) rfl ?_
  refine v_iconst ok dL_law_432 (n := 433) rfl ?_
  refine v_iadd ok dL_law_433 (n := 434) rfl ?_
  refine v_sald ok (by omega) hs.1 dL_law_434 (n := 435) rfl ?_
  refine v_aload_0 ok dL_law_435 (n := 436) rfl ?_
  refine v_iload_3 ok dL_law_436 (n := 437) rfl ?_
  refine v_iconst ok dL_law_437 (n := 438) rfl ?_
  refine v_iadd ok dL_law_438 (n := 439) rfl ?_
  refine v_sald ok (by omega) hs.1 dL_law_439 (n := 440) rfl ?_
  refine v_aload_0 ok dL_law_440 (n := 441) rfl ?_
  refine v_iload_3 ok dL_law_441 (n := 442) rfl ?_
  refine v_iconst ok dL_law_442 (n := 443) rfl ?_
  refine v_iadd ok dL_law_443 (n := 444) rfl ?_
  refine v_sald ok (by omega) hs.1 dL_law_444 (n := 445) rfl ?_
  refine v_callVI ok (mi := mi_X8_foot) mc_X8_foot cv_L_44 ly_200 rfl rfl rfl (by decide) hk dL_law_445 (n := 448) rfl rfl rfl (Nat.le_of_ble_eq_true rfl) h1 (fun y M2 h2 => ?_)
  obtain ⟨rfl, h2⟩ := h2
  exact v_icmp_same ok dL_law_448 (tgt := 1225) (by decide) (kk _ h2)
set_option maxHeartbeats 4000000 in
set_option maxRecDepth 100000 in
theorem l_case7 {G : zG} {γ : zF} {ad : Int → Nat} {k : Nat × Nat} {M : zM} {i : Int} (ok : zOK G γ RL cL_law 4 7 151) (hs : zsc G) (hk : k.1 ≤ (zFR γ).cells ∧ k.2 ≤ (zFR γ).slots) (hi : 0 ≤ i ∧ i + 7 ≤ (zGs G 306 : Int)) (hR : zRel M) (kk : ∀ M2, zRel M2 → zVV G γ (zw ad) k 1225 [some (zr 306), some (zr 0), some (zr 200), some (zi i)] [] M2) : zVV G γ (zw ad) k 453 [some (zr 306), some (zr 0), some (zr 200), some (zi i)] [] M := by
  refine v_aload_1 ok dL_law_453 (n := 454) rfl ?_
  refine v_aload_0 ok dL_law_454 (n := 455) rfl ?_
  refine v_iload_3 ok dL_law_455 (n := 456) rfl ?_
  refine v_iconst ok dL_law_456 (n := 457) rfl ?_
  refine v_iadd ok dL_law_457 (n := 458) rfl ?_
  refine v_sald ok (by omega) hs.1 dL_law_458 (n := 459) rfl ?_
  refine v_aload_0 ok dL_law_459 (n := 460) rfl ?_
  refine v_iload_3 ok dL_law_460 (n := 461) rfl ?_
  refine v_iconst ok dL_law_461 (n := 462) rfl ?_
  refine v_iadd ok dL_law_462 (n := 463) rfl ?_
  refine v_sald ok (by omega) hs.1 dL_law_463 (n := 464) rfl ?_
  refine v_aload_0 ok dL_law_464 (n := 465) rfl ?_
  refine v_iload_3 ok dL_law_465 (n := 466) rfl ?_
  refine v_iconst ok dL_law_466 (n := 467) rfl ?_
  refine v_iadd ok dL_law_467 (n := 468) rfl ?_
  refine v_sald ok (by omega) hs.1 dL_law_468 (n := 469) rfl ?_
  refine v_callVI ok (mi := mi_X7_asked) mc_X7_asked cv_L_45 ly_0 rfl rfl rfl (by decide) hk dL_law_469 (n := 472) rfl rfl rfl (Nat.le_of_ble_eq_true rfl) (s_asked (hs.2 _) (hs.2 _) (hs.2 _) hR) (fun x M1 h1 => ?_)
  refine v_aload_2 ok dL_law_472 (n := 473) rfl ?_
  refine v_aload_0 ok dL_law_473 (n := 474) rfl ?_
  refine v_iload_3 ok dL_law_474 (n := 475) rfl ?_
  refine v_iconst ok dL_law_475 (n := 476) rfl ?_
  refine v_iadd ok dL_law_476 (n := 477) rfl ?_
  refine v_sald ok (by omega) hs.1 dL_law_477 (n := 478) rfl ?_
  refine v_aload_0 ok dL_law_478 (n := 479) rfl ?_
  refine v_iload_3 ok dL_law_479 (n := 480) rfl ?_
  refine v_iconst ok dL_law_480 (n := 481) rfl ?_
  refine v_iadd ok dL_law_481 (n := 482) rfl ?_
  refine v_sald ok (by omega) hs.1 dL_law_482 (n := 483) rfl ?_
  refine v_aload_0 ok dL_law_483 (n := 484) rfl ?_
  refine v_iload_3 ok dL_law_484 (n := 485) rfl ?_
  refine v_iconst ok dL_law_485 (n := 486) rfl ?_
  refine v_iadd ok dL_law_486 (n := 487) rfl ?_
  refine v_sald ok (by omega) hs.1 dL_law_487 (n := 488) rfl ?_
  refine v_callVI ok (mi := mi_X8_asked) mc_X8_asked cv_L_48 ly_200 rfl rfl rfl (by decide) hk dL_law_488 (n := 491) rfl rfl rfl (Nat.le_of_ble_eq_true rfl) h1 (fun y M2 h2 => ?_)
  obtain ⟨rfl, h2⟩ := h2
  exact v_icmp_same ok dL_law_491 (tgt := 1225) (by decide) (kk _ h2)
set_option maxHeartbeats 4000000 in
set_option maxRecDepth 100000 in
theorem l_case8 {G : zG} {γ : zF} {ad : Int → Nat} {k : Nat × Nat} {M : zM} {i : Int} (ok : zOK G γ RL cL_law 4 7 151) (hs : zsc G) (hk : k.1 ≤ (zFR γ).cells ∧ k.2 ≤ (zFR γ).slots) (hi : 0 ≤ i ∧ i + 7 ≤ (zGs G 306 : Int)) (hR : zRel M) (kk : ∀ M2, zRel M2 → zVV G γ (zw ad) k 1225 [some (zr 306), some (zr 0), some (zr 200), some (zi i)] [] M2) : zVV G γ (zw ad) k 496 [some (zr 306), some (zr 0), some (zr 200), some (zi i)] [] M := by
  refine v_aload_1 ok dL_law_496 (n := 497) rfl ?_
  refine v_aload_0 ok dL_law_497 (n := 498) rfl ?_
  refine v_iload_3 ok dL_law_498 (n := 499) rfl ?_
  refine v_iconst ok dL_law_499 (n := 500) rfl ?_
  refine v_iadd ok dL_law_500 (n := 501) rfl ?_
  refine v_sald ok (by omega) hs.1 dL_law_501 (n := 502) rfl ?_
  refine v_aload_0 ok dL_law_502 (n := 503) rfl ?_
  refine v_iload_3 ok dL_law_503 (n := 504) rfl ?_
  refine v_iconst ok dL_law_504 (n := 505) rfl ?_
  refine v_iadd ok dL_law_505 (n := 506) rfl ?_
  refine v_sald ok (by omega) hs.1 dL_law_506 (n := 507) rfl ?_
  refine v_callVI ok (mi := mi_X7_whose) mc_X7_whose cv_L_49 ly_0 rfl rfl rfl (by decide) hk dL_law_507 (n := 510) rfl rfl rfl (Nat.le_of_ble_eq_true rfl) (s_whose (hs.2 _) (hs.2 _) hR) (fun x M1 h1 => ?_)
  refine v_aload_2 ok dL_law_510 (n := 511) rfl ?_
  refine v_aload_0 ok dL_law_511 (n := 512) rfl ?_
  refine v_iload_3 ok dL_law_512 (n := 513) rfl ?_
  refine v_iconst ok dL_law_513 (n := 514) rfl ?_
  refine v_iadd ok dL_law_514 (n := 515) rfl ?_
  refine v_sald ok (by omega) hs.1 dL_law_515 (n := 516) rfl ?_
  refine v_aload_0 ok dL_law_516 (n := 517) rfl ?_
  refine v_iload_3 ok dL_law_517 (n := 518) rfl ?_
  refine v_iconst ok dL_law_518 (n := 519) rfl ?_
  refine v_iadd ok dL_law_519 (n := 520) rfl ?_
  refine v_sald ok (by omega) hs.1 dL_law_520 (n := 521) rfl ?_
  refine v_callVI ok (mi := mi_X8_whose) mc_X8_whose cv_L_52 ly_200 rfl rfl rfl (by decide) hk dL_law_521 (n := 524) rfl rfl rfl (Nat.le_of_ble_eq_true rfl) h1 (fun y M2 h2 => ?_)
  obtain ⟨rfl, h2⟩ := h2
  exact v_icmp_same ok dL_law_524 (tgt := 1225) (by decide) (kk _ h2)
set_option maxHeartbeats 4000000 in
set_option maxRecDepth 100000 in
theorem l_case9 {G : zG} {γ : zF} {ad : Int → Nat} {k : Nat × Nat} {M : zM} {i : Int} (ok : zOK G γ RL cL_law 4 7 151) (hs : zsc G) (hk : k.1 ≤ (zFR γ).cells ∧ k.2 ≤ (zFR γ).slots) (hi : 0 ≤ i ∧ i + 7 ≤ (zGs G 306 : Int)) (hR : zRel M) (kk : ∀ M2, zRel M2 → zVV G γ (zw ad) k 1225 [some (zr 306), some (zr 0), some (zr 200), some (zi i)] [] M2) : zVV G γ (zw ad) k 529 [some (zr 306), some (zr 0), some (zr 200), some (zi i)] [] M := by
  refine v_aload_1 ok dL_law_529 (n := 530) rfl ?_
  refine v_aload_0 ok dL_law_530 (n := 531) rfl ?_
  refine v_iload_3 ok dL_law_531 (n := 532) rfl ?_
  refine v_iconst ok dL_law_532 (n := 533) rfl ?_
  refine v_iadd ok dL_law_533 (n := 534) rfl ?_
  refine v_sald ok (by omega) hs.1 dL_law_534 (n := 535) rfl ?_
  refine v_i2l ok (hs.2 _) dL_law_535 (n := 536) rfl ?_
  refine v_bipush ok rfl dL_law_536 (n := 538) rfl ?_
  refine v_lshl ok dL_law_538 (n := 539) rfl ?_
  refine v_aload_0 ok dL_law_539 (n := 540) rfl ?_
  refine v_iload_3 ok dL_law_540 (n := 541) rfl ?_
  refine v_iconst ok dL_law_541 (n := 542) rfl ?_
  refine v_iadd ok dL_law_542 (n := 543) rfl ?_
  refine v_sald ok (by omega) hs.1 dL_law_543 (n := 544) rfl ?_
  refine v_i2l ok (hs.2 _) dL_law_544 (n := 545) rfl ?_
  refine v_ldc2 ok (c := 4294967295) kc_L_53 (by decide) dL_law_545 (n := 548) rfl ?_
  refine v_land ok dL_law_548 (n := 549) rfl ?_
  refine v_lor ok dL_law_549 (n := 550) rfl ?_
  refine v_aload_0 ok dL_law_550 (n := 551) rfl ?_
  refine v_iload_3 ok dL_law_551 (n := 552) rfl ?_
  refine v_iconst ok dL_law_552 (n := 553) rfl ?_
  refine v_iadd ok dL_law_553 (n := 554) rfl ?_
  refine v_sald ok (by omega) hs.1 dL_law_554 (n := 555) rfl ?_
  refine v_callVI ok (mi := mi_X7_type) mc_X7_type cv_L_55 ly_0 rfl rfl rfl (by decide) hk dL_law_555 (n := 558) rfl rfl rfl (Nat.le_of_ble_eq_true rfl) (s_type (hs.2 _) hR) (fun x M1 h1 => ?_)
  refine v_aload_2 ok dL_law_558 (n := 559) rfl ?_
  refine v_aload_0 ok dL_law_559 (n := 560) rfl ?_
  refine v_iload_3 ok dL_law_560 (n := 561) rfl ?_
  refine v_iconst ok dL_law_561 (n := 562) rfl ?_
  refine v_iadd ok dL_law_562 (n := 563) rfl ?_
  refine v_sald ok (by omega) hs.1 dL_law_563 (n := 564) rfl ?_
  refine v_i2l ok (hs.2 _) dL_law_564 (n := 565) rfl ?_
  refine v_bipush ok rfl dL_law_565 (n := 567) rfl ?_
  refine v_lshl ok dL_law_567 (n := 568) rfl ?_
  refine v_aload_0 ok dL_law_568 (n := 569) rfl ?_
  refine v_iload_3 ok dL_law_569 (n := 570) rfl ?_
  refine v_iconst ok dL_law_570 (n := 571) rfl ?_
  refine v_iadd ok dL_law_571 (n := 572) rfl ?_
  refine v_sald ok (by omega) hs.1 dL_law_572 (n := 573) rfl ?_
  refine v_i2l ok (hs.2 _) dL_law_573 (n := 574) rfl ?_
  refine v_ldc2 ok (c := 4294967295) kc_L_53 (by decide) dL_law_574 (n := 577) rfl ?_
  refine v_land ok dL_law_577 (n := 578) rfl ?_
  refine v_lor ok dL_law_578 (n := 579) rfl ?_
  refine v_aload_0 ok dL_law_579 (n := 580) rfl ?_
  refine v_iload_3 ok dL_law_580 (n := 581) rfl ?_
  refine v_iconst ok dL_law_581 (n := 582) rfl ?_
  refine v_iadd ok dL_law_582 (n := 583) rfl ?_
  refine v_sald ok (by omega) hs.1 dL_law_583 (n := 584) rfl ?_
  refine v_callVI ok (mi := mi_X8_type) mc_X8_type cv_L_59 ly_200 rfl rfl rfl (by decide) hk dL_law_584 (n := 587) rfl rfl rfl (Nat.le_of_ble_eq_true rfl) h1 (fun y M2 h2 => ?_)
  obtain ⟨rfl, h2⟩ := h2
  exact v_icmp_same ok dL_law_587 (tgt := 1225) (by decide) (kk _ h2)
set_option maxHeartbeats 4000000 in
set_option maxRecDepth 100000 in
theorem l_case10 {G : zG} {γ : zF} {ad : Int → Nat} {k : Nat × Nat} {M : zM} {i : Int} (ok : zOK G γ RL cL_law 4 7 151) (hs : zsc G) (hk : k.1 ≤ (zFR γ).cells ∧ k.2 ≤ (zFR γ).slots) (hi : 0 ≤ i ∧ i + 7 ≤ (zGs G 306 : Int)) (hR : zRel M) (kk : ∀ M2, zRel M2 → zVV G γ (zw ad) k 1225 [some (zr 306), some (zr 0), some (zr 200), some (zi i)] [] M2) : zVV G γ (zw ad) k 592 [some (zr 306), some (zr 0), some (zr 200), some (zi i)] [] M := by
  refine v_aload_1 ok dL_law_592 (n := 593) rfl ?_
  refine v_callVI ok (mi := mi_X7_brides) mc_X7_brides cv_L_60 ly_0 rfl rfl rfl (by decide) hk dL_law_593 (n := 596) rfl rfl rfl (Nat.le_of_ble_eq_true rfl) (s_brides  hR) (fun x M1 h1 => ?_)
  refine v_aload_2 ok dL_law_596 (n := 597) rfl ?_
  refine v_callVI ok (mi := mi_X8_brides) mc_X8_brides cv_L_64 ly_200 rfl rfl rfl (by decide) hk dL_law_597 (n := 600) rfl rfl rfl (Nat.le_of_ble_eq_true rfl) h1 (fun y M2 h2 => ?_)
  obtain ⟨rfl, h2⟩ := h2
  exact v_icmp_same ok dL_law_600 (tgt := 1225) (by decide) (kk _ h2)
set_option maxHeartbeats 4000000 in
set_option maxRecDepth 100000 in
theorem l_case11 {G : zG} {γ : zF} {ad : Int → Nat} {k : Nat × Nat} {M : zM} {i : Int} (ok : zOK G γ RL cL_law 4 7 151) (hs : zsc G) (hk : k.1 ≤ (zFR γ).cells ∧ k.2 ≤ (zFR γ).slots) (hi : 0 ≤ i ∧ i + 7 ≤ (zGs G 306 : Int)) (hR : zRel M) (kk : ∀ M2, zRel M2 → zVV G γ (zw ad) k 1225 [some (zr 306), some (zr 0), some (zr 200), some (zi i)] [] M2) : zVV G γ (zw ad) k 605 [some (zr 306), some (zr 0), some (zr 200), some (zi i)] [] M := by
  refine v_aload_1 ok dL_law_605 (n := 606) rfl ?_
  refine v_callVI ok (mi := mi_X7_heap) mc_X7_heap cv_L_65 ly_0 rfl rfl rfl (by decide) hk dL_law_606 (n := 609) rfl rfl rfl (Nat.le_of_ble_eq_true rfl) (s_heap  hR) (fun x M1 h1 => ?_)
  refine v_aload_2 ok dL_law_609 (n := 610) rfl ?_
  refine v_callVI ok (mi := mi_X8_heap) mc_X8_heap cv_L_68 ly_200 rfl rfl rfl (by decide) hk dL_law_610 (n := 613) rfl rfl rfl (Nat.le_of_ble_eq_true rfl) h1 (fun y M2 h2 => ?_)
  obtain ⟨rfl, h2⟩ := h2
  exact v_icmp_same ok dL_law_613 (tgt := 1225) (by decide) (kk _ h2)
set_option maxHeartbeats 4000000 in
set_option maxRecDepth 100000 in
theorem l_case12 {G : zG} {γ : zF} {ad : Int → Nat} {k : Nat × Nat} {M : zM} {i : Int} (ok : zOK G γ RL cL_law 4 7 151) (hs : zsc G) (hk : k.1 ≤ (zFR γ).cells ∧ k.2 ≤ (zFR γ).slots) (hi : 0 ≤ i ∧ i + 7 ≤ (zGs G 306 : Int)) (hR : zRel M) (kk : ∀ M2, zRel M2 → zVV G γ (zw ad) k 1225 [some (zr 306), some (zr 0), some (zr 200), some (zi i)] [] M2) : zVV G γ (zw ad) k 618 [some (zr 306), some (zr 0), some (zr 200), some (zi i)] [] M := by
  refine v_aload_1 ok dL_law_618 (n := 619) rfl ?_
  refine v_aload_0 ok dL_law_619 (n := 620) rfl ?_
  refine v_iload_3 ok dL_law_620 (n := 621) rfl ?_
  refine v_iconst ok dL_law_621 (n := 622) rfl ?_
  refine v_iadd ok dL_law_622 (n := 623) rfl ?_
  refine v_sald ok (by omega) hs.1 dL_law_623 (n := 624) rfl ?_
  refine v_callVI ok (mi := mi_X7_count) mc_X7_count cv_L_69 ly_0 rfl rfl rfl (by decide) hk dL_law_624 (n := 627) rfl rfl rfl (Nat.le_of_ble_eq_true rfl) (s_count (hs.2 _) hR) (fun x M1 h1 => ?_)
  refine v_aload_2 ok dL_law_627 (n := 628) rfl ?_
  refine v_aload_0 ok dL_law_628 (n := 629) rfl ?_
  refine v_iload_3 ok dL_law_629 (n := 630) rfl ?_
  refine v_iconst ok dL_law_630 (n := 631) rfl ?_
  refine v_iadd ok dL_law_631 (n := 632) rfl ?_
  refine v_sald ok (by omega) hs.1 dL_law_632 (n := 633) rfl ?_
  refine v_callVI ok (mi := mi_X8_count) mc_X8_count cv_L_73 ly_200 rfl rfl rfl (by decide) hk dL_law_633 (n := 636) rfl rfl rfl (Nat.le_of_ble_eq_true rfl) h1 (fun y M2 h2 => ?_)
  obtain ⟨rfl, h2⟩ := h2
  exact v_icmp_same ok dL_law_636 (tgt := 1225) (by decide) (kk _ h2)
set_option maxHeartbeats 4000000 in
set_option maxRecDepth 100000 in
theorem l_case13 {G : zG} {γ : zF} {ad : Int → Nat} {k : Nat × Nat} {M : zM} {i : Int} (ok : zOK G γ RL cL_law 4 7 151) (hs : zsc G) (hk : k.1 ≤ (zFR γ).cells ∧ k.2 ≤ (zFR γ).slots) (hi : 0 ≤ i ∧ i + 7 ≤ (zGs G 306 : Int)) (hR : zRel M) (kk : ∀ M2, zRel M2 → zVV G γ (zw ad) k 1225 [some (zr 306), some (zr 0), some (zr 200), some (zi i)] [] M2) : zVV G γ (zw ad) k 641 [some (zr 306), some (zr 0), some (zr 200), some (zi i)] [] M := by
  refine v_aload_1 ok dL_law_641 (n := 642) rfl ?_
  refine v_aload_0 ok dL_law_642 (n := 643) rfl ?_
  refine v_iload_3 ok dL_law_643 (n := 644) rfl ?_
  refine v_iconst ok dL_law_644 (n := 645) rfl ?_
  refine v_iadd ok dL_law_645 (n := 646) rfl ?_
  refine v_sald ok (by omega) hs.1 dL_law_646 (n := 647) rfl ?_
  refine v_aload_0 ok dL_law_647 (n := 648) rfl ?_
  refine v_iload_3 ok dL_law_648 (n := 649) rfl ?_
  refine v_iconst ok dL_law_649 (n := 650) rfl ?_
  refine v_iadd ok dL_law_650 (n := 651) rfl ?_
  refine v_sald ok (by omega) hs.1 dL_law_651 (n := 652) rfl ?_
  refine v_callVI ok (mi := mi_X7_shod) mc_X7_shod cv_L_74 ly_0 rfl rfl rfl (by decide) hk dL_law_652 (n := 655) rfl rfl rfl (Nat.le_of_ble_eq_true rfl) (s_shod (hs.2 _) (hs.2 _) hR) (fun x M1 h1 => ?_)
  refine v_aload_2 ok dL_law_655 (n := 656) rfl ?_
  refine v_aload_0 ok dL_law_656 (n := 657) rfl ?_
  refine v_iload_3 ok dL_law_657 (n := 658) rfl ?_
  refine v_iconst ok dL_law_658 (n := 659) rfl ?_
  refine v_iadd ok dL_law_659 (n := 660) rfl ?_
  refine v_sald ok (by omega) hs.1 dL_law_660 (n := 661) rfl ?_
  refine v_aload_0 ok dL_law_661 (n := 662) rfl ?_
  refine v_iload_3 ok dL_law_662 (n := 663) rfl ?_
  refine v_iconst ok dL_law_663 (n := 664) rfl ?_
  refine v_iadd ok dL_law_664 (n := 665) rfl ?_
  refine v_sald ok (by omega) hs.1 dL_law_665 (n := 666) rfl ?_
  refine v_callVI ok (mi := mi_X8_shod) mc_X8_shod cv_L_77 ly_200 rfl rfl rfl (by decide) hk dL_law_666 (n := 669) rfl rfl rfl (Nat.le_of_ble_eq_true rfl) h1 (fun y M2 h2 => ?_)
  obtain ⟨rfl, h2⟩ := h2
  exact v_icmp_same ok dL_law_669 (tgt := 1225) (by decide) (kk _ h2)
set_option maxHeartbeats 4000000 in
set_option maxRecDepth 100000 in
theorem l_case14 {G : zG} {γ : zF} {ad : Int → Nat} {k : Nat × Nat} {M : zM} {i : Int} (ok : zOK G γ RL cL_law 4 7 151) (hs : zsc G) (hk : k.1 ≤ (zFR γ).cells ∧ k.2 ≤ (zFR γ).slots) (hi : 0 ≤ i ∧ i + 7 ≤ (zGs G 306 : Int)) (hR : zRel M) (kk : ∀ M2, zRel M2 → zVV G γ (zw ad) k 1225 [some (zr 306), some (zr 0), some (zr 200), some (zi i)] [] M2) : zVV G γ (zw ad) k 674 [some (zr 306), some (zr 0), some (zr 200), some (zi i)] [] M := by
  refine v_aload_1 ok dL_law_674 (n := 675) rfl ?_
  refine v_aload_0 ok dL_law_675 (n := 676) rfl ?_
  refine v_iload_3 ok dL_law_676 (n := 677) rfl ?_
  refine v_iconst ok dL_law_677 (n := 678) rfl ?_
  refine v_iadd ok dL_law_678 (n := 679) rfl ?_
  refine v_sald ok (by omega) hs.1 dL_law_679 (n := 680) rfl ?_
  refine v_callVI ok (mi := mi_X7_most) mc_X7_most cv_L_78 ly_0 rfl rfl rfl (by decide) hk dL_law_680 (n := 683) rfl rfl rfl (Nat.le_of_ble_eq_true rfl) (s_most (hs.2 _) hR) (fun x M1 h1 => ?_)
  refine v_aload_2 ok dL_law_683 (n := 684) rfl ?_
  refine v_aload_0 ok dL_law_684 (n := 685) rfl ?_
  refine v_iload_3 ok dL_law_685 (n := 686) rfl ?_
  refine v_iconst ok dL_law_686 (n := 687) rfl ?_
  refine v_iadd ok dL_law_687 (n := 688) rfl ?_
  refine v_sald ok (by omega) hs.1 dL_law_688 (n := 689) rfl ?_
  refine v_callVI ok (mi := mi_X8_most) mc_X8_most cv_L_81 ly_200 rfl rfl rfl (by decide) hk dL_law_689 (n := 692) rfl rfl rfl (Nat.le_of_ble_eq_true rfl) h1 (fun y M2 h2 => ?_)
  obtain ⟨rfl, h2⟩ := h2
  exact v_icmp_same ok dL_law_692 (tgt := 1225) (by decide) (kk _ h2)
set_option maxHeartbeats 4000000 in
set_option maxRecDepth 100000 in
theorem l_case15 {G : zG} {γ : zF} {ad : Int → Nat} {k : Nat × Nat} {M : zM} {i : Int} (ok : zOK G γ RL cL_law 4 7 151) (hs : zsc G) (hk : k.1 ≤ (zFR γ).cells ∧ k.2 ≤ (zFR γ).slots) (hi : 0 ≤ i ∧ i + 7 ≤ (zGs G 306 : Int)) (hR : zRel M) (kk : ∀ M2, zRel M2 → zVV G γ (zw ad) k 1225 [some (zr 306), some (zr 0), some (zr 200), some (zi i)] [] M2) : zVV G γ (zw ad) k 697 [some (zr 306), some (zr 0), some (zr 200), some (zi i)] [] M := by
  refine v_aload_1 ok dL_law_697 (n := 698) rfl ?_
  refine v_aload_0 ok dL_law_698 (n := 699) rfl ?_
  refine v_iload_3 ok dL_law_699 (n := 700) rfl ?_
  refine v_iconst ok dL_law_700 (n := 701) rfl ?_
  refine v_iadd ok dL_law_701 (n := 702) rfl ?_
  refine v_sald ok (by omega) hs.1 dL_law_702 (n := 703) rfl ?_
  refine v_callVI ok (mi := mi_X7_chain) mc_X7_chain cv_L_82 ly_0 rfl rfl rfl (by decide) hk dL_law_703 (n := 706) rfl rfl rfl (Nat.le_of_ble_eq_true rfl) (s_chain (hs.2 _) hR) (fun x M1 h1 => ?_)
  refine v_aload_2 ok dL_law_706 (n := 707) rfl ?_
  refine v_aload_0 ok dL_law_707 (n := 708) rfl ?_
  refine v_iload_3 ok dL_law_708 (n := 709) rfl ?_
  refine v_iconst ok dL_law_709 (n := 710) rfl ?_
  refine v_iadd ok dL_law_710 (n := 711) rfl ?_
  refine v_sald ok (by omega) hs.1 dL_law_711 (n := 712) rfl ?_
  refine v_callVI ok (mi := mi_X8_chain) mc_X8_chain cv_L_85 ly_200 rfl rfl rfl (by decide) hk dL_law_712 (n := 715) rfl rfl rfl (Nat.le_of_ble_eq_true rfl) h1 (fun y M2 h2 => ?_)
  obtain ⟨rfl, h2⟩ := h2
  exact v_icmp_same ok dL_law_715 (tgt := 1225) (by decide) (kk _ h2)
set_option maxHeartbeats 4000000 in
set_option maxRecDepth 100000 in
theorem l_case16 {G : zG} {γ : zF} {ad : Int → Nat} {k : Nat × Nat} {M : zM} {i : Int} (ok : zOK G γ RL cL_law 4 7 151) (hs : zsc G) (hk : k.1 ≤ (zFR γ).cells ∧ k.2 ≤ (zFR γ).slots) (hi : 0 ≤ i ∧ i + 7 ≤ (zGs G 306 : Int)) (hR : zRel M) (kk : ∀ M2, zRel M2 → zVV G γ (zw ad) k 1225 [some (zr 306), some (zr 0), some (zr 200), some (zi i)] [] M2) : zVV G γ (zw ad) k 720 [some (zr 306), some (zr 0), some (zr 200), some (zi i)] [] M := by
  refine v_aload_1 ok dL_law_720 (n := 721) rfl ?_
  refine v_aload_0 ok dL_law_721 (n := 722) rfl ?_
  refine v_iload_3 ok dL_law_722 (n := 723) rfl ?_
  refine v_iconst ok dL_law_723 (n := 724) rfl ?_
  refine v_iadd ok dL_law_724 (n := 725) rfl ?_
  refine v_sald ok (by omega) hs.1 dL_law_725 (n := 726) rfl ?_
  refine v_aload_0 ok dL_law_726 (n := 727) rfl ?_
  refine v_iload_3 ok dL_law_727 (n := 728) rfl ?_
  refine v_iconst ok dL_law_728 (n := 729) rfl ?_
  refine v_iadd ok dL_law_729 (n := 730) rfl ?_
  refine v_sald ok (by omega) hs.1 dL_law_730 (n := 731) rfl ?_
  refine v_aload_0 ok dL_law_731 (n := 732) rfl ?_
  refine v_iload_3 ok dL_law_732 (n := 733) rfl ?_
  refine v_iconst ok dL_law_733 (n := 734) rfl ?_
  refine v_iadd ok dL_law_734 (n := 735) rfl ?_
  refine v_sald ok (by omega) hs.1 dL_law_735 (n := 736) rfl ?_
  refine v_callVI ok (mi := mi_X7_limps) mc_X7_limps cv_L_86 ly_0 rfl rfl rfl (by decide) hk dL_law_736 (n := 739) rfl rfl rfl (Nat.le_of_ble_eq_true rfl) (s_limps (hs.2 _) (hs.2 _) (hs.2 _) hR) (fun x M1 h1 => ?_)
  refine v_aload_2 ok dL_law_739 (n := 740) rfl ?_
  refine v_aload_0 ok dL_law_740 (n := 741) rfl ?_
  refine v_iload_3 ok dL_law_741 (n := 742) rfl ?_
  refine v_iconst ok dL_law_742 (n := 743) rfl ?_
  refine v_iadd ok dL_law_743 (n := 744) rfl ?_
  refine v_sald ok (by omega) hs.1 dL_law_744 (n := 745) rfl ?_
  refine v_aload_0 ok dL_law_745 (n := 746) rfl ?_
  refine v_iload_3 ok dL_law_746 (n := 747) rfl ?_
  refine v_iconst ok dL_law_747 (n := 748) rfl ?_
  refine v_iadd ok dL_law_748 (n := 749) rfl ?_
  refine v_sald ok (by omega) hs.1 dL_law_749 (n := 750) rfl ?_
  refine v_aload_0 ok dL_law_750 (n := 751) rfl ?_
  refine v_iload_3 ok dL_law_751 (n := 752) rfl ?_
  refine v_iconst ok dL_law_752 (n := 753) rfl ?_
  refine v_iadd ok dL_law_753 (n := 754) rfl ?_
  refine v_sald ok (by omega) hs.1 dL_law_754 (n := 755) rfl ?_
  refine v_callVI ok (mi := mi_X8_limps) mc_X8_limps cv_L_89 ly_200 rfl rfl rfl (by decide) hk dL_law_755 (n := 758) rfl rfl rfl (Nat.le_of_ble_eq_true rfl) h1 (fun y M2 h2 => ?_)
  obtain ⟨rfl, h2⟩ := h2
  exact v_icmp_same ok dL_law_758 (tgt := 1225) (by decide) (kk _ h2)
set_option maxHeartbeats 4000000 in
set_option maxRecDepth 100000 in
theorem l_case17 {G : zG} {γ : zF} {ad : Int → Nat} {k : Nat × Nat} {M : zM} {i : Int} (ok : zOK G γ RL cL_law 4 7 151) (hs : zsc G) (hk : k.1 ≤ (zFR γ).cells ∧ k.2 ≤ (zFR γ).slots) (hi : 0 ≤ i ∧ i + 7 ≤ (zGs G 306 : Int)) (hR : zRel M) (kk : ∀ M2, zRel M2 → zVV G γ (zw ad) k 1225 [some (zr 306), some (zr 0), some (zr 200), some (zi i)] [] M2) : zVV G γ (zw ad) k 763 [some (zr 306), some (zr 0), some (zr 200), some (zi i)] [] M := by
  refine v_aload_1 ok dL_law_763 (n := 764) rfl ?_
  refine v_aload_0 ok dL_law_764 (n := 765) rfl ?_
  refine v_iload_3 ok dL_law_765 (n := 766) rfl ?_
  refine v_iconst ok dL_law_766 (n := 767) rfl ?_
  refine v_iadd ok dL_law_767 (n := 768) rfl ?_
  refine v_sald ok (by omega) hs.1 dL_law_768 (n := 769) rfl ?_
  refine v_aload_0 ok dL_law_769 (n := 770) rfl ?_
  refine v_iload_3 ok dL_law_770 (n := 771) rfl ?_
  refine v_iconst ok dL_law_771 (n := 772) rfl ?_
  refine v_iadd ok dL_law_772 (n := 773) rfl ?_
  refine v_sald ok (by omega) hs.1 dL_law_773 (n := 774) rfl ?_
  refine v_aload_0 ok dL_law_774 (n := 775) rfl ?_
  refine v_iload_3 ok dL_law_775 (n := 776) rfl ?_
  refine v_iconst ok dL_law_776 (n := 777) rfl ?_
  refine v_iadd ok dL_law_777 (n := 778) rfl ?_
  refine v_sald ok (by omega) hs.1 dL_law_778 (n := 779) rfl ?_
  refine v_aload_0 ok dL_law_779 (n := 780) rfl ?_
  refine v_iload_3 ok dL_law_780 (n := 781) rfl ?_
  refine v_iconst ok dL_law_781 (n := 782) rfl ?_
  refine v_iadd ok dL_law_782 (n := 783) rfl ?_
  refine v_sald ok (by omega) hs.1 dL_law_783 (n := 784) rfl ?_
  refine v_callVI ok (mi := mi_X7_tries) mc_X7_tries cv_L_90 ly_0 rfl rfl rfl (by decide) hk dL_law_784 (n := 787) rfl rfl rfl (Nat.le_of_ble_eq_true rfl) (s_tries (hs.2 _) (hs.2 _) (hs.2 _) (hs.2 _) hR) (fun x M1 h1 => ?_)
  refine v_aload_2 ok dL_law_787 (n := 788) rfl ?_
  refine v_aload_0 ok dL_law_788 (n := 789) rfl ?_
  refine v_iload_3 ok dL_law_789 (n := 790) rfl ?_
  refine v_iconst ok dL_law_790 (n := 791) rfl ?_
  refine v_iadd ok dL_law_791 (n := 792) rfl ?_
  refine v_sald ok (by omega) hs.1 dL_law_792 (n := 793) rfl ?_
  refine v_aload_0 ok dL_law_793 (n := 794) rfl ?_
  refine v_iload_3 ok dL_law_794 (n := 795) rfl ?_
  refine v_iconst ok dL_law_795 (n := 796) rfl ?_
  refine v_iadd ok dL_law_796 (n := 797) rfl ?_
  refine v_sald ok (by omega) hs.1 dL_law_797 (n := 798) rfl ?_
  refine v_aload_0 ok dL_law_798 (n := 799) rfl ?_
  refine v_iload_3 ok dL_law_799 (n := 800) rfl ?_
  refine v_iconst ok dL_law_800 (n := 801) rfl ?_
  refine v_iadd ok dL_law_801 (n := 802) rfl ?_
  refine v_sald ok (by omega) hs.1 dL_law_802 (n := 803) rfl ?_
  refine v_aload_0 ok dL_law_803 (n := 804) rfl ?_
  refine v_iload_3 ok dL_law_804 (n := 805) rfl ?_
  refine v_iconst ok dL_law_805 (n := 806) rfl ?_
  refine v_iadd ok dL_law_806 (n := 807) rfl ?_
  refine v_sald ok (by omega) hs.1 dL_law_807 (n := 808) rfl ?_
  refine v_callVI ok (mi := mi_X8_tries) mc_X8_tries cv_L_93 ly_200 rfl rfl rfl (by decide) hk dL_law_808 (n := 811) rfl rfl rfl (Nat.le_of_ble_eq_true rfl) h1 (fun y M2 h2 => ?_)
  obtain ⟨rfl, h2⟩ := h2
  exact v_icmp_same ok dL_law_811 (tgt := 1225) (by decide) (kk _ h2)
set_option maxHeartbeats 4000000 in
set_option maxRecDepth 100000 in
theorem l_case18 {G : zG} {γ : zF} {ad : Int → Nat} {k : Nat × Nat} {M : zM} {i : Int} (ok : zOK G γ RL cL_law 4 7 151) (hs : zsc G) (hk : k.1 ≤ (zFR γ).cells ∧ k.2 ≤ (zFR γ).slots) (hi : 0 ≤ i ∧ i + 7 ≤ (zGs G 306 : Int)) (hR : zRel M) (kk : ∀ M2, zRel M2 → zVV G γ (zw ad) k 1225 [some (zr 306), some (zr 0), some (zr 200), some (zi i)] [] M2) : zVV G γ (zw ad) k 816 [some (zr 306), some (zr 0), some (zr 200), some (zi i)] [] M := by
  refine v_aload_1 ok dL_law_816 (n := 817) rfl ?_
  refine v_callVI ok (mi := mi_X7_image) mc_X7_image cv_L_94 ly_0 rfl rfl rfl (by decide) hk dL_law_817 (n := 820) rfl rfl rfl (Nat.le_of_ble_eq_true rfl) (s_image  hR) (fun x M1 h1 => ?_)
  refine v_aload_2 ok dL_law_820 (n := 821) rfl ?_
  refine v_callVI ok (mi := mi_X8_image) mc_X8_image cv_L_97 ly_200 rfl rfl rfl (by decide) hk dL_law_821 (n := 824) rfl rfl rfl (Nat.le_of_ble_eq_true rfl) h1 (fun y M2 h2 => ?_)
  obtain ⟨rfl, h2⟩ := h2
  exact v_icmp_same ok dL_law_824 (tgt := 1225) (by decide) (kk _ h2)
set_option maxHeartbeats 4000000 in
set_option maxRecDepth 100000 in
theorem l_case19 {G : zG} {γ : zF} {ad : Int → Nat} {k : Nat × Nat} {M : zM} {i : Int} (ok : zOK G γ RL cL_law 4 7 151) (hs : zsc G) (hk : k.1 ≤ (zFR γ).cells ∧ k.2 ≤ (zFR γ).slots) (hi : 0 ≤ i ∧ i + 7 ≤ (zGs G 306 : Int)) (hR : zRel M) (kk : ∀ M2, zRel M2 → zVV G γ (zw ad) k 1225 [some (zr 306), some (zr 0), some (zr 200), some (zi i)] [] M2) : zVV G γ (zw ad) k 829 [some (zr 306), some (zr 0), some (zr 200), some (zi i)] [] M := by
  refine v_aload_1 ok dL_law_829 (n := 830) rfl ?_
  refine v_callVI ok (mi := mi_X7_restore) mc_X7_restore cv_L_98 ly_0 rfl rfl rfl (by decide) hk dL_law_830 (n := 833) rfl rfl rfl (Nat.le_of_ble_eq_true rfl) (s_restore  hR) (fun x M1 h1 => ?_)
  refine v_aload_2 ok dL_law_833 (n := 834) rfl ?_
  refine v_callVI ok (mi := mi_X8_restore) mc_X8_restore cv_L_101 ly_200 rfl rfl rfl (by decide) hk dL_law_834 (n := 837) rfl rfl rfl (Nat.le_of_ble_eq_true rfl) h1 (fun y M2 h2 => ?_)
  obtain ⟨rfl, h2⟩ := h2
  exact v_icmp_same ok dL_law_837 (tgt := 1225) (by decide) (kk _ h2)
set_option maxHeartbeats 4000000 in
set_option maxRecDepth 100000 in
theorem l_case20 {G : zG} {γ : zF} {ad : Int → Nat} {k : Nat × Nat} {M : zM} {i : Int} (ok : zOK G γ RL cL_law 4 7 151) (hs : zsc G) (hk : k.1 ≤ (zFR γ).cells ∧ k.2 ≤ (zFR γ).slots) (hi : 0 ≤ i ∧ i + 7 ≤ (zGs G 306 : Int)) (hR : zRel M) (kk : ∀ M2, zRel M2 → zVV G γ (zw ad) k 1225 [some (zr 306), some (zr 0), some (zr 200), some (zi i)] [] M2) : zVV G γ (zw ad) k 842 [some (zr 306), some (zr 0), some (zr 200), some (zi i)] [] M := by
  refine v_aload_1 ok dL_law_842 (n := 843) rfl ?_
  refine v_aload_0 ok dL_law_843 (n := 844) rfl ?_
  refine v_iload_3 ok dL_law_844 (n := 845) rfl ?_
  refine v_iconst ok dL_law_845 (n := 846) rfl ?_
  refine v_iadd ok dL_law_846 (n := 847) rfl ?_
  refine v_sald ok (by omega) hs.1 dL_law_847 (n := 848) rfl ?_
  refine v_aload_0 ok dL_law_848 (n := 849) rfl ?_
  refine v_iload_3 ok dL_law_849 (n := 850) rfl ?_
  refine v_iconst ok dL_law_850 (n := 851) rfl ?_
  refine v_iadd ok dL_law_851 (n := 852) rfl ?_
  refine v_sald ok (by omega) hs.1 dL_law_852 (n := 853) rfl ?_
  refine v_aload_0 ok dL_law_853 (n := 854) rfl ?_
  refine v_iload_3 ok dL_law_854 (n := 855) rfl ?_
  refine v_iconst ok dL_law_855 (n := 856) rfl ?_
  refine v_iadd ok dL_law_856 (n := 857) rfl ?_
  refine v_sald ok (by omega) hs.1 dL_law_857 (n := 858) rfl ?_
  refine v_aload_0 ok dL_law_858 (n := 859) rfl ?_
  refine v_iload_3 ok dL_law_859 (n := 860) rfl ?_
  refine v_iconst ok dL_law_860 (n := 861) rfl ?_
  refine v_iadd ok dL_law_861 (n := 862) rfl ?_
  refine v_sald ok (by omega) hs.1 dL_law_862 (n := 863) rfl ?_
  refine v_aload_0 ok dL_law_863 (n := 864) rfl ?_
  refine v_iload_3 ok dL_law_864 (n := 865) rfl ?_
  refine v_iconst ok dL_law_865 (n := 866) rfl ?_
  refine v_iadd ok dL_law_866 (n := 867) rfl ?_
  refine v_sald ok (by omega) hs.1 dL_law_867 (n := 868) rfl ?_
  refine v_aload_0 ok dL_law_868 (n := 869) rfl ?_
  refine v_iload_3 ok dL_law_869 (n := 870) rfl ?_
  refine v_bipush ok rfl dL_law_870 (n := 872) rfl ?_
  refine v_iadd ok dL_law_872 (n := 873) rfl ?_
  refine v_sald ok (by omega) hs.1 dL_law_873 (n := 874) rfl ?_
  refine v_callVI ok (mi := mi_X7_changed) mc_X7_changed cv_L_102 ly_0 rfl rfl rfl (by decide) hk dL_law_874 (n := 877) rfl rfl rfl (Nat.le_of_ble_eq_true rfl) (s_changed (hs.2 _) (hs.2 _) (hs.2 _) (hs.2 _) (hs.2 _) (hs.2 _) hR) (fun x M1 h1 => ?_)
  refine v_aload_2 ok dL_law_877 (n := 878) rfl ?_
  refine v_aload_0 ok dL_law_878 (n := 879) rfl ?_
  refine v_iload_3 ok dL_law_879 (n := 880) rfl ?_
  refine v_iconst ok dL_law_880 (n := 881) rfl ?_
  refine v_iadd ok dL_law_881 (n := 882) rfl ?_
  refine v_sald ok (by omega) hs.1 dL_law_882 (n := 883) rfl ?_
  refine v_aload_0 ok dL_law_883 (n := 884) rfl ?_
  refine v_iload_3 ok dL_law_884 (n := 885) rfl ?_
  refine v_iconst ok dL_law_885 (n := 886) rfl ?_
  refine v_iadd ok dL_law_886 (n := 887) rfl ?_
  refine v_sald ok (by omega) hs.1 dL_law_887 (n := 888) rfl ?_
  refine v_aload_0 ok dL_law_888 (n := 889) rfl ?_
  refine v_iload_3 ok dL_law_889 (n := 890) rfl ?_
  refine v_iconst ok dL_law_890 (n := 891) rfl ?_
  refine v_iadd ok dL_law_891 (n := 892) rfl ?_
  refine v_sald ok (by omega) hs.1 dL_law_892 (n := 893) rfl ?_
  refine v_aload_0 ok dL_law_893 (n := 894) rfl ?_
  refine v_iload_3 ok dL_law_894 (n := 895) rfl ?_
  refine v_iconst ok dL_law_895 (n := 896) rfl ?_
  refine v_iadd ok dL_law_896 (n := 897) rfl ?_
  refine v_sald ok (by omega) hs.1 dL_law_897 (n := 898) rfl ?_
  refine v_aload_0 ok dL_law_898 (n := 899) rfl ?_
  refine v_iload_3 ok dL_law_899 (n := 900) rfl ?_
  refine v_iconst ok dL_law_900 (n := 901) rfl ?_
  refine v_iadd ok dL_law_901 (n := 902) rfl ?_
  refine v_sald ok (by omega) hs.1 dL_law_902 (n := 903) rfl ?_
  refine v_aload_0 ok dL_law_903 (n := 904) rfl ?_
  refine v_iload_3 ok dL_law_904 (n := 905) rfl ?_
  refine v_bipush ok rfl dL_law_905 (n := 907) rfl ?_
  refine v_iadd ok dL_law_907 (n := 908) rfl ?_
  refine v_sald ok (by omega) hs.1 dL_law_908 (n := 909) rfl ?_
  refine v_callVI ok (mi := mi_X8_changed) mc_X8_changed cv_L_106 ly_200 rfl rfl rfl (by decide) hk dL_law_909 (n := 912) rfl rfl rfl (Nat.le_of_ble_eq_true rfl) h1 (fun y M2 h2 => ?_)
  obtain ⟨rfl, h2⟩ := h2
  exact v_icmp_same ok dL_law_912 (tgt := 1225) (by decide) (kk _ h2)
set_option maxHeartbeats 4000000 in
set_option maxRecDepth 100000 in
theorem l_case21 {G : zG} {γ : zF} {ad : Int → Nat} {k : Nat × Nat} {M : zM} {i : Int} (ok : zOK G γ RL cL_law 4 7 151) (hs : zsc G) (hk : k.1 ≤ (zFR γ).cells ∧ k.2 ≤ (zFR γ).slots) (hi : 0 ≤ i ∧ i + 7 ≤ (zGs G 306 : Int)) (hR : zRel M) (kk : ∀ M2, zRel M2 → zVV G γ (zw ad) k 1225 [some (zr 306), some (zr 0), some (zr 200), some (zi i)] [] M2) : zVV G γ (zw ad) k 917 [some (zr 306), some (zr 0), some (zr 200), some (zi i)] [] M := by
  refine v_aload_1 ok dL_law_917 (n := 918) rfl ?_
  refine v_aload_0 ok dL_law_918 (n := 919) rfl ?_
  refine v_iload_3 ok dL_law_919 (n := 920) rfl ?_
  refine v_iconst ok dL_law_920 (n := 921) rfl ?_
  refine v_iadd ok dL_law_921 (n := 922) rfl ?_
  refine v_sald ok (by omega) hs.1 dL_law_922 (n := 923) rfl ?_
  refine v_aload_0 ok dL_law_923 (n := 924) rfl ?_
  refine v_iload_3 ok dL_law_924 (n := 925) rfl ?_
  refine v_iconst ok dL_law_925 (n := 926) rfl ?_
  refine v_iadd ok dL_law_926 (n := 927) rfl ?_
  refine v_sald ok (by omega) hs.1 dL_law_927 (n := 928) rfl ?_
  refine v_aload_0 ok dL_law_928 (n := 929) rfl ?_
  refine v_iload_3 ok dL_law_929 (n := 930) rfl ?_
  refine v_iconst ok dL_law_930 (n := 931) rfl ?_
  refine v_iadd ok dL_law_931 (n := 932) rfl ?_
  refine v_sald ok (by omega) hs.1 dL_law_932 (n := 933) rfl ?_
  refine v_aload_0 ok dL_law_933 (n := 934) rfl ?_
  refine v_iload_3 ok dL_law_934 (n := 935) rfl ?_
  refine v_iconst ok dL_law_935 (n := 936) rfl ?_
  refine v_iadd ok dL_law_936 (n := 937) rfl ?_
  refine v_sald ok (by omega) hs.1 dL_law_937 (n := 938) rfl ?_
  refine v_aload_0 ok dL_law_938 (n := 939) rfl ?_
  refine v_iload_3 ok dL_law_939 (n := 940) rfl ?_
  refine v_iconst ok dL_law_940 (n := 941) rfl ?_
  refine v_iadd ok dL_law_941 (n := 942) rfl ?_
  refine v_sald ok (by omega) hs.1 dL_law_942 (n := 943) rfl ?_
  refine v_callVI ok (mi := mi_X7_firm) mc_X7_firm cv_L_107 ly_0 rfl rfl rfl (by decide) hk dL_law_943 (n := 946) rfl rfl rfl (Nat.le_of_ble_eq_true rfl) (s_firm (hs.2 _) (hs.2 _) (hs.2 _) (hs.2 _) (hs.2 _) hR) (fun x M1 h1 => ?_)
  refine v_aload_2 ok dL_law_946 (n := 947) rfl ?_
  refine v_aload_0 ok dL_law_947 (n := 948) rfl ?_
  refine v_iload_3 ok dL_law_948 (n := 949) rfl ?_
  refine v_iconst ok dL_law_949 (n := 950) rfl ?_
  refine v_iadd ok dL_law_950 (n := 951) rfl ?_
  refine v_sald ok (by omega) hs.1 dL_law_951 (n := 952) rfl ?_
  refine v_aload_0 ok dL_law_952 (n := 953) rfl ?_
  refine v_iload_3 ok dL_law_953 (n := 954) rfl ?_
  refine v_iconst ok dL_law_954 (n := 955) rfl ?_
  refine v_iadd ok dL_law_955 (n := 956) rfl ?_
  refine v_sald ok (by omega) hs.1 dL_law_956 (n := 957) rfl ?_
  refine v_aload_0 ok dL_law_957 (n := 958) rfl ?_
  refine v_iload_3 ok dL_law_958 (n := 959) rfl ?_
  refine v_iconst ok dL_law_959 (n := 960) rfl ?_
  refine v_iadd ok dL_law_960 (n := 961) rfl ?_
  refine v_sald ok (by omega) hs.1 dL_law_961 (n := 962) rfl ?_
  refine v_aload_0 ok dL_law_962 (n := 963) rfl ?_
  refine v_iload_3 ok dL_law_963 (n := 964) rfl ?_
  refine v_iconst ok dL_law_964 (n := 965) rfl ?_
  refine v_iadd ok dL_law_965 (n := 966) rfl ?_
  refine v_sald ok (by omega) hs.1 dL_law_966 (n := 967) rfl ?_
  refine v_aload_0 ok dL_law_967 (n := 968) rfl ?_
  refine v_iload_3 ok dL_law_968 (n := 969) rfl ?_
  refine v_iconst ok dL_law_969 (n := 970) rfl ?_
  refine v_iadd ok dL_law_970 (n := 971) rfl ?_
  refine v_sald ok (by omega) hs.1 dL_law_971 (n := 972) rfl ?_
  refine v_callVI ok (mi := mi_X8_firm) mc_X8_firm cv_L_111 ly_200 rfl rfl rfl (by decide) hk dL_law_972 (n := 975) rfl rfl rfl (Nat.le_of_ble_eq_true rfl) h1 (fun y M2 h2 => ?_)
  obtain ⟨rfl, h2⟩ := h2
  exact v_icmp_same ok dL_law_975 (tgt := 1225) (by decide) (kk _ h2)
set_option maxHeartbeats 4000000 in
set_option maxRecDepth 100000 in
theorem l_case22 {G : zG} {γ : zF} {ad : Int → Nat} {k : Nat × Nat} {M : zM} {i : Int} (ok : zOK G γ RL cL_law 4 7 151) (hs : zsc G) (hk : k.1 ≤ (zFR γ).cells ∧ k.2 ≤ (zFR γ).slots) (hi : 0 ≤ i ∧ i + 7 ≤ (zGs G 306 : Int)) (hR : zRel M) (kk : ∀ M2, zRel M2 → zVV G γ (zw ad) k 1225 [some (zr 306), some (zr 0), some (zr 200), some (zi i)] [] M2) : zVV G γ (zw ad) k 980 [some (zr 306), some (zr 0), some (zr 200), some (zi i)] [] M := by
  refine v_aload_1 ok dL_law_980 (n := 981) rfl ?_
  refine v_aload_0 ok dL_law_981 (n := 982) rfl ?_
  refine v_iload_3 ok dL_law_982 (n := 983) rfl ?_
  refine v_iconst ok dL_law_983 (n := 984) rfl ?_
  refine v_iadd ok dL_law_984 (n := 985) rfl ?_
  refine v_sald ok (by omega) hs.1 dL_law_985 (n := 986) rfl ?_
  refine v_aload_0 ok dL_law_986 (n := 987) rfl ?_
  refine v_iload_3 ok dL_law_987 (n := 988) rfl ?_
  refine v_iconst ok dL_law_988 (n := 989) rfl ?_
  refine v_iadd ok dL_law_989 (n := 990) rfl ?_
  refine v_sald ok (by omega) hs.1 dL_law_990 (n := 991) rfl ?_
  refine v_aload_0 ok dL_law_991 (n := 992) rfl ?_
  refine v_iload_3 ok dL_law_992 (n := 993) rfl ?_
  refine v_iconst ok dL_law_993 (n := 994) rfl ?_
  refine v_iadd ok dL_law_994 (n := 995) rfl ?_
  refine v_sald ok (by omega) hs.1 dL_law_995 (n := 996) rfl ?_
  refine v_aload_0 ok dL_law_996 (n := 997) rfl ?_
  refine v_iload_3 ok dL_law_997 (n := 998) rfl ?_
  refine v_iconst ok dL_law_998 (n := 999) rfl ?_
  refine v_iadd ok dL_law_999 (n := 1000) rfl ?_
  refine v_sald ok (by omega) hs.1 dL_law_1000 (n := 1001) rfl ?_
  refine v_aload_0 ok dL_law_1001 (n := 1002) rfl ?_
  refine v_iload_3 ok dL_law_1002 (n := 1003) rfl ?_
  refine v_iconst ok dL_law_1003 (n := 1004) rfl ?_
  refine v_iadd ok dL_law_1004 (n := 1005) rfl ?_
  refine v_sald ok (by omega) hs.1 dL_law_1005 (n := 1006) rfl ?_
  refine v_callVI ok (mi := mi_X7_judged) mc_X7_judged cv_L_112 ly_0 rfl rfl rfl (by decide) hk dL_law_1006 (n := 1009) rfl rfl rfl (Nat.le_of_ble_eq_true rfl) (s_judged (hs.2 _) (hs.2 _) (hs.2 _) (hs.2 _) (hs.2 _) hR) (fun x M1 h1 => ?_)
  refine v_aload_2 ok dL_law_1009 (n := 1010) rfl ?_
  refine v_aload_0 ok dL_law_1010 (n := 1011) rfl ?_
  refine v_iload_3 ok dL_law_1011 (n := 1012) rfl ?_
  refine v_iconst ok dL_law_1012 (n := 1013) rfl ?_
  refine v_iadd ok dL_law_1013 (n := 1014) rfl ?_
  refine v_sald ok (by omega) hs.1 dL_law_1014 (n := 1015) rfl ?_
  refine v_aload_0 ok dL_law_1015 (n := 1016) rfl ?_
  refine v_iload_3 ok dL_law_1016 (n := 1017) rfl ?_
  refine v_iconst ok dL_law_1017 (n := 1018) rfl ?_
  refine v_iadd ok dL_law_1018 (n := 1019) rfl ?_
  refine v_sald ok (by omega) hs.1 dL_law_1019 (n := 1020) rfl ?_
  refine v_aload_0 ok dL_law_1020 (n := 1021) rfl ?_
  refine v_iload_3 ok dL_law_1021 (n := 1022) rfl ?_
  refine v_iconst ok dL_law_1022 (n := 1023) rfl ?_
  refine v_iadd ok dL_law_1023 (n := 1024) rfl ?_
  refine v_sald ok (by omega) hs.1 dL_law_1024 (n := 1025) rfl ?_
  refine v_aload_0 ok dL_law_1025 (n := 1026) rfl ?_
  refine v_iload_3 ok dL_law_1026 (n := 1027) rfl ?_
  refine v_iconst ok dL_law_1027 (n := 1028) rfl ?_
  refine v_iadd ok dL_law_1028 (n := 1029) rfl ?_
  refine v_sald ok (by omega) hs.1 dL_law_1029 (n := 1030) rfl ?_
  refine v_aload_0 ok dL_law_1030 (n := 1031) rfl ?_
  refine v_iload_3 ok dL_law_1031 (n := 1032) rfl ?_
  refine v_iconst ok dL_law_1032 (n := 1033) rfl ?_
  refine v_iadd ok dL_law_1033 (n := 1034) rfl ?_
  refine v_sald ok (by omega) hs.1 dL_law_1034 (n := 1035) rfl ?_
  refine v_callVI ok (mi := mi_X8_judged) mc_X8_judged cv_L_115 ly_200 rfl rfl rfl (by decide) hk dL_law_1035 (n := 1038) rfl rfl rfl (Nat.le_of_ble_eq_true rfl) h1 (fun y M2 h2 => ?_)
  obtain ⟨rfl, h2⟩ := h2
  exact v_icmp_same ok dL_law_1038 (tgt := 1225) (by decide) (kk _ h2)
set_option maxHeartbeats 4000000 in
set_option maxRecDepth 100000 in
theorem l_case23 {G : zG} {γ : zF} {ad : Int → Nat} {k : Nat × Nat} {M : zM} {i : Int} (ok : zOK G γ RL cL_law 4 7 151) (hs : zsc G) (hk : k.1 ≤ (zFR γ).cells ∧ k.2 ≤ (zFR γ).slots) (hi : 0 ≤ i ∧ i + 7 ≤ (zGs G 306 : Int)) (hR : zRel M) (kk : ∀ M2, zRel M2 → zVV G γ (zw ad) k 1225 [some (zr 306), some (zr 0), some (zr 200), some (zi i)] [] M2) : zVV G γ (zw ad) k 1043 [some (zr 306), some (zr 0), some (zr 200), some (zi i)] [] M := by
  refine v_aload_1 ok dL_law_1043 (n := 1044) rfl ?_
  refine v_aload_0 ok dL_law_1044 (n := 1045) rfl ?_
  refine v_iload_3 ok dL_law_1045 (n := 1046) rfl ?_
  refine v_iconst ok dL_law_1046 (n := 1047) rfl ?_
  refine v_iadd ok dL_law_1047 (n := 1048) rfl ?_
  refine v_sald ok (by omega) hs.1 dL_law_1048 (n := 1049) rfl ?_
  refine v_aload_0 ok dL_law_1049 (n := 1050) rfl ?_
  refine v_iload_3 ok dL_law_1050 (n := 1051) rfl ?_
  refine v_iconst ok dL_law_1051 (n := 1052) rfl ?_
  refine v_iadd ok dL_law_1052 (n := 1053) rfl ?_
  refine v_sald ok (by omega) hs.1 dL_law_1053 (n := 1054) rfl ?_
  refine v_aload_0 ok dL_law_1054 (n := 1055) rfl ?_
  refine v_iload_3 ok dL_law_1055 (n := 1056) rfl ?_
  refine v_iconst ok dL_law_1056 (n := 1057) rfl ?_
  refine v_iadd ok dL_law_1057 (n := 1058) rfl ?_
  refine v_sald ok (by omega) hs.1 dL_law_1058 (n := 1059) rfl ?_
  refine v_callVI ok (mi := mi_X7_sheet) mc_X7_sheet cv_L_116 ly_0 rfl rfl rfl (by decide) hk dL_law_1059 (n := 1062) rfl rfl rfl (Nat.le_of_ble_eq_true rfl) (s_sheet (hs.2 _) (hs.2 _) (hs.2 _) hR) (fun x M1 h1 => ?_)
  refine v_aload_2 ok dL_law_1062 (n := 1063) rfl ?_
  refine v_aload_0 ok dL_law_1063 (n := 1064) rfl ?_
  refine v_iload_3 ok dL_law_1064 (n := 1065) rfl ?_
  refine v_iconst ok dL_law_1065 (n := 1066) rfl ?_
  refine v_iadd ok dL_law_1066 (n := 1067) rfl ?_
  refine v_sald ok (by omega) hs.1 dL_law_1067 (n := 1068) rfl ?_
  refine v_aload_0 ok dL_law_1068 (n := 1069) rfl ?_
  refine v_iload_3 ok dL_law_1069 (n := 1070) rfl ?_
  refine v_iconst ok dL_law_1070 (n := 1071) rfl ?_
  refine v_iadd ok dL_law_1071 (n := 1072) rfl ?_
  refine v_sald ok (by omega) hs.1 dL_law_1072 (n := 1073) rfl ?_
  refine v_aload_0 ok dL_law_1073 (n := 1074) rfl ?_
  refine v_iload_3 ok dL_law_1074 (n := 1075) rfl ?_
  refine v_iconst ok dL_law_1075 (n := 1076) rfl ?_
  refine v_iadd ok dL_law_1076 (n := 1077) rfl ?_
  refine v_sald ok (by omega) hs.1 dL_law_1077 (n := 1078) rfl ?_
  refine v_callVI ok (mi := mi_X8_sheet) mc_X8_sheet cv_L_119 ly_200 rfl rfl rfl (by decide) hk dL_law_1078 (n := 1081) rfl rfl rfl (Nat.le_of_ble_eq_true rfl) h1 (fun y M2 h2 => ?_)
  obtain ⟨rfl, h2⟩ := h2
  exact v_icmp_same ok dL_law_1081 (tgt := 1225) (by decide) (kk _ h2)
set_option maxHeartbeats 4000000 in
set_option maxRecDepth 100000 in
theorem l_case24 {G : zG} {γ : zF} {ad : Int → Nat} {k : Nat × Nat} {M : zM} {i : Int} (ok : zOK G γ RL cL_law 4 7 151) (hs : zsc G) (hk : k.1 ≤ (zFR γ).cells ∧ k.2 ≤ (zFR γ).slots) (hi : 0 ≤ i ∧ i + 7 ≤ (zGs G 306 : Int)) (hR : zRel M) (kk : ∀ M2, zRel M2 → zVV G γ (zw ad) k 1225 [some (zr 306), some (zr 0), some (zr 200), some (zi i)] [] M2) : zVV G γ (zw ad) k 1086 [some (zr 306), some (zr 0), some (zr 200), some (zi i)] [] M := by
  refine v_aload_1 ok dL_law_1086 (n := 1087) rfl ?_
  refine v_aload_0 ok dL_law_1087 (n := 1088) rfl ?_
  refine v_iload_3 ok dL_law_1088 (n := 1089) rfl ?_
  refine v_iconst ok dL_law_1089 (n := 1090) rfl ?_
  refine v_iadd ok dL_law_1090 (n := 1091) rfl ?_
  refine v_sald ok (by omega) hs.1 dL_law_1091 (n := 1092) rfl ?_
  refine v_callVI ok (mi := mi_X7_drop) mc_X7_drop cv_L_120 ly_0 rfl rfl rfl (by decide) hk dL_law_1092 (n := 1095) rfl rfl rfl (Nat.le_of_ble_eq_true rfl) (s_drop (hs.2 _) hR) (fun x M1 h1 => ?_)
  refine v_aload_2 ok dL_law_1095 (n := 1096) rfl ?_
  refine v_aload_0 ok dL_law_1096 (n := 1097) rfl ?_
  refine v_iload_3 ok dL_law_1097 (n := 1098) rfl ?_
  refine v_iconst ok dL_law_1098 (n := 1099) rfl ?_
  refine v_iadd ok dL_law_1099 (n := 1100) rfl ?_
  refine v_sald ok (by omega) hs.1 dL_law_1100 (n := 1101) rfl ?_
  refine v_callVI ok (mi := mi_X8_drop) mc_X8_drop cv_L_123 ly_200 rfl rfl rfl (by decide) hk dL_law_1101 (n := 1104) rfl rfl rfl (Nat.le_of_ble_eq_true rfl) h1 (fun y M2 h2 => ?_)
  obtain ⟨rfl, h2⟩ := h2
  exact v_icmp_same ok dL_law_1104 (tgt := 1225) (by decide) (kk _ h2)
set_option maxHeartbeats 4000000 in
set_option maxRecDepth 100000 in
theorem l_case25 {G : zG} {γ : zF} {ad : Int → Nat} {k : Nat × Nat} {M : zM} {i : Int} (ok : zOK G γ RL cL_law 4 7 151) (hs : zsc G) (hk : k.1 ≤ (zFR γ).cells ∧ k.2 ≤ (zFR γ).slots) (hi : 0 ≤ i ∧ i + 7 ≤ (zGs G 306 : Int)) (hR : zRel M) (kk : ∀ M2, zRel M2 → zVV G γ (zw ad) k 1225 [some (zr 306), some (zr 0), some (zr 200), some (zi i)] [] M2) : zVV G γ (zw ad) k 1109 [some (zr 306), some (zr 0), some (zr 200), some (zi i)] [] M := by
  refine v_aload_1 ok dL_law_1109 (n := 1110) rfl ?_
  refine v_aload_0 ok dL_law_1110 (n := 1111) rfl ?_
  refine v_iload_3 ok dL_law_1111 (n := 1112) rfl ?_
  refine v_iconst ok dL_law_1112 (n := 1113) rfl ?_
  refine v_iadd ok dL_law_1113 (n := 1114) rfl ?_
  refine v_sald ok (by omega) hs.1 dL_law_1114 (n := 1115) rfl ?_
  refine v_aload_0 ok dL_law_1115 (n := 1116) rfl ?_
  refine v_iload_3 ok dL_law_1116 (n := 1117) rfl ?_
  refine v_iconst ok dL_law_1117 (n := 1118) rfl ?_
  refine v_iadd ok dL_law_1118 (n := 1119) rfl ?_
  refine v_sald ok (by omega) hs.1 dL_law_1119 (n := 1120) rfl ?_
  refine v_aload_0 ok dL_law_1120 (n := 1121) rfl ?_
  refine v_iload_3 ok dL_law_1121 (n := 1122) rfl ?_
  refine v_iconst ok dL_law_1122 (n := 1123) rfl ?_
  refine v_iadd ok dL_law_1123 (n := 1124) rfl ?_
  refine v_sald ok (by omega) hs.1 dL_law_1124 (n := 1125) rfl ?_
  refine v_aload_0 ok dL_law_1125 (n := 1126) rfl ?_
  refine v_iload_3 ok dL_law_1126 (n := 1127) rfl ?_
  refine v_iconst ok dL_law_1127 (n := 1128) rfl ?_
  refine v_iadd ok dL_law_1128 (n := 1129) rfl ?_
  refine v_sald ok (by omega) hs.1 dL_law_1129 (n := 1130) rfl ?_
  refine v_callVI ok (mi := mi_X7_item) mc_X7_item cv_L_124 ly_0 rfl rfl rfl (by decide) hk dL_law_1130 (n := 1133) rfl rfl rfl (Nat.le_of_ble_eq_true rfl) (s_item (hs.2 _) (hs.2 _) (hs.2 _) (hs.2 _) hR) (fun x M1 h1 => ?_)
  refine v_aload_2 ok dL_law_1133 (n := 1134) rfl ?_
  refine v_aload_0 ok dL_law_1134 (n := 1135) rfl ?_
  refine v_iload_3 ok dL_law_1135 (n := 1136) rfl ?_
  refine v_iconst ok dL_law_1136 (n := 1137) rfl ?_
  refine v_iadd ok dL_law_1137 (n := 1138) rfl ?_
  refine v_sald ok (by omega) hs.1 dL_law_1138 (n := 1139) rfl ?_
  refine v_aload_0 ok dL_law_1139 (n := 1140) rfl ?_
  refine v_iload_3 ok dL_law_1140 (n := 1141) rfl ?_
  refine v_iconst ok dL_law_1141 (n := 1142) rfl ?_
  refine v_iadd ok dL_law_1142 (n := 1143) rfl ?_
  refine v_sald ok (by omega) hs.1 dL_law_1143 (n := 1144) rfl ?_
  refine v_aload_0 ok dL_law_1144 (n := 1145) rfl ?_
  refine v_iload_3 ok dL_law_1145 (n := 1146) rfl ?_
  refine v_iconst ok dL_law_1146 (n := 1147) rfl ?_
  refine v_iadd ok dL_law_1147 (n := 1148) rfl ?_
  refine v_sald ok (by omega) hs.1 dL_law_1148 (n := 1149) rfl ?_
  refine v_aload_0 ok dL_law_1149 (n := 1150) rfl ?_
  refine v_iload_3 ok dL_law_1150 (n := 1151) rfl ?_
  refine v_iconst ok dL_law_1151 (n := 1152) rfl ?_
  refine v_iadd ok dL_law_1152 (n := 1153) rfl ?_
  refine v_sald ok (by omega) hs.1 dL_law_1153 (n := 1154) rfl ?_
  refine v_callVI ok (mi := mi_X8_item) mc_X8_item cv_L_127 ly_200 rfl rfl rfl (by decide) hk dL_law_1154 (n := 1157) rfl rfl rfl (Nat.le_of_ble_eq_true rfl) h1 (fun y M2 h2 => ?_)
  obtain ⟨rfl, h2⟩ := h2
  exact v_icmp_same ok dL_law_1157 (tgt := 1225) (by decide) (kk _ h2)
set_option maxHeartbeats 4000000 in
set_option maxRecDepth 100000 in
theorem l_case26 {G : zG} {γ : zF} {ad : Int → Nat} {k : Nat × Nat} {M : zM} {i : Int} (ok : zOK G γ RL cL_law 4 7 151) (hs : zsc G) (hk : k.1 ≤ (zFR γ).cells ∧ k.2 ≤ (zFR γ).slots) (hi : 0 ≤ i ∧ i + 7 ≤ (zGs G 306 : Int)) (hR : zRel M) (kk : ∀ M2, zRel M2 → zVV G γ (zw ad) k 1225 [some (zr 306), some (zr 0), some (zr 200), some (zi i)] [] M2) : zVV G γ (zw ad) k 1162 [some (zr 306), some (zr 0), some (zr 200), some (zi i)] [] M := by
  refine v_aload_1 ok dL_law_1162 (n := 1163) rfl ?_
  refine v_aload_0 ok dL_law_1163 (n := 1164) rfl ?_
  refine v_iload_3 ok dL_law_1164 (n := 1165) rfl ?_
  refine v_iconst ok dL_law_1165 (n := 1166) rfl ?_
  refine v_iadd ok dL_law_1166 (n := 1167) rfl ?_
  refine v_sald ok (by omega) hs.1 dL_law_1167 (n := 1168) rfl ?_
  refine v_aload_0 ok dL_law_1168 (n := 1169) rfl ?_
  refine v_iload_3 ok dL_law_1169 (n := 1170) rfl ?_
  refine v_iconst ok dL_law_1170 (n := 1171) rfl ?_
  refine v_iadd ok dL_law_1171 (n := 1172) rfl ?_
  refine v_sald ok (by omega) hs.1 dL_law_1172 (n := 1173) rfl ?_
  refine v_aload_0 ok dL_law_1173 (n := 1174) rfl ?_
  refine v_iload_3 ok dL_law_1174 (n := 1175) rfl ?_
  refine v_iconst ok dL_law_1175 (n := 1176) rfl ?_
  refine v_iadd ok dL_law_1176 (n := 1177) rfl ?_
  refine v_sald ok (by omega) hs.1 dL_law_1177 (n := 1178) rfl ?_
  refine v_aload_0 ok dL_law_1178 (n := 1179) rfl ?_
  refine v_iload_3 ok dL_law_1179 (n := 1180) rfl ?_
  refine v_iconst ok dL_law_1180 (n := 1181) rfl ?_
  refine v_iadd ok dL_law_1181 (n := 1182) rfl ?_
  refine v_sald ok (by omega) hs.1 dL_law_1182 (n := 1183) rfl ?_
  refine v_aload_0 ok dL_law_1183 (n := 1184) rfl ?_
  refine v_iload_3 ok dL_law_1184 (n := 1185) rfl ?_
  refine v_iconst ok dL_law_1185 (n := 1186) rfl ?_
  refine v_iadd ok dL_law_1186 (n := 1187) rfl ?_
  refine v_sald ok (by omega) hs.1 dL_law_1187 (n := 1188) rfl ?_
  refine v_callVI ok (mi := mi_X7_copy) mc_X7_copy cv_L_128 ly_0 rfl rfl rfl (by decide) hk dL_law_1188 (n := 1191) rfl rfl rfl (Nat.le_of_ble_eq_true rfl) (s_copy (hs.2 _) (hs.2 _) (hs.2 _) (hs.2 _) (hs.2 _) hR) (fun x M1 h1 => ?_)
  refine v_aload_2 ok dL_law_1191 (n := 1192) rfl ?_
  refine v_aload_0 ok dL_law_1192 (n := 1193) rfl ?_
  refine v_iload_3 ok dL_law_1193 (n := 1194) rfl ?_
  refine v_iconst ok dL_law_1194 (n := 1195) rfl ?_
  refine v_iadd ok dL_law_1195 (n := 1196) rfl ?_
  refine v_sald ok (by omega) hs.1 dL_law_1196 (n := 1197) rfl ?_
  refine v_aload_0 ok dL_law_1197 (n := 1198) rfl ?_
  refine v_iload_3 ok dL_law_1198 (n := 1199) rfl ?_
  refine v_iconst ok dL_law_1199 (n := 1200) rfl ?_
  refine v_iadd ok dL_law_1200 (n := 1201) rfl ?_
  refine v_sald ok (by omega) hs.1 dL_law_1201 (n := 1202) rfl ?_
  refine v_aload_0 ok dL_law_1202 (n := 1203) rfl ?_
  refine v_iload_3 ok dL_law_1203 (n := 1204) rfl ?_
  refine v_iconst ok dL_law_1204 (n := 1205) rfl ?_
  refine v_iadd ok dL_law_1205 (n := 1206) rfl ?_
  refine v_sald ok (by omega) hs.1 dL_law_1206 (n := 1207) rfl ?_
  refine v_aload_0 ok dL_law_1207 (n := 1208) rfl ?_
  refine v_iload_3 ok dL_law_1208 (n := 1209) rfl ?_
  refine v_iconst ok dL_law_1209 (n := 1210) rfl ?_
  refine v_iadd ok dL_law_1210 (n := 1211) rfl ?_
  refine v_sald ok (by omega) hs.1 dL_law_1211 (n := 1212) rfl ?_
  refine v_aload_0 ok dL_law_1212 (n := 1213) rfl ?_
  refine v_iload_3 ok dL_law_1213 (n := 1214) rfl ?_
  refine v_iconst ok dL_law_1214 (n := 1215) rfl ?_
  refine v_iadd ok dL_law_1215 (n := 1216) rfl ?_
  refine v_sald ok (by omega) hs.1 dL_law_1216 (n := 1217) rfl ?_
  refine v_callVI ok (mi := mi_X8_copy) mc_X8_copy cv_L_131 ly_200 rfl rfl rfl (by decide) hk dL_law_1217 (n := 1220) rfl rfl rfl (Nat.le_of_ble_eq_true rfl) h1 (fun y M2 h2 => ?_)
  obtain ⟨rfl, h2⟩ := h2
  exact v_icmp_same ok dL_law_1220 (tgt := 1225) (by decide) (kk _ h2)
def zRL (G : zG) (γ : zF) (k : Nat × Nat) : Prop := ∀ (pc : Nat) (H : Heap) (locs : List Loc) (cls : Array Slot), decode cL_law pc = .ok (.ireturn, 1) → va_S (zA G) (zFs γ).heap H locs → zWW G γ k H locs (F0 (zFm γ) pc cls [.int 1])
theorem zand_b (x y : Int) : -2147483648 ≤ zand x y ∧ zand x y ≤ 2147483647 := by
  unfold zand
  have h1 := Int32.le_toInt (Int32.ofInt x &&& Int32.ofInt y)
  have h2 := Int32.toInt_lt (Int32.ofInt x &&& Int32.ofInt y)
  omega
set_option maxHeartbeats 4000000 in
set_option maxRecDepth 100000 in
theorem l_loop {G : zG} {γ : zF} {ad : Int → Nat} {k : Nat × Nat} (ok : zOK G γ RL cL_law 4 7 151) (hs : zsc G) (hk : k.1 ≤ (zFR γ).cells ∧ k.2 ≤ (zFR γ).slots) (rt : zRL G γ k) : ∀ N : Nat, ∀ (i : Int) (M : zM), (455 - i).toNat = N → (0 ≤ i ∧ i ≤ 455) → zRel M → zVV G γ (zw ad) k 18 [some (zr 306), some (zr 0), some (zr 200), some (zi i)] [] M := by
  intro N
  refine zrec (fun N => ∀ (i : Int) (M : zM), (455 - i).toNat = N → (0 ≤ i ∧ i ≤ 455) → zRel M → zVV G γ (zw ad) k 18 [some (zr 306), some (zr 0), some (zr 200), some (zi i)] [] M) (fun N ih => ?_) N
  intro i M hN hi hR
  have hL := hs.1
  refine v_iload_3 ok dL_law_18 (n := 19) rfl ?_
  refine v_aload_0 ok dL_law_19 (n := 20) rfl ?_
  refine v_salen ok rfl dL_law_20 (n := 21) rfl ?_
  refine v_bipush ok rfl dL_law_21 (n := 23) rfl ?_
  refine v_isub ok dL_law_23 (n := 24) rfl ?_
  refine v_icmp_gt ok dL_law_24 (tgt := 1231) (by decide) (n := 27) rfl (by omega) (by omega) (fun c1 => ?_) (fun c1 => ?_)
  · refine v_iconst ok dL_law_1231 (n := 1232) rfl ?_
    intro H locs cls h1 h2 h3
    exact rt 1232 H locs cls dL_law_1232 h2
  · have hnext : ∀ M2, zRel M2 → zVV G γ (zw ad) k 1225 [some (zr 306), some (zr 0), some (zr 200), some (zi i)] [] M2 := fun M2 hR2 => by
      refine v_iinc_3 ok (Nat.le_of_ble_eq_true rfl) rfl dL_law_1225 (n := 1228) rfl ?_
      refine v_goto ok dL_law_1228 (n := 18) (by decide) ?_
      exact ih (455 - (i + 7)).toNat (by omega) (i + 7) M2 rfl (by omega) hR2
    refine v_aload_0 ok dL_law_27 (n := 28) rfl ?_
    refine v_iload_3 ok dL_law_28 (n := 29) rfl ?_
    refine v_sald ok (by omega) hs.1 dL_law_29 (n := 30) rfl ?_
    refine v_bipush ok rfl dL_law_30 (n := 32) rfl ?_
    refine v_iand ok dL_law_32 (n := 33) rfl ?_
    have hb := zand_b (zGt G 306 i) 31
    generalize zand (zGt G 306 i) 31 = z at hb ⊢
    by_cases hz : z < 0 ∨ 26 < z
    · exact v_swOut ok dL_law_33 hb hz (n := 1225) (by decide) (hnext M hR)
    · have hc : z = 0 ∨ z = 1 ∨ z = 2 ∨ z = 3 ∨ z = 4 ∨ z = 5 ∨ z = 6 ∨ z = 7 ∨ z = 8 ∨ z = 9 ∨ z = 10 ∨ z = 11 ∨ z = 12 ∨ z = 13 ∨ z = 14 ∨ z = 15 ∨ z = 16 ∨ z = 17 ∨ z = 18 ∨ z = 19 ∨ z = 20 ∨ z = 21 ∨ z = 22 ∨ z = 23 ∨ z = 24 ∨ z = 25 ∨ z = 26 := by omega
      rcases hc with hc | hc | hc | hc | hc | hc | hc | hc | hc | hc | hc | hc | hc | hc | hc | hc | hc | hc | hc | hc | hc | hc | hc | hc | hc | hc | hc
      all_goals subst z
      · exact v_swIn ok dL_law_33 (by decide) (by decide) (by decide) (off := 123) rfl (n := 156) (by decide) (l_case0 ok hs hk ⟨hi.1, by omega⟩ hR hnext)
      · exact v_swIn ok dL_law_33 (by decide) (by decide) (by decide) (off := 176) rfl (n := 209) (by decide) (l_case1 ok hs hk ⟨hi.1, by omega⟩ hR hnext)
      · exact v_swIn ok dL_law_33 (by decide) (by decide) (by decide) (off := 219) rfl (n := 252) (by decide) (l_case2 ok hs hk ⟨hi.1, by omega⟩ hR hnext)
      · exact v_swIn ok dL_law_33 (by decide) (by decide) (by decide) (off := 262) rfl (n := 295) (by decide) (l_case3 ok hs hk ⟨hi.1, by omega⟩ hR hnext)
      · exact v_swIn ok dL_law_33 (by decide) (by decide) (by decide) (off := 295) rfl (n := 328) (by decide) (l_case4 ok hs hk ⟨hi.1, by omega⟩ hR hnext)
      · exact v_swIn ok dL_law_33 (by decide) (by decide) (by decide) (off := 344) rfl (n := 377) (by decide) (l_case5 ok hs hk ⟨hi.1, by omega⟩ hR hnext)
      · exact v_swIn ok dL_law_33 (by decide) (by decide) (by decide) (off := 377) rfl (n := 410) (by decide) (l_case6 ok hs hk ⟨hi.1, by omega⟩ hR hnext)
      · exact v_swIn ok dL_law_33 (by decide) (by decide) (by decide) (off := 420) rfl (n := 453) (by decide) (l_case7 ok hs hk ⟨hi.1, by omega⟩ hR hnext)
      · exact v_swIn ok dL_law_33 (by decide) (by decide) (by decide) (off := 463) rfl (n := 496) (by decide) (l_case8 ok hs hk ⟨hi.1, by omega⟩ hR hnext)
      · exact v_swIn ok dL_law_33 (by decide) (by decide) (by decide) (off := 496) rfl (n := 529) (by decide) (l_case9 ok hs hk ⟨hi.1, by omega⟩ hR hnext)
      · exact v_swIn ok dL_law_33 (by decide) (by decide) (by decide) (off := 559) rfl (n := 592) (by decide) (l_case10 ok hs hk ⟨hi.1, by omega⟩ hR hnext)
      · exact v_swIn ok dL_law_33 (by decide) (by decide) (by decide) (off := 572) rfl (n := 605) (by decide) (l_case11 ok hs hk ⟨hi.1, by omega⟩ hR hnext)
      · exact v_swIn ok dL_law_33 (by decide) (by decide) (by decide) (off := 585) rfl (n := 618) (by decide) (l_case12 ok hs hk ⟨hi.1, by omega⟩ hR hnext)
      · exact v_swIn ok dL_law_33 (by decide) (by decide) (by decide) (off := 608) rfl (n := 641) (by decide) (l_case13 ok hs hk ⟨hi.1, by omega⟩ hR hnext)
      · exact v_swIn ok dL_law_33 (by decide) (by decide) (by decide) (off := 641) rfl (n := 674) (by decide) (l_case14 ok hs hk ⟨hi.1, by omega⟩ hR hnext)
      · exact v_swIn ok dL_law_33 (by decide) (by decide) (by decide) (off := 664) rfl (n := 697) (by decide) (l_case15 ok hs hk ⟨hi.1, by omega⟩ hR hnext)
      · exact v_swIn ok dL_law_33 (by decide) (by decide) (by decide) (off := 687) rfl (n := 720) (by decide) (l_case16 ok hs hk ⟨hi.1, by omega⟩ hR hnext)
      · exact v_swIn ok dL_law_33 (by decide) (by decide) (by decide) (off := 730) rfl (n := 763) (by decide) (l_case17 ok hs hk ⟨hi.1, by omega⟩ hR hnext)
      · exact v_swIn ok dL_law_33 (by decide) (by decide) (by decide) (off := 783) rfl (n := 816) (by decide) (l_case18 ok hs hk ⟨hi.1, by omega⟩ hR hnext)
      · exact v_swIn ok dL_law_33 (by decide) (by decide) (by decide) (off := 796) rfl (n := 829) (by decide) (l_case19 ok hs hk ⟨hi.1, by omega⟩ hR hnext)
      · exact v_swIn ok dL_law_33 (by decide) (by decide) (by decide) (off := 809) rfl (n := 842) (by decide) (l_case20 ok hs hk ⟨hi.1, by omega⟩ hR hnext)
      · exact v_swIn ok dL_law_33 (by decide) (by decide) (by decide) (off := 884) rfl (n := 917) (by decide) (l_case21 ok hs hk ⟨hi.1, by omega⟩ hR hnext)
      · exact v_swIn ok dL_law_33 (by decide) (by decide) (by decide) (off := 947) rfl (n := 980) (by decide) (l_case22 ok hs hk ⟨hi.1, by omega⟩ hR hnext)
      · exact v_swIn ok dL_law_33 (by decide) (by decide) (by decide) (off := 1010) rfl (n := 1043) (by decide) (l_case23 ok hs hk ⟨hi.1, by omega⟩ hR hnext)
      · exact v_swIn ok dL_law_33 (by decide) (by decide) (by decide) (off := 1053) rfl (n := 1086) (by decide) (l_case24 ok hs hk ⟨hi.1, by omega⟩ hR hnext)
      · exact v_swIn ok dL_law_33 (by decide) (by decide) (by decide) (off := 1076) rfl (n := 1109) (by decide) (l_case25 ok hs hk ⟨hi.1, by omega⟩ hR hnext)
      · exact v_swIn ok dL_law_33 (by decide) (by decide) (by decide) (off := 1129) rfl (n := 1162) (by decide) (l_case26 ok hs hk ⟨hi.1, by omega⟩ hR hnext)
