/-! ===== the law's rows ===== -/
theorem go_sld {F : FX} {L : WL} {own : String} {cc : ByteArray} {nL : Nat} {R : Room} {ret : Option FieldType} {Q : State → Prop} {σ : ST} {pc pc' : Nat} {lv : List (Nat × Value)} {st : List Value} {b L9 : Nat} {xs : Nat → Int32} {j : Int32} (hX : va_X b L9 xs F.2.2.2.1 F.2.2.2.1.heap) (hbl : b < F.2.2.2.1.heap.size) (hbA : ¬ F.2.2.2.2.2.2.2.2.2.1 b) (hdg : decode cc pc = .ok (.iaload, 1)) (hp : pc + 1 = pc') (hin : vp_in j L9) (k : Go F L own cc nL R ret Q σ pc' lv (.int (xs j.toNatClampNeg) :: st)) : Go F L own cc nL R ret Q σ pc lv (.int j :: .ref b :: st) := by
  subst hp
  intro hok H locs ls hP hS hl
  exact va_sld hok.1 hok.2.1 hX hbl hbA hS hin hdg (k hok H locs ls hP hS hl)
theorem go_slen {F : FX} {L : WL} {own : String} {cc : ByteArray} {nL : Nat} {R : Room} {ret : Option FieldType} {Q : State → Prop} {σ : ST} {pc pc' : Nat} {lv : List (Nat × Value)} {st : List Value} {b L9 : Nat} {xs : Nat → Int32} (hX : va_X b L9 xs F.2.2.2.1 F.2.2.2.1.heap) (hbl : b < F.2.2.2.1.heap.size) (hbA : ¬ F.2.2.2.2.2.2.2.2.2.1 b) (hdg : decode cc pc = .ok (.arraylength, 1)) (hp : pc + 1 = pc') (k : Go F L own cc nL R ret Q σ pc' lv (.int (Int32.ofNat L9) :: st)) : Go F L own cc nL R ret Q σ pc lv (.ref b :: st) := by
  subst hp
  intro hok H locs ls hP hS hl
  exact va_slen hok.1 hok.2.1 hX hbl hbA hS hdg (k hok H locs ls hP hS hl)
theorem vinI {i c : Int32} {n : Nat} (hi : 0 ≤ i.toInt ∧ i.toInt + 4 < n) (hn : n ≤ 2560) (hc : 0 ≤ c.toInt ∧ c.toInt ≤ 4) : vp_in (i + c) n := by
  have e : (i + c).toInt = i.toInt + c.toInt := i32_add (by omega) (by omega)
  rw [vp_in_iff, e]
  omega
set_option maxHeartbeats 4000000 in
set_option maxRecDepth 100000 in
theorem law_0 {F : FX} {L : WL} {b L9 : Nat} {xs : Nat → Int32} {σ : ST} {i : Int32} {Q : State → Prop} (hn : L9 ≤ 2560) (hi : 0 ≤ i.toInt ∧ i.toInt + 4 < L9) (hX : va_X b L9 xs F.2.2.2.1 F.2.2.2.1.heap) (hbl : b < F.2.2.2.1.heap.size) (hbA : ¬ F.2.2.2.2.2.2.2.2.2.1 b) (h : INV σ) (hback : ∀ σ2 : ST, INV σ2 → Go F L RL cL_law 4 room_1 (some .boolean) Q σ2 1459 [(0, .ref b), (1, .ref (L.2.1 0)), (2, .ref (L.2.1 13)), (3, .int i)] []) : Go F L RL cL_law 4 room_1 (some .boolean) Q σ 188 [(0, .ref b), (1, .ref (L.2.1 0)), (2, .ref (L.2.1 13)), (3, .int i)] [] := by
  refine go_aload_n (i := 1) (pc' := 189) dL_law_188 rfl rfl rfl ?_
  refine go_aload_n (i := 0) (pc' := 190) dL_law_189 rfl rfl rfl ?_
  refine go_iload_n (i := 3) (pc' := 191) dL_law_190 rfl rfl rfl ?_
  refine go_iconst (v := 1) (pc' := 192) dL_law_191 rfl (by decide) ?_
  refine go_iadd (pc' := 193) dL_law_192 rfl ?_
  refine go_sld (pc' := 194) hX hbl hbA dL_law_193 rfl (vinI hi hn (by decide)) ?_
  refine go_aload_n (i := 0) (pc' := 195) dL_law_194 rfl rfl rfl ?_
  refine go_iload_n (i := 3) (pc' := 196) dL_law_195 rfl rfl rfl ?_
  refine go_iconst (v := 2) (pc' := 197) dL_law_196 rfl (by decide) ?_
  refine go_iadd (pc' := 198) dL_law_197 rfl ?_
  refine go_sld (pc' := 199) hX hbl hbA dL_law_198 rfl (vinI hi hn (by decide)) ?_
  refine go_cvi (pc' := 202) lk_L_13 (e_X11_person _ _ _ _ _ h.1) rfl rfl (Nat.le_of_ble_eq_true rfl) (by decide) rfl rfl rfl ⟨Nat.le_of_ble_eq_true rfl, Nat.le_of_ble_eq_true rfl⟩ ⟨rfl, rfl⟩ dL_law_199 rfl (fun r_199 σ_199 h_199 => ?_)
  have mi := x_person h h_199
  refine go_pop (pc' := 203) dL_law_202 rfl rfl ?_
  refine go_aload_n (i := 2) (pc' := 204) dL_law_203 rfl rfl rfl ?_
  refine go_aload_n (i := 0) (pc' := 205) dL_law_204 rfl rfl rfl ?_
  refine go_iload_n (i := 3) (pc' := 206) dL_law_205 rfl rfl rfl ?_
  refine go_iconst (v := 1) (pc' := 207) dL_law_206 rfl (by decide) ?_
  refine go_iadd (pc' := 208) dL_law_207 rfl ?_
  refine go_sld (pc' := 209) hX hbl hbA dL_law_208 rfl (vinI hi hn (by decide)) ?_
  refine go_aload_n (i := 0) (pc' := 210) dL_law_209 rfl rfl rfl ?_
  refine go_iload_n (i := 3) (pc' := 211) dL_law_210 rfl rfl rfl ?_
  refine go_iconst (v := 2) (pc' := 212) dL_law_211 rfl (by decide) ?_
  refine go_iadd (pc' := 213) dL_law_212 rfl ?_
  refine go_sld (pc' := 214) hX hbl hbA dL_law_213 rfl (vinI hi hn (by decide)) ?_
  refine go_cvi (pc' := 217) lk_L_17 (e_X12_person _ _ _ _ _ mi.1) rfl rfl (Nat.le_of_ble_eq_true rfl) (by decide) rfl rfl rfl ⟨Nat.le_of_ble_eq_true rfl, Nat.le_of_ble_eq_true rfl⟩ ⟨rfl, rfl⟩ dL_law_214 rfl (fun r_214 σ_214 h_214 => ?_)
  have q := b_person h h_199 h_214
  refine go_pop (pc' := 218) dL_law_217 rfl rfl ?_
  refine go_goto (tgt := 1459) dL_law_218 (by decide) ?_
  exact hback _ q.1
set_option maxHeartbeats 4000000 in
set_option maxRecDepth 100000 in
theorem law_1 {F : FX} {L : WL} {b L9 : Nat} {xs : Nat → Int32} {σ : ST} {i : Int32} {Q : State → Prop} (hn : L9 ≤ 2560) (hi : 0 ≤ i.toInt ∧ i.toInt + 4 < L9) (hX : va_X b L9 xs F.2.2.2.1 F.2.2.2.1.heap) (hbl : b < F.2.2.2.1.heap.size) (hbA : ¬ F.2.2.2.2.2.2.2.2.2.1 b) (h : INV σ) (hback : ∀ σ2 : ST, INV σ2 → Go F L RL cL_law 4 room_1 (some .boolean) Q σ2 1459 [(0, .ref b), (1, .ref (L.2.1 0)), (2, .ref (L.2.1 13)), (3, .int i)] []) : Go F L RL cL_law 4 room_1 (some .boolean) Q σ 221 [(0, .ref b), (1, .ref (L.2.1 0)), (2, .ref (L.2.1 13)), (3, .int i)] [] := by
  refine go_aload_n (i := 1) (pc' := 222) dL_law_221 rfl rfl rfl ?_
  refine go_aload_n (i := 0) (pc' := 223) dL_law_222 rfl rfl rfl ?_
  refine go_iload_n (i := 3) (pc' := 224) dL_law_223 rfl rfl rfl ?_
  refine go_iconst (v := 1) (pc' := 225) dL_law_224 rfl (by decide) ?_
  refine go_iadd (pc' := 226) dL_law_225 rfl ?_
  refine go_sld (pc' := 227) hX hbl hbA dL_law_226 rfl (vinI hi hn (by decide)) ?_
  refine go_aload_n (i := 0) (pc' := 228) dL_law_227 rfl rfl rfl ?_
  refine go_iload_n (i := 3) (pc' := 229) dL_law_228 rfl rfl rfl ?_
  refine go_iconst (v := 2) (pc' := 230) dL_law_229 rfl (by decide) ?_
  refine go_iadd (pc' := 231) dL_law_230 rfl ?_
  refine go_sld (pc' := 232) hX hbl hbA dL_law_231 rfl (vinI hi hn (by decide)) ?_
  refine go_aload_n (i := 0) (pc' := 233) dL_law_232 rfl rfl rfl ?_
  refine go_iload_n (i := 3) (pc' := 234) dL_law_233 rfl rfl rfl ?_
  refine go_iconst (v := 3) (pc' := 235) dL_law_234 rfl (by decide) ?_
  refine go_iadd (pc' := 236) dL_law_235 rfl ?_
  refine go_sld (pc' := 237) hX hbl hbA dL_law_236 rfl (vinI hi hn (by decide)) ?_
  refine go_cvi (pc' := 240) lk_L_18 (e_X11_lived _ _ _ _ _ _ h.1) rfl rfl (Nat.le_of_ble_eq_true rfl) (by decide) rfl rfl rfl ⟨Nat.le_of_ble_eq_true rfl, Nat.le_of_ble_eq_true rfl⟩ ⟨rfl, rfl⟩ dL_law_237 rfl (fun r_237 σ_237 h_237 => ?_)
  have mi := x_lived h h_237
  refine go_pop (pc' := 241) dL_law_240 rfl rfl ?_
  refine go_aload_n (i := 2) (pc' := 242) dL_law_241 rfl rfl rfl ?_
  refine go_aload_n (i := 0) (pc' := 243) dL_law_242 rfl rfl rfl ?_
  refine go_iload_n (i := 3) (pc' := 244) dL_law_243 rfl rfl rfl ?_
  refine go_iconst (v := 1) (pc' := 245) dL_law_244 rfl (by decide) ?_
  refine go_iadd (pc' := 246) dL_law_245 rfl ?_
  refine go_sld (pc' := 247) hX hbl hbA dL_law_246 rfl (vinI hi hn (by decide)) ?_
  refine go_aload_n (i := 0) (pc' := 248) dL_law_247 rfl rfl rfl ?_
  refine go_iload_n (i := 3) (pc' := 249) dL_law_248 rfl rfl rfl ?_
  refine go_iconst (v := 2) (pc' := 250) dL_law_249 rfl (by decide) ?_
  refine go_iadd (pc' := 251) dL_law_250 rfl ?_
  refine go_sld (pc' := 252) hX hbl hbA dL_law_251 rfl (vinI hi hn (by decide)) ?_
  refine go_aload_n (i := 0) (pc' := 253) dL_law_252 rfl rfl rfl ?_
  refine go_iload_n (i := 3) (pc' := 254) dL_law_253 rfl rfl rfl ?_
  refine go_iconst (v := 3) (pc' := 255) dL_law_254 rfl (by decide) ?_
  refine go_iadd (pc' := 256) dL_law_255 rfl ?_
  refine go_sld (pc' := 257) hX hbl hbA dL_law_256 rfl (vinI hi hn (by decide)) ?_
  refine go_cvi (pc' := 260) lk_L_22 (e_X12_lived _ _ _ _ _ _ mi.1) rfl rfl (Nat.le_of_ble_eq_true rfl) (by decide) rfl rfl rfl ⟨Nat.le_of_ble_eq_true rfl, Nat.le_of_ble_eq_true rfl⟩ ⟨rfl, rfl⟩ dL_law_257 rfl (fun r_257 σ_257 h_257 => ?_)
  have q := b_lived h h_237 h_257
  refine go_pop (pc' := 261) dL_law_260 rfl rfl ?_
  refine go_goto (tgt := 1459) dL_law_261 (by decide) ?_
  exact hback _ q
set_option maxHeartbeats 4000000 in
set_option maxRecDepth 100000 in
theorem law_2 {F : FX} {L : WL} {b L9 : Nat} {xs : Nat → Int32} {σ : ST} {i : Int32} {Q : State → Prop} (hn : L9 ≤ 2560) (hi : 0 ≤ i.toInt ∧ i.toInt + 4 < L9) (hX : va_X b L9 xs F.2.2.2.1 F.2.2.2.1.heap) (hbl : b < F.2.2.2.1.heap.size) (hbA : ¬ F.2.2.2.2.2.2.2.2.2.1 b) (h : INV σ) (hback : ∀ σ2 : ST, INV σ2 → Go F L RL cL_law 4 room_1 (some .boolean) Q σ2 1459 [(0, .ref b), (1, .ref (L.2.1 0)), (2, .ref (L.2.1 13)), (3, .int i)] []) : Go F L RL cL_law 4 room_1 (some .boolean) Q σ 264 [(0, .ref b), (1, .ref (L.2.1 0)), (2, .ref (L.2.1 13)), (3, .int i)] [] := by
  refine go_aload_n (i := 1) (pc' := 265) dL_law_264 rfl rfl rfl ?_
  refine go_aload_n (i := 0) (pc' := 266) dL_law_265 rfl rfl rfl ?_
  refine go_iload_n (i := 3) (pc' := 267) dL_law_266 rfl rfl rfl ?_
  refine go_iconst (v := 1) (pc' := 268) dL_law_267 rfl (by decide) ?_
  refine go_iadd (pc' := 269) dL_law_268 rfl ?_
  refine go_sld (pc' := 270) hX hbl hbA dL_law_269 rfl (vinI hi hn (by decide)) ?_
  refine go_aload_n (i := 0) (pc' := 271) dL_law_270 rfl rfl rfl ?_
  refine go_iload_n (i := 3) (pc' := 272) dL_law_271 rfl rfl rfl ?_
  refine go_iconst (v := 2) (pc' := 273) dL_law_272 rfl (by decide) ?_
  refine go_iadd (pc' := 274) dL_law_273 rfl ?_
  refine go_sld (pc' := 275) hX hbl hbA dL_law_274 rfl (vinI hi hn (by decide)) ?_
  refine go_aload_n (i := 0) (pc' := 276) dL_law_275 rfl rfl rfl ?_
  refine go_iload_n (i := 3) (pc' := 277) dL_law_276 rfl rfl rfl ?_
  refine go_iconst (v := 3) (pc' := 278) dL_law_277 rfl (by decide) ?_
  refine go_iadd (pc' := 279) dL_law_278 rfl ?_
  refine go_sld (pc' := 280) hX hbl hbA dL_law_279 rfl (vinI hi hn (by decide)) ?_
  refine go_if_eq (tgt := 287) (pc' := 283) dL_law_280 rfl (by decide) (fun c_280 => ?_) (fun c_280 => ?_)
  · refine go_iconst (v := 0) (pc' := 288) dL_law_287 rfl (by decide) ?_
    refine go_cvi (pc' := 291) lk_L_23 (e_X11_knows _ _ _ _ _ _ h.1) rfl rfl (Nat.le_of_ble_eq_true rfl) (by decide) rfl rfl rfl ⟨Nat.le_of_ble_eq_true rfl, Nat.le_of_ble_eq_true rfl⟩ ⟨rfl, rfl⟩ dL_law_288 rfl (fun r_288 σ_288 h_288 => ?_)
    have mi := x_knows h h_288
    refine go_pop (pc' := 292) dL_law_291 rfl rfl ?_
    refine go_aload_n (i := 2) (pc' := 293) dL_law_292 rfl rfl rfl ?_
    refine go_aload_n (i := 0) (pc' := 294) dL_law_293 rfl rfl rfl ?_
    refine go_iload_n (i := 3) (pc' := 295) dL_law_294 rfl rfl rfl ?_
    refine go_iconst (v := 1) (pc' := 296) dL_law_295 rfl (by decide) ?_
    refine go_iadd (pc' := 297) dL_law_296 rfl ?_
    refine go_sld (pc' := 298) hX hbl hbA dL_law_297 rfl (vinI hi hn (by decide)) ?_
    refine go_aload_n (i := 0) (pc' := 299) dL_law_298 rfl rfl rfl ?_
    refine go_iload_n (i := 3) (pc' := 300) dL_law_299 rfl rfl rfl ?_
    refine go_iconst (v := 2) (pc' := 301) dL_law_300 rfl (by decide) ?_
    refine go_iadd (pc' := 302) dL_law_301 rfl ?_
    refine go_sld (pc' := 303) hX hbl hbA dL_law_302 rfl (vinI hi hn (by decide)) ?_
    refine go_aload_n (i := 0) (pc' := 304) dL_law_303 rfl rfl rfl ?_
    refine go_iload_n (i := 3) (pc' := 305) dL_law_304 rfl rfl rfl ?_
    refine go_iconst (v := 3) (pc' := 306) dL_law_305 rfl (by decide) ?_
    refine go_iadd (pc' := 307) dL_law_306 rfl ?_
    refine go_sld (pc' := 308) hX hbl hbA dL_law_307 rfl (vinI hi hn (by decide)) ?_
    refine go_if_eq (tgt := 315) (pc' := 311) dL_law_308 rfl (by decide) (fun c_308 => ?_) (fun c_308 => absurd c_280 c_308)
    refine go_iconst (v := 0) (pc' := 316) dL_law_315 rfl (by decide) ?_
    refine go_cvi (pc' := 319) lk_L_27 (e_X12_knows _ _ _ _ _ _ (Or.inl rfl) mi.1) rfl rfl (Nat.le_of_ble_eq_true rfl) (by decide) rfl rfl rfl ⟨Nat.le_of_ble_eq_true rfl, Nat.le_of_ble_eq_true rfl⟩ ⟨rfl, rfl⟩ dL_law_316 rfl (fun r_316 σ_316 h_316 => ?_)
    have q := b_knows (Or.inl rfl) h h_288 h_316
    refine go_pop (pc' := 320) dL_law_319 rfl rfl ?_
    refine go_goto (tgt := 1459) dL_law_320 (by decide) ?_
    exact hback _ q
  refine go_iconst (v := 1) (pc' := 284) dL_law_283 rfl (by decide) ?_
  refine go_goto (tgt := 288) dL_law_284 (by decide) ?_
  refine go_cvi (pc' := 291) lk_L_23 (e_X11_knows _ _ _ _ _ _ h.1) rfl rfl (Nat.le_of_ble_eq_true rfl) (by decide) rfl rfl rfl ⟨Nat.le_of_ble_eq_true rfl, Nat.le_of_ble_eq_true rfl⟩ ⟨rfl, rfl⟩ dL_law_288 rfl (fun r_288 σ_288 h_288 => ?_)
  have mi := x_knows h h_288
  refine go_pop (pc' := 292) dL_law_291 rfl rfl ?_
  refine go_aload_n (i := 2) (pc' := 293) dL_law_292 rfl rfl rfl ?_
  refine go_aload_n (i := 0) (pc' := 294) dL_law_293 rfl rfl rfl ?_
  refine go_iload_n (i := 3) (pc' := 295) dL_law_294 rfl rfl rfl ?_
  refine go_iconst (v := 1) (pc' := 296) dL_law_295 rfl (by decide) ?_
  refine go_iadd (pc' := 297) dL_law_296 rfl ?_
  refine go_sld (pc' := 298) hX hbl hbA dL_law_297 rfl (vinI hi hn (by decide)) ?_
  refine go_aload_n (i := 0) (pc' := 299) dL_law_298 rfl rfl rfl ?_
  refine go_iload_n (i := 3) (pc' := 300) dL_law_299 rfl rfl rfl ?_
  refine go_iconst (v := 2) (pc' := 301) dL_law_300 rfl (by decide) ?_
  refine go_iadd (pc' := 302) dL_law_301 rfl ?_
  refine go_sld (pc' := 303) hX hbl hbA dL_law_302 rfl (vinI hi hn (by decide)) ?_
  refine go_aload_n (i := 0) (pc' := 304) dL_law_303 rfl rfl rfl ?_
  refine go_iload_n (i := 3) (pc' := 305) dL_law_304 rfl rfl rfl ?_
  refine go_iconst (v := 3) (pc' := 306) dL_law_305 rfl (by decide) ?_
  refine go_iadd (pc' := 307) dL_law_306 rfl ?_
  refine go_sld (pc' := 308) hX hbl hbA dL_law_307 rfl (vinI hi hn (by decide)) ?_
  refine go_if_eq (tgt := 315) (pc' := 311) dL_law_308 rfl (by decide) (fun c_308 => absurd c_308 c_280) (fun c_308 => ?_)
  refine go_iconst (v := 1) (pc' := 312) dL_law_311 rfl (by decide) ?_
  refine go_goto (tgt := 316) dL_law_312 (by decide) ?_
  refine go_cvi (pc' := 319) lk_L_27 (e_X12_knows _ _ _ _ _ _ (Or.inr rfl) mi.1) rfl rfl (Nat.le_of_ble_eq_true rfl) (by decide) rfl rfl rfl ⟨Nat.le_of_ble_eq_true rfl, Nat.le_of_ble_eq_true rfl⟩ ⟨rfl, rfl⟩ dL_law_316 rfl (fun r_316 σ_316 h_316 => ?_)
  have q := b_knows (Or.inr rfl) h h_288 h_316
  refine go_pop (pc' := 320) dL_law_319 rfl rfl ?_
  refine go_goto (tgt := 1459) dL_law_320 (by decide) ?_
  exact hback _ q
set_option maxHeartbeats 4000000 in
set_option maxRecDepth 100000 in
theorem law_3 {F : FX} {L : WL} {b L9 : Nat} {xs : Nat → Int32} {σ : ST} {i : Int32} {Q : State → Prop} (hn : L9 ≤ 2560) (hi : 0 ≤ i.toInt ∧ i.toInt + 4 < L9) (hX : va_X b L9 xs F.2.2.2.1 F.2.2.2.1.heap) (hbl : b < F.2.2.2.1.heap.size) (hbA : ¬ F.2.2.2.2.2.2.2.2.2.1 b) (h : INV σ) (hback : ∀ σ2 : ST, INV σ2 → Go F L RL cL_law 4 room_1 (some .boolean) Q σ2 1459 [(0, .ref b), (1, .ref (L.2.1 0)), (2, .ref (L.2.1 13)), (3, .int i)] []) : Go F L RL cL_law 4 room_1 (some .boolean) Q σ 323 [(0, .ref b), (1, .ref (L.2.1 0)), (2, .ref (L.2.1 13)), (3, .int i)] [] := by
  refine go_aload_n (i := 1) (pc' := 324) dL_law_323 rfl rfl rfl ?_
  refine go_aload_n (i := 0) (pc' := 325) dL_law_324 rfl rfl rfl ?_
  refine go_iload_n (i := 3) (pc' := 326) dL_law_325 rfl rfl rfl ?_
  refine go_iconst (v := 1) (pc' := 327) dL_law_326 rfl (by decide) ?_
  refine go_iadd (pc' := 328) dL_law_327 rfl ?_
  refine go_sld (pc' := 329) hX hbl hbA dL_law_328 rfl (vinI hi hn (by decide)) ?_
  refine go_aload_n (i := 0) (pc' := 330) dL_law_329 rfl rfl rfl ?_
  refine go_iload_n (i := 3) (pc' := 331) dL_law_330 rfl rfl rfl ?_
  refine go_iconst (v := 2) (pc' := 332) dL_law_331 rfl (by decide) ?_
  refine go_iadd (pc' := 333) dL_law_332 rfl ?_
  refine go_sld (pc' := 334) hX hbl hbA dL_law_333 rfl (vinI hi hn (by decide)) ?_
  refine go_aload_n (i := 0) (pc' := 335) dL_law_334 rfl rfl rfl ?_
  refine go_iload_n (i := 3) (pc' := 336) dL_law_335 rfl rfl rfl ?_
  refine go_iconst (v := 3) (pc' := 337) dL_law_336 rfl (by decide) ?_
  refine go_iadd (pc' := 338) dL_law_337 rfl ?_
  refine go_sld (pc' := 339) hX hbl hbA dL_law_338 rfl (vinI hi hn (by decide)) ?_
  refine go_aload_n (i := 0) (pc' := 340) dL_law_339 rfl rfl rfl ?_
  refine go_iload_n (i := 3) (pc' := 341) dL_law_340 rfl rfl rfl ?_
  refine go_iconst (v := 4) (pc' := 342) dL_law_341 rfl (by decide) ?_
  refine go_iadd (pc' := 343) dL_law_342 rfl ?_
  refine go_sld (pc' := 344) hX hbl hbA dL_law_343 rfl (vinI hi hn (by decide)) ?_
  refine go_cvi (pc' := 347) lk_L_28 (e_X11_letter _ _ _ _ _ _ _ h.1) rfl rfl (Nat.le_of_ble_eq_true rfl) (by decide) rfl rfl rfl ⟨Nat.le_of_ble_eq_true rfl, Nat.le_of_ble_eq_true rfl⟩ ⟨rfl, rfl⟩ dL_law_344 rfl (fun r_344 σ_344 h_344 => ?_)
  have mi := x_letter h h_344
  refine go_pop (pc' := 348) dL_law_347 rfl rfl ?_
  refine go_aload_n (i := 2) (pc' := 349) dL_law_348 rfl rfl rfl ?_
  refine go_aload_n (i := 0) (pc' := 350) dL_law_349 rfl rfl rfl ?_
  refine go_iload_n (i := 3) (pc' := 351) dL_law_350 rfl rfl rfl ?_
  refine go_iconst (v := 1) (pc' := 352) dL_law_351 rfl (by decide) ?_
  refine go_iadd (pc' := 353) dL_law_352 rfl ?_
  refine go_sld (pc' := 354) hX hbl hbA dL_law_353 rfl (vinI hi hn (by decide)) ?_
  refine go_aload_n (i := 0) (pc' := 355) dL_law_354 rfl rfl rfl ?_
  refine go_iload_n (i := 3) (pc' := 356) dL_law_355 rfl rfl rfl ?_
  refine go_iconst (v := 2) (pc' := 357) dL_law_356 rfl (by decide) ?_
  refine go_iadd (pc' := 358) dL_law_357 rfl ?_
  refine go_sld (pc' := 359) hX hbl hbA dL_law_358 rfl (vinI hi hn (by decide)) ?_
  refine go_aload_n (i := 0) (pc' := 360) dL_law_359 rfl rfl rfl ?_
  refine go_iload_n (i := 3) (pc' := 361) dL_law_360 rfl rfl rfl ?_
  refine go_iconst (v := 3) (pc' := 362) dL_law_361 rfl (by decide) ?_
  refine go_iadd (pc' := 363) dL_law_362 rfl ?_
  refine go_sld (pc' := 364) hX hbl hbA dL_law_363 rfl (vinI hi hn (by decide)) ?_
  refine go_aload_n (i := 0) (pc' := 365) dL_law_364 rfl rfl rfl ?_
  refine go_iload_n (i := 3) (pc' := 366) dL_law_365 rfl rfl rfl ?_
  refine go_iconst (v := 4) (pc' := 367) dL_law_366 rfl (by decide) ?_
  refine go_iadd (pc' := 368) dL_law_367 rfl ?_
  refine go_sld (pc' := 369) hX hbl hbA dL_law_368 rfl (vinI hi hn (by decide)) ?_
  refine go_cvi (pc' := 372) lk_L_32 (e_X12_letter _ _ _ _ _ _ _ mi.1) rfl rfl (Nat.le_of_ble_eq_true rfl) (by decide) rfl rfl rfl ⟨Nat.le_of_ble_eq_true rfl, Nat.le_of_ble_eq_true rfl⟩ ⟨rfl, rfl⟩ dL_law_369 rfl (fun r_369 σ_369 h_369 => ?_)
  have q := b_letter h h_344 h_369
  refine go_pop (pc' := 373) dL_law_372 rfl rfl ?_
  refine go_goto (tgt := 1459) dL_law_373 (by decide) ?_
  exact hback _ q.1
set_option maxHeartbeats 4000000 in
set_option maxRecDepth 100000 in
theorem law_4 {F : FX} {L : WL} {b L9 : Nat} {xs : Nat → Int32} {σ : ST} {i : Int32} {Q : State → Prop} (hn : L9 ≤ 2560) (hi : 0 ≤ i.toInt ∧ i.toInt + 4 < L9) (hX : va_X b L9 xs F.2.2.2.1 F.2.2.2.1.heap) (hbl : b < F.2.2.2.1.heap.size) (hbA : ¬ F.2.2.2.2.2.2.2.2.2.1 b) (h : INV σ) (hback : ∀ σ2 : ST, INV σ2 → Go F L RL cL_law 4 room_1 (some .boolean) Q σ2 1459 [(0, .ref b), (1, .ref (L.2.1 0)), (2, .ref (L.2.1 13)), (3, .int i)] []) : Go F L RL cL_law 4 room_1 (some .boolean) Q σ 376 [(0, .ref b), (1, .ref (L.2.1 0)), (2, .ref (L.2.1 13)), (3, .int i)] [] := by
  refine go_aload_n (i := 1) (pc' := 377) dL_law_376 rfl rfl rfl ?_
  refine go_aload_n (i := 0) (pc' := 378) dL_law_377 rfl rfl rfl ?_
  refine go_iload_n (i := 3) (pc' := 379) dL_law_378 rfl rfl rfl ?_
  refine go_iconst (v := 1) (pc' := 380) dL_law_379 rfl (by decide) ?_
  refine go_iadd (pc' := 381) dL_law_380 rfl ?_
  refine go_sld (pc' := 382) hX hbl hbA dL_law_381 rfl (vinI hi hn (by decide)) ?_
  refine go_aload_n (i := 0) (pc' := 383) dL_law_382 rfl rfl rfl ?_
  refine go_iload_n (i := 3) (pc' := 384) dL_law_383 rfl rfl rfl ?_
  refine go_iconst (v := 2) (pc' := 385) dL_law_384 rfl (by decide) ?_
  refine go_iadd (pc' := 386) dL_law_385 rfl ?_
  refine go_sld (pc' := 387) hX hbl hbA dL_law_386 rfl (vinI hi hn (by decide)) ?_
  refine go_cvi (pc' := 390) lk_L_33 (c_X11_told _ _ _ _ _ h.1) rfl rfl (Nat.le_of_ble_eq_true rfl) (by decide) rfl rfl rfl ⟨Nat.le_of_ble_eq_true rfl, Nat.le_of_ble_eq_true rfl⟩ ⟨rfl, rfl⟩ dL_law_387 rfl (fun r_387 σ_387 h_387 => ?_)
  have h1 : INV σ_387 := by rw [h_387]; exact h
  refine go_pop (pc' := 391) dL_law_390 rfl rfl ?_
  refine go_aload_n (i := 2) (pc' := 392) dL_law_391 rfl rfl rfl ?_
  refine go_aload_n (i := 0) (pc' := 393) dL_law_392 rfl rfl rfl ?_
  refine go_iload_n (i := 3) (pc' := 394) dL_law_393 rfl rfl rfl ?_
  refine go_iconst (v := 1) (pc' := 395) dL_law_394 rfl (by decide) ?_
  refine go_iadd (pc' := 396) dL_law_395 rfl ?_
  refine go_sld (pc' := 397) hX hbl hbA dL_law_396 rfl (vinI hi hn (by decide)) ?_
  refine go_aload_n (i := 0) (pc' := 398) dL_law_397 rfl rfl rfl ?_
  refine go_iload_n (i := 3) (pc' := 399) dL_law_398 rfl rfl rfl ?_
  refine go_iconst (v := 2) (pc' := 400) dL_law_399 rfl (by decide) ?_
  refine go_iadd (pc' := 401) dL_law_400 rfl ?_
  refine go_sld (pc' := 402) hX hbl hbA dL_law_401 rfl (vinI hi hn (by decide)) ?_
  refine go_cvi (pc' := 405) lk_L_36 (c_X12_told _ _ _ _ _ h1.1) rfl rfl (Nat.le_of_ble_eq_true rfl) (by decide) rfl rfl rfl ⟨Nat.le_of_ble_eq_true rfl, Nat.le_of_ble_eq_true rfl⟩ ⟨rfl, rfl⟩ dL_law_402 rfl (fun r_402 σ_402 h_402 => ?_)
  have q : INV σ_402 := by rw [h_402]; exact h1
  refine go_pop (pc' := 406) dL_law_405 rfl rfl ?_
  refine go_goto (tgt := 1459) dL_law_406 (by decide) ?_
  exact hback _ q
set_option maxHeartbeats 4000000 in
set_option maxRecDepth 100000 in
theorem law_5 {F : FX} {L : WL} {b L9 : Nat} {xs : Nat → Int32} {σ : ST} {i : Int32} {Q : State → Prop} (hn : L9 ≤ 2560) (hi : 0 ≤ i.toInt ∧ i.toInt + 4 < L9) (hX : va_X b L9 xs F.2.2.2.1 F.2.2.2.1.heap) (hbl : b < F.2.2.2.1.heap.size) (hbA : ¬ F.2.2.2.2.2.2.2.2.2.1 b) (h : INV σ) (hback : ∀ σ2 : ST, INV σ2 → Go F L RL cL_law 4 room_1 (some .boolean) Q σ2 1459 [(0, .ref b), (1, .ref (L.2.1 0)), (2, .ref (L.2.1 13)), (3, .int i)] []) : Go F L RL cL_law 4 room_1 (some .boolean) Q σ 409 [(0, .ref b), (1, .ref (L.2.1 0)), (2, .ref (L.2.1 13)), (3, .int i)] [] := by
  refine go_aload_n (i := 1) (pc' := 410) dL_law_409 rfl rfl rfl ?_
  refine go_aload_n (i := 0) (pc' := 411) dL_law_410 rfl rfl rfl ?_
  refine go_iload_n (i := 3) (pc' := 412) dL_law_411 rfl rfl rfl ?_
  refine go_iconst (v := 1) (pc' := 413) dL_law_412 rfl (by decide) ?_
  refine go_iadd (pc' := 414) dL_law_413 rfl ?_
  refine go_sld (pc' := 415) hX hbl hbA dL_law_414 rfl (vinI hi hn (by decide)) ?_
  refine go_aload_n (i := 0) (pc' := 416) dL_law_415 rfl rfl rfl ?_
  refine go_iload_n (i := 3) (pc' := 417) dL_law_416 rfl rfl rfl ?_
  refine go_iconst (v := 2) (pc' := 418) dL_law_417 rfl (by decide) ?_
  refine go_iadd (pc' := 419) dL_law_418 rfl ?_
  refine go_sld (pc' := 420) hX hbl hbA dL_law_419 rfl (vinI hi hn (by decide)) ?_
  refine go_aload_n (i := 0) (pc' := 421) dL_law_420 rfl rfl rfl ?_
  refine go_iload_n (i := 3) (pc' := 422) dL_law_421 rfl rfl rfl ?_
  refine go_iconst (v := 3) (pc' := 423) dL_law_422 rfl (by decide) ?_
  refine go_iadd (pc' := 424) dL_law_423 rfl ?_
  refine go_sld (pc' := 425) hX hbl hbA dL_law_424 rfl (vinI hi hn (by decide)) ?_
  refine go_cvi (pc' := 428) lk_L_37 (e_X11_days _ _ _ _ _ _ h.1) rfl rfl (Nat.le_of_ble_eq_true rfl) (by decide) rfl rfl rfl ⟨Nat.le_of_ble_eq_true rfl, Nat.le_of_ble_eq_true rfl⟩ ⟨rfl, rfl⟩ dL_law_425 rfl (fun r_425 σ_425 h_425 => ?_)
  have mi := x_days h h_425
  refine go_pop (pc' := 429) dL_law_428 rfl rfl ?_
  refine go_aload_n (i := 2) (pc' := 430) dL_law_429 rfl rfl rfl ?_
  refine go_aload_n (i := 0) (pc' := 431) dL_law_430 rfl rfl rfl ?_
  refine go_iload_n (i := 3) (pc' := 432) dL_law_431 rfl rfl rfl ?_
  refine go_iconst (v := 1) (pc' := 433) dL_law_432 rfl (by decide) ?_
  refine go_iadd (pc' := 434) dL_law_433 rfl ?_
  refine go_sld (pc' := 435) hX hbl hbA dL_law_434 rfl (vinI hi hn (by decide)) ?_
  refine go_aload_n (i := 0) (pc' := 436) dL_law_435 rfl rfl rfl ?_
  refine go_iload_n (i := 3) (pc' := 437) dL_law_436 rfl rfl rfl ?_
  refine go_iconst (v := 2) (pc' := 438) dL_law_437 rfl (by decide) ?_
  refine go_iadd (pc' := 439) dL_law_438 rfl ?_
  refine go_sld (pc' := 440) hX hbl hbA dL_law_439 rfl (vinI hi hn (by decide)) ?_
  refine go_aload_n (i := 0) (pc' := 441) dL_law_440 rfl rfl rfl ?_
  refine go_iload_n (i := 3) (pc' := 442) dL_law_441 rfl rfl rfl ?_
  refine go_iconst (v := 3) (pc' := 443) dL_law_442 rfl (by decide) ?_
  refine go_iadd (pc' := 444) dL_law_443 rfl ?_
  refine go_sld (pc' := 445) hX hbl hbA dL_law_444 rfl (vinI hi hn (by decide)) ?_
  refine go_cvi (pc' := 448) lk_L_40 (e_X12_days _ _ _ _ _ _ mi.1) rfl rfl (Nat.le_of_ble_eq_true rfl) (by decide) rfl rfl rfl ⟨Nat.le_of_ble_eq_true rfl, Nat.le_of_ble_eq_true rfl⟩ ⟨rfl, rfl⟩ dL_law_445 rfl (fun r_445 σ_445 h_445 => ?_)
  have q := b_days h h_425 h_445
  refine go_pop (pc' := 449) dL_law_448 rfl rfl ?_
  refine go_goto (tgt := 1459) dL_law_449 (by decide) ?_
  exact hback _ q.1
set_option maxHeartbeats 4000000 in
set_option maxRecDepth 100000 in
theorem law_6 {F : FX} {L : WL} {b L9 : Nat} {xs : Nat → Int32} {σ : ST} {i : Int32} {Q : State → Prop} (hn : L9 ≤ 2560) (hi : 0 ≤ i.toInt ∧ i.toInt + 4 < L9) (hX : va_X b L9 xs F.2.2.2.1 F.2.2.2.1.heap) (hbl : b < F.2.2.2.1.heap.size) (hbA : ¬ F.2.2.2.2.2.2.2.2.2.1 b) (h : INV σ) (hback : ∀ σ2 : ST, INV σ2 → Go F L RL cL_law 4 room_1 (some .boolean) Q σ2 1459 [(0, .ref b), (1, .ref (L.2.1 0)), (2, .ref (L.2.1 13)), (3, .int i)] []) : Go F L RL cL_law 4 room_1 (some .boolean) Q σ 452 [(0, .ref b), (1, .ref (L.2.1 0)), (2, .ref (L.2.1 13)), (3, .int i)] [] := by
  refine go_aload_n (i := 1) (pc' := 453) dL_law_452 rfl rfl rfl ?_
  refine go_aload_n (i := 0) (pc' := 454) dL_law_453 rfl rfl rfl ?_
  refine go_iload_n (i := 3) (pc' := 455) dL_law_454 rfl rfl rfl ?_
  refine go_iconst (v := 1) (pc' := 456) dL_law_455 rfl (by decide) ?_
  refine go_iadd (pc' := 457) dL_law_456 rfl ?_
  refine go_sld (pc' := 458) hX hbl hbA dL_law_457 rfl (vinI hi hn (by decide)) ?_
  refine go_aload_n (i := 0) (pc' := 459) dL_law_458 rfl rfl rfl ?_
  refine go_iload_n (i := 3) (pc' := 460) dL_law_459 rfl rfl rfl ?_
  refine go_iconst (v := 2) (pc' := 461) dL_law_460 rfl (by decide) ?_
  refine go_iadd (pc' := 462) dL_law_461 rfl ?_
  refine go_sld (pc' := 463) hX hbl hbA dL_law_462 rfl (vinI hi hn (by decide)) ?_
  refine go_cvi (pc' := 466) lk_L_41 (e_X11_week _ _ _ _ _ h.1) rfl rfl (Nat.le_of_ble_eq_true rfl) (by decide) rfl rfl rfl ⟨Nat.le_of_ble_eq_true rfl, Nat.le_of_ble_eq_true rfl⟩ ⟨rfl, rfl⟩ dL_law_463 rfl (fun r_463 σ_463 h_463 => ?_)
  have mi := x_week h h_463
  refine go_pop (pc' := 467) dL_law_466 rfl rfl ?_
  refine go_aload_n (i := 2) (pc' := 468) dL_law_467 rfl rfl rfl ?_
  refine go_aload_n (i := 0) (pc' := 469) dL_law_468 rfl rfl rfl ?_
  refine go_iload_n (i := 3) (pc' := 470) dL_law_469 rfl rfl rfl ?_
  refine go_iconst (v := 1) (pc' := 471) dL_law_470 rfl (by decide) ?_
  refine go_iadd (pc' := 472) dL_law_471 rfl ?_
  refine go_sld (pc' := 473) hX hbl hbA dL_law_472 rfl (vinI hi hn (by decide)) ?_
  refine go_aload_n (i := 0) (pc' := 474) dL_law_473 rfl rfl rfl ?_
  refine go_iload_n (i := 3) (pc' := 475) dL_law_474 rfl rfl rfl ?_
  refine go_iconst (v := 2) (pc' := 476) dL_law_475 rfl (by decide) ?_
  refine go_iadd (pc' := 477) dL_law_476 rfl ?_
  refine go_sld (pc' := 478) hX hbl hbA dL_law_477 rfl (vinI hi hn (by decide)) ?_
  refine go_cvi (pc' := 481) lk_L_44 (e_X12_week _ _ _ _ _ mi.1) rfl rfl (Nat.le_of_ble_eq_true rfl) (by decide) rfl rfl rfl ⟨Nat.le_of_ble_eq_true rfl, Nat.le_of_ble_eq_true rfl⟩ ⟨rfl, rfl⟩ dL_law_478 rfl (fun r_478 σ_478 h_478 => ?_)
  have q := b_week h h_463 h_478
  refine go_pop (pc' := 482) dL_law_481 rfl rfl ?_
  refine go_goto (tgt := 1459) dL_law_482 (by decide) ?_
  exact hback _ q.1
set_option maxHeartbeats 4000000 in
set_option maxRecDepth 100000 in
theorem law_7 {F : FX} {L : WL} {b L9 : Nat} {xs : Nat → Int32} {σ : ST} {i : Int32} {Q : State → Prop} (hn : L9 ≤ 2560) (hi : 0 ≤ i.toInt ∧ i.toInt + 4 < L9) (hX : va_X b L9 xs F.2.2.2.1 F.2.2.2.1.heap) (hbl : b < F.2.2.2.1.heap.size) (hbA : ¬ F.2.2.2.2.2.2.2.2.2.1 b) (h : INV σ) (hback : ∀ σ2 : ST, INV σ2 → Go F L RL cL_law 4 room_1 (some .boolean) Q σ2 1459 [(0, .ref b), (1, .ref (L.2.1 0)), (2, .ref (L.2.1 13)), (3, .int i)] []) : Go F L RL cL_law 4 room_1 (some .boolean) Q σ 485 [(0, .ref b), (1, .ref (L.2.1 0)), (2, .ref (L.2.1 13)), (3, .int i)] [] := by
  refine go_aload_n (i := 1) (pc' := 486) dL_law_485 rfl rfl rfl ?_
  refine go_aload_n (i := 0) (pc' := 487) dL_law_486 rfl rfl rfl ?_
  refine go_iload_n (i := 3) (pc' := 488) dL_law_487 rfl rfl rfl ?_
  refine go_iconst (v := 1) (pc' := 489) dL_law_488 rfl (by decide) ?_
  refine go_iadd (pc' := 490) dL_law_489 rfl ?_
  refine go_sld (pc' := 491) hX hbl hbA dL_law_490 rfl (vinI hi hn (by decide)) ?_
  refine go_aload_n (i := 0) (pc' := 492) dL_law_491 rfl rfl rfl ?_
  refine go_iload_n (i := 3) (pc' := 493) dL_law_492 rfl rfl rfl ?_
  refine go_iconst (v := 2) (pc' := 494) dL_law_493 rfl (by decide) ?_
  refine go_iadd (pc' := 495) dL_law_494 rfl ?_
  refine go_sld (pc' := 496) hX hbl hbA dL_law_495 rfl (vinI hi hn (by decide)) ?_
  refine go_aload_n (i := 0) (pc' := 497) dL_law_496 rfl rfl rfl ?_
  refine go_iload_n (i := 3) (pc' := 498) dL_law_497 rfl rfl rfl ?_
  refine go_iconst (v := 3) (pc' := 499) dL_law_498 rfl (by decide) ?_
  refine go_iadd (pc' := 500) dL_law_499 rfl ?_
  refine go_sld (pc' := 501) hX hbl hbA dL_law_500 rfl (vinI hi hn (by decide)) ?_
  refine go_cvi (pc' := 504) lk_L_45 (e_X11_bound _ _ _ _ _ _ h.1) rfl rfl (Nat.le_of_ble_eq_true rfl) (by decide) rfl rfl rfl ⟨Nat.le_of_ble_eq_true rfl, Nat.le_of_ble_eq_true rfl⟩ ⟨rfl, rfl⟩ dL_law_501 rfl (fun r_501 σ_501 h_501 => ?_)
  have mi := x_bound h h_501
  refine go_pop (pc' := 505) dL_law_504 rfl rfl ?_
  refine go_aload_n (i := 2) (pc' := 506) dL_law_505 rfl rfl rfl ?_
  refine go_aload_n (i := 0) (pc' := 507) dL_law_506 rfl rfl rfl ?_
  refine go_iload_n (i := 3) (pc' := 508) dL_law_507 rfl rfl rfl ?_
  refine go_iconst (v := 1) (pc' := 509) dL_law_508 rfl (by decide) ?_
  refine go_iadd (pc' := 510) dL_law_509 rfl ?_
  refine go_sld (pc' := 511) hX hbl hbA dL_law_510 rfl (vinI hi hn (by decide)) ?_
  refine go_aload_n (i := 0) (pc' := 512) dL_law_511 rfl rfl rfl ?_
  refine go_iload_n (i := 3) (pc' := 513) dL_law_512 rfl rfl rfl ?_
  refine go_iconst (v := 2) (pc' := 514) dL_law_513 rfl (by decide) ?_
  refine go_iadd (pc' := 515) dL_law_514 rfl ?_
  refine go_sld (pc' := 516) hX hbl hbA dL_law_515 rfl (vinI hi hn (by decide)) ?_
  refine go_aload_n (i := 0) (pc' := 517) dL_law_516 rfl rfl rfl ?_
  refine go_iload_n (i := 3) (pc' := 518) dL_law_517 rfl rfl rfl ?_
  refine go_iconst (v := 3) (pc' := 519) dL_law_518 rfl (by decide) ?_
  refine go_iadd (pc' := 520) dL_law_519 rfl ?_
  refine go_sld (pc' := 521) hX hbl hbA dL_law_520 rfl (vinI hi hn (by decide)) ?_
  refine go_cvi (pc' := 524) lk_L_48 (e_X12_bound _ _ _ _ _ _ mi.1) rfl rfl (Nat.le_of_ble_eq_true rfl) (by decide) rfl rfl rfl ⟨Nat.le_of_ble_eq_true rfl, Nat.le_of_ble_eq_true rfl⟩ ⟨rfl, rfl⟩ dL_law_521 rfl (fun r_521 σ_521 h_521 => ?_)
  have q := b_bound h h_501 h_521
  refine go_pop (pc' := 525) dL_law_524 rfl rfl ?_
  refine go_goto (tgt := 1459) dL_law_525 (by decide) ?_
  exact hback _ q.1
set_option maxHeartbeats 4000000 in
set_option maxRecDepth 100000 in
theorem law_8 {F : FX} {L : WL} {b L9 : Nat} {xs : Nat → Int32} {σ : ST} {i : Int32} {Q : State → Prop} (hn : L9 ≤ 2560) (hi : 0 ≤ i.toInt ∧ i.toInt + 4 < L9) (hX : va_X b L9 xs F.2.2.2.1 F.2.2.2.1.heap) (hbl : b < F.2.2.2.1.heap.size) (hbA : ¬ F.2.2.2.2.2.2.2.2.2.1 b) (h : INV σ) (hback : ∀ σ2 : ST, INV σ2 → Go F L RL cL_law 4 room_1 (some .boolean) Q σ2 1459 [(0, .ref b), (1, .ref (L.2.1 0)), (2, .ref (L.2.1 13)), (3, .int i)] []) : Go F L RL cL_law 4 room_1 (some .boolean) Q σ 528 [(0, .ref b), (1, .ref (L.2.1 0)), (2, .ref (L.2.1 13)), (3, .int i)] [] := by
  refine go_aload_n (i := 1) (pc' := 529) dL_law_528 rfl rfl rfl ?_
  refine go_cvi (pc' := 532) lk_L_49 (e_X11_loose _ _ _ h.1) rfl rfl (Nat.le_of_ble_eq_true rfl) (by decide) rfl rfl rfl ⟨Nat.le_of_ble_eq_true rfl, Nat.le_of_ble_eq_true rfl⟩ ⟨rfl, rfl⟩ dL_law_529 rfl (fun r_529 σ_529 h_529 => ?_)
  have mi := x_loose h h_529
  refine go_pop (pc' := 533) dL_law_532 rfl rfl ?_
  refine go_aload_n (i := 2) (pc' := 534) dL_law_533 rfl rfl rfl ?_
  refine go_cvi (pc' := 537) lk_L_53 (e_X12_loose _ _ _ mi.1) rfl rfl (Nat.le_of_ble_eq_true rfl) (by decide) rfl rfl rfl ⟨Nat.le_of_ble_eq_true rfl, Nat.le_of_ble_eq_true rfl⟩ ⟨rfl, rfl⟩ dL_law_534 rfl (fun r_534 σ_534 h_534 => ?_)
  have q := b_loose h h_529 h_534
  refine go_pop (pc' := 538) dL_law_537 rfl rfl ?_
  refine go_goto (tgt := 1459) dL_law_538 (by decide) ?_
  exact hback _ q.1
set_option maxHeartbeats 4000000 in
set_option maxRecDepth 100000 in
theorem law_9 {F : FX} {L : WL} {b L9 : Nat} {xs : Nat → Int32} {σ : ST} {i : Int32} {Q : State → Prop} (hn : L9 ≤ 2560) (hi : 0 ≤ i.toInt ∧ i.toInt + 4 < L9) (hX : va_X b L9 xs F.2.2.2.1 F.2.2.2.1.heap) (hbl : b < F.2.2.2.1.heap.size) (hbA : ¬ F.2.2.2.2.2.2.2.2.2.1 b) (h : INV σ) (hback : ∀ σ2 : ST, INV σ2 → Go F L RL cL_law 4 room_1 (some .boolean) Q σ2 1459 [(0, .ref b), (1, .ref (L.2.1 0)), (2, .ref (L.2.1 13)), (3, .int i)] []) : Go F L RL cL_law 4 room_1 (some .boolean) Q σ 541 [(0, .ref b), (1, .ref (L.2.1 0)), (2, .ref (L.2.1 13)), (3, .int i)] [] := by
  refine go_aload_n (i := 1) (pc' := 542) dL_law_541 rfl rfl rfl ?_
  refine go_aload_n (i := 0) (pc' := 543) dL_law_542 rfl rfl rfl ?_
  refine go_iload_n (i := 3) (pc' := 544) dL_law_543 rfl rfl rfl ?_
  refine go_iconst (v := 1) (pc' := 545) dL_law_544 rfl (by decide) ?_
  refine go_iadd (pc' := 546) dL_law_545 rfl ?_
  refine go_sld (pc' := 547) hX hbl hbA dL_law_546 rfl (vinI hi hn (by decide)) ?_
  refine go_aload_n (i := 0) (pc' := 548) dL_law_547 rfl rfl rfl ?_
  refine go_iload_n (i := 3) (pc' := 549) dL_law_548 rfl rfl rfl ?_
  refine go_iconst (v := 2) (pc' := 550) dL_law_549 rfl (by decide) ?_
  refine go_iadd (pc' := 551) dL_law_550 rfl ?_
  refine go_sld (pc' := 552) hX hbl hbA dL_law_551 rfl (vinI hi hn (by decide)) ?_
  refine go_cvi (pc' := 555) lk_L_54 (e_X11_found _ _ _ _ _ h.1) rfl rfl (Nat.le_of_ble_eq_true rfl) (by decide) rfl rfl rfl ⟨Nat.le_of_ble_eq_true rfl, Nat.le_of_ble_eq_true rfl⟩ ⟨rfl, rfl⟩ dL_law_552 rfl (fun r_552 σ_552 h_552 => ?_)
  have mi := x_found h h_552
  refine go_pop (pc' := 556) dL_law_555 rfl rfl ?_
  refine go_aload_n (i := 2) (pc' := 557) dL_law_556 rfl rfl rfl ?_
  refine go_aload_n (i := 0) (pc' := 558) dL_law_557 rfl rfl rfl ?_
  refine go_iload_n (i := 3) (pc' := 559) dL_law_558 rfl rfl rfl ?_
  refine go_iconst (v := 1) (pc' := 560) dL_law_559 rfl (by decide) ?_
  refine go_iadd (pc' := 561) dL_law_560 rfl ?_
  refine go_sld (pc' := 562) hX hbl hbA dL_law_561 rfl (vinI hi hn (by decide)) ?_
  refine go_aload_n (i := 0) (pc' := 563) dL_law_562 rfl rfl rfl ?_
  refine go_iload_n (i := 3) (pc' := 564) dL_law_563 rfl rfl rfl ?_
  refine go_iconst (v := 2) (pc' := 565) dL_law_564 rfl (by decide) ?_
  refine go_iadd (pc' := 566) dL_law_565 rfl ?_
  refine go_sld (pc' := 567) hX hbl hbA dL_law_566 rfl (vinI hi hn (by decide)) ?_
  refine go_cvi (pc' := 570) lk_L_57 (e_X12_found _ _ _ _ _ mi.1) rfl rfl (Nat.le_of_ble_eq_true rfl) (by decide) rfl rfl rfl ⟨Nat.le_of_ble_eq_true rfl, Nat.le_of_ble_eq_true rfl⟩ ⟨rfl, rfl⟩ dL_law_567 rfl (fun r_567 σ_567 h_567 => ?_)
  have q := b_found h h_552 h_567
  refine go_pop (pc' := 571) dL_law_570 rfl rfl ?_
  refine go_goto (tgt := 1459) dL_law_571 (by decide) ?_
  exact hback _ q.1
set_option maxHeartbeats 4000000 in
set_option maxRecDepth 100000 in
theorem law_10 {F : FX} {L : WL} {b L9 : Nat} {xs : Nat → Int32} {σ : ST} {i : Int32} {Q : State → Prop} (hn : L9 ≤ 2560) (hi : 0 ≤ i.toInt ∧ i.toInt + 4 < L9) (hX : va_X b L9 xs F.2.2.2.1 F.2.2.2.1.heap) (hbl : b < F.2.2.2.1.heap.size) (hbA : ¬ F.2.2.2.2.2.2.2.2.2.1 b) (h : INV σ) (hback : ∀ σ2 : ST, INV σ2 → Go F L RL cL_law 4 room_1 (some .boolean) Q σ2 1459 [(0, .ref b), (1, .ref (L.2.1 0)), (2, .ref (L.2.1 13)), (3, .int i)] []) : Go F L RL cL_law 4 room_1 (some .boolean) Q σ 574 [(0, .ref b), (1, .ref (L.2.1 0)), (2, .ref (L.2.1 13)), (3, .int i)] [] := by
  refine go_aload_n (i := 1) (pc' := 575) dL_law_574 rfl rfl rfl ?_
  refine go_aload_n (i := 0) (pc' := 576) dL_law_575 rfl rfl rfl ?_
  refine go_iload_n (i := 3) (pc' := 577) dL_law_576 rfl rfl rfl ?_
  refine go_iconst (v := 1) (pc' := 578) dL_law_577 rfl (by decide) ?_
  refine go_iadd (pc' := 579) dL_law_578 rfl ?_
  refine go_sld (pc' := 580) hX hbl hbA dL_law_579 rfl (vinI hi hn (by decide)) ?_
  refine go_cvi (pc' := 583) lk_L_58 (e_X11_lose _ _ _ _ h.1) rfl rfl (Nat.le_of_ble_eq_true rfl) (by decide) rfl rfl rfl ⟨Nat.le_of_ble_eq_true rfl, Nat.le_of_ble_eq_true rfl⟩ ⟨rfl, rfl⟩ dL_law_580 rfl (fun r_580 σ_580 h_580 => ?_)
  have mi := x_lose h h_580
  refine go_pop (pc' := 584) dL_law_583 rfl rfl ?_
  refine go_aload_n (i := 2) (pc' := 585) dL_law_584 rfl rfl rfl ?_
  refine go_aload_n (i := 0) (pc' := 586) dL_law_585 rfl rfl rfl ?_
  refine go_iload_n (i := 3) (pc' := 587) dL_law_586 rfl rfl rfl ?_
  refine go_iconst (v := 1) (pc' := 588) dL_law_587 rfl (by decide) ?_
  refine go_iadd (pc' := 589) dL_law_588 rfl ?_
  refine go_sld (pc' := 590) hX hbl hbA dL_law_589 rfl (vinI hi hn (by decide)) ?_
  refine go_cvi (pc' := 593) lk_L_62 (e_X12_lose _ _ _ _ mi.1) rfl rfl (Nat.le_of_ble_eq_true rfl) (by decide) rfl rfl rfl ⟨Nat.le_of_ble_eq_true rfl, Nat.le_of_ble_eq_true rfl⟩ ⟨rfl, rfl⟩ dL_law_590 rfl (fun r_590 σ_590 h_590 => ?_)
  have q := b_lose h h_580 h_590
  refine go_pop (pc' := 594) dL_law_593 rfl rfl ?_
  refine go_goto (tgt := 1459) dL_law_594 (by decide) ?_
  exact hback _ q.1
set_option maxHeartbeats 4000000 in
set_option maxRecDepth 100000 in
theorem law_11 {F : FX} {L : WL} {b L9 : Nat} {xs : Nat → Int32} {σ : ST} {i : Int32} {Q : State → Prop} (hn : L9 ≤ 2560) (hi : 0 ≤ i.toInt ∧ i.toInt + 4 < L9) (hX : va_X b L9 xs F.2.2.2.1 F.2.2.2.1.heap) (hbl : b < F.2.2.2.1.heap.size) (hbA : ¬ F.2.2.2.2.2.2.2.2.2.1 b) (h : INV σ) (hback : ∀ σ2 : ST, INV σ2 → Go F L RL cL_law 4 room_1 (some .boolean) Q σ2 1459 [(0, .ref b), (1, .ref (L.2.1 0)), (2, .ref (L.2.1 13)), (3, .int i)] []) : Go F L RL cL_law 4 room_1 (some .boolean) Q σ 597 [(0, .ref b), (1, .ref (L.2.1 0)), (2, .ref (L.2.1 13)), (3, .int i)] [] := by
  refine go_aload_n (i := 1) (pc' := 598) dL_law_597 rfl rfl rfl ?_
  refine go_aload_n (i := 0) (pc' := 599) dL_law_598 rfl rfl rfl ?_
  refine go_iload_n (i := 3) (pc' := 600) dL_law_599 rfl rfl rfl ?_
  refine go_iconst (v := 1) (pc' := 601) dL_law_600 rfl (by decide) ?_
  refine go_iadd (pc' := 602) dL_law_601 rfl ?_
  refine go_sld (pc' := 603) hX hbl hbA dL_law_602 rfl (vinI hi hn (by decide)) ?_
  refine go_aload_n (i := 0) (pc' := 604) dL_law_603 rfl rfl rfl ?_
  refine go_iload_n (i := 3) (pc' := 605) dL_law_604 rfl rfl rfl ?_
  refine go_iconst (v := 2) (pc' := 606) dL_law_605 rfl (by decide) ?_
  refine go_iadd (pc' := 607) dL_law_606 rfl ?_
  refine go_sld (pc' := 608) hX hbl hbA dL_law_607 rfl (vinI hi hn (by decide)) ?_
  refine go_cvi (pc' := 611) lk_L_63 (c_X11_span _ _ _ _ _ h.1) rfl rfl (Nat.le_of_ble_eq_true rfl) (by decide) rfl rfl rfl ⟨Nat.le_of_ble_eq_true rfl, Nat.le_of_ble_eq_true rfl⟩ ⟨rfl, rfl⟩ dL_law_608 rfl (fun r_608 σ_608 h_608 => ?_)
  have h1 := INV_WX h h_608
  refine go_pop (pc' := 612) dL_law_611 rfl rfl ?_
  refine go_aload_n (i := 2) (pc' := 613) dL_law_612 rfl rfl rfl ?_
  refine go_aload_n (i := 0) (pc' := 614) dL_law_613 rfl rfl rfl ?_
  refine go_iload_n (i := 3) (pc' := 615) dL_law_614 rfl rfl rfl ?_
  refine go_iconst (v := 1) (pc' := 616) dL_law_615 rfl (by decide) ?_
  refine go_iadd (pc' := 617) dL_law_616 rfl ?_
  refine go_sld (pc' := 618) hX hbl hbA dL_law_617 rfl (vinI hi hn (by decide)) ?_
  refine go_aload_n (i := 0) (pc' := 619) dL_law_618 rfl rfl rfl ?_
  refine go_iload_n (i := 3) (pc' := 620) dL_law_619 rfl rfl rfl ?_
  refine go_iconst (v := 2) (pc' := 621) dL_law_620 rfl (by decide) ?_
  refine go_iadd (pc' := 622) dL_law_621 rfl ?_
  refine go_sld (pc' := 623) hX hbl hbA dL_law_622 rfl (vinI hi hn (by decide)) ?_
  refine go_cvi (pc' := 626) lk_L_66 (c_X12_span _ _ _ _ _ h1.1 h1.2.1) rfl rfl (Nat.le_of_ble_eq_true rfl) (by decide) rfl rfl rfl ⟨Nat.le_of_ble_eq_true rfl, Nat.le_of_ble_eq_true rfl⟩ ⟨rfl, rfl⟩ dL_law_623 rfl (fun r_623 σ_623 h_623 => ?_)
  have q := INV_WM h1 h_623
  refine go_pop (pc' := 627) dL_law_626 rfl rfl ?_
  refine go_goto (tgt := 1459) dL_law_627 (by decide) ?_
  exact hback _ q
set_option maxHeartbeats 4000000 in
set_option maxRecDepth 100000 in
theorem law_12 {F : FX} {L : WL} {b L9 : Nat} {xs : Nat → Int32} {σ : ST} {i : Int32} {Q : State → Prop} (hn : L9 ≤ 2560) (hi : 0 ≤ i.toInt ∧ i.toInt + 4 < L9) (hX : va_X b L9 xs F.2.2.2.1 F.2.2.2.1.heap) (hbl : b < F.2.2.2.1.heap.size) (hbA : ¬ F.2.2.2.2.2.2.2.2.2.1 b) (h : INV σ) (hback : ∀ σ2 : ST, INV σ2 → Go F L RL cL_law 4 room_1 (some .boolean) Q σ2 1459 [(0, .ref b), (1, .ref (L.2.1 0)), (2, .ref (L.2.1 13)), (3, .int i)] []) : Go F L RL cL_law 4 room_1 (some .boolean) Q σ 630 [(0, .ref b), (1, .ref (L.2.1 0)), (2, .ref (L.2.1 13)), (3, .int i)] [] := by
  refine go_aload_n (i := 1) (pc' := 631) dL_law_630 rfl rfl rfl ?_
  refine go_cvi (pc' := 634) lk_L_67 (c_X11_clash _ _ _ h.1) rfl rfl (Nat.le_of_ble_eq_true rfl) (by decide) rfl rfl rfl ⟨Nat.le_of_ble_eq_true rfl, Nat.le_of_ble_eq_true rfl⟩ ⟨rfl, rfl⟩ dL_law_631 rfl (fun r_631 σ_631 h_631 => ?_)
  have h1 := INV_WX h h_631
  refine go_pop (pc' := 635) dL_law_634 rfl rfl ?_
  refine go_aload_n (i := 2) (pc' := 636) dL_law_635 rfl rfl rfl ?_
  refine go_cvi (pc' := 639) lk_L_70 (c_X12_clash _ _ _ h1.1 h1.2.1) rfl rfl (Nat.le_of_ble_eq_true rfl) (by decide) rfl rfl rfl ⟨Nat.le_of_ble_eq_true rfl, Nat.le_of_ble_eq_true rfl⟩ ⟨rfl, rfl⟩ dL_law_636 rfl (fun r_636 σ_636 h_636 => ?_)
  have q := INV_WM h1 h_636
  refine go_pop (pc' := 640) dL_law_639 rfl rfl ?_
  refine go_goto (tgt := 1459) dL_law_640 (by decide) ?_
  exact hback _ q
set_option maxHeartbeats 4000000 in
set_option maxRecDepth 100000 in
theorem law_13 {F : FX} {L : WL} {b L9 : Nat} {xs : Nat → Int32} {σ : ST} {i : Int32} {Q : State → Prop} (hn : L9 ≤ 2560) (hi : 0 ≤ i.toInt ∧ i.toInt + 4 < L9) (hX : va_X b L9 xs F.2.2.2.1 F.2.2.2.1.heap) (hbl : b < F.2.2.2.1.heap.size) (hbA : ¬ F.2.2.2.2.2.2.2.2.2.1 b) (h : INV σ) (hback : ∀ σ2 : ST, INV σ2 → Go F L RL cL_law 4 room_1 (some .boolean) Q σ2 1459 [(0, .ref b), (1, .ref (L.2.1 0)), (2, .ref (L.2.1 13)), (3, .int i)] []) : Go F L RL cL_law 4 room_1 (some .boolean) Q σ 643 [(0, .ref b), (1, .ref (L.2.1 0)), (2, .ref (L.2.1 13)), (3, .int i)] [] := by
  refine go_aload_n (i := 1) (pc' := 644) dL_law_643 rfl rfl rfl ?_
  refine go_aload_n (i := 0) (pc' := 645) dL_law_644 rfl rfl rfl ?_
  refine go_iload_n (i := 3) (pc' := 646) dL_law_645 rfl rfl rfl ?_
  refine go_iconst (v := 1) (pc' := 647) dL_law_646 rfl (by decide) ?_
  refine go_iadd (pc' := 648) dL_law_647 rfl ?_
  refine go_sld (pc' := 649) hX hbl hbA dL_law_648 rfl (vinI hi hn (by decide)) ?_
  refine go_aload_n (i := 0) (pc' := 650) dL_law_649 rfl rfl rfl ?_
  refine go_iload_n (i := 3) (pc' := 651) dL_law_650 rfl rfl rfl ?_
  refine go_iconst (v := 2) (pc' := 652) dL_law_651 rfl (by decide) ?_
  refine go_iadd (pc' := 653) dL_law_652 rfl ?_
  refine go_sld (pc' := 654) hX hbl hbA dL_law_653 rfl (vinI hi hn (by decide)) ?_
  refine go_cvi (pc' := 657) lk_L_71 (c_X11_before _ _ _ _ _ h.1) rfl rfl (Nat.le_of_ble_eq_true rfl) (by decide) rfl rfl rfl ⟨Nat.le_of_ble_eq_true rfl, Nat.le_of_ble_eq_true rfl⟩ ⟨rfl, rfl⟩ dL_law_654 rfl (fun r_654 σ_654 h_654 => ?_)
  have h1 := INV_WX h h_654
  refine go_pop (pc' := 658) dL_law_657 rfl rfl ?_
  refine go_aload_n (i := 2) (pc' := 659) dL_law_658 rfl rfl rfl ?_
  refine go_aload_n (i := 0) (pc' := 660) dL_law_659 rfl rfl rfl ?_
  refine go_iload_n (i := 3) (pc' := 661) dL_law_660 rfl rfl rfl ?_
  refine go_iconst (v := 1) (pc' := 662) dL_law_661 rfl (by decide) ?_
  refine go_iadd (pc' := 663) dL_law_662 rfl ?_
  refine go_sld (pc' := 664) hX hbl hbA dL_law_663 rfl (vinI hi hn (by decide)) ?_
  refine go_aload_n (i := 0) (pc' := 665) dL_law_664 rfl rfl rfl ?_
  refine go_iload_n (i := 3) (pc' := 666) dL_law_665 rfl rfl rfl ?_
  refine go_iconst (v := 2) (pc' := 667) dL_law_666 rfl (by decide) ?_
  refine go_iadd (pc' := 668) dL_law_667 rfl ?_
  refine go_sld (pc' := 669) hX hbl hbA dL_law_668 rfl (vinI hi hn (by decide)) ?_
  refine go_cvi (pc' := 672) lk_L_74 (c_X12_before _ _ _ _ _ h1.1 h1.2.1) rfl rfl (Nat.le_of_ble_eq_true rfl) (by decide) rfl rfl rfl ⟨Nat.le_of_ble_eq_true rfl, Nat.le_of_ble_eq_true rfl⟩ ⟨rfl, rfl⟩ dL_law_669 rfl (fun r_669 σ_669 h_669 => ?_)
  have q := INV_WM h1 h_669
  refine go_pop (pc' := 673) dL_law_672 rfl rfl ?_
  refine go_goto (tgt := 1459) dL_law_673 (by decide) ?_
  exact hback _ q
set_option maxHeartbeats 4000000 in
set_option maxRecDepth 100000 in
theorem law_14 {F : FX} {L : WL} {b L9 : Nat} {xs : Nat → Int32} {σ : ST} {i : Int32} {Q : State → Prop} (hn : L9 ≤ 2560) (hi : 0 ≤ i.toInt ∧ i.toInt + 4 < L9) (hX : va_X b L9 xs F.2.2.2.1 F.2.2.2.1.heap) (hbl : b < F.2.2.2.1.heap.size) (hbA : ¬ F.2.2.2.2.2.2.2.2.2.1 b) (h : INV σ) (hback : ∀ σ2 : ST, INV σ2 → Go F L RL cL_law 4 room_1 (some .boolean) Q σ2 1459 [(0, .ref b), (1, .ref (L.2.1 0)), (2, .ref (L.2.1 13)), (3, .int i)] []) : Go F L RL cL_law 4 room_1 (some .boolean) Q σ 676 [(0, .ref b), (1, .ref (L.2.1 0)), (2, .ref (L.2.1 13)), (3, .int i)] [] := by
  refine go_aload_n (i := 1) (pc' := 677) dL_law_676 rfl rfl rfl ?_
  refine go_aload_n (i := 0) (pc' := 678) dL_law_677 rfl rfl rfl ?_
  refine go_iload_n (i := 3) (pc' := 679) dL_law_678 rfl rfl rfl ?_
  refine go_iconst (v := 1) (pc' := 680) dL_law_679 rfl (by decide) ?_
  refine go_iadd (pc' := 681) dL_law_680 rfl ?_
  refine go_sld (pc' := 682) hX hbl hbA dL_law_681 rfl (vinI hi hn (by decide)) ?_
  refine go_aload_n (i := 0) (pc' := 683) dL_law_682 rfl rfl rfl ?_
  refine go_iload_n (i := 3) (pc' := 684) dL_law_683 rfl rfl rfl ?_
  refine go_iconst (v := 2) (pc' := 685) dL_law_684 rfl (by decide) ?_
  refine go_iadd (pc' := 686) dL_law_685 rfl ?_
  refine go_sld (pc' := 687) hX hbl hbA dL_law_686 rfl (vinI hi hn (by decide)) ?_
  refine go_aload_n (i := 0) (pc' := 688) dL_law_687 rfl rfl rfl ?_
  refine go_iload_n (i := 3) (pc' := 689) dL_law_688 rfl rfl rfl ?_
  refine go_iconst (v := 3) (pc' := 690) dL_law_689 rfl (by decide) ?_
  refine go_iadd (pc' := 691) dL_law_690 rfl ?_
  refine go_sld (pc' := 692) hX hbl hbA dL_law_691 rfl (vinI hi hn (by decide)) ?_
  refine go_aload_n (i := 0) (pc' := 693) dL_law_692 rfl rfl rfl ?_
  refine go_iload_n (i := 3) (pc' := 694) dL_law_693 rfl rfl rfl ?_
  refine go_iconst (v := 4) (pc' := 695) dL_law_694 rfl (by decide) ?_
  refine go_iadd (pc' := 696) dL_law_695 rfl ?_
  refine go_sld (pc' := 697) hX hbl hbA dL_law_696 rfl (vinI hi hn (by decide)) ?_
  refine go_cvi (pc' := 700) lk_L_75 (e_X11_post _ _ _ _ _ _ _ h.1) rfl rfl (Nat.le_of_ble_eq_true rfl) (by decide) rfl rfl rfl ⟨Nat.le_of_ble_eq_true rfl, Nat.le_of_ble_eq_true rfl⟩ ⟨rfl, rfl⟩ dL_law_697 rfl (fun r_697 σ_697 h_697 => ?_)
  have mi := x_post h h_697
  refine go_pop (pc' := 701) dL_law_700 rfl rfl ?_
  refine go_aload_n (i := 2) (pc' := 702) dL_law_701 rfl rfl rfl ?_
  refine go_aload_n (i := 0) (pc' := 703) dL_law_702 rfl rfl rfl ?_
  refine go_iload_n (i := 3) (pc' := 704) dL_law_703 rfl rfl rfl ?_
  refine go_iconst (v := 1) (pc' := 705) dL_law_704 rfl (by decide) ?_
  refine go_iadd (pc' := 706) dL_law_705 rfl ?_
  refine go_sld (pc' := 707) hX hbl hbA dL_law_706 rfl (vinI hi hn (by decide)) ?_
  refine go_aload_n (i := 0) (pc' := 708) dL_law_707 rfl rfl rfl ?_
  refine go_iload_n (i := 3) (pc' := 709) dL_law_708 rfl rfl rfl ?_
  refine go_iconst (v := 2) (pc' := 710) dL_law_709 rfl (by decide) ?_
  refine go_iadd (pc' := 711) dL_law_710 rfl ?_
  refine go_sld (pc' := 712) hX hbl hbA dL_law_711 rfl (vinI hi hn (by decide)) ?_
  refine go_aload_n (i := 0) (pc' := 713) dL_law_712 rfl rfl rfl ?_
  refine go_iload_n (i := 3) (pc' := 714) dL_law_713 rfl rfl rfl ?_
  refine go_iconst (v := 3) (pc' := 715) dL_law_714 rfl (by decide) ?_
  refine go_iadd (pc' := 716) dL_law_715 rfl ?_
  refine go_sld (pc' := 717) hX hbl hbA dL_law_716 rfl (vinI hi hn (by decide)) ?_
  refine go_aload_n (i := 0) (pc' := 718) dL_law_717 rfl rfl rfl ?_
  refine go_iload_n (i := 3) (pc' := 719) dL_law_718 rfl rfl rfl ?_
  refine go_iconst (v := 4) (pc' := 720) dL_law_719 rfl (by decide) ?_
  refine go_iadd (pc' := 721) dL_law_720 rfl ?_
  refine go_sld (pc' := 722) hX hbl hbA dL_law_721 rfl (vinI hi hn (by decide)) ?_
  refine go_cvi (pc' := 725) lk_L_78 (e_X12_post _ _ _ _ _ _ _ mi.1) rfl rfl (Nat.le_of_ble_eq_true rfl) (by decide) rfl rfl rfl ⟨Nat.le_of_ble_eq_true rfl, Nat.le_of_ble_eq_true rfl⟩ ⟨rfl, rfl⟩ dL_law_722 rfl (fun r_722 σ_722 h_722 => ?_)
  have q := b_post h h_697 h_722
  refine go_pop (pc' := 726) dL_law_725 rfl rfl ?_
  refine go_goto (tgt := 1459) dL_law_726 (by decide) ?_
  exact hback _ q.1
set_option maxHeartbeats 4000000 in
set_option maxRecDepth 100000 in
theorem law_15 {F : FX} {L : WL} {b L9 : Nat} {xs : Nat → Int32} {σ : ST} {i : Int32} {Q : State → Prop} (hn : L9 ≤ 2560) (hi : 0 ≤ i.toInt ∧ i.toInt + 4 < L9) (hX : va_X b L9 xs F.2.2.2.1 F.2.2.2.1.heap) (hbl : b < F.2.2.2.1.heap.size) (hbA : ¬ F.2.2.2.2.2.2.2.2.2.1 b) (h : INV σ) (hback : ∀ σ2 : ST, INV σ2 → Go F L RL cL_law 4 room_1 (some .boolean) Q σ2 1459 [(0, .ref b), (1, .ref (L.2.1 0)), (2, .ref (L.2.1 13)), (3, .int i)] []) : Go F L RL cL_law 4 room_1 (some .boolean) Q σ 729 [(0, .ref b), (1, .ref (L.2.1 0)), (2, .ref (L.2.1 13)), (3, .int i)] [] := by
  refine go_aload_n (i := 1) (pc' := 730) dL_law_729 rfl rfl rfl ?_
  refine go_aload_n (i := 0) (pc' := 731) dL_law_730 rfl rfl rfl ?_
  refine go_iload_n (i := 3) (pc' := 732) dL_law_731 rfl rfl rfl ?_
  refine go_iconst (v := 1) (pc' := 733) dL_law_732 rfl (by decide) ?_
  refine go_iadd (pc' := 734) dL_law_733 rfl ?_
  refine go_sld (pc' := 735) hX hbl hbA dL_law_734 rfl (vinI hi hn (by decide)) ?_
  refine go_aload_n (i := 0) (pc' := 736) dL_law_735 rfl rfl rfl ?_
  refine go_iload_n (i := 3) (pc' := 737) dL_law_736 rfl rfl rfl ?_
  refine go_iconst (v := 2) (pc' := 738) dL_law_737 rfl (by decide) ?_
  refine go_iadd (pc' := 739) dL_law_738 rfl ?_
  refine go_sld (pc' := 740) hX hbl hbA dL_law_739 rfl (vinI hi hn (by decide)) ?_
  refine go_aload_n (i := 0) (pc' := 741) dL_law_740 rfl rfl rfl ?_
  refine go_iload_n (i := 3) (pc' := 742) dL_law_741 rfl rfl rfl ?_
  refine go_iconst (v := 3) (pc' := 743) dL_law_742 rfl (by decide) ?_
  refine go_iadd (pc' := 744) dL_law_743 rfl ?_
  refine go_sld (pc' := 745) hX hbl hbA dL_law_744 rfl (vinI hi hn (by decide)) ?_
  refine go_aload_n (i := 0) (pc' := 746) dL_law_745 rfl rfl rfl ?_
  refine go_iload_n (i := 3) (pc' := 747) dL_law_746 rfl rfl rfl ?_
  refine go_iconst (v := 4) (pc' := 748) dL_law_747 rfl (by decide) ?_
  refine go_iadd (pc' := 749) dL_law_748 rfl ?_
  refine go_sld (pc' := 750) hX hbl hbA dL_law_749 rfl (vinI hi hn (by decide)) ?_
  refine go_cvi (pc' := 753) lk_L_79 (c_X11_read _ _ _ _ _ _ _ h.1) rfl rfl (Nat.le_of_ble_eq_true rfl) (by decide) rfl rfl rfl ⟨Nat.le_of_ble_eq_true rfl, Nat.le_of_ble_eq_true rfl⟩ ⟨rfl, rfl⟩ dL_law_750 rfl (fun r_750 σ_750 h_750 => ?_)
  have h1 := INV_WX h h_750
  refine go_pop (pc' := 754) dL_law_753 rfl rfl ?_
  refine go_aload_n (i := 2) (pc' := 755) dL_law_754 rfl rfl rfl ?_
  refine go_aload_n (i := 0) (pc' := 756) dL_law_755 rfl rfl rfl ?_
  refine go_iload_n (i := 3) (pc' := 757) dL_law_756 rfl rfl rfl ?_
  refine go_iconst (v := 1) (pc' := 758) dL_law_757 rfl (by decide) ?_
  refine go_iadd (pc' := 759) dL_law_758 rfl ?_
  refine go_sld (pc' := 760) hX hbl hbA dL_law_759 rfl (vinI hi hn (by decide)) ?_
  refine go_aload_n (i := 0) (pc' := 761) dL_law_760 rfl rfl rfl ?_
  refine go_iload_n (i := 3) (pc' := 762) dL_law_761 rfl rfl rfl ?_
  refine go_iconst (v := 2) (pc' := 763) dL_law_762 rfl (by decide) ?_
  refine go_iadd (pc' := 764) dL_law_763 rfl ?_
  refine go_sld (pc' := 765) hX hbl hbA dL_law_764 rfl (vinI hi hn (by decide)) ?_
  refine go_aload_n (i := 0) (pc' := 766) dL_law_765 rfl rfl rfl ?_
  refine go_iload_n (i := 3) (pc' := 767) dL_law_766 rfl rfl rfl ?_
  refine go_iconst (v := 3) (pc' := 768) dL_law_767 rfl (by decide) ?_
  refine go_iadd (pc' := 769) dL_law_768 rfl ?_
  refine go_sld (pc' := 770) hX hbl hbA dL_law_769 rfl (vinI hi hn (by decide)) ?_
  refine go_aload_n (i := 0) (pc' := 771) dL_law_770 rfl rfl rfl ?_
  refine go_iload_n (i := 3) (pc' := 772) dL_law_771 rfl rfl rfl ?_
  refine go_iconst (v := 4) (pc' := 773) dL_law_772 rfl (by decide) ?_
  refine go_iadd (pc' := 774) dL_law_773 rfl ?_
  refine go_sld (pc' := 775) hX hbl hbA dL_law_774 rfl (vinI hi hn (by decide)) ?_
  refine go_cvi (pc' := 778) lk_L_82 (c_X12_read _ _ _ _ _ _ _ h1.1 h1.2.1) rfl rfl (Nat.le_of_ble_eq_true rfl) (by decide) rfl rfl rfl ⟨Nat.le_of_ble_eq_true rfl, Nat.le_of_ble_eq_true rfl⟩ ⟨rfl, rfl⟩ dL_law_775 rfl (fun r_775 σ_775 h_775 => ?_)
  have q := INV_WM h1 h_775
  refine go_pop (pc' := 779) dL_law_778 rfl rfl ?_
  refine go_goto (tgt := 1459) dL_law_779 (by decide) ?_
  exact hback _ q
set_option maxHeartbeats 4000000 in
set_option maxRecDepth 100000 in
theorem law_16 {F : FX} {L : WL} {b L9 : Nat} {xs : Nat → Int32} {σ : ST} {i : Int32} {Q : State → Prop} (hn : L9 ≤ 2560) (hi : 0 ≤ i.toInt ∧ i.toInt + 4 < L9) (hX : va_X b L9 xs F.2.2.2.1 F.2.2.2.1.heap) (hbl : b < F.2.2.2.1.heap.size) (hbA : ¬ F.2.2.2.2.2.2.2.2.2.1 b) (h : INV σ) (hback : ∀ σ2 : ST, INV σ2 → Go F L RL cL_law 4 room_1 (some .boolean) Q σ2 1459 [(0, .ref b), (1, .ref (L.2.1 0)), (2, .ref (L.2.1 13)), (3, .int i)] []) : Go F L RL cL_law 4 room_1 (some .boolean) Q σ 782 [(0, .ref b), (1, .ref (L.2.1 0)), (2, .ref (L.2.1 13)), (3, .int i)] [] := by
  refine go_aload_n (i := 1) (pc' := 783) dL_law_782 rfl rfl rfl ?_
  refine go_aload_n (i := 0) (pc' := 784) dL_law_783 rfl rfl rfl ?_
  refine go_iload_n (i := 3) (pc' := 785) dL_law_784 rfl rfl rfl ?_
  refine go_iconst (v := 1) (pc' := 786) dL_law_785 rfl (by decide) ?_
  refine go_iadd (pc' := 787) dL_law_786 rfl ?_
  refine go_sld (pc' := 788) hX hbl hbA dL_law_787 rfl (vinI hi hn (by decide)) ?_
  refine go_aload_n (i := 0) (pc' := 789) dL_law_788 rfl rfl rfl ?_
  refine go_iload_n (i := 3) (pc' := 790) dL_law_789 rfl rfl rfl ?_
  refine go_iconst (v := 2) (pc' := 791) dL_law_790 rfl (by decide) ?_
  refine go_iadd (pc' := 792) dL_law_791 rfl ?_
  refine go_sld (pc' := 793) hX hbl hbA dL_law_792 rfl (vinI hi hn (by decide)) ?_
  refine go_aload_n (i := 0) (pc' := 794) dL_law_793 rfl rfl rfl ?_
  refine go_iload_n (i := 3) (pc' := 795) dL_law_794 rfl rfl rfl ?_
  refine go_iconst (v := 3) (pc' := 796) dL_law_795 rfl (by decide) ?_
  refine go_iadd (pc' := 797) dL_law_796 rfl ?_
  refine go_sld (pc' := 798) hX hbl hbA dL_law_797 rfl (vinI hi hn (by decide)) ?_
  refine go_cvi (pc' := 801) lk_L_83 (c_X11_reads _ _ _ _ _ _ h.1) rfl rfl (Nat.le_of_ble_eq_true rfl) (by decide) rfl rfl rfl ⟨Nat.le_of_ble_eq_true rfl, Nat.le_of_ble_eq_true rfl⟩ ⟨rfl, rfl⟩ dL_law_798 rfl (fun r_798 σ_798 h_798 => ?_)
  have h1 := INV_WX h h_798
  refine go_pop (pc' := 802) dL_law_801 rfl rfl ?_
  refine go_aload_n (i := 2) (pc' := 803) dL_law_802 rfl rfl rfl ?_
  refine go_aload_n (i := 0) (pc' := 804) dL_law_803 rfl rfl rfl ?_
  refine go_iload_n (i := 3) (pc' := 805) dL_law_804 rfl rfl rfl ?_
  refine go_iconst (v := 1) (pc' := 806) dL_law_805 rfl (by decide) ?_
  refine go_iadd (pc' := 807) dL_law_806 rfl ?_
  refine go_sld (pc' := 808) hX hbl hbA dL_law_807 rfl (vinI hi hn (by decide)) ?_
  refine go_aload_n (i := 0) (pc' := 809) dL_law_808 rfl rfl rfl ?_
  refine go_iload_n (i := 3) (pc' := 810) dL_law_809 rfl rfl rfl ?_
  refine go_iconst (v := 2) (pc' := 811) dL_law_810 rfl (by decide) ?_
  refine go_iadd (pc' := 812) dL_law_811 rfl ?_
  refine go_sld (pc' := 813) hX hbl hbA dL_law_812 rfl (vinI hi hn (by decide)) ?_
  refine go_aload_n (i := 0) (pc' := 814) dL_law_813 rfl rfl rfl ?_
  refine go_iload_n (i := 3) (pc' := 815) dL_law_814 rfl rfl rfl ?_
  refine go_iconst (v := 3) (pc' := 816) dL_law_815 rfl (by decide) ?_
  refine go_iadd (pc' := 817) dL_law_816 rfl ?_
  refine go_sld (pc' := 818) hX hbl hbA dL_law_817 rfl (vinI hi hn (by decide)) ?_
  refine go_cvi (pc' := 821) lk_L_86 (c_X12_reads _ _ _ _ _ _ h1.1 h1.2.1) rfl rfl (Nat.le_of_ble_eq_true rfl) (by decide) rfl rfl rfl ⟨Nat.le_of_ble_eq_true rfl, Nat.le_of_ble_eq_true rfl⟩ ⟨rfl, rfl⟩ dL_law_818 rfl (fun r_818 σ_818 h_818 => ?_)
  have q := INV_WM h1 h_818
  refine go_pop (pc' := 822) dL_law_821 rfl rfl ?_
  refine go_goto (tgt := 1459) dL_law_822 (by decide) ?_
  exact hback _ q
set_option maxHeartbeats 4000000 in
set_option maxRecDepth 100000 in
theorem law_17 {F : FX} {L : WL} {b L9 : Nat} {xs : Nat → Int32} {σ : ST} {i : Int32} {Q : State → Prop} (hn : L9 ≤ 2560) (hi : 0 ≤ i.toInt ∧ i.toInt + 4 < L9) (hX : va_X b L9 xs F.2.2.2.1 F.2.2.2.1.heap) (hbl : b < F.2.2.2.1.heap.size) (hbA : ¬ F.2.2.2.2.2.2.2.2.2.1 b) (h : INV σ) (hback : ∀ σ2 : ST, INV σ2 → Go F L RL cL_law 4 room_1 (some .boolean) Q σ2 1459 [(0, .ref b), (1, .ref (L.2.1 0)), (2, .ref (L.2.1 13)), (3, .int i)] []) : Go F L RL cL_law 4 room_1 (some .boolean) Q σ 825 [(0, .ref b), (1, .ref (L.2.1 0)), (2, .ref (L.2.1 13)), (3, .int i)] [] := by
  refine go_aload_n (i := 1) (pc' := 826) dL_law_825 rfl rfl rfl ?_
  refine go_aload_n (i := 0) (pc' := 827) dL_law_826 rfl rfl rfl ?_
  refine go_iload_n (i := 3) (pc' := 828) dL_law_827 rfl rfl rfl ?_
  refine go_iconst (v := 1) (pc' := 829) dL_law_828 rfl (by decide) ?_
  refine go_iadd (pc' := 830) dL_law_829 rfl ?_
  refine go_sld (pc' := 831) hX hbl hbA dL_law_830 rfl (vinI hi hn (by decide)) ?_
  refine go_aload_n (i := 0) (pc' := 832) dL_law_831 rfl rfl rfl ?_
  refine go_iload_n (i := 3) (pc' := 833) dL_law_832 rfl rfl rfl ?_
  refine go_iconst (v := 2) (pc' := 834) dL_law_833 rfl (by decide) ?_
  refine go_iadd (pc' := 835) dL_law_834 rfl ?_
  refine go_sld (pc' := 836) hX hbl hbA dL_law_835 rfl (vinI hi hn (by decide)) ?_
  refine go_cvi (pc' := 839) lk_L_87 (c_X11_means _ _ _ _ _ h.1) rfl rfl (Nat.le_of_ble_eq_true rfl) (by decide) rfl rfl rfl ⟨Nat.le_of_ble_eq_true rfl, Nat.le_of_ble_eq_true rfl⟩ ⟨rfl, rfl⟩ dL_law_836 rfl (fun r_836 σ_836 h_836 => ?_)
  have h1 := INV_WX h h_836
  refine go_pop (pc' := 840) dL_law_839 rfl rfl ?_
  refine go_aload_n (i := 2) (pc' := 841) dL_law_840 rfl rfl rfl ?_
  refine go_aload_n (i := 0) (pc' := 842) dL_law_841 rfl rfl rfl ?_
  refine go_iload_n (i := 3) (pc' := 843) dL_law_842 rfl rfl rfl ?_
  refine go_iconst (v := 1) (pc' := 844) dL_law_843 rfl (by decide) ?_
  refine go_iadd (pc' := 845) dL_law_844 rfl ?_
  refine go_sld (pc' := 846) hX hbl hbA dL_law_845 rfl (vinI hi hn (by decide)) ?_
  refine go_aload_n (i := 0) (pc' := 847) dL_law_846 rfl rfl rfl ?_
  refine go_iload_n (i := 3) (pc' := 848) dL_law_847 rfl rfl rfl ?_
  refine go_iconst (v := 2) (pc' := 849) dL_law_848 rfl (by decide) ?_
  refine go_iadd (pc' := 850) dL_law_849 rfl ?_
  refine go_sld (pc' := 851) hX hbl hbA dL_law_850 rfl (vinI hi hn (by decide)) ?_
  refine go_cvi (pc' := 854) lk_L_90 (c_X12_means _ _ _ _ _ h1.1 h1.2.1) rfl rfl (Nat.le_of_ble_eq_true rfl) (by decide) rfl rfl rfl ⟨Nat.le_of_ble_eq_true rfl, Nat.le_of_ble_eq_true rfl⟩ ⟨rfl, rfl⟩ dL_law_851 rfl (fun r_851 σ_851 h_851 => ?_)
  have q := INV_WM h1 h_851
  refine go_pop (pc' := 855) dL_law_854 rfl rfl ?_
  refine go_goto (tgt := 1459) dL_law_855 (by decide) ?_
  exact hback _ q
set_option maxHeartbeats 4000000 in
set_option maxRecDepth 100000 in
theorem law_18 {F : FX} {L : WL} {b L9 : Nat} {xs : Nat → Int32} {σ : ST} {i : Int32} {Q : State → Prop} (hn : L9 ≤ 2560) (hi : 0 ≤ i.toInt ∧ i.toInt + 4 < L9) (hX : va_X b L9 xs F.2.2.2.1 F.2.2.2.1.heap) (hbl : b < F.2.2.2.1.heap.size) (hbA : ¬ F.2.2.2.2.2.2.2.2.2.1 b) (h : INV σ) (hback : ∀ σ2 : ST, INV σ2 → Go F L RL cL_law 4 room_1 (some .boolean) Q σ2 1459 [(0, .ref b), (1, .ref (L.2.1 0)), (2, .ref (L.2.1 13)), (3, .int i)] []) : Go F L RL cL_law 4 room_1 (some .boolean) Q σ 858 [(0, .ref b), (1, .ref (L.2.1 0)), (2, .ref (L.2.1 13)), (3, .int i)] [] := by
  refine go_aload_n (i := 1) (pc' := 859) dL_law_858 rfl rfl rfl ?_
  refine go_aload_n (i := 0) (pc' := 860) dL_law_859 rfl rfl rfl ?_
  refine go_iload_n (i := 3) (pc' := 861) dL_law_860 rfl rfl rfl ?_
  refine go_iconst (v := 1) (pc' := 862) dL_law_861 rfl (by decide) ?_
  refine go_iadd (pc' := 863) dL_law_862 rfl ?_
  refine go_sld (pc' := 864) hX hbl hbA dL_law_863 rfl (vinI hi hn (by decide)) ?_
  refine go_aload_n (i := 0) (pc' := 865) dL_law_864 rfl rfl rfl ?_
  refine go_iload_n (i := 3) (pc' := 866) dL_law_865 rfl rfl rfl ?_
  refine go_iconst (v := 2) (pc' := 867) dL_law_866 rfl (by decide) ?_
  refine go_iadd (pc' := 868) dL_law_867 rfl ?_
  refine go_sld (pc' := 869) hX hbl hbA dL_law_868 rfl (vinI hi hn (by decide)) ?_
  refine go_cvi (pc' := 872) lk_L_91 (c_X11_who _ _ _ _ _ h.1) rfl rfl (Nat.le_of_ble_eq_true rfl) (by decide) rfl rfl rfl ⟨Nat.le_of_ble_eq_true rfl, Nat.le_of_ble_eq_true rfl⟩ ⟨rfl, rfl⟩ dL_law_869 rfl (fun r_869 σ_869 h_869 => ?_)
  have h1 := INV_WX h h_869
  refine go_pop (pc' := 873) dL_law_872 rfl rfl ?_
  refine go_aload_n (i := 2) (pc' := 874) dL_law_873 rfl rfl rfl ?_
  refine go_aload_n (i := 0) (pc' := 875) dL_law_874 rfl rfl rfl ?_
  refine go_iload_n (i := 3) (pc' := 876) dL_law_875 rfl rfl rfl ?_
  refine go_iconst (v := 1) (pc' := 877) dL_law_876 rfl (by decide) ?_
  refine go_iadd (pc' := 878) dL_law_877 rfl ?_
  refine go_sld (pc' := 879) hX hbl hbA dL_law_878 rfl (vinI hi hn (by decide)) ?_
  refine go_aload_n (i := 0) (pc' := 880) dL_law_879 rfl rfl rfl ?_
  refine go_iload_n (i := 3) (pc' := 881) dL_law_880 rfl rfl rfl ?_
  refine go_iconst (v := 2) (pc' := 882) dL_law_881 rfl (by decide) ?_
  refine go_iadd (pc' := 883) dL_law_882 rfl ?_
  refine go_sld (pc' := 884) hX hbl hbA dL_law_883 rfl (vinI hi hn (by decide)) ?_
  refine go_cvi (pc' := 887) lk_L_94 (c_X12_who _ _ _ _ _ h1.1 h1.2.1) rfl rfl (Nat.le_of_ble_eq_true rfl) (by decide) rfl rfl rfl ⟨Nat.le_of_ble_eq_true rfl, Nat.le_of_ble_eq_true rfl⟩ ⟨rfl, rfl⟩ dL_law_884 rfl (fun r_884 σ_884 h_884 => ?_)
  have q := INV_WM h1 h_884
  refine go_pop (pc' := 888) dL_law_887 rfl rfl ?_
  refine go_goto (tgt := 1459) dL_law_888 (by decide) ?_
  exact hback _ q
set_option maxHeartbeats 4000000 in
set_option maxRecDepth 100000 in
theorem law_19 {F : FX} {L : WL} {b L9 : Nat} {xs : Nat → Int32} {σ : ST} {i : Int32} {Q : State → Prop} (hn : L9 ≤ 2560) (hi : 0 ≤ i.toInt ∧ i.toInt + 4 < L9) (hX : va_X b L9 xs F.2.2.2.1 F.2.2.2.1.heap) (hbl : b < F.2.2.2.1.heap.size) (hbA : ¬ F.2.2.2.2.2.2.2.2.2.1 b) (h : INV σ) (hback : ∀ σ2 : ST, INV σ2 → Go F L RL cL_law 4 room_1 (some .boolean) Q σ2 1459 [(0, .ref b), (1, .ref (L.2.1 0)), (2, .ref (L.2.1 13)), (3, .int i)] []) : Go F L RL cL_law 4 room_1 (some .boolean) Q σ 891 [(0, .ref b), (1, .ref (L.2.1 0)), (2, .ref (L.2.1 13)), (3, .int i)] [] := by
  refine go_aload_n (i := 1) (pc' := 892) dL_law_891 rfl rfl rfl ?_
  refine go_aload_n (i := 0) (pc' := 893) dL_law_892 rfl rfl rfl ?_
  refine go_iload_n (i := 3) (pc' := 894) dL_law_893 rfl rfl rfl ?_
  refine go_iconst (v := 1) (pc' := 895) dL_law_894 rfl (by decide) ?_
  refine go_iadd (pc' := 896) dL_law_895 rfl ?_
  refine go_sld (pc' := 897) hX hbl hbA dL_law_896 rfl (vinI hi hn (by decide)) ?_
  refine go_aload_n (i := 0) (pc' := 898) dL_law_897 rfl rfl rfl ?_
  refine go_iload_n (i := 3) (pc' := 899) dL_law_898 rfl rfl rfl ?_
  refine go_iconst (v := 2) (pc' := 900) dL_law_899 rfl (by decide) ?_
  refine go_iadd (pc' := 901) dL_law_900 rfl ?_
  refine go_sld (pc' := 902) hX hbl hbA dL_law_901 rfl (vinI hi hn (by decide)) ?_
  refine go_aload_n (i := 0) (pc' := 903) dL_law_902 rfl rfl rfl ?_
  refine go_iload_n (i := 3) (pc' := 904) dL_law_903 rfl rfl rfl ?_
  refine go_iconst (v := 3) (pc' := 905) dL_law_904 rfl (by decide) ?_
  refine go_iadd (pc' := 906) dL_law_905 rfl ?_
  refine go_sld (pc' := 907) hX hbl hbA dL_law_906 rfl (vinI hi hn (by decide)) ?_
  refine go_cvi (pc' := 910) lk_L_95 (e_X11_hand _ _ _ _ _ _ h.1) rfl rfl (Nat.le_of_ble_eq_true rfl) (by decide) rfl rfl rfl ⟨Nat.le_of_ble_eq_true rfl, Nat.le_of_ble_eq_true rfl⟩ ⟨rfl, rfl⟩ dL_law_907 rfl (fun r_907 σ_907 h_907 => ?_)
  have mi := x_hand h h_907
  refine go_pop (pc' := 911) dL_law_910 rfl rfl ?_
  refine go_aload_n (i := 2) (pc' := 912) dL_law_911 rfl rfl rfl ?_
  refine go_aload_n (i := 0) (pc' := 913) dL_law_912 rfl rfl rfl ?_
  refine go_iload_n (i := 3) (pc' := 914) dL_law_913 rfl rfl rfl ?_
  refine go_iconst (v := 1) (pc' := 915) dL_law_914 rfl (by decide) ?_
  refine go_iadd (pc' := 916) dL_law_915 rfl ?_
  refine go_sld (pc' := 917) hX hbl hbA dL_law_916 rfl (vinI hi hn (by decide)) ?_
  refine go_aload_n (i := 0) (pc' := 918) dL_law_917 rfl rfl rfl ?_
  refine go_iload_n (i := 3) (pc' := 919) dL_law_918 rfl rfl rfl ?_
  refine go_iconst (v := 2) (pc' := 920) dL_law_919 rfl (by decide) ?_
  refine go_iadd (pc' := 921) dL_law_920 rfl ?_
  refine go_sld (pc' := 922) hX hbl hbA dL_law_921 rfl (vinI hi hn (by decide)) ?_
  refine go_aload_n (i := 0) (pc' := 923) dL_law_922 rfl rfl rfl ?_
  refine go_iload_n (i := 3) (pc' := 924) dL_law_923 rfl rfl rfl ?_
  refine go_iconst (v := 3) (pc' := 925) dL_law_924 rfl (by decide) ?_
  refine go_iadd (pc' := 926) dL_law_925 rfl ?_
  refine go_sld (pc' := 927) hX hbl hbA dL_law_926 rfl (vinI hi hn (by decide)) ?_
  refine go_cvi (pc' := 930) lk_L_98 (e_X12_hand _ _ _ _ _ _ mi.1) rfl rfl (Nat.le_of_ble_eq_true rfl) (by decide) rfl rfl rfl ⟨Nat.le_of_ble_eq_true rfl, Nat.le_of_ble_eq_true rfl⟩ ⟨rfl, rfl⟩ dL_law_927 rfl (fun r_927 σ_927 h_927 => ?_)
  have q := b_hand h h_907 h_927
  refine go_pop (pc' := 931) dL_law_930 rfl rfl ?_
  refine go_goto (tgt := 1459) dL_law_931 (by decide) ?_
  exact hback _ q.1
set_option maxHeartbeats 4000000 in
set_option maxRecDepth 100000 in
theorem law_20 {F : FX} {L : WL} {b L9 : Nat} {xs : Nat → Int32} {σ : ST} {i : Int32} {Q : State → Prop} (hn : L9 ≤ 2560) (hi : 0 ≤ i.toInt ∧ i.toInt + 4 < L9) (hX : va_X b L9 xs F.2.2.2.1 F.2.2.2.1.heap) (hbl : b < F.2.2.2.1.heap.size) (hbA : ¬ F.2.2.2.2.2.2.2.2.2.1 b) (h : INV σ) (hback : ∀ σ2 : ST, INV σ2 → Go F L RL cL_law 4 room_1 (some .boolean) Q σ2 1459 [(0, .ref b), (1, .ref (L.2.1 0)), (2, .ref (L.2.1 13)), (3, .int i)] []) : Go F L RL cL_law 4 room_1 (some .boolean) Q σ 934 [(0, .ref b), (1, .ref (L.2.1 0)), (2, .ref (L.2.1 13)), (3, .int i)] [] := by
  refine go_aload_n (i := 1) (pc' := 935) dL_law_934 rfl rfl rfl ?_
  refine go_aload_n (i := 0) (pc' := 936) dL_law_935 rfl rfl rfl ?_
  refine go_iload_n (i := 3) (pc' := 937) dL_law_936 rfl rfl rfl ?_
  refine go_iconst (v := 1) (pc' := 938) dL_law_937 rfl (by decide) ?_
  refine go_iadd (pc' := 939) dL_law_938 rfl ?_
  refine go_sld (pc' := 940) hX hbl hbA dL_law_939 rfl (vinI hi hn (by decide)) ?_
  refine go_aload_n (i := 0) (pc' := 941) dL_law_940 rfl rfl rfl ?_
  refine go_iload_n (i := 3) (pc' := 942) dL_law_941 rfl rfl rfl ?_
  refine go_iconst (v := 2) (pc' := 943) dL_law_942 rfl (by decide) ?_
  refine go_iadd (pc' := 944) dL_law_943 rfl ?_
  refine go_sld (pc' := 945) hX hbl hbA dL_law_944 rfl (vinI hi hn (by decide)) ?_
  refine go_i2l (pc' := 946) dL_law_945 rfl ?_
  refine go_bipush (v := 32) (pc' := 948) dL_law_946 rfl (by decide) ?_
  refine go_lshl (pc' := 949) dL_law_948 rfl ?_
  refine go_aload_n (i := 0) (pc' := 950) dL_law_949 rfl rfl rfl ?_
  refine go_iload_n (i := 3) (pc' := 951) dL_law_950 rfl rfl rfl ?_
  refine go_iconst (v := 3) (pc' := 952) dL_law_951 rfl (by decide) ?_
  refine go_iadd (pc' := 953) dL_law_952 rfl ?_
  refine go_sld (pc' := 954) hX hbl hbA dL_law_953 rfl (vinI hi hn (by decide)) ?_
  refine go_i2l (pc' := 955) dL_law_954 rfl ?_
  refine go_ldc2 (pc' := 958) dL_law_955 rfl cst_L_99 ?_
  refine go_land (pc' := 959) dL_law_958 rfl ?_
  refine go_lor (pc' := 960) dL_law_959 rfl ?_
  refine go_cvi (pc' := 963) lk_L_101 (e_X11_feed _ _ _ _ _ h.1) rfl rfl (Nat.le_of_ble_eq_true rfl) (by decide) rfl rfl rfl ⟨Nat.le_of_ble_eq_true rfl, Nat.le_of_ble_eq_true rfl⟩ ⟨rfl, rfl⟩ dL_law_960 rfl (fun r_960 σ_960 h_960 => ?_)
  have mi := x_feed h h_960
  refine go_pop (pc' := 964) dL_law_963 rfl rfl ?_
  refine go_aload_n (i := 2) (pc' := 965) dL_law_964 rfl rfl rfl ?_
  refine go_aload_n (i := 0) (pc' := 966) dL_law_965 rfl rfl rfl ?_
  refine go_iload_n (i := 3) (pc' := 967) dL_law_966 rfl rfl rfl ?_
  refine go_iconst (v := 1) (pc' := 968) dL_law_967 rfl (by decide) ?_
  refine go_iadd (pc' := 969) dL_law_968 rfl ?_
  refine go_sld (pc' := 970) hX hbl hbA dL_law_969 rfl (vinI hi hn (by decide)) ?_
  refine go_aload_n (i := 0) (pc' := 971) dL_law_970 rfl rfl rfl ?_
  refine go_iload_n (i := 3) (pc' := 972) dL_law_971 rfl rfl rfl ?_
  refine go_iconst (v := 2) (pc' := 973) dL_law_972 rfl (by decide) ?_
  refine go_iadd (pc' := 974) dL_law_973 rfl ?_
  refine go_sld (pc' := 975) hX hbl hbA dL_law_974 rfl (vinI hi hn (by decide)) ?_
  refine go_i2l (pc' := 976) dL_law_975 rfl ?_
  refine go_bipush (v := 32) (pc' := 978) dL_law_976 rfl (by decide) ?_
  refine go_lshl (pc' := 979) dL_law_978 rfl ?_
  refine go_aload_n (i := 0) (pc' := 980) dL_law_979 rfl rfl rfl ?_
  refine go_iload_n (i := 3) (pc' := 981) dL_law_980 rfl rfl rfl ?_
  refine go_iconst (v := 3) (pc' := 982) dL_law_981 rfl (by decide) ?_
  refine go_iadd (pc' := 983) dL_law_982 rfl ?_
  refine go_sld (pc' := 984) hX hbl hbA dL_law_983 rfl (vinI hi hn (by decide)) ?_
  refine go_i2l (pc' := 985) dL_law_984 rfl ?_
  refine go_ldc2 (pc' := 988) dL_law_985 rfl cst_L_99 ?_
  refine go_land (pc' := 989) dL_law_988 rfl ?_
  refine go_lor (pc' := 990) dL_law_989 rfl ?_
  refine go_cvi (pc' := 993) lk_L_105 (e_X12_feed _ _ _ _ _ mi.1) rfl rfl (Nat.le_of_ble_eq_true rfl) (by decide) rfl rfl rfl ⟨Nat.le_of_ble_eq_true rfl, Nat.le_of_ble_eq_true rfl⟩ ⟨rfl, rfl⟩ dL_law_990 rfl (fun r_990 σ_990 h_990 => ?_)
  have q := b_feed h h_960 h_990
  refine go_pop (pc' := 994) dL_law_993 rfl rfl ?_
  refine go_goto (tgt := 1459) dL_law_994 (by decide) ?_
  exact hback _ q.1
set_option maxHeartbeats 4000000 in
set_option maxRecDepth 100000 in
theorem law_21 {F : FX} {L : WL} {b L9 : Nat} {xs : Nat → Int32} {σ : ST} {i : Int32} {Q : State → Prop} (hn : L9 ≤ 2560) (hi : 0 ≤ i.toInt ∧ i.toInt + 4 < L9) (hX : va_X b L9 xs F.2.2.2.1 F.2.2.2.1.heap) (hbl : b < F.2.2.2.1.heap.size) (hbA : ¬ F.2.2.2.2.2.2.2.2.2.1 b) (h : INV σ) (hback : ∀ σ2 : ST, INV σ2 → Go F L RL cL_law 4 room_1 (some .boolean) Q σ2 1459 [(0, .ref b), (1, .ref (L.2.1 0)), (2, .ref (L.2.1 13)), (3, .int i)] []) : Go F L RL cL_law 4 room_1 (some .boolean) Q σ 997 [(0, .ref b), (1, .ref (L.2.1 0)), (2, .ref (L.2.1 13)), (3, .int i)] [] := by
  refine go_aload_n (i := 1) (pc' := 998) dL_law_997 rfl rfl rfl ?_
  refine go_aload_n (i := 0) (pc' := 999) dL_law_998 rfl rfl rfl ?_
  refine go_iload_n (i := 3) (pc' := 1000) dL_law_999 rfl rfl rfl ?_
  refine go_iconst (v := 1) (pc' := 1001) dL_law_1000 rfl (by decide) ?_
  refine go_iadd (pc' := 1002) dL_law_1001 rfl ?_
  refine go_sld (pc' := 1003) hX hbl hbA dL_law_1002 rfl (vinI hi hn (by decide)) ?_
  refine go_cvi (pc' := 1006) lk_L_106 (e_X11_text _ _ _ _ h.1) rfl rfl (Nat.le_of_ble_eq_true rfl) (by decide) rfl rfl rfl ⟨Nat.le_of_ble_eq_true rfl, Nat.le_of_ble_eq_true rfl⟩ ⟨rfl, rfl⟩ dL_law_1003 rfl (fun r_1003 σ_1003 h_1003 => ?_)
  have mi := x_text h h_1003
  refine go_pop (pc' := 1007) dL_law_1006 rfl rfl ?_
  refine go_aload_n (i := 2) (pc' := 1008) dL_law_1007 rfl rfl rfl ?_
  refine go_aload_n (i := 0) (pc' := 1009) dL_law_1008 rfl rfl rfl ?_
  refine go_iload_n (i := 3) (pc' := 1010) dL_law_1009 rfl rfl rfl ?_
  refine go_iconst (v := 1) (pc' := 1011) dL_law_1010 rfl (by decide) ?_
  refine go_iadd (pc' := 1012) dL_law_1011 rfl ?_
  refine go_sld (pc' := 1013) hX hbl hbA dL_law_1012 rfl (vinI hi hn (by decide)) ?_
  refine go_cvi (pc' := 1016) lk_L_109 (c_X12_text _ _ _ _ mi.1 mi.2.2) rfl rfl (Nat.le_of_ble_eq_true rfl) (by decide) rfl rfl rfl ⟨Nat.le_of_ble_eq_true rfl, Nat.le_of_ble_eq_true rfl⟩ ⟨rfl, rfl⟩ dL_law_1013 rfl (fun r_1013 σ_1013 h_1013 => ?_)
  have q := b_text h h_1003 h_1013
  refine go_pop (pc' := 1017) dL_law_1016 rfl rfl ?_
  refine go_goto (tgt := 1459) dL_law_1017 (by decide) ?_
  exact hback _ q
set_option maxHeartbeats 4000000 in
set_option maxRecDepth 100000 in
theorem law_22 {F : FX} {L : WL} {b L9 : Nat} {xs : Nat → Int32} {σ : ST} {i : Int32} {Q : State → Prop} (hn : L9 ≤ 2560) (hi : 0 ≤ i.toInt ∧ i.toInt + 4 < L9) (hX : va_X b L9 xs F.2.2.2.1 F.2.2.2.1.heap) (hbl : b < F.2.2.2.1.heap.size) (hbA : ¬ F.2.2.2.2.2.2.2.2.2.1 b) (h : INV σ) (hback : ∀ σ2 : ST, INV σ2 → Go F L RL cL_law 4 room_1 (some .boolean) Q σ2 1459 [(0, .ref b), (1, .ref (L.2.1 0)), (2, .ref (L.2.1 13)), (3, .int i)] []) : Go F L RL cL_law 4 room_1 (some .boolean) Q σ 1020 [(0, .ref b), (1, .ref (L.2.1 0)), (2, .ref (L.2.1 13)), (3, .int i)] [] := by
  refine go_aload_n (i := 1) (pc' := 1021) dL_law_1020 rfl rfl rfl ?_
  refine go_aload_n (i := 0) (pc' := 1022) dL_law_1021 rfl rfl rfl ?_
  refine go_iload_n (i := 3) (pc' := 1023) dL_law_1022 rfl rfl rfl ?_
  refine go_iconst (v := 1) (pc' := 1024) dL_law_1023 rfl (by decide) ?_
  refine go_iadd (pc' := 1025) dL_law_1024 rfl ?_
  refine go_sld (pc' := 1026) hX hbl hbA dL_law_1025 rfl (vinI hi hn (by decide)) ?_
  refine go_cvi (pc' := 1029) lk_L_110 (c_X11_fault _ _ _ _ h.1) rfl rfl (Nat.le_of_ble_eq_true rfl) (by decide) rfl rfl rfl ⟨Nat.le_of_ble_eq_true rfl, Nat.le_of_ble_eq_true rfl⟩ ⟨rfl, rfl⟩ dL_law_1026 rfl (fun r_1026 σ_1026 h_1026 => ?_)
  have h1 : INV σ_1026 := by rw [h_1026]; exact h
  refine go_pop (pc' := 1030) dL_law_1029 rfl rfl ?_
  refine go_aload_n (i := 2) (pc' := 1031) dL_law_1030 rfl rfl rfl ?_
  refine go_aload_n (i := 0) (pc' := 1032) dL_law_1031 rfl rfl rfl ?_
  refine go_iload_n (i := 3) (pc' := 1033) dL_law_1032 rfl rfl rfl ?_
  refine go_iconst (v := 1) (pc' := 1034) dL_law_1033 rfl (by decide) ?_
  refine go_iadd (pc' := 1035) dL_law_1034 rfl ?_
  refine go_sld (pc' := 1036) hX hbl hbA dL_law_1035 rfl (vinI hi hn (by decide)) ?_
  refine go_cvi (pc' := 1039) lk_L_113 (c_X12_fault _ _ _ _ h1.1) rfl rfl (Nat.le_of_ble_eq_true rfl) (by decide) rfl rfl rfl ⟨Nat.le_of_ble_eq_true rfl, Nat.le_of_ble_eq_true rfl⟩ ⟨rfl, rfl⟩ dL_law_1036 rfl (fun r_1036 σ_1036 h_1036 => ?_)
  have q : INV σ_1036 := by rw [h_1036]; exact h1
  refine go_pop (pc' := 1040) dL_law_1039 rfl rfl ?_
  refine go_goto (tgt := 1459) dL_law_1040 (by decide) ?_
  exact hback _ q
set_option maxHeartbeats 4000000 in
set_option maxRecDepth 100000 in
theorem law_23 {F : FX} {L : WL} {b L9 : Nat} {xs : Nat → Int32} {σ : ST} {i : Int32} {Q : State → Prop} (hn : L9 ≤ 2560) (hi : 0 ≤ i.toInt ∧ i.toInt + 4 < L9) (hX : va_X b L9 xs F.2.2.2.1 F.2.2.2.1.heap) (hbl : b < F.2.2.2.1.heap.size) (hbA : ¬ F.2.2.2.2.2.2.2.2.2.1 b) (h : INV σ) (hback : ∀ σ2 : ST, INV σ2 → Go F L RL cL_law 4 room_1 (some .boolean) Q σ2 1459 [(0, .ref b), (1, .ref (L.2.1 0)), (2, .ref (L.2.1 13)), (3, .int i)] []) : Go F L RL cL_law 4 room_1 (some .boolean) Q σ 1043 [(0, .ref b), (1, .ref (L.2.1 0)), (2, .ref (L.2.1 13)), (3, .int i)] [] := by
  refine go_aload_n (i := 1) (pc' := 1044) dL_law_1043 rfl rfl rfl ?_
  refine go_aload_n (i := 0) (pc' := 1045) dL_law_1044 rfl rfl rfl ?_
  refine go_iload_n (i := 3) (pc' := 1046) dL_law_1045 rfl rfl rfl ?_
  refine go_iconst (v := 1) (pc' := 1047) dL_law_1046 rfl (by decide) ?_
  refine go_iadd (pc' := 1048) dL_law_1047 rfl ?_
  refine go_sld (pc' := 1049) hX hbl hbA dL_law_1048 rfl (vinI hi hn (by decide)) ?_
  refine go_aload_n (i := 0) (pc' := 1050) dL_law_1049 rfl rfl rfl ?_
  refine go_iload_n (i := 3) (pc' := 1051) dL_law_1050 rfl rfl rfl ?_
  refine go_iconst (v := 2) (pc' := 1052) dL_law_1051 rfl (by decide) ?_
  refine go_iadd (pc' := 1053) dL_law_1052 rfl ?_
  refine go_sld (pc' := 1054) hX hbl hbA dL_law_1053 rfl (vinI hi hn (by decide)) ?_
  refine go_aload_n (i := 0) (pc' := 1055) dL_law_1054 rfl rfl rfl ?_
  refine go_iload_n (i := 3) (pc' := 1056) dL_law_1055 rfl rfl rfl ?_
  refine go_iconst (v := 3) (pc' := 1057) dL_law_1056 rfl (by decide) ?_
  refine go_iadd (pc' := 1058) dL_law_1057 rfl ?_
  refine go_sld (pc' := 1059) hX hbl hbA dL_law_1058 rfl (vinI hi hn (by decide)) ?_
  refine go_cvi (pc' := 1062) lk_L_114 (c_X11_print _ _ _ _ _ _ h.1) rfl rfl (Nat.le_of_ble_eq_true rfl) (by decide) rfl rfl rfl ⟨Nat.le_of_ble_eq_true rfl, Nat.le_of_ble_eq_true rfl⟩ ⟨rfl, rfl⟩ dL_law_1059 rfl (fun r_1059 σ_1059 h_1059 => ?_)
  have h1 := INV_WX h h_1059
  refine go_pop (pc' := 1063) dL_law_1062 rfl rfl ?_
  refine go_aload_n (i := 2) (pc' := 1064) dL_law_1063 rfl rfl rfl ?_
  refine go_aload_n (i := 0) (pc' := 1065) dL_law_1064 rfl rfl rfl ?_
  refine go_iload_n (i := 3) (pc' := 1066) dL_law_1065 rfl rfl rfl ?_
  refine go_iconst (v := 1) (pc' := 1067) dL_law_1066 rfl (by decide) ?_
  refine go_iadd (pc' := 1068) dL_law_1067 rfl ?_
  refine go_sld (pc' := 1069) hX hbl hbA dL_law_1068 rfl (vinI hi hn (by decide)) ?_
  refine go_aload_n (i := 0) (pc' := 1070) dL_law_1069 rfl rfl rfl ?_
  refine go_iload_n (i := 3) (pc' := 1071) dL_law_1070 rfl rfl rfl ?_
  refine go_iconst (v := 2) (pc' := 1072) dL_law_1071 rfl (by decide) ?_
  refine go_iadd (pc' := 1073) dL_law_1072 rfl ?_
  refine go_sld (pc' := 1074) hX hbl hbA dL_law_1073 rfl (vinI hi hn (by decide)) ?_
  refine go_aload_n (i := 0) (pc' := 1075) dL_law_1074 rfl rfl rfl ?_
  refine go_iload_n (i := 3) (pc' := 1076) dL_law_1075 rfl rfl rfl ?_
  refine go_iconst (v := 3) (pc' := 1077) dL_law_1076 rfl (by decide) ?_
  refine go_iadd (pc' := 1078) dL_law_1077 rfl ?_
  refine go_sld (pc' := 1079) hX hbl hbA dL_law_1078 rfl (vinI hi hn (by decide)) ?_
  refine go_cvi (pc' := 1082) lk_L_117 (c_X12_print _ _ _ _ _ _ h1.1 h1.2.2.1) rfl rfl (Nat.le_of_ble_eq_true rfl) (by decide) rfl rfl rfl ⟨Nat.le_of_ble_eq_true rfl, Nat.le_of_ble_eq_true rfl⟩ ⟨rfl, rfl⟩ dL_law_1079 rfl (fun r_1079 σ_1079 h_1079 => ?_)
  have q := INV_WM h1 h_1079
  refine go_pop (pc' := 1083) dL_law_1082 rfl rfl ?_
  refine go_goto (tgt := 1459) dL_law_1083 (by decide) ?_
  exact hback _ q
set_option maxHeartbeats 4000000 in
set_option maxRecDepth 100000 in
theorem law_24 {F : FX} {L : WL} {b L9 : Nat} {xs : Nat → Int32} {σ : ST} {i : Int32} {Q : State → Prop} (hn : L9 ≤ 2560) (hi : 0 ≤ i.toInt ∧ i.toInt + 4 < L9) (hX : va_X b L9 xs F.2.2.2.1 F.2.2.2.1.heap) (hbl : b < F.2.2.2.1.heap.size) (hbA : ¬ F.2.2.2.2.2.2.2.2.2.1 b) (h : INV σ) (hback : ∀ σ2 : ST, INV σ2 → Go F L RL cL_law 4 room_1 (some .boolean) Q σ2 1459 [(0, .ref b), (1, .ref (L.2.1 0)), (2, .ref (L.2.1 13)), (3, .int i)] []) : Go F L RL cL_law 4 room_1 (some .boolean) Q σ 1086 [(0, .ref b), (1, .ref (L.2.1 0)), (2, .ref (L.2.1 13)), (3, .int i)] [] := by
  refine go_aload_n (i := 1) (pc' := 1087) dL_law_1086 rfl rfl rfl ?_
  refine go_aload_n (i := 0) (pc' := 1088) dL_law_1087 rfl rfl rfl ?_
  refine go_iload_n (i := 3) (pc' := 1089) dL_law_1088 rfl rfl rfl ?_
  refine go_iconst (v := 1) (pc' := 1090) dL_law_1089 rfl (by decide) ?_
  refine go_iadd (pc' := 1091) dL_law_1090 rfl ?_
  refine go_sld (pc' := 1092) hX hbl hbA dL_law_1091 rfl (vinI hi hn (by decide)) ?_
  refine go_aload_n (i := 0) (pc' := 1093) dL_law_1092 rfl rfl rfl ?_
  refine go_iload_n (i := 3) (pc' := 1094) dL_law_1093 rfl rfl rfl ?_
  refine go_iconst (v := 2) (pc' := 1095) dL_law_1094 rfl (by decide) ?_
  refine go_iadd (pc' := 1096) dL_law_1095 rfl ?_
  refine go_sld (pc' := 1097) hX hbl hbA dL_law_1096 rfl (vinI hi hn (by decide)) ?_
  refine go_aload_n (i := 0) (pc' := 1098) dL_law_1097 rfl rfl rfl ?_
  refine go_iload_n (i := 3) (pc' := 1099) dL_law_1098 rfl rfl rfl ?_
  refine go_iconst (v := 3) (pc' := 1100) dL_law_1099 rfl (by decide) ?_
  refine go_iadd (pc' := 1101) dL_law_1100 rfl ?_
  refine go_sld (pc' := 1102) hX hbl hbA dL_law_1101 rfl (vinI hi hn (by decide)) ?_
  refine go_aload_n (i := 0) (pc' := 1103) dL_law_1102 rfl rfl rfl ?_
  refine go_iload_n (i := 3) (pc' := 1104) dL_law_1103 rfl rfl rfl ?_
  refine go_iconst (v := 4) (pc' := 1105) dL_law_1104 rfl (by decide) ?_
  refine go_iadd (pc' := 1106) dL_law_1105 rfl ?_
  refine go_sld (pc' := 1107) hX hbl hbA dL_law_1106 rfl (vinI hi hn (by decide)) ?_
  refine go_cvi (pc' := 1110) lk_L_118 (c_X11_printed _ _ _ _ _ _ _ h.1) rfl rfl (Nat.le_of_ble_eq_true rfl) (by decide) rfl rfl rfl ⟨Nat.le_of_ble_eq_true rfl, Nat.le_of_ble_eq_true rfl⟩ ⟨rfl, rfl⟩ dL_law_1107 rfl (fun r_1107 σ_1107 h_1107 => ?_)
  have h1 := INV_WX h h_1107
  refine go_pop (pc' := 1111) dL_law_1110 rfl rfl ?_
  refine go_aload_n (i := 2) (pc' := 1112) dL_law_1111 rfl rfl rfl ?_
  refine go_aload_n (i := 0) (pc' := 1113) dL_law_1112 rfl rfl rfl ?_
  refine go_iload_n (i := 3) (pc' := 1114) dL_law_1113 rfl rfl rfl ?_
  refine go_iconst (v := 1) (pc' := 1115) dL_law_1114 rfl (by decide) ?_
  refine go_iadd (pc' := 1116) dL_law_1115 rfl ?_
  refine go_sld (pc' := 1117) hX hbl hbA dL_law_1116 rfl (vinI hi hn (by decide)) ?_
  refine go_aload_n (i := 0) (pc' := 1118) dL_law_1117 rfl rfl rfl ?_
  refine go_iload_n (i := 3) (pc' := 1119) dL_law_1118 rfl rfl rfl ?_
  refine go_iconst (v := 2) (pc' := 1120) dL_law_1119 rfl (by decide) ?_
  refine go_iadd (pc' := 1121) dL_law_1120 rfl ?_
  refine go_sld (pc' := 1122) hX hbl hbA dL_law_1121 rfl (vinI hi hn (by decide)) ?_
  refine go_aload_n (i := 0) (pc' := 1123) dL_law_1122 rfl rfl rfl ?_
  refine go_iload_n (i := 3) (pc' := 1124) dL_law_1123 rfl rfl rfl ?_
  refine go_iconst (v := 3) (pc' := 1125) dL_law_1124 rfl (by decide) ?_
  refine go_iadd (pc' := 1126) dL_law_1125 rfl ?_
  refine go_sld (pc' := 1127) hX hbl hbA dL_law_1126 rfl (vinI hi hn (by decide)) ?_
  refine go_aload_n (i := 0) (pc' := 1128) dL_law_1127 rfl rfl rfl ?_
  refine go_iload_n (i := 3) (pc' := 1129) dL_law_1128 rfl rfl rfl ?_
  refine go_iconst (v := 4) (pc' := 1130) dL_law_1129 rfl (by decide) ?_
  refine go_iadd (pc' := 1131) dL_law_1130 rfl ?_
  refine go_sld (pc' := 1132) hX hbl hbA dL_law_1131 rfl (vinI hi hn (by decide)) ?_
  refine go_cvi (pc' := 1135) lk_L_121 (c_X12_printed _ _ _ _ _ _ _ h1.1 h1.2.2.1) rfl rfl (Nat.le_of_ble_eq_true rfl) (by decide) rfl rfl rfl ⟨Nat.le_of_ble_eq_true rfl, Nat.le_of_ble_eq_true rfl⟩ ⟨rfl, rfl⟩ dL_law_1132 rfl (fun r_1132 σ_1132 h_1132 => ?_)
  have q := INV_WM h1 h_1132
  refine go_pop (pc' := 1136) dL_law_1135 rfl rfl ?_
  refine go_goto (tgt := 1459) dL_law_1136 (by decide) ?_
  exact hback _ q
set_option maxHeartbeats 4000000 in
set_option maxRecDepth 100000 in
theorem law_25 {F : FX} {L : WL} {b L9 : Nat} {xs : Nat → Int32} {σ : ST} {i : Int32} {Q : State → Prop} (hn : L9 ≤ 2560) (hi : 0 ≤ i.toInt ∧ i.toInt + 4 < L9) (hX : va_X b L9 xs F.2.2.2.1 F.2.2.2.1.heap) (hbl : b < F.2.2.2.1.heap.size) (hbA : ¬ F.2.2.2.2.2.2.2.2.2.1 b) (h : INV σ) (hback : ∀ σ2 : ST, INV σ2 → Go F L RL cL_law 4 room_1 (some .boolean) Q σ2 1459 [(0, .ref b), (1, .ref (L.2.1 0)), (2, .ref (L.2.1 13)), (3, .int i)] []) : Go F L RL cL_law 4 room_1 (some .boolean) Q σ 1139 [(0, .ref b), (1, .ref (L.2.1 0)), (2, .ref (L.2.1 13)), (3, .int i)] [] := by
  refine go_aload_n (i := 1) (pc' := 1140) dL_law_1139 rfl rfl rfl ?_
  refine go_aload_n (i := 0) (pc' := 1141) dL_law_1140 rfl rfl rfl ?_
  refine go_iload_n (i := 3) (pc' := 1142) dL_law_1141 rfl rfl rfl ?_
  refine go_iconst (v := 1) (pc' := 1143) dL_law_1142 rfl (by decide) ?_
  refine go_iadd (pc' := 1144) dL_law_1143 rfl ?_
  refine go_sld (pc' := 1145) hX hbl hbA dL_law_1144 rfl (vinI hi hn (by decide)) ?_
  refine go_cvi (pc' := 1148) lk_L_122 (c_X11_words _ _ _ _ h.1) rfl rfl (Nat.le_of_ble_eq_true rfl) (by decide) rfl rfl rfl ⟨Nat.le_of_ble_eq_true rfl, Nat.le_of_ble_eq_true rfl⟩ ⟨rfl, rfl⟩ dL_law_1145 rfl (fun r_1145 σ_1145 h_1145 => ?_)
  have h1 := INV_WX h h_1145
  refine go_pop (pc' := 1149) dL_law_1148 rfl rfl ?_
  refine go_aload_n (i := 2) (pc' := 1150) dL_law_1149 rfl rfl rfl ?_
  refine go_aload_n (i := 0) (pc' := 1151) dL_law_1150 rfl rfl rfl ?_
  refine go_iload_n (i := 3) (pc' := 1152) dL_law_1151 rfl rfl rfl ?_
  refine go_iconst (v := 1) (pc' := 1153) dL_law_1152 rfl (by decide) ?_
  refine go_iadd (pc' := 1154) dL_law_1153 rfl ?_
  refine go_sld (pc' := 1155) hX hbl hbA dL_law_1154 rfl (vinI hi hn (by decide)) ?_
  refine go_cvi (pc' := 1158) lk_L_125 (c_X12_words _ _ _ _ h1.1 h1.2.2.1) rfl rfl (Nat.le_of_ble_eq_true rfl) (by decide) rfl rfl rfl ⟨Nat.le_of_ble_eq_true rfl, Nat.le_of_ble_eq_true rfl⟩ ⟨rfl, rfl⟩ dL_law_1155 rfl (fun r_1155 σ_1155 h_1155 => ?_)
  have q := INV_WM h1 h_1155
  refine go_pop (pc' := 1159) dL_law_1158 rfl rfl ?_
  refine go_goto (tgt := 1459) dL_law_1159 (by decide) ?_
  exact hback _ q
set_option maxHeartbeats 4000000 in
set_option maxRecDepth 100000 in
theorem law_26 {F : FX} {L : WL} {b L9 : Nat} {xs : Nat → Int32} {σ : ST} {i : Int32} {Q : State → Prop} (hn : L9 ≤ 2560) (hi : 0 ≤ i.toInt ∧ i.toInt + 4 < L9) (hX : va_X b L9 xs F.2.2.2.1 F.2.2.2.1.heap) (hbl : b < F.2.2.2.1.heap.size) (hbA : ¬ F.2.2.2.2.2.2.2.2.2.1 b) (h : INV σ) (hback : ∀ σ2 : ST, INV σ2 → Go F L RL cL_law 4 room_1 (some .boolean) Q σ2 1459 [(0, .ref b), (1, .ref (L.2.1 0)), (2, .ref (L.2.1 13)), (3, .int i)] []) : Go F L RL cL_law 4 room_1 (some .boolean) Q σ 1162 [(0, .ref b), (1, .ref (L.2.1 0)), (2, .ref (L.2.1 13)), (3, .int i)] [] := by
  refine go_aload_n (i := 1) (pc' := 1163) dL_law_1162 rfl rfl rfl ?_
  refine go_aload_n (i := 0) (pc' := 1164) dL_law_1163 rfl rfl rfl ?_
  refine go_iload_n (i := 3) (pc' := 1165) dL_law_1164 rfl rfl rfl ?_
  refine go_iconst (v := 1) (pc' := 1166) dL_law_1165 rfl (by decide) ?_
  refine go_iadd (pc' := 1167) dL_law_1166 rfl ?_
  refine go_sld (pc' := 1168) hX hbl hbA dL_law_1167 rfl (vinI hi hn (by decide)) ?_
  refine go_aload_n (i := 0) (pc' := 1169) dL_law_1168 rfl rfl rfl ?_
  refine go_iload_n (i := 3) (pc' := 1170) dL_law_1169 rfl rfl rfl ?_
  refine go_iconst (v := 2) (pc' := 1171) dL_law_1170 rfl (by decide) ?_
  refine go_iadd (pc' := 1172) dL_law_1171 rfl ?_
  refine go_sld (pc' := 1173) hX hbl hbA dL_law_1172 rfl (vinI hi hn (by decide)) ?_
  refine go_cvi (pc' := 1176) lk_L_126 (c_X11_differ _ _ _ _ _ h.1) rfl rfl (Nat.le_of_ble_eq_true rfl) (by decide) rfl rfl rfl ⟨Nat.le_of_ble_eq_true rfl, Nat.le_of_ble_eq_true rfl⟩ ⟨rfl, rfl⟩ dL_law_1173 rfl (fun r_1173 σ_1173 h_1173 => ?_)
  have h1 := INV_WX h h_1173
  refine go_pop (pc' := 1177) dL_law_1176 rfl rfl ?_
  refine go_aload_n (i := 2) (pc' := 1178) dL_law_1177 rfl rfl rfl ?_
  refine go_aload_n (i := 0) (pc' := 1179) dL_law_1178 rfl rfl rfl ?_
  refine go_iload_n (i := 3) (pc' := 1180) dL_law_1179 rfl rfl rfl ?_
  refine go_iconst (v := 1) (pc' := 1181) dL_law_1180 rfl (by decide) ?_
  refine go_iadd (pc' := 1182) dL_law_1181 rfl ?_
  refine go_sld (pc' := 1183) hX hbl hbA dL_law_1182 rfl (vinI hi hn (by decide)) ?_
  refine go_aload_n (i := 0) (pc' := 1184) dL_law_1183 rfl rfl rfl ?_
  refine go_iload_n (i := 3) (pc' := 1185) dL_law_1184 rfl rfl rfl ?_
  refine go_iconst (v := 2) (pc' := 1186) dL_law_1185 rfl (by decide) ?_
  refine go_iadd (pc' := 1187) dL_law_1186 rfl ?_
  refine go_sld (pc' := 1188) hX hbl hbA dL_law_1187 rfl (vinI hi hn (by decide)) ?_
  refine go_cvi (pc' := 1191) lk_L_129 (c_X12_differ _ _ _ _ _ h1.1 h1.2.2.1) rfl rfl (Nat.le_of_ble_eq_true rfl) (by decide) rfl rfl rfl ⟨Nat.le_of_ble_eq_true rfl, Nat.le_of_ble_eq_true rfl⟩ ⟨rfl, rfl⟩ dL_law_1188 rfl (fun r_1188 σ_1188 h_1188 => ?_)
  have q := INV_WM h1 h_1188
  refine go_pop (pc' := 1192) dL_law_1191 rfl rfl ?_
  refine go_goto (tgt := 1459) dL_law_1192 (by decide) ?_
  exact hback _ q
set_option maxHeartbeats 4000000 in
set_option maxRecDepth 100000 in
theorem law_27 {F : FX} {L : WL} {b L9 : Nat} {xs : Nat → Int32} {σ : ST} {i : Int32} {Q : State → Prop} (hn : L9 ≤ 2560) (hi : 0 ≤ i.toInt ∧ i.toInt + 4 < L9) (hX : va_X b L9 xs F.2.2.2.1 F.2.2.2.1.heap) (hbl : b < F.2.2.2.1.heap.size) (hbA : ¬ F.2.2.2.2.2.2.2.2.2.1 b) (h : INV σ) (hback : ∀ σ2 : ST, INV σ2 → Go F L RL cL_law 4 room_1 (some .boolean) Q σ2 1459 [(0, .ref b), (1, .ref (L.2.1 0)), (2, .ref (L.2.1 13)), (3, .int i)] []) : Go F L RL cL_law 4 room_1 (some .boolean) Q σ 1195 [(0, .ref b), (1, .ref (L.2.1 0)), (2, .ref (L.2.1 13)), (3, .int i)] [] := by
  refine go_aload_n (i := 1) (pc' := 1196) dL_law_1195 rfl rfl rfl ?_
  refine go_aload_n (i := 0) (pc' := 1197) dL_law_1196 rfl rfl rfl ?_
  refine go_iload_n (i := 3) (pc' := 1198) dL_law_1197 rfl rfl rfl ?_
  refine go_iconst (v := 1) (pc' := 1199) dL_law_1198 rfl (by decide) ?_
  refine go_iadd (pc' := 1200) dL_law_1199 rfl ?_
  refine go_sld (pc' := 1201) hX hbl hbA dL_law_1200 rfl (vinI hi hn (by decide)) ?_
  refine go_aload_n (i := 0) (pc' := 1202) dL_law_1201 rfl rfl rfl ?_
  refine go_iload_n (i := 3) (pc' := 1203) dL_law_1202 rfl rfl rfl ?_
  refine go_iconst (v := 2) (pc' := 1204) dL_law_1203 rfl (by decide) ?_
  refine go_iadd (pc' := 1205) dL_law_1204 rfl ?_
  refine go_sld (pc' := 1206) hX hbl hbA dL_law_1205 rfl (vinI hi hn (by decide)) ?_
  refine go_cvi (pc' := 1209) lk_L_130 (c_X11_note _ _ _ _ _ h.1) rfl rfl (Nat.le_of_ble_eq_true rfl) (by decide) rfl rfl rfl ⟨Nat.le_of_ble_eq_true rfl, Nat.le_of_ble_eq_true rfl⟩ ⟨rfl, rfl⟩ dL_law_1206 rfl (fun r_1206 σ_1206 h_1206 => ?_)
  have h1 := INV_WX h h_1206
  refine go_pop (pc' := 1210) dL_law_1209 rfl rfl ?_
  refine go_aload_n (i := 2) (pc' := 1211) dL_law_1210 rfl rfl rfl ?_
  refine go_aload_n (i := 0) (pc' := 1212) dL_law_1211 rfl rfl rfl ?_
  refine go_iload_n (i := 3) (pc' := 1213) dL_law_1212 rfl rfl rfl ?_
  refine go_iconst (v := 1) (pc' := 1214) dL_law_1213 rfl (by decide) ?_
  refine go_iadd (pc' := 1215) dL_law_1214 rfl ?_
  refine go_sld (pc' := 1216) hX hbl hbA dL_law_1215 rfl (vinI hi hn (by decide)) ?_
  refine go_aload_n (i := 0) (pc' := 1217) dL_law_1216 rfl rfl rfl ?_
  refine go_iload_n (i := 3) (pc' := 1218) dL_law_1217 rfl rfl rfl ?_
  refine go_iconst (v := 2) (pc' := 1219) dL_law_1218 rfl (by decide) ?_
  refine go_iadd (pc' := 1220) dL_law_1219 rfl ?_
  refine go_sld (pc' := 1221) hX hbl hbA dL_law_1220 rfl (vinI hi hn (by decide)) ?_
  refine go_cvi (pc' := 1224) lk_L_133 (c_X12_note _ _ _ _ _ h1.1 h1.2.2.1) rfl rfl (Nat.le_of_ble_eq_true rfl) (by decide) rfl rfl rfl ⟨Nat.le_of_ble_eq_true rfl, Nat.le_of_ble_eq_true rfl⟩ ⟨rfl, rfl⟩ dL_law_1221 rfl (fun r_1221 σ_1221 h_1221 => ?_)
  have q := INV_WM h1 h_1221
  refine go_pop (pc' := 1225) dL_law_1224 rfl rfl ?_
  refine go_goto (tgt := 1459) dL_law_1225 (by decide) ?_
  exact hback _ q
set_option maxHeartbeats 4000000 in
set_option maxRecDepth 100000 in
theorem law_28 {F : FX} {L : WL} {b L9 : Nat} {xs : Nat → Int32} {σ : ST} {i : Int32} {Q : State → Prop} (hn : L9 ≤ 2560) (hi : 0 ≤ i.toInt ∧ i.toInt + 4 < L9) (hX : va_X b L9 xs F.2.2.2.1 F.2.2.2.1.heap) (hbl : b < F.2.2.2.1.heap.size) (hbA : ¬ F.2.2.2.2.2.2.2.2.2.1 b) (h : INV σ) (hback : ∀ σ2 : ST, INV σ2 → Go F L RL cL_law 4 room_1 (some .boolean) Q σ2 1459 [(0, .ref b), (1, .ref (L.2.1 0)), (2, .ref (L.2.1 13)), (3, .int i)] []) : Go F L RL cL_law 4 room_1 (some .boolean) Q σ 1228 [(0, .ref b), (1, .ref (L.2.1 0)), (2, .ref (L.2.1 13)), (3, .int i)] [] := by
  refine go_aload_n (i := 1) (pc' := 1229) dL_law_1228 rfl rfl rfl ?_
  refine go_aload_n (i := 0) (pc' := 1230) dL_law_1229 rfl rfl rfl ?_
  refine go_iload_n (i := 3) (pc' := 1231) dL_law_1230 rfl rfl rfl ?_
  refine go_iconst (v := 1) (pc' := 1232) dL_law_1231 rfl (by decide) ?_
  refine go_iadd (pc' := 1233) dL_law_1232 rfl ?_
  refine go_sld (pc' := 1234) hX hbl hbA dL_law_1233 rfl (vinI hi hn (by decide)) ?_
  refine go_cvi (pc' := 1237) lk_L_134 (c_X11_jumps _ _ _ _ h.1) rfl rfl (Nat.le_of_ble_eq_true rfl) (by decide) rfl rfl rfl ⟨Nat.le_of_ble_eq_true rfl, Nat.le_of_ble_eq_true rfl⟩ ⟨rfl, rfl⟩ dL_law_1234 rfl (fun r_1234 σ_1234 h_1234 => ?_)
  have h1 := INV_WX h h_1234
  refine go_pop (pc' := 1238) dL_law_1237 rfl rfl ?_
  refine go_aload_n (i := 2) (pc' := 1239) dL_law_1238 rfl rfl rfl ?_
  refine go_aload_n (i := 0) (pc' := 1240) dL_law_1239 rfl rfl rfl ?_
  refine go_iload_n (i := 3) (pc' := 1241) dL_law_1240 rfl rfl rfl ?_
  refine go_iconst (v := 1) (pc' := 1242) dL_law_1241 rfl (by decide) ?_
  refine go_iadd (pc' := 1243) dL_law_1242 rfl ?_
  refine go_sld (pc' := 1244) hX hbl hbA dL_law_1243 rfl (vinI hi hn (by decide)) ?_
  refine go_cvi (pc' := 1247) lk_L_137 (c_X12_jumps _ _ _ _ h1.1 h1.2.1) rfl rfl (Nat.le_of_ble_eq_true rfl) (by decide) rfl rfl rfl ⟨Nat.le_of_ble_eq_true rfl, Nat.le_of_ble_eq_true rfl⟩ ⟨rfl, rfl⟩ dL_law_1244 rfl (fun r_1244 σ_1244 h_1244 => ?_)
  have q := INV_WM h1 h_1244
  refine go_pop (pc' := 1248) dL_law_1247 rfl rfl ?_
  refine go_goto (tgt := 1459) dL_law_1248 (by decide) ?_
  exact hback _ q
set_option maxHeartbeats 4000000 in
set_option maxRecDepth 100000 in
theorem law_29 {F : FX} {L : WL} {b L9 : Nat} {xs : Nat → Int32} {σ : ST} {i : Int32} {Q : State → Prop} (hn : L9 ≤ 2560) (hi : 0 ≤ i.toInt ∧ i.toInt + 4 < L9) (hX : va_X b L9 xs F.2.2.2.1 F.2.2.2.1.heap) (hbl : b < F.2.2.2.1.heap.size) (hbA : ¬ F.2.2.2.2.2.2.2.2.2.1 b) (h : INV σ) (hback : ∀ σ2 : ST, INV σ2 → Go F L RL cL_law 4 room_1 (some .boolean) Q σ2 1459 [(0, .ref b), (1, .ref (L.2.1 0)), (2, .ref (L.2.1 13)), (3, .int i)] []) : Go F L RL cL_law 4 room_1 (some .boolean) Q σ 1251 [(0, .ref b), (1, .ref (L.2.1 0)), (2, .ref (L.2.1 13)), (3, .int i)] [] := by
  refine go_aload_n (i := 1) (pc' := 1252) dL_law_1251 rfl rfl rfl ?_
  refine go_aload_n (i := 0) (pc' := 1253) dL_law_1252 rfl rfl rfl ?_
  refine go_iload_n (i := 3) (pc' := 1254) dL_law_1253 rfl rfl rfl ?_
  refine go_iconst (v := 1) (pc' := 1255) dL_law_1254 rfl (by decide) ?_
  refine go_iadd (pc' := 1256) dL_law_1255 rfl ?_
  refine go_sld (pc' := 1257) hX hbl hbA dL_law_1256 rfl (vinI hi hn (by decide)) ?_
  refine go_aload_n (i := 0) (pc' := 1258) dL_law_1257 rfl rfl rfl ?_
  refine go_iload_n (i := 3) (pc' := 1259) dL_law_1258 rfl rfl rfl ?_
  refine go_iconst (v := 2) (pc' := 1260) dL_law_1259 rfl (by decide) ?_
  refine go_iadd (pc' := 1261) dL_law_1260 rfl ?_
  refine go_sld (pc' := 1262) hX hbl hbA dL_law_1261 rfl (vinI hi hn (by decide)) ?_
  refine go_cvi (pc' := 1265) lk_L_138 (c_X11_order _ _ _ _ _ h.1) rfl rfl (Nat.le_of_ble_eq_true rfl) (by decide) rfl rfl rfl ⟨Nat.le_of_ble_eq_true rfl, Nat.le_of_ble_eq_true rfl⟩ ⟨rfl, rfl⟩ dL_law_1262 rfl (fun r_1262 σ_1262 h_1262 => ?_)
  have h1 := INV_WX h h_1262
  refine go_pop (pc' := 1266) dL_law_1265 rfl rfl ?_
  refine go_aload_n (i := 2) (pc' := 1267) dL_law_1266 rfl rfl rfl ?_
  refine go_aload_n (i := 0) (pc' := 1268) dL_law_1267 rfl rfl rfl ?_
  refine go_iload_n (i := 3) (pc' := 1269) dL_law_1268 rfl rfl rfl ?_
  refine go_iconst (v := 1) (pc' := 1270) dL_law_1269 rfl (by decide) ?_
  refine go_iadd (pc' := 1271) dL_law_1270 rfl ?_
  refine go_sld (pc' := 1272) hX hbl hbA dL_law_1271 rfl (vinI hi hn (by decide)) ?_
  refine go_aload_n (i := 0) (pc' := 1273) dL_law_1272 rfl rfl rfl ?_
  refine go_iload_n (i := 3) (pc' := 1274) dL_law_1273 rfl rfl rfl ?_
  refine go_iconst (v := 2) (pc' := 1275) dL_law_1274 rfl (by decide) ?_
  refine go_iadd (pc' := 1276) dL_law_1275 rfl ?_
  refine go_sld (pc' := 1277) hX hbl hbA dL_law_1276 rfl (vinI hi hn (by decide)) ?_
  refine go_cvi (pc' := 1280) lk_L_141 (c_X12_order _ _ _ _ _ h1.1 h1.2.1) rfl rfl (Nat.le_of_ble_eq_true rfl) (by decide) rfl rfl rfl ⟨Nat.le_of_ble_eq_true rfl, Nat.le_of_ble_eq_true rfl⟩ ⟨rfl, rfl⟩ dL_law_1277 rfl (fun r_1277 σ_1277 h_1277 => ?_)
  have q := INV_WM h1 h_1277
  refine go_pop (pc' := 1281) dL_law_1280 rfl rfl ?_
  refine go_goto (tgt := 1459) dL_law_1281 (by decide) ?_
  exact hback _ q
set_option maxHeartbeats 4000000 in
set_option maxRecDepth 100000 in
theorem law_30 {F : FX} {L : WL} {b L9 : Nat} {xs : Nat → Int32} {σ : ST} {i : Int32} {Q : State → Prop} (hn : L9 ≤ 2560) (hi : 0 ≤ i.toInt ∧ i.toInt + 4 < L9) (hX : va_X b L9 xs F.2.2.2.1 F.2.2.2.1.heap) (hbl : b < F.2.2.2.1.heap.size) (hbA : ¬ F.2.2.2.2.2.2.2.2.2.1 b) (h : INV σ) (hback : ∀ σ2 : ST, INV σ2 → Go F L RL cL_law 4 room_1 (some .boolean) Q σ2 1459 [(0, .ref b), (1, .ref (L.2.1 0)), (2, .ref (L.2.1 13)), (3, .int i)] []) : Go F L RL cL_law 4 room_1 (some .boolean) Q σ 1284 [(0, .ref b), (1, .ref (L.2.1 0)), (2, .ref (L.2.1 13)), (3, .int i)] [] := by
  refine go_aload_n (i := 1) (pc' := 1285) dL_law_1284 rfl rfl rfl ?_
  refine go_aload_n (i := 0) (pc' := 1286) dL_law_1285 rfl rfl rfl ?_
  refine go_iload_n (i := 3) (pc' := 1287) dL_law_1286 rfl rfl rfl ?_
  refine go_iconst (v := 1) (pc' := 1288) dL_law_1287 rfl (by decide) ?_
  refine go_iadd (pc' := 1289) dL_law_1288 rfl ?_
  refine go_sld (pc' := 1290) hX hbl hbA dL_law_1289 rfl (vinI hi hn (by decide)) ?_
  refine go_cvi (pc' := 1293) lk_L_142 (e_X11_count _ _ _ _ h.1) rfl rfl (Nat.le_of_ble_eq_true rfl) (by decide) rfl rfl rfl ⟨Nat.le_of_ble_eq_true rfl, Nat.le_of_ble_eq_true rfl⟩ ⟨rfl, rfl⟩ dL_law_1290 rfl (fun r_1290 σ_1290 h_1290 => ?_)
  have mi : MIN σ_1290 := by rw [h_1290.1]; exact INV_min h
  refine go_pop (pc' := 1294) dL_law_1293 rfl rfl ?_
  refine go_aload_n (i := 2) (pc' := 1295) dL_law_1294 rfl rfl rfl ?_
  refine go_aload_n (i := 0) (pc' := 1296) dL_law_1295 rfl rfl rfl ?_
  refine go_iload_n (i := 3) (pc' := 1297) dL_law_1296 rfl rfl rfl ?_
  refine go_iconst (v := 1) (pc' := 1298) dL_law_1297 rfl (by decide) ?_
  refine go_iadd (pc' := 1299) dL_law_1298 rfl ?_
  refine go_sld (pc' := 1300) hX hbl hbA dL_law_1299 rfl (vinI hi hn (by decide)) ?_
  refine go_cvi (pc' := 1303) lk_L_145 (e_X12_count _ _ _ _ mi.1) rfl rfl (Nat.le_of_ble_eq_true rfl) (by decide) rfl rfl rfl ⟨Nat.le_of_ble_eq_true rfl, Nat.le_of_ble_eq_true rfl⟩ ⟨rfl, rfl⟩ dL_law_1300 rfl (fun r_1300 σ_1300 h_1300 => ?_)
  have q := b_count h h_1290 h_1300
  refine go_pop (pc' := 1304) dL_law_1303 rfl rfl ?_
  refine go_goto (tgt := 1459) dL_law_1304 (by decide) ?_
  exact hback _ q.1
set_option maxHeartbeats 4000000 in
set_option maxRecDepth 100000 in
theorem law_31 {F : FX} {L : WL} {b L9 : Nat} {xs : Nat → Int32} {σ : ST} {i : Int32} {Q : State → Prop} (hn : L9 ≤ 2560) (hi : 0 ≤ i.toInt ∧ i.toInt + 4 < L9) (hX : va_X b L9 xs F.2.2.2.1 F.2.2.2.1.heap) (hbl : b < F.2.2.2.1.heap.size) (hbA : ¬ F.2.2.2.2.2.2.2.2.2.1 b) (h : INV σ) (hback : ∀ σ2 : ST, INV σ2 → Go F L RL cL_law 4 room_1 (some .boolean) Q σ2 1459 [(0, .ref b), (1, .ref (L.2.1 0)), (2, .ref (L.2.1 13)), (3, .int i)] []) : Go F L RL cL_law 4 room_1 (some .boolean) Q σ 1307 [(0, .ref b), (1, .ref (L.2.1 0)), (2, .ref (L.2.1 13)), (3, .int i)] [] := by
  refine go_aload_n (i := 1) (pc' := 1308) dL_law_1307 rfl rfl rfl ?_
  refine go_aload_n (i := 0) (pc' := 1309) dL_law_1308 rfl rfl rfl ?_
  refine go_iload_n (i := 3) (pc' := 1310) dL_law_1309 rfl rfl rfl ?_
  refine go_iconst (v := 1) (pc' := 1311) dL_law_1310 rfl (by decide) ?_
  refine go_iadd (pc' := 1312) dL_law_1311 rfl ?_
  refine go_sld (pc' := 1313) hX hbl hbA dL_law_1312 rfl (vinI hi hn (by decide)) ?_
  refine go_aload_n (i := 0) (pc' := 1314) dL_law_1313 rfl rfl rfl ?_
  refine go_iload_n (i := 3) (pc' := 1315) dL_law_1314 rfl rfl rfl ?_
  refine go_iconst (v := 2) (pc' := 1316) dL_law_1315 rfl (by decide) ?_
  refine go_iadd (pc' := 1317) dL_law_1316 rfl ?_
  refine go_sld (pc' := 1318) hX hbl hbA dL_law_1317 rfl (vinI hi hn (by decide)) ?_
  refine go_cvi (pc' := 1321) lk_L_146 (e_X11_tray _ _ _ _ _ h.1) rfl rfl (Nat.le_of_ble_eq_true rfl) (by decide) rfl rfl rfl ⟨Nat.le_of_ble_eq_true rfl, Nat.le_of_ble_eq_true rfl⟩ ⟨rfl, rfl⟩ dL_law_1318 rfl (fun r_1318 σ_1318 h_1318 => ?_)
  have mi := x_tray h h_1318
  refine go_pop (pc' := 1322) dL_law_1321 rfl rfl ?_
  refine go_aload_n (i := 2) (pc' := 1323) dL_law_1322 rfl rfl rfl ?_
  refine go_aload_n (i := 0) (pc' := 1324) dL_law_1323 rfl rfl rfl ?_
  refine go_iload_n (i := 3) (pc' := 1325) dL_law_1324 rfl rfl rfl ?_
  refine go_iconst (v := 1) (pc' := 1326) dL_law_1325 rfl (by decide) ?_
  refine go_iadd (pc' := 1327) dL_law_1326 rfl ?_
  refine go_sld (pc' := 1328) hX hbl hbA dL_law_1327 rfl (vinI hi hn (by decide)) ?_
  refine go_aload_n (i := 0) (pc' := 1329) dL_law_1328 rfl rfl rfl ?_
  refine go_iload_n (i := 3) (pc' := 1330) dL_law_1329 rfl rfl rfl ?_
  refine go_iconst (v := 2) (pc' := 1331) dL_law_1330 rfl (by decide) ?_
  refine go_iadd (pc' := 1332) dL_law_1331 rfl ?_
  refine go_sld (pc' := 1333) hX hbl hbA dL_law_1332 rfl (vinI hi hn (by decide)) ?_
  refine go_cvi (pc' := 1336) lk_L_149 (e_X12_tray _ _ _ _ _ mi.1) rfl rfl (Nat.le_of_ble_eq_true rfl) (by decide) rfl rfl rfl ⟨Nat.le_of_ble_eq_true rfl, Nat.le_of_ble_eq_true rfl⟩ ⟨rfl, rfl⟩ dL_law_1333 rfl (fun r_1333 σ_1333 h_1333 => ?_)
  have q := b_tray h h_1318 h_1333
  refine go_pop (pc' := 1337) dL_law_1336 rfl rfl ?_
  refine go_goto (tgt := 1459) dL_law_1337 (by decide) ?_
  exact hback _ q.1
set_option maxHeartbeats 4000000 in
set_option maxRecDepth 100000 in
theorem law_32 {F : FX} {L : WL} {b L9 : Nat} {xs : Nat → Int32} {σ : ST} {i : Int32} {Q : State → Prop} (hn : L9 ≤ 2560) (hi : 0 ≤ i.toInt ∧ i.toInt + 4 < L9) (hX : va_X b L9 xs F.2.2.2.1 F.2.2.2.1.heap) (hbl : b < F.2.2.2.1.heap.size) (hbA : ¬ F.2.2.2.2.2.2.2.2.2.1 b) (h : INV σ) (hback : ∀ σ2 : ST, INV σ2 → Go F L RL cL_law 4 room_1 (some .boolean) Q σ2 1459 [(0, .ref b), (1, .ref (L.2.1 0)), (2, .ref (L.2.1 13)), (3, .int i)] []) : Go F L RL cL_law 4 room_1 (some .boolean) Q σ 1340 [(0, .ref b), (1, .ref (L.2.1 0)), (2, .ref (L.2.1 13)), (3, .int i)] [] := by
  refine go_aload_n (i := 1) (pc' := 1341) dL_law_1340 rfl rfl rfl ?_
  refine go_aload_n (i := 0) (pc' := 1342) dL_law_1341 rfl rfl rfl ?_
  refine go_iload_n (i := 3) (pc' := 1343) dL_law_1342 rfl rfl rfl ?_
  refine go_iconst (v := 1) (pc' := 1344) dL_law_1343 rfl (by decide) ?_
  refine go_iadd (pc' := 1345) dL_law_1344 rfl ?_
  refine go_sld (pc' := 1346) hX hbl hbA dL_law_1345 rfl (vinI hi hn (by decide)) ?_
  refine go_aload_n (i := 0) (pc' := 1347) dL_law_1346 rfl rfl rfl ?_
  refine go_iload_n (i := 3) (pc' := 1348) dL_law_1347 rfl rfl rfl ?_
  refine go_iconst (v := 2) (pc' := 1349) dL_law_1348 rfl (by decide) ?_
  refine go_iadd (pc' := 1350) dL_law_1349 rfl ?_
  refine go_sld (pc' := 1351) hX hbl hbA dL_law_1350 rfl (vinI hi hn (by decide)) ?_
  refine go_aload_n (i := 0) (pc' := 1352) dL_law_1351 rfl rfl rfl ?_
  refine go_iload_n (i := 3) (pc' := 1353) dL_law_1352 rfl rfl rfl ?_
  refine go_iconst (v := 3) (pc' := 1354) dL_law_1353 rfl (by decide) ?_
  refine go_iadd (pc' := 1355) dL_law_1354 rfl ?_
  refine go_sld (pc' := 1356) hX hbl hbA dL_law_1355 rfl (vinI hi hn (by decide)) ?_
  refine go_cvi (pc' := 1359) lk_L_150 (e_X11_cell _ _ _ _ _ _ h.1) rfl rfl (Nat.le_of_ble_eq_true rfl) (by decide) rfl rfl rfl ⟨Nat.le_of_ble_eq_true rfl, Nat.le_of_ble_eq_true rfl⟩ ⟨rfl, rfl⟩ dL_law_1356 rfl (fun r_1356 σ_1356 h_1356 => ?_)
  have mi := x_cell h h_1356
  refine go_pop (pc' := 1360) dL_law_1359 rfl rfl ?_
  refine go_aload_n (i := 2) (pc' := 1361) dL_law_1360 rfl rfl rfl ?_
  refine go_aload_n (i := 0) (pc' := 1362) dL_law_1361 rfl rfl rfl ?_
  refine go_iload_n (i := 3) (pc' := 1363) dL_law_1362 rfl rfl rfl ?_
  refine go_iconst (v := 1) (pc' := 1364) dL_law_1363 rfl (by decide) ?_
  refine go_iadd (pc' := 1365) dL_law_1364 rfl ?_
  refine go_sld (pc' := 1366) hX hbl hbA dL_law_1365 rfl (vinI hi hn (by decide)) ?_
  refine go_aload_n (i := 0) (pc' := 1367) dL_law_1366 rfl rfl rfl ?_
  refine go_iload_n (i := 3) (pc' := 1368) dL_law_1367 rfl rfl rfl ?_
  refine go_iconst (v := 2) (pc' := 1369) dL_law_1368 rfl (by decide) ?_
  refine go_iadd (pc' := 1370) dL_law_1369 rfl ?_
  refine go_sld (pc' := 1371) hX hbl hbA dL_law_1370 rfl (vinI hi hn (by decide)) ?_
  refine go_aload_n (i := 0) (pc' := 1372) dL_law_1371 rfl rfl rfl ?_
  refine go_iload_n (i := 3) (pc' := 1373) dL_law_1372 rfl rfl rfl ?_
  refine go_iconst (v := 3) (pc' := 1374) dL_law_1373 rfl (by decide) ?_
  refine go_iadd (pc' := 1375) dL_law_1374 rfl ?_
  refine go_sld (pc' := 1376) hX hbl hbA dL_law_1375 rfl (vinI hi hn (by decide)) ?_
  refine go_cvi (pc' := 1379) lk_L_153 (e_X12_cell _ _ _ _ _ _ mi.1) rfl rfl (Nat.le_of_ble_eq_true rfl) (by decide) rfl rfl rfl ⟨Nat.le_of_ble_eq_true rfl, Nat.le_of_ble_eq_true rfl⟩ ⟨rfl, rfl⟩ dL_law_1376 rfl (fun r_1376 σ_1376 h_1376 => ?_)
  have q := b_cell h h_1356 h_1376
  refine go_pop (pc' := 1380) dL_law_1379 rfl rfl ?_
  refine go_goto (tgt := 1459) dL_law_1380 (by decide) ?_
  exact hback _ q.1
set_option maxHeartbeats 4000000 in
set_option maxRecDepth 100000 in
theorem law_33 {F : FX} {L : WL} {b L9 : Nat} {xs : Nat → Int32} {σ : ST} {i : Int32} {Q : State → Prop} (hn : L9 ≤ 2560) (hi : 0 ≤ i.toInt ∧ i.toInt + 4 < L9) (hX : va_X b L9 xs F.2.2.2.1 F.2.2.2.1.heap) (hbl : b < F.2.2.2.1.heap.size) (hbA : ¬ F.2.2.2.2.2.2.2.2.2.1 b) (h : INV σ) (hback : ∀ σ2 : ST, INV σ2 → Go F L RL cL_law 4 room_1 (some .boolean) Q σ2 1459 [(0, .ref b), (1, .ref (L.2.1 0)), (2, .ref (L.2.1 13)), (3, .int i)] []) : Go F L RL cL_law 4 room_1 (some .boolean) Q σ 1383 [(0, .ref b), (1, .ref (L.2.1 0)), (2, .ref (L.2.1 13)), (3, .int i)] [] := by
  refine go_aload_n (i := 1) (pc' := 1384) dL_law_1383 rfl rfl rfl ?_
  refine go_aload_n (i := 0) (pc' := 1385) dL_law_1384 rfl rfl rfl ?_
  refine go_iload_n (i := 3) (pc' := 1386) dL_law_1385 rfl rfl rfl ?_
  refine go_iconst (v := 1) (pc' := 1387) dL_law_1386 rfl (by decide) ?_
  refine go_iadd (pc' := 1388) dL_law_1387 rfl ?_
  refine go_sld (pc' := 1389) hX hbl hbA dL_law_1388 rfl (vinI hi hn (by decide)) ?_
  refine go_aload_n (i := 0) (pc' := 1390) dL_law_1389 rfl rfl rfl ?_
  refine go_iload_n (i := 3) (pc' := 1391) dL_law_1390 rfl rfl rfl ?_
  refine go_iconst (v := 2) (pc' := 1392) dL_law_1391 rfl (by decide) ?_
  refine go_iadd (pc' := 1393) dL_law_1392 rfl ?_
  refine go_sld (pc' := 1394) hX hbl hbA dL_law_1393 rfl (vinI hi hn (by decide)) ?_
  refine go_aload_n (i := 0) (pc' := 1395) dL_law_1394 rfl rfl rfl ?_
  refine go_iload_n (i := 3) (pc' := 1396) dL_law_1395 rfl rfl rfl ?_
  refine go_iconst (v := 3) (pc' := 1397) dL_law_1396 rfl (by decide) ?_
  refine go_iadd (pc' := 1398) dL_law_1397 rfl ?_
  refine go_sld (pc' := 1399) hX hbl hbA dL_law_1398 rfl (vinI hi hn (by decide)) ?_
  refine go_cvi (pc' := 1402) lk_L_154 (e_X11_lay _ _ _ _ _ _ h.1) rfl rfl (Nat.le_of_ble_eq_true rfl) (by decide) rfl rfl rfl ⟨Nat.le_of_ble_eq_true rfl, Nat.le_of_ble_eq_true rfl⟩ ⟨rfl, rfl⟩ dL_law_1399 rfl (fun r_1399 σ_1399 h_1399 => ?_)
  have mi := x_lay h h_1399
  refine go_pop (pc' := 1403) dL_law_1402 rfl rfl ?_
  refine go_aload_n (i := 2) (pc' := 1404) dL_law_1403 rfl rfl rfl ?_
  refine go_aload_n (i := 0) (pc' := 1405) dL_law_1404 rfl rfl rfl ?_
  refine go_iload_n (i := 3) (pc' := 1406) dL_law_1405 rfl rfl rfl ?_
  refine go_iconst (v := 1) (pc' := 1407) dL_law_1406 rfl (by decide) ?_
  refine go_iadd (pc' := 1408) dL_law_1407 rfl ?_
  refine go_sld (pc' := 1409) hX hbl hbA dL_law_1408 rfl (vinI hi hn (by decide)) ?_
  refine go_aload_n (i := 0) (pc' := 1410) dL_law_1409 rfl rfl rfl ?_
  refine go_iload_n (i := 3) (pc' := 1411) dL_law_1410 rfl rfl rfl ?_
  refine go_iconst (v := 2) (pc' := 1412) dL_law_1411 rfl (by decide) ?_
  refine go_iadd (pc' := 1413) dL_law_1412 rfl ?_
  refine go_sld (pc' := 1414) hX hbl hbA dL_law_1413 rfl (vinI hi hn (by decide)) ?_
  refine go_aload_n (i := 0) (pc' := 1415) dL_law_1414 rfl rfl rfl ?_
  refine go_iload_n (i := 3) (pc' := 1416) dL_law_1415 rfl rfl rfl ?_
  refine go_iconst (v := 3) (pc' := 1417) dL_law_1416 rfl (by decide) ?_
  refine go_iadd (pc' := 1418) dL_law_1417 rfl ?_
  refine go_sld (pc' := 1419) hX hbl hbA dL_law_1418 rfl (vinI hi hn (by decide)) ?_
  refine go_cvi (pc' := 1422) lk_L_157 (e_X12_lay _ _ _ _ _ _ mi.1) rfl rfl (Nat.le_of_ble_eq_true rfl) (by decide) rfl rfl rfl ⟨Nat.le_of_ble_eq_true rfl, Nat.le_of_ble_eq_true rfl⟩ ⟨rfl, rfl⟩ dL_law_1419 rfl (fun r_1419 σ_1419 h_1419 => ?_)
  have q := b_lay h h_1399 h_1419
  refine go_pop (pc' := 1423) dL_law_1422 rfl rfl ?_
  refine go_goto (tgt := 1459) dL_law_1423 (by decide) ?_
  exact hback _ q.1
set_option maxHeartbeats 4000000 in
set_option maxRecDepth 100000 in
theorem law_34 {F : FX} {L : WL} {b L9 : Nat} {xs : Nat → Int32} {σ : ST} {i : Int32} {Q : State → Prop} (hn : L9 ≤ 2560) (hi : 0 ≤ i.toInt ∧ i.toInt + 4 < L9) (hX : va_X b L9 xs F.2.2.2.1 F.2.2.2.1.heap) (hbl : b < F.2.2.2.1.heap.size) (hbA : ¬ F.2.2.2.2.2.2.2.2.2.1 b) (h : INV σ) (hback : ∀ σ2 : ST, INV σ2 → Go F L RL cL_law 4 room_1 (some .boolean) Q σ2 1459 [(0, .ref b), (1, .ref (L.2.1 0)), (2, .ref (L.2.1 13)), (3, .int i)] []) : Go F L RL cL_law 4 room_1 (some .boolean) Q σ 1426 [(0, .ref b), (1, .ref (L.2.1 0)), (2, .ref (L.2.1 13)), (3, .int i)] [] := by
  refine go_aload_n (i := 1) (pc' := 1427) dL_law_1426 rfl rfl rfl ?_
  refine go_aload_n (i := 0) (pc' := 1428) dL_law_1427 rfl rfl rfl ?_
  refine go_iload_n (i := 3) (pc' := 1429) dL_law_1428 rfl rfl rfl ?_
  refine go_iconst (v := 1) (pc' := 1430) dL_law_1429 rfl (by decide) ?_
  refine go_iadd (pc' := 1431) dL_law_1430 rfl ?_
  refine go_sld (pc' := 1432) hX hbl hbA dL_law_1431 rfl (vinI hi hn (by decide)) ?_
  refine go_aload_n (i := 0) (pc' := 1433) dL_law_1432 rfl rfl rfl ?_
  refine go_iload_n (i := 3) (pc' := 1434) dL_law_1433 rfl rfl rfl ?_
  refine go_iconst (v := 2) (pc' := 1435) dL_law_1434 rfl (by decide) ?_
  refine go_iadd (pc' := 1436) dL_law_1435 rfl ?_
  refine go_sld (pc' := 1437) hX hbl hbA dL_law_1436 rfl (vinI hi hn (by decide)) ?_
  refine go_cvi (pc' := 1440) lk_L_158 (e_X11_taken _ _ _ _ _ h.1) rfl rfl (Nat.le_of_ble_eq_true rfl) (by decide) rfl rfl rfl ⟨Nat.le_of_ble_eq_true rfl, Nat.le_of_ble_eq_true rfl⟩ ⟨rfl, rfl⟩ dL_law_1437 rfl (fun r_1437 σ_1437 h_1437 => ?_)
  have mi : MIN σ_1437 := by rw [h_1437.1]; exact INV_min h
  refine go_aload_n (i := 2) (pc' := 1441) dL_law_1440 rfl rfl rfl ?_
  refine go_aload_n (i := 0) (pc' := 1442) dL_law_1441 rfl rfl rfl ?_
  refine go_iload_n (i := 3) (pc' := 1443) dL_law_1442 rfl rfl rfl ?_
  refine go_iconst (v := 1) (pc' := 1444) dL_law_1443 rfl (by decide) ?_
  refine go_iadd (pc' := 1445) dL_law_1444 rfl ?_
  refine go_sld (pc' := 1446) hX hbl hbA dL_law_1445 rfl (vinI hi hn (by decide)) ?_
  refine go_aload_n (i := 0) (pc' := 1447) dL_law_1446 rfl rfl rfl ?_
  refine go_iload_n (i := 3) (pc' := 1448) dL_law_1447 rfl rfl rfl ?_
  refine go_iconst (v := 2) (pc' := 1449) dL_law_1448 rfl (by decide) ?_
  refine go_iadd (pc' := 1450) dL_law_1449 rfl ?_
  refine go_sld (pc' := 1451) hX hbl hbA dL_law_1450 rfl (vinI hi hn (by decide)) ?_
  refine go_cvi (pc' := 1454) lk_L_161 (e_X12_taken _ _ _ _ _ mi.1) rfl rfl (Nat.le_of_ble_eq_true rfl) (by decide) rfl rfl rfl ⟨Nat.le_of_ble_eq_true rfl, Nat.le_of_ble_eq_true rfl⟩ ⟨rfl, rfl⟩ dL_law_1451 rfl (fun r_1451 σ_1451 h_1451 => ?_)
  have q := b_taken h h_1437 h_1451
  refine go_icmp_eq (tgt := 1459) (pc' := 1457) dL_law_1454 rfl (by decide) (fun c_1454 => ?_) (fun c_1454 => absurd q.2 c_1454)
  exact hback _ q.1
set_option maxHeartbeats 4000000 in
set_option maxRecDepth 100000 in
theorem law_sw {F : FX} {L : WL} {b L9 : Nat} {xs : Nat → Int32} {σ : ST} {i : Int32} {Q : State → Prop} (hn : L9 ≤ 2560) (hi : 0 ≤ i.toInt ∧ i.toInt + 4 < L9) (hX : va_X b L9 xs F.2.2.2.1 F.2.2.2.1.heap) (hbl : b < F.2.2.2.1.heap.size) (hbA : ¬ F.2.2.2.2.2.2.2.2.2.1 b) (h : INV σ) (hback : ∀ σ2 : ST, INV σ2 → Go F L RL cL_law 4 room_1 (some .boolean) Q σ2 1459 [(0, .ref b), (1, .ref (L.2.1 0)), (2, .ref (L.2.1 13)), (3, .int i)] []) (y : Int32) (hy : ∃ j : Nat, j < 64 ∧ y = nI j) : Go F L RL cL_law 4 room_1 (some .boolean) Q σ 32 [(0, .ref b), (1, .ref (L.2.1 0)), (2, .ref (L.2.1 13)), (3, .int i)] [.int y] := by
  obtain ⟨j, hj, rfl⟩ := hy
  by_cases h35 : j < 35
  · rcases (show j = 0 ∨ j = 1 ∨ j = 2 ∨ j = 3 ∨ j = 4 ∨ j = 5 ∨ j = 6 ∨ j = 7 ∨ j = 8 ∨ j = 9 ∨ j = 10 ∨ j = 11 ∨ j = 12 ∨ j = 13 ∨ j = 14 ∨ j = 15 ∨ j = 16 ∨ j = 17 ∨ j = 18 ∨ j = 19 ∨ j = 20 ∨ j = 21 ∨ j = 22 ∨ j = 23 ∨ j = 24 ∨ j = 25 ∨ j = 26 ∨ j = 27 ∨ j = 28 ∨ j = 29 ∨ j = 30 ∨ j = 31 ∨ j = 32 ∨ j = 33 ∨ j = 34 by omega) with rfl | rfl | rfl | rfl | rfl | rfl | rfl | rfl | rfl | rfl | rfl | rfl | rfl | rfl | rfl | rfl | rfl | rfl | rfl | rfl | rfl | rfl | rfl | rfl | rfl | rfl | rfl | rfl | rfl | rfl | rfl | rfl | rfl | rfl | rfl
    · exact go_swIn (tgt := 188) dL_law_32 (by decide) (by decide) rfl (by decide) (law_0 hn hi hX hbl hbA h hback)
    · exact go_swIn (tgt := 221) dL_law_32 (by decide) (by decide) rfl (by decide) (law_1 hn hi hX hbl hbA h hback)
    · exact go_swIn (tgt := 264) dL_law_32 (by decide) (by decide) rfl (by decide) (law_2 hn hi hX hbl hbA h hback)
    · exact go_swIn (tgt := 323) dL_law_32 (by decide) (by decide) rfl (by decide) (law_3 hn hi hX hbl hbA h hback)
    · exact go_swIn (tgt := 376) dL_law_32 (by decide) (by decide) rfl (by decide) (law_4 hn hi hX hbl hbA h hback)
    · exact go_swIn (tgt := 409) dL_law_32 (by decide) (by decide) rfl (by decide) (law_5 hn hi hX hbl hbA h hback)
    · exact go_swIn (tgt := 452) dL_law_32 (by decide) (by decide) rfl (by decide) (law_6 hn hi hX hbl hbA h hback)
    · exact go_swIn (tgt := 485) dL_law_32 (by decide) (by decide) rfl (by decide) (law_7 hn hi hX hbl hbA h hback)
    · exact go_swIn (tgt := 528) dL_law_32 (by decide) (by decide) rfl (by decide) (law_8 hn hi hX hbl hbA h hback)
    · exact go_swIn (tgt := 541) dL_law_32 (by decide) (by decide) rfl (by decide) (law_9 hn hi hX hbl hbA h hback)
    · exact go_swIn (tgt := 574) dL_law_32 (by decide) (by decide) rfl (by decide) (law_10 hn hi hX hbl hbA h hback)
    · exact go_swIn (tgt := 597) dL_law_32 (by decide) (by decide) rfl (by decide) (law_11 hn hi hX hbl hbA h hback)
    · exact go_swIn (tgt := 630) dL_law_32 (by decide) (by decide) rfl (by decide) (law_12 hn hi hX hbl hbA h hback)
    · exact go_swIn (tgt := 643) dL_law_32 (by decide) (by decide) rfl (by decide) (law_13 hn hi hX hbl hbA h hback)
    · exact go_swIn (tgt := 676) dL_law_32 (by decide) (by decide) rfl (by decide) (law_14 hn hi hX hbl hbA h hback)
    · exact go_swIn (tgt := 729) dL_law_32 (by decide) (by decide) rfl (by decide) (law_15 hn hi hX hbl hbA h hback)
    · exact go_swIn (tgt := 782) dL_law_32 (by decide) (by decide) rfl (by decide) (law_16 hn hi hX hbl hbA h hback)
    · exact go_swIn (tgt := 825) dL_law_32 (by decide) (by decide) rfl (by decide) (law_17 hn hi hX hbl hbA h hback)
    · exact go_swIn (tgt := 858) dL_law_32 (by decide) (by decide) rfl (by decide) (law_18 hn hi hX hbl hbA h hback)
    · exact go_swIn (tgt := 891) dL_law_32 (by decide) (by decide) rfl (by decide) (law_19 hn hi hX hbl hbA h hback)
    · exact go_swIn (tgt := 934) dL_law_32 (by decide) (by decide) rfl (by decide) (law_20 hn hi hX hbl hbA h hback)
    · exact go_swIn (tgt := 997) dL_law_32 (by decide) (by decide) rfl (by decide) (law_21 hn hi hX hbl hbA h hback)
    · exact go_swIn (tgt := 1020) dL_law_32 (by decide) (by decide) rfl (by decide) (law_22 hn hi hX hbl hbA h hback)
    · exact go_swIn (tgt := 1043) dL_law_32 (by decide) (by decide) rfl (by decide) (law_23 hn hi hX hbl hbA h hback)
    · exact go_swIn (tgt := 1086) dL_law_32 (by decide) (by decide) rfl (by decide) (law_24 hn hi hX hbl hbA h hback)
    · exact go_swIn (tgt := 1139) dL_law_32 (by decide) (by decide) rfl (by decide) (law_25 hn hi hX hbl hbA h hback)
    · exact go_swIn (tgt := 1162) dL_law_32 (by decide) (by decide) rfl (by decide) (law_26 hn hi hX hbl hbA h hback)
    · exact go_swIn (tgt := 1195) dL_law_32 (by decide) (by decide) rfl (by decide) (law_27 hn hi hX hbl hbA h hback)
    · exact go_swIn (tgt := 1228) dL_law_32 (by decide) (by decide) rfl (by decide) (law_28 hn hi hX hbl hbA h hback)
    · exact go_swIn (tgt := 1251) dL_law_32 (by decide) (by decide) rfl (by decide) (law_29 hn hi hX hbl hbA h hback)
    · exact go_swIn (tgt := 1284) dL_law_32 (by decide) (by decide) rfl (by decide) (law_30 hn hi hX hbl hbA h hback)
    · exact go_swIn (tgt := 1307) dL_law_32 (by decide) (by decide) rfl (by decide) (law_31 hn hi hX hbl hbA h hback)
    · exact go_swIn (tgt := 1340) dL_law_32 (by decide) (by decide) rfl (by decide) (law_32 hn hi hX hbl hbA h hback)
    · exact go_swIn (tgt := 1383) dL_law_32 (by decide) (by decide) rfl (by decide) (law_33 hn hi hX hbl hbA h hback)
    · exact go_swIn (tgt := 1426) dL_law_32 (by decide) (by decide) rfl (by decide) (law_34 hn hi hX hbl hbA h hback)
  · exact go_swOut (tgt := 1459) dL_law_32 (by rw [nI_toInt (n := j) (by omega)]; omega) (by decide) (hback σ h)
set_option maxHeartbeats 4000000 in
set_option maxRecDepth 100000 in
/-- the law from its loop's head -/
theorem law_go {F : FX} {L : WL} {b L9 : Nat} {xs : Nat → Int32} {Q : State → Prop} (hn : L9 ≤ 2560) (hX : va_X b L9 xs F.2.2.2.1 F.2.2.2.1.heap) (hbl : b < F.2.2.2.1.heap.size) (hbA : ¬ F.2.2.2.2.2.2.2.2.2.1 b) (hend : ∀ (σ2 : ST) (lv : List (Nat × Value)), Go F L RL cL_law 4 room_1 (some .boolean) Q σ2 1465 lv []) : ∀ (dd : Nat) (σ : ST) (i : Int32), INV σ → (0 ≤ i.toInt ∧ i.toInt ≤ 2565) → ((L9 : Int) + 2570 - i.toInt).toNat = dd → Go F L RL cL_law 4 room_1 (some .boolean) Q σ 18 [(0, .ref b), (1, .ref (L.2.1 0)), (2, .ref (L.2.1 13)), (3, .int i)] [] := by
  intro dd
  induction dd using Nat.strongRecOn with
  | _ dd ih =>
    intro σ i h hi hm
    have n5 : (5 : Int32).toInt = 5 := by decide
    have eL : (Int32.ofNat L9 - 5).toInt = (L9 : Int) - 5 := by
      have z := ofN_toInt (n := L9) (by omega)
      rw [i32_sub (by rw [z, n5]; omega) (by rw [z, n5]; omega), z, n5]
    refine go_iload_n (i := 3) (pc' := 19) dL_law_18 rfl rfl rfl ?_
    refine go_aload_n (i := 0) (pc' := 20) dL_law_19 rfl rfl rfl ?_
    refine go_slen (pc' := 21) hX hbl hbA dL_law_20 rfl ?_
    refine go_iconst (v := 5) (pc' := 22) dL_law_21 rfl (by decide) ?_
    refine go_isub (pc' := 23) dL_law_22 rfl ?_
    refine gz_icmp_gt (tgt := 1465) (pc' := 26) dL_law_23 rfl (by decide) (fun c_23 => hend _ _) (fun c_23 => ?_)
    refine go_aload_n (i := 0) (pc' := 27) dL_law_26 rfl rfl rfl ?_
    refine go_iload_n (i := 3) (pc' := 28) dL_law_27 rfl rfl rfl ?_
    refine go_sld (pc' := 29) hX hbl hbA dL_law_28 rfl (vin_of (n := L9) (by omega) (by omega)) ?_
    refine go_bipush (v := 63) (pc' := 31) dL_law_29 rfl (by decide) ?_
    refine go_iand (pc' := 32) dL_law_31 rfl ?_
    refine law_sw hn (by omega) hX hbl hbA h (fun σ2 h2 => ?_) _ (pk_andE _ (m := 63) 6 (by decide))
    refine gz_iinc (c := 5) (pc' := 1462) dL_law_1459 rfl rfl (by decide) (by decide) (by decide) (by omega) (fun v hv ev => ?_)
    refine go_goto (tgt := 18) dL_law_1462 (by decide) ?_
    exact go_lv (lv' := [(0, .ref b), (1, .ref (L.2.1 0)), (2, .ref (L.2.1 13)), (3, .int v)]) rfl (ih _ (by omega) σ2 v h2 (by omega) rfl)
