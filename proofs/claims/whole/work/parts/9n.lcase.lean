/-! The law's cases. -/
def lls (i : Int) : List (Option Value) := [some (.ref 400000), some (zR 0), some (zR 31), some (.ref 400001), some (zI i), none, none]
theorem lls_w (i : Int) (a5 a6 : Option Value) : ∀ (j : Nat) (u : Value), (lls i)[j]? = some (some u) → ([some (.ref 400000), some (zR 0), some (zR 31), some (.ref 400001), some (zI i), a5, a6] : List (Option Value))[j]? = some (some u)
  | 0, _, h => h
  | 1, _, h => h
  | 2, _, h => h
  | 3, _, h => h
  | 4, _, h => h
  | 5, _, h => by cases h
  | 6, _, h => by cases h
  | _ + 7, _, h => by cases h
theorem zin_v (v : Int32) : zin v.toInt := by
  have h1 := Int32.le_toInt v
  have h2 := Int32.toInt_lt v
  have e1 : (2 : Int) ^ 31 = 2147483648 := by decide
  exact ⟨by omega, by omega⟩
theorem zlc_s (a : Int64) : zlc a a = 0 := by
  unfold zlc lg_cmp
  rw [if_neg (by simp), if_pos rfl]
  rfl
theorem yF0' {x : zX} {nc ns : Nat} (h : yF x (nc + 1) (ns + 6)) : yF x nc ns := by
  obtain ⟨p, l, e, R, s, m, args, below, meth, cd, D, ad, cs⟩ := x
  obtain ⟨a, b⟩ := h
  exact ⟨by omega, by omega⟩
theorem lc_type {x : zX} {nc ns : Nat} {Q : State → Prop} {σ : zS} {cL : ClassId} {v0 : Int64} {L : Nat} {xs : Nat → Int32} {i : Int} (h : yH x RL cL_law 7 12) (hT : lT x cL) (hF : yF x (nc + 1) (ns + 6)) (hS : lS x L xs) (hL : L ≤ 2048) (h0 : 0 ≤ i) (h1 : i + 4 ≤ L) (hR : REL σ) (kk : ∀ τ v, REL τ → yW x (lA x) (lEx x cL v) (nc + 1) (ns + 6) Q 1042 (lls i) [] τ) : yW x (lA x) (lEx x cL v0) nc ns Q 152 (lls i) [] σ := by
  refine y_aload_n (pc := 152) h dL_law_152 rfl ?_
  refine y_aload_n (pc := 153) h dL_law_153 rfl ?_
  refine y_iload (pc := 154) h dL_law_154 rfl ?_
  refine y_iconst (pc := 156) h dL_law_156 ?_
  refine y_iadd (pc := 157) h dL_law_157 ?_
  refine l_sld (pc := 158) h hS (by omega) (by omega) hL dL_law_158 ?_
  refine y_i2l (pc := 159) h dL_law_159 ?_
  refine y_bipush (pc := 160) h dL_law_160 (by decide) ?_
  refine y_lshl (pc := 162) h dL_law_162 ?_
  refine y_aload_n (pc := 163) h dL_law_163 rfl ?_
  refine y_iload (pc := 164) h dL_law_164 rfl ?_
  refine y_iconst (pc := 166) h dL_law_166 ?_
  refine y_iadd (pc := 167) h dL_law_167 ?_
  refine l_sld (pc := 168) h hS (by omega) (by omega) hL dL_law_168 ?_
  refine y_i2l (pc := 169) h dL_law_169 ?_
  refine y_ldc2 (pc := 170) h kl_L_25 dL_law_170 ?_
  refine y_land (pc := 173) h dL_law_173 ?_
  refine y_lor (pc := 174) h dL_law_174 ?_
  refine y_callV (pc := 175) (o := 0) (c := 7) (np := 1) (st := []) h (lE_of hT) (yF0' hF) (J_type hR) (by decide) rfl rfl mv_X7_type ml_L_27 rfl dL_law_175 rfl (Nat.le_of_ble_eq_true rfl) (fun r τ q => ?_)
  obtain ⟨v, rfl, hm⟩ := q
  refine y_aload_n (pc := 178) h dL_law_178 rfl ?_
  refine y_aload_n (pc := 179) h dL_law_179 rfl ?_
  refine y_iload (pc := 180) h dL_law_180 rfl ?_
  refine y_iconst (pc := 182) h dL_law_182 ?_
  refine y_iadd (pc := 183) h dL_law_183 ?_
  refine l_sld (pc := 184) h hS (by omega) (by omega) hL dL_law_184 ?_
  refine y_i2l (pc := 185) h dL_law_185 ?_
  refine y_bipush (pc := 186) h dL_law_186 (by decide) ?_
  refine y_lshl (pc := 188) h dL_law_188 ?_
  refine y_aload_n (pc := 189) h dL_law_189 rfl ?_
  refine y_iload (pc := 190) h dL_law_190 rfl ?_
  refine y_iconst (pc := 192) h dL_law_192 ?_
  refine y_iadd (pc := 193) h dL_law_193 ?_
  refine l_sld (pc := 194) h hS (by omega) (by omega) hL dL_law_194 ?_
  refine y_i2l (pc := 195) h dL_law_195 ?_
  refine y_ldc2 (pc := 196) h kl_L_25 dL_law_196 ?_
  refine y_land (pc := 199) h dL_law_199 ?_
  refine y_lor (pc := 200) h dL_law_200 ?_
  refine y_callV (pc := 201) (o := 31) (c := 8) (np := 1) (st := [zI v]) h (lE_of hT) (yF0' hF) hm (by decide) rfl rfl mv_X8_type ml_L_31 rfl dL_law_201 rfl (Nat.le_of_ble_eq_true rfl) (fun r2 τ2 q2 => ?_)
  obtain ⟨rfl, hr⟩ := q2
  refine l_eqv (pc := 204) (tgt := 1042) h dL_law_204 rfl ?_
  exact l_widen (Nat.le_add_right _ _) (Nat.le_add_right _ _) (kk τ2 v0 hr)
theorem lc_read {x : zX} {nc ns : Nat} {Q : State → Prop} {σ : zS} {cL : ClassId} {v0 : Int64} {L : Nat} {xs : Nat → Int32} {i : Int} (h : yH x RL cL_law 7 12) (hT : lT x cL) (hF : yF x (nc + 1) (ns + 6)) (hS : lS x L xs) (hL : L ≤ 2048) (h0 : 0 ≤ i) (h1 : i + 4 ≤ L) (hR : REL σ) (kk : ∀ τ v, REL τ → yW x (lA x) (lEx x cL v) (nc + 1) (ns + 6) Q 1042 (lls i) [] τ) : yW x (lA x) (lEx x cL v0) nc ns Q 209 (lls i) [] σ := by
  refine y_aload_n (pc := 209) h dL_law_209 rfl ?_
  refine y_callV (pc := 210) (o := 0) (c := 7) (np := 0) (st := []) h (lE_of hT) (yF0' hF) (J_read hR) (by decide) rfl rfl mv_X7_read ml_L_32 rfl dL_law_210 rfl (Nat.le_of_ble_eq_true rfl) (fun r τ q => ?_)
  obtain ⟨v, rfl, hm⟩ := q
  refine y_aload_n (pc := 213) h dL_law_213 rfl ?_
  refine y_callV (pc := 214) (o := 31) (c := 8) (np := 0) (st := [zI v]) h (lE_of hT) (yF0' hF) hm (by decide) rfl rfl mv_X8_read ml_L_36 rfl dL_law_214 rfl (Nat.le_of_ble_eq_true rfl) (fun r2 τ2 q2 => ?_)
  obtain ⟨rfl, hr⟩ := q2
  refine l_eqv (pc := 217) (tgt := 1042) h dL_law_217 rfl ?_
  exact l_widen (Nat.le_add_right _ _) (Nat.le_add_right _ _) (kk τ2 v0 hr)
theorem lc_fault {x : zX} {nc ns : Nat} {Q : State → Prop} {σ : zS} {cL : ClassId} {v0 : Int64} {L : Nat} {xs : Nat → Int32} {i : Int} (h : yH x RL cL_law 7 12) (hT : lT x cL) (hF : yF x (nc + 1) (ns + 6)) (hS : lS x L xs) (hL : L ≤ 2048) (h0 : 0 ≤ i) (h1 : i + 4 ≤ L) (hR : REL σ) (kk : ∀ τ v, REL τ → yW x (lA x) (lEx x cL v) (nc + 1) (ns + 6) Q 1042 (lls i) [] τ) : yW x (lA x) (lEx x cL v0) nc ns Q 222 (lls i) [] σ := by
  by_cases hb : (xs (i + 1).toNat).toInt = 0
  · refine y_aload_n (pc := 222) h dL_law_222 rfl ?_
    refine y_aload_n (pc := 223) h dL_law_223 rfl ?_
    refine y_iload (pc := 224) h dL_law_224 rfl ?_
    refine y_iconst (pc := 226) h dL_law_226 ?_
    refine y_iadd (pc := 227) h dL_law_227 ?_
    refine l_sld (pc := 228) h hS (by omega) (by omega) hL dL_law_228 ?_
    refine y_if_eq (pc := 229) (tgt := 236) h (zin_v _) dL_law_229 rfl (fun _ => ?_) (fun c => absurd hb c)
    refine y_iconst (pc := 236) h dL_law_236 ?_
    refine y_callV (pc := 237) (o := 0) (c := 7) (np := 1) (st := []) h (lE_of hT) (yF0' hF) (J_fault (b := false) hR) (by decide) rfl rfl mv_X7_fault ml_L_37 rfl dL_law_237 rfl (Nat.le_of_ble_eq_true rfl) (fun r τ q => ?_)
    obtain ⟨v, rfl, hm⟩ := q
    refine y_aload_n (pc := 240) h dL_law_240 rfl ?_
    refine y_aload_n (pc := 241) h dL_law_241 rfl ?_
    refine y_iload (pc := 242) h dL_law_242 rfl ?_
    refine y_iconst (pc := 244) h dL_law_244 ?_
    refine y_iadd (pc := 245) h dL_law_245 ?_
    refine l_sld (pc := 246) h hS (by omega) (by omega) hL dL_law_246 ?_
    refine y_if_eq (pc := 247) (tgt := 254) h (zin_v _) dL_law_247 rfl (fun _ => ?_) (fun c => absurd hb c)
    refine y_iconst (pc := 254) h dL_law_254 ?_
    refine y_callV (pc := 255) (o := 31) (c := 8) (np := 1) (st := [zI v]) h (lE_of hT) (yF0' hF) hm (by decide) rfl rfl mv_X8_fault ml_L_41 rfl dL_law_255 rfl (Nat.le_of_ble_eq_true rfl) (fun r2 τ2 q2 => ?_)
    obtain ⟨rfl, hr⟩ := q2
    refine l_eqv (pc := 258) (tgt := 1042) h dL_law_258 rfl ?_
    exact l_widen (Nat.le_add_right _ _) (Nat.le_add_right _ _) (kk τ2 v0 hr)
  · refine y_aload_n (pc := 222) h dL_law_222 rfl ?_
    refine y_aload_n (pc := 223) h dL_law_223 rfl ?_
    refine y_iload (pc := 224) h dL_law_224 rfl ?_
    refine y_iconst (pc := 226) h dL_law_226 ?_
    refine y_iadd (pc := 227) h dL_law_227 ?_
    refine l_sld (pc := 228) h hS (by omega) (by omega) hL dL_law_228 ?_
    refine y_if_eq (pc := 229) (tgt := 236) h (zin_v _) dL_law_229 rfl (fun c => absurd c hb) (fun _ => ?_)
    refine y_iconst (pc := 232) h dL_law_232 ?_
    refine y_goto (pc := 233) (tgt := 237) h dL_law_233 rfl ?_
    refine y_callV (pc := 237) (o := 0) (c := 7) (np := 1) (st := []) h (lE_of hT) (yF0' hF) (J_fault (b := true) hR) (by decide) rfl rfl mv_X7_fault ml_L_37 rfl dL_law_237 rfl (Nat.le_of_ble_eq_true rfl) (fun r τ q => ?_)
    obtain ⟨v, rfl, hm⟩ := q
    refine y_aload_n (pc := 240) h dL_law_240 rfl ?_
    refine y_aload_n (pc := 241) h dL_law_241 rfl ?_
    refine y_iload (pc := 242) h dL_law_242 rfl ?_
    refine y_iconst (pc := 244) h dL_law_244 ?_
    refine y_iadd (pc := 245) h dL_law_245 ?_
    refine l_sld (pc := 246) h hS (by omega) (by omega) hL dL_law_246 ?_
    refine y_if_eq (pc := 247) (tgt := 254) h (zin_v _) dL_law_247 rfl (fun c => absurd c hb) (fun _ => ?_)
    refine y_iconst (pc := 250) h dL_law_250 ?_
    refine y_goto (pc := 251) (tgt := 255) h dL_law_251 rfl ?_
    refine y_callV (pc := 255) (o := 31) (c := 8) (np := 1) (st := [zI v]) h (lE_of hT) (yF0' hF) hm (by decide) rfl rfl mv_X8_fault ml_L_41 rfl dL_law_255 rfl (Nat.le_of_ble_eq_true rfl) (fun r2 τ2 q2 => ?_)
    obtain ⟨rfl, hr⟩ := q2
    refine l_eqv (pc := 258) (tgt := 1042) h dL_law_258 rfl ?_
    exact l_widen (Nat.le_add_right _ _) (Nat.le_add_right _ _) (kk τ2 v0 hr)
theorem lc_place {x : zX} {nc ns : Nat} {Q : State → Prop} {σ : zS} {cL : ClassId} {v0 : Int64} {L : Nat} {xs : Nat → Int32} {i : Int} (h : yH x RL cL_law 7 12) (hT : lT x cL) (hF : yF x (nc + 1) (ns + 6)) (hS : lS x L xs) (hL : L ≤ 2048) (h0 : 0 ≤ i) (h1 : i + 4 ≤ L) (hR : REL σ) (kk : ∀ τ v, REL τ → yW x (lA x) (lEx x cL v) (nc + 1) (ns + 6) Q 1042 (lls i) [] τ) : yW x (lA x) (lEx x cL v0) nc ns Q 263 (lls i) [] σ := by
  refine y_aload_n (pc := 263) h dL_law_263 rfl ?_
  refine y_aload_n (pc := 264) h dL_law_264 rfl ?_
  refine y_iload (pc := 265) h dL_law_265 rfl ?_
  refine y_iconst (pc := 267) h dL_law_267 ?_
  refine y_iadd (pc := 268) h dL_law_268 ?_
  refine l_sld (pc := 269) h hS (by omega) (by omega) hL dL_law_269 ?_
  refine y_aload_n (pc := 270) h dL_law_270 rfl ?_
  refine y_iload (pc := 271) h dL_law_271 rfl ?_
  refine y_iconst (pc := 273) h dL_law_273 ?_
  refine y_iadd (pc := 274) h dL_law_274 ?_
  refine l_sld (pc := 275) h hS (by omega) (by omega) hL dL_law_275 ?_
  refine y_aload_n (pc := 276) h dL_law_276 rfl ?_
  refine y_iload (pc := 277) h dL_law_277 rfl ?_
  refine y_iconst (pc := 279) h dL_law_279 ?_
  refine y_iadd (pc := 280) h dL_law_280 ?_
  refine l_sld (pc := 281) h hS (by omega) (by omega) hL dL_law_281 ?_
  refine y_callV (pc := 282) (o := 0) (c := 7) (np := 3) (st := []) h (lE_of hT) (yF0' hF) (J_place hR (zin_v (xs (i + 1).toNat)) (zin_v (xs (i + 2).toNat)) (zin_v (xs (i + 3).toNat))) (by decide) rfl rfl mv_X7_place ml_L_42 rfl dL_law_282 rfl (Nat.le_of_ble_eq_true rfl) (fun r τ q => ?_)
  obtain ⟨v, rfl, hm⟩ := q
  refine y_aload_n (pc := 285) h dL_law_285 rfl ?_
  refine y_aload_n (pc := 286) h dL_law_286 rfl ?_
  refine y_iload (pc := 287) h dL_law_287 rfl ?_
  refine y_iconst (pc := 289) h dL_law_289 ?_
  refine y_iadd (pc := 290) h dL_law_290 ?_
  refine l_sld (pc := 291) h hS (by omega) (by omega) hL dL_law_291 ?_
  refine y_aload_n (pc := 292) h dL_law_292 rfl ?_
  refine y_iload (pc := 293) h dL_law_293 rfl ?_
  refine y_iconst (pc := 295) h dL_law_295 ?_
  refine y_iadd (pc := 296) h dL_law_296 ?_
  refine l_sld (pc := 297) h hS (by omega) (by omega) hL dL_law_297 ?_
  refine y_aload_n (pc := 298) h dL_law_298 rfl ?_
  refine y_iload (pc := 299) h dL_law_299 rfl ?_
  refine y_iconst (pc := 301) h dL_law_301 ?_
  refine y_iadd (pc := 302) h dL_law_302 ?_
  refine l_sld (pc := 303) h hS (by omega) (by omega) hL dL_law_303 ?_
  refine y_callV (pc := 304) (o := 31) (c := 8) (np := 3) (st := [zI v]) h (lE_of hT) (yF0' hF) hm (by decide) rfl rfl mv_X8_place ml_L_46 rfl dL_law_304 rfl (Nat.le_of_ble_eq_true rfl) (fun r2 τ2 q2 => ?_)
  obtain ⟨rfl, hr⟩ := q2
  refine l_eqv (pc := 307) (tgt := 1042) h dL_law_307 rfl ?_
  exact l_widen (Nat.le_add_right _ _) (Nat.le_add_right _ _) (kk τ2 v0 hr)
theorem lc_swap {x : zX} {nc ns : Nat} {Q : State → Prop} {σ : zS} {cL : ClassId} {v0 : Int64} {L : Nat} {xs : Nat → Int32} {i : Int} (h : yH x RL cL_law 7 12) (hT : lT x cL) (hF : yF x (nc + 1) (ns + 6)) (hS : lS x L xs) (hL : L ≤ 2048) (h0 : 0 ≤ i) (h1 : i + 4 ≤ L) (hR : REL σ) (kk : ∀ τ v, REL τ → yW x (lA x) (lEx x cL v) (nc + 1) (ns + 6) Q 1042 (lls i) [] τ) : yW x (lA x) (lEx x cL v0) nc ns Q 312 (lls i) [] σ := by
  refine y_aload_n (pc := 312) h dL_law_312 rfl ?_
  refine y_aload_n (pc := 313) h dL_law_313 rfl ?_
  refine y_iload (pc := 314) h dL_law_314 rfl ?_
  refine y_iconst (pc := 316) h dL_law_316 ?_
  refine y_iadd (pc := 317) h dL_law_317 ?_
  refine l_sld (pc := 318) h hS (by omega) (by omega) hL dL_law_318 ?_
  refine y_aload_n (pc := 319) h dL_law_319 rfl ?_
  refine y_iload (pc := 320) h dL_law_320 rfl ?_
  refine y_iconst (pc := 322) h dL_law_322 ?_
  refine y_iadd (pc := 323) h dL_law_323 ?_
  refine l_sld (pc := 324) h hS (by omega) (by omega) hL dL_law_324 ?_
  refine y_callV (pc := 325) (o := 0) (c := 7) (np := 2) (st := []) h (lE_of hT) (yF0' hF) (J_swap hR (zin_v (xs (i + 1).toNat)) (zin_v (xs (i + 2).toNat))) (by decide) rfl rfl mv_X7_swap ml_L_47 rfl dL_law_325 rfl (Nat.le_of_ble_eq_true rfl) (fun r τ q => ?_)
  obtain ⟨v, rfl, hm⟩ := q
  refine y_aload_n (pc := 328) h dL_law_328 rfl ?_
  refine y_aload_n (pc := 329) h dL_law_329 rfl ?_
  refine y_iload (pc := 330) h dL_law_330 rfl ?_
  refine y_iconst (pc := 332) h dL_law_332 ?_
  refine y_iadd (pc := 333) h dL_law_333 ?_
  refine l_sld (pc := 334) h hS (by omega) (by omega) hL dL_law_334 ?_
  refine y_aload_n (pc := 335) h dL_law_335 rfl ?_
  refine y_iload (pc := 336) h dL_law_336 rfl ?_
  refine y_iconst (pc := 338) h dL_law_338 ?_
  refine y_iadd (pc := 339) h dL_law_339 ?_
  refine l_sld (pc := 340) h hS (by omega) (by omega) hL dL_law_340 ?_
  refine y_callV (pc := 341) (o := 31) (c := 8) (np := 2) (st := [zI v]) h (lE_of hT) (yF0' hF) hm (by decide) rfl rfl mv_X8_swap ml_L_50 rfl dL_law_341 rfl (Nat.le_of_ble_eq_true rfl) (fun r2 τ2 q2 => ?_)
  obtain ⟨rfl, hr⟩ := q2
  refine l_eqv (pc := 344) (tgt := 1042) h dL_law_344 rfl ?_
  exact l_widen (Nat.le_add_right _ _) (Nat.le_add_right _ _) (kk τ2 v0 hr)
theorem lc_late {x : zX} {nc ns : Nat} {Q : State → Prop} {σ : zS} {cL : ClassId} {v0 : Int64} {L : Nat} {xs : Nat → Int32} {i : Int} (h : yH x RL cL_law 7 12) (hT : lT x cL) (hF : yF x (nc + 1) (ns + 6)) (hS : lS x L xs) (hL : L ≤ 2048) (h0 : 0 ≤ i) (h1 : i + 4 ≤ L) (hR : REL σ) (kk : ∀ τ v, REL τ → yW x (lA x) (lEx x cL v) (nc + 1) (ns + 6) Q 1042 (lls i) [] τ) : yW x (lA x) (lEx x cL v0) nc ns Q 349 (lls i) [] σ := by
  refine y_aload_n (pc := 349) h dL_law_349 rfl ?_
  refine y_aload_n (pc := 350) h dL_law_350 rfl ?_
  refine y_iload (pc := 351) h dL_law_351 rfl ?_
  refine y_iconst (pc := 353) h dL_law_353 ?_
  refine y_iadd (pc := 354) h dL_law_354 ?_
  refine l_sld (pc := 355) h hS (by omega) (by omega) hL dL_law_355 ?_
  refine y_aload_n (pc := 356) h dL_law_356 rfl ?_
  refine y_iload (pc := 357) h dL_law_357 rfl ?_
  refine y_iconst (pc := 359) h dL_law_359 ?_
  refine y_iadd (pc := 360) h dL_law_360 ?_
  refine l_sld (pc := 361) h hS (by omega) (by omega) hL dL_law_361 ?_
  refine y_callV (pc := 362) (o := 0) (c := 7) (np := 2) (st := []) h (lE_of hT) (yF0' hF) (J_late hR (zin_v (xs (i + 1).toNat)) (zin_v (xs (i + 2).toNat))) (by decide) rfl rfl mv_X7_late ml_L_51 rfl dL_law_362 rfl (Nat.le_of_ble_eq_true rfl) (fun r τ q => ?_)
  obtain ⟨v, rfl, hm⟩ := q
  refine y_aload_n (pc := 365) h dL_law_365 rfl ?_
  refine y_aload_n (pc := 366) h dL_law_366 rfl ?_
  refine y_iload (pc := 367) h dL_law_367 rfl ?_
  refine y_iconst (pc := 369) h dL_law_369 ?_
  refine y_iadd (pc := 370) h dL_law_370 ?_
  refine l_sld (pc := 371) h hS (by omega) (by omega) hL dL_law_371 ?_
  refine y_aload_n (pc := 372) h dL_law_372 rfl ?_
  refine y_iload (pc := 373) h dL_law_373 rfl ?_
  refine y_iconst (pc := 375) h dL_law_375 ?_
  refine y_iadd (pc := 376) h dL_law_376 ?_
  refine l_sld (pc := 377) h hS (by omega) (by omega) hL dL_law_377 ?_
  refine y_callV (pc := 378) (o := 31) (c := 8) (np := 2) (st := [zI v]) h (lE_of hT) (yF0' hF) hm (by decide) rfl rfl mv_X8_late ml_L_54 rfl dL_law_378 rfl (Nat.le_of_ble_eq_true rfl) (fun r2 τ2 q2 => ?_)
  obtain ⟨rfl, hr⟩ := q2
  refine l_eqv (pc := 381) (tgt := 1042) h dL_law_381 rfl ?_
  exact l_widen (Nat.le_add_right _ _) (Nat.le_add_right _ _) (kk τ2 v0 hr)
theorem lc_now {x : zX} {nc ns : Nat} {Q : State → Prop} {σ : zS} {cL : ClassId} {v0 : Int64} {L : Nat} {xs : Nat → Int32} {i : Int} (h : yH x RL cL_law 7 12) (hT : lT x cL) (hF : yF x (nc + 1) (ns + 6)) (hS : lS x L xs) (hL : L ≤ 2048) (h0 : 0 ≤ i) (h1 : i + 4 ≤ L) (hR : REL σ) (kk : ∀ τ v, REL τ → yW x (lA x) (lEx x cL v) (nc + 1) (ns + 6) Q 1042 (lls i) [] τ) : yW x (lA x) (lEx x cL v0) nc ns Q 386 (lls i) [] σ := by
  refine y_aload_n (pc := 386) h dL_law_386 rfl ?_
  refine y_aload_n (pc := 387) h dL_law_387 rfl ?_
  refine y_iload (pc := 388) h dL_law_388 rfl ?_
  refine y_iconst (pc := 390) h dL_law_390 ?_
  refine y_iadd (pc := 391) h dL_law_391 ?_
  refine l_sld (pc := 392) h hS (by omega) (by omega) hL dL_law_392 ?_
  refine y_callV (pc := 393) (o := 0) (c := 7) (np := 1) (st := []) h (lE_of hT) (yF0' hF) (J_now hR (zin_v (xs (i + 1).toNat))) (by decide) rfl rfl mv_X7_now ml_L_55 rfl dL_law_393 rfl (Nat.le_of_ble_eq_true rfl) (fun r τ q => ?_)
  obtain ⟨v, rfl, hm⟩ := q
  refine y_aload_n (pc := 396) h dL_law_396 rfl ?_
  refine y_aload_n (pc := 397) h dL_law_397 rfl ?_
  refine y_iload (pc := 398) h dL_law_398 rfl ?_
  refine y_iconst (pc := 400) h dL_law_400 ?_
  refine y_iadd (pc := 401) h dL_law_401 ?_
  refine l_sld (pc := 402) h hS (by omega) (by omega) hL dL_law_402 ?_
  refine y_callV (pc := 403) (o := 31) (c := 8) (np := 1) (st := [zI v]) h (lE_of hT) (yF0' hF) hm (by decide) rfl rfl mv_X8_now ml_L_59 rfl dL_law_403 rfl (Nat.le_of_ble_eq_true rfl) (fun r2 τ2 q2 => ?_)
  obtain ⟨rfl, hr⟩ := q2
  refine l_eqv (pc := 406) (tgt := 1042) h dL_law_406 rfl ?_
  exact l_widen (Nat.le_add_right _ _) (Nat.le_add_right _ _) (kk τ2 v0 hr)
theorem lc_step {x : zX} {nc ns : Nat} {Q : State → Prop} {σ : zS} {cL : ClassId} {v0 : Int64} {L : Nat} {xs : Nat → Int32} {i : Int} (h : yH x RL cL_law 7 12) (hT : lT x cL) (hF : yF x (nc + 1) (ns + 6)) (hS : lS x L xs) (hL : L ≤ 2048) (h0 : 0 ≤ i) (h1 : i + 4 ≤ L) (hR : REL σ) (kk : ∀ τ v, REL τ → yW x (lA x) (lEx x cL v) (nc + 1) (ns + 6) Q 1042 (lls i) [] τ) : yW x (lA x) (lEx x cL v0) nc ns Q 411 (lls i) [] σ := by
  refine y_aload_n (pc := 411) h dL_law_411 rfl ?_
  refine y_callV (pc := 412) (o := 0) (c := 7) (np := 0) (st := []) h (lE_of hT) (yF0' hF) (J_step hR) (by decide) rfl rfl mv_X7_step ml_L_60 rfl dL_law_412 rfl (Nat.le_of_ble_eq_true rfl) (fun r τ q => ?_)
  obtain ⟨v, rfl, hm⟩ := q
  refine y_aload_n (pc := 415) h dL_law_415 rfl ?_
  refine y_callV (pc := 416) (o := 31) (c := 8) (np := 0) (st := [zI v]) h (lE_of hT) (yF0' hF) hm (by decide) rfl rfl mv_X8_step ml_L_63 rfl dL_law_416 rfl (Nat.le_of_ble_eq_true rfl) (fun r2 τ2 q2 => ?_)
  obtain ⟨rfl, hr⟩ := q2
  refine l_eqv (pc := 419) (tgt := 1042) h dL_law_419 rfl ?_
  exact l_widen (Nat.le_add_right _ _) (Nat.le_add_right _ _) (kk τ2 v0 hr)
theorem lc_repair {x : zX} {nc ns : Nat} {Q : State → Prop} {σ : zS} {cL : ClassId} {v0 : Int64} {L : Nat} {xs : Nat → Int32} {i : Int} (h : yH x RL cL_law 7 12) (hT : lT x cL) (hF : yF x (nc + 1) (ns + 6)) (hS : lS x L xs) (hL : L ≤ 2048) (h0 : 0 ≤ i) (h1 : i + 4 ≤ L) (hR : REL σ) (kk : ∀ τ v, REL τ → yW x (lA x) (lEx x cL v) (nc + 1) (ns + 6) Q 1042 (lls i) [] τ) : yW x (lA x) (lEx x cL v0) nc ns Q 424 (lls i) [] σ := by
  refine y_aload_n (pc := 424) h dL_law_424 rfl ?_
  refine y_callV (pc := 425) (o := 0) (c := 7) (np := 0) (st := []) h (lE_of hT) (yF0' hF) (J_repair hR) (by decide) rfl rfl mv_X7_repair ml_L_64 rfl dL_law_425 rfl (Nat.le_of_ble_eq_true rfl) (fun r τ q => ?_)
  obtain ⟨v, rfl, hm⟩ := q
  refine y_aload_n (pc := 428) h dL_law_428 rfl ?_
  refine y_callV (pc := 429) (o := 31) (c := 8) (np := 0) (st := [zI v]) h (lE_of hT) (yF0' hF) hm (by decide) rfl rfl mv_X8_repair ml_L_67 rfl dL_law_429 rfl (Nat.le_of_ble_eq_true rfl) (fun r2 τ2 q2 => ?_)
  obtain ⟨rfl, hr⟩ := q2
  refine l_eqv (pc := 432) (tgt := 1042) h dL_law_432 rfl ?_
  exact l_widen (Nat.le_add_right _ _) (Nat.le_add_right _ _) (kk τ2 v0 hr)
theorem lc_undo {x : zX} {nc ns : Nat} {Q : State → Prop} {σ : zS} {cL : ClassId} {v0 : Int64} {L : Nat} {xs : Nat → Int32} {i : Int} (h : yH x RL cL_law 7 12) (hT : lT x cL) (hF : yF x (nc + 1) (ns + 6)) (hS : lS x L xs) (hL : L ≤ 2048) (h0 : 0 ≤ i) (h1 : i + 4 ≤ L) (hR : REL σ) (kk : ∀ τ v, REL τ → yW x (lA x) (lEx x cL v) (nc + 1) (ns + 6) Q 1042 (lls i) [] τ) : yW x (lA x) (lEx x cL v0) nc ns Q 437 (lls i) [] σ := by
  refine y_aload_n (pc := 437) h dL_law_437 rfl ?_
  refine y_callV (pc := 438) (o := 0) (c := 7) (np := 0) (st := []) h (lE_of hT) (yF0' hF) (J_undo hR) (by decide) rfl rfl mv_X7_undo ml_L_68 rfl dL_law_438 rfl (Nat.le_of_ble_eq_true rfl) (fun r τ q => ?_)
  obtain ⟨v, rfl, hm⟩ := q
  refine y_aload_n (pc := 441) h dL_law_441 rfl ?_
  refine y_callV (pc := 442) (o := 31) (c := 8) (np := 0) (st := [zI v]) h (lE_of hT) (yF0' hF) hm (by decide) rfl rfl mv_X8_undo ml_L_71 rfl dL_law_442 rfl (Nat.le_of_ble_eq_true rfl) (fun r2 τ2 q2 => ?_)
  obtain ⟨rfl, hr⟩ := q2
  refine l_eqv (pc := 445) (tgt := 1042) h dL_law_445 rfl ?_
  exact l_widen (Nat.le_add_right _ _) (Nat.le_add_right _ _) (kk τ2 v0 hr)
theorem lc_count {x : zX} {nc ns : Nat} {Q : State → Prop} {σ : zS} {cL : ClassId} {v0 : Int64} {L : Nat} {xs : Nat → Int32} {i : Int} (h : yH x RL cL_law 7 12) (hT : lT x cL) (hF : yF x (nc + 1) (ns + 6)) (hS : lS x L xs) (hL : L ≤ 2048) (h0 : 0 ≤ i) (h1 : i + 4 ≤ L) (hR : REL σ) (kk : ∀ τ v, REL τ → yW x (lA x) (lEx x cL v) (nc + 1) (ns + 6) Q 1042 (lls i) [] τ) : yW x (lA x) (lEx x cL v0) nc ns Q 450 (lls i) [] σ := by
  refine y_aload_n (pc := 450) h dL_law_450 rfl ?_
  refine y_aload_n (pc := 451) h dL_law_451 rfl ?_
  refine y_iload (pc := 452) h dL_law_452 rfl ?_
  refine y_iconst (pc := 454) h dL_law_454 ?_
  refine y_iadd (pc := 455) h dL_law_455 ?_
  refine l_sld (pc := 456) h hS (by omega) (by omega) hL dL_law_456 ?_
  refine y_callV (pc := 457) (o := 0) (c := 7) (np := 1) (st := []) h (lE_of hT) (yF0' hF) (J_count hR (zin_v (xs (i + 1).toNat))) (by decide) rfl rfl mv_X7_count ml_L_72 rfl dL_law_457 rfl (Nat.le_of_ble_eq_true rfl) (fun r τ q => ?_)
  obtain ⟨v, rfl, hm⟩ := q
  refine y_aload_n (pc := 460) h dL_law_460 rfl ?_
  refine y_aload_n (pc := 461) h dL_law_461 rfl ?_
  refine y_iload (pc := 462) h dL_law_462 rfl ?_
  refine y_iconst (pc := 464) h dL_law_464 ?_
  refine y_iadd (pc := 465) h dL_law_465 ?_
  refine l_sld (pc := 466) h hS (by omega) (by omega) hL dL_law_466 ?_
  refine y_callV (pc := 467) (o := 31) (c := 8) (np := 1) (st := [zI v]) h (lE_of hT) (yF0' hF) hm (by decide) rfl rfl mv_X8_count ml_L_76 rfl dL_law_467 rfl (Nat.le_of_ble_eq_true rfl) (fun r2 τ2 q2 => ?_)
  obtain ⟨rfl, hr⟩ := q2
  refine l_eqv (pc := 470) (tgt := 1042) h dL_law_470 rfl ?_
  exact l_widen (Nat.le_add_right _ _) (Nat.le_add_right _ _) (kk τ2 v0 hr)
theorem lc_door {x : zX} {nc ns : Nat} {Q : State → Prop} {σ : zS} {cL : ClassId} {v0 : Int64} {L : Nat} {xs : Nat → Int32} {i : Int} (h : yH x RL cL_law 7 12) (hT : lT x cL) (hF : yF x (nc + 1) (ns + 6)) (hS : lS x L xs) (hL : L ≤ 2048) (h0 : 0 ≤ i) (h1 : i + 4 ≤ L) (hR : REL σ) (kk : ∀ τ v, REL τ → yW x (lA x) (lEx x cL v) (nc + 1) (ns + 6) Q 1042 (lls i) [] τ) : yW x (lA x) (lEx x cL v0) nc ns Q 475 (lls i) [] σ := by
  obtain ⟨v, th, hth, hco, hmm⟩ := J_door hR (zin_v (xs (i + 1).toNat)) (zin_v (xs (i + 2).toNat))
  refine y_aload_n (pc := 475) h dL_law_475 rfl ?_
  refine y_aload_n (pc := 476) h dL_law_476 rfl ?_
  refine y_iload (pc := 477) h dL_law_477 rfl ?_
  refine y_iconst (pc := 479) h dL_law_479 ?_
  refine y_iadd (pc := 480) h dL_law_480 ?_
  refine l_sld (pc := 481) h hS (by omega) (by omega) hL dL_law_481 ?_
  refine y_aload_n (pc := 482) h dL_law_482 rfl ?_
  refine y_iload (pc := 483) h dL_law_483 rfl ?_
  refine y_iconst (pc := 485) h dL_law_485 ?_
  refine y_iadd (pc := 486) h dL_law_486 ?_
  refine l_sld (pc := 487) h hS (by omega) (by omega) hL dL_law_487 ?_
  refine y_aload_n (pc := 488) h dL_law_488 rfl ?_
  refine l_help (pc := 489) h hT hF hco (by decide) ⟨by decide, by decide, by decide +kernel⟩ ml_L_77 sm_L_door ini_RL cw_L_door dL_law_489 (fun r w q => ?_)
  obtain ⟨rfl, hw⟩ := q
  refine y_ist_5 (pc := 492) h dL_law_492 (by decide) rfl ?_
  refine y_aload_n (pc := 494) h dL_law_494 rfl ?_
  refine y_aload_n (pc := 495) h dL_law_495 rfl ?_
  refine y_iload (pc := 496) h dL_law_496 rfl ?_
  refine y_iconst (pc := 498) h dL_law_498 ?_
  refine y_iadd (pc := 499) h dL_law_499 ?_
  refine l_sld (pc := 500) h hS (by omega) (by omega) hL dL_law_500 ?_
  refine y_aload_n (pc := 501) h dL_law_501 rfl ?_
  refine y_iload (pc := 502) h dL_law_502 rfl ?_
  refine y_iconst (pc := 504) h dL_law_504 ?_
  refine y_iadd (pc := 505) h dL_law_505 ?_
  refine l_sld (pc := 506) h hS (by omega) (by omega) hL dL_law_506 ?_
  refine y_callV (pc := 507) (o := 31) (c := 8) (np := 2) (st := []) h (lE_of hT) hF hmm (by decide) rfl rfl mv_X8_door ml_L_82 rfl dL_law_507 rfl (Nat.le_of_ble_eq_true rfl) (fun r2 τ q2 => ?_)
  obtain ⟨rfl, hr, hx⟩ := q2
  refine y_ist_6 (pc := 510) h dL_law_510 (by decide) rfl ?_
  refine y_aload_n (pc := 512) h dL_law_512 rfl ?_
  refine y_callV (pc := 513) (o := 31) (c := 8) (np := 0) (st := []) h (lE_of hT) hF hx (by decide) rfl rfl mv_X8_thrown ml_L_83 rfl dL_law_513 rfl (Nat.le_of_ble_eq_true rfl) (fun r3 τ3 q3 => ?_)
  obtain ⟨rfl, rfl⟩ := q3
  refine y_iload (pc := 516) h dL_law_516 rfl ?_
  refine l_eqv (pc := 518) (tgt := 523) h dL_law_518 rfl ?_
  refine y_iload (pc := 523) h dL_law_523 rfl ?_
  rcases hth with hth | hth
  · subst hth
    refine y_if_ne (pc := 525) (tgt := 540) h (by decide) dL_law_525 rfl (fun c => absurd rfl c) (fun _ => ?_)
    refine y_aload_n (pc := 528) h dL_law_528 rfl ?_
    refine y_iconst (pc := 529) h dL_law_529 ?_
    refine l_laload (pc := 530) h hT dL_law_530 ?_
    refine y_iload (pc := 531) h dL_law_531 rfl ?_
    refine y_i2l (pc := 533) h dL_law_533 ?_
    refine y_lcmp (pc := 534) h dL_law_534 ?_
    rw [hw rfl, zlc_s]
    refine y_if_eq (pc := 535) (tgt := 540) h (by decide) dL_law_535 rfl (fun _ => ?_) (fun c => absurd rfl c)
    refine y_goto (pc := 540) (tgt := 1042) h dL_law_540 rfl ?_
    exact l_forget (lls_w i _ _) (kk _ _ hr)
  · subst hth
    refine y_if_ne (pc := 525) (tgt := 540) h (by decide) dL_law_525 rfl (fun _ => ?_) (fun c => absurd c (by decide))
    refine y_goto (pc := 540) (tgt := 1042) h dL_law_540 rfl ?_
    exact l_forget (lls_w i _ _) (kk _ _ hr)
theorem lc_row {x : zX} {nc ns : Nat} {Q : State → Prop} {σ : zS} {cL : ClassId} {v0 : Int64} {L : Nat} {xs : Nat → Int32} {i : Int} (h : yH x RL cL_law 7 12) (hT : lT x cL) (hF : yF x (nc + 1) (ns + 6)) (hS : lS x L xs) (hL : L ≤ 2048) (h0 : 0 ≤ i) (h1 : i + 4 ≤ L) (hR : REL σ) (kk : ∀ τ v, REL τ → yW x (lA x) (lEx x cL v) (nc + 1) (ns + 6) Q 1042 (lls i) [] τ) : yW x (lA x) (lEx x cL v0) nc ns Q 543 (lls i) [] σ := by
  refine y_aload_n (pc := 543) h dL_law_543 rfl ?_
  refine y_aload_n (pc := 544) h dL_law_544 rfl ?_
  refine y_iload (pc := 545) h dL_law_545 rfl ?_
  refine y_iconst (pc := 547) h dL_law_547 ?_
  refine y_iadd (pc := 548) h dL_law_548 ?_
  refine l_sld (pc := 549) h hS (by omega) (by omega) hL dL_law_549 ?_
  refine y_aload_n (pc := 550) h dL_law_550 rfl ?_
  refine y_iload (pc := 551) h dL_law_551 rfl ?_
  refine y_iconst (pc := 553) h dL_law_553 ?_
  refine y_iadd (pc := 554) h dL_law_554 ?_
  refine l_sld (pc := 555) h hS (by omega) (by omega) hL dL_law_555 ?_
  refine y_callV (pc := 556) (o := 0) (c := 7) (np := 2) (st := []) h (lE_of hT) (yF0' hF) (J_row hR (zin_v (xs (i + 1).toNat)) (zin_v (xs (i + 2).toNat))) (by decide) rfl rfl mv_X7_row ml_L_86 rfl dL_law_556 rfl (Nat.le_of_ble_eq_true rfl) (fun r τ q => ?_)
  obtain ⟨v, rfl, hm⟩ := q
  refine y_aload_n (pc := 559) h dL_law_559 rfl ?_
  refine y_aload_n (pc := 560) h dL_law_560 rfl ?_
  refine y_iload (pc := 561) h dL_law_561 rfl ?_
  refine y_iconst (pc := 563) h dL_law_563 ?_
  refine y_iadd (pc := 564) h dL_law_564 ?_
  refine l_sld (pc := 565) h hS (by omega) (by omega) hL dL_law_565 ?_
  refine y_aload_n (pc := 566) h dL_law_566 rfl ?_
  refine y_iload (pc := 567) h dL_law_567 rfl ?_
  refine y_iconst (pc := 569) h dL_law_569 ?_
  refine y_iadd (pc := 570) h dL_law_570 ?_
  refine l_sld (pc := 571) h hS (by omega) (by omega) hL dL_law_571 ?_
  refine y_callV (pc := 572) (o := 31) (c := 8) (np := 2) (st := [zI v]) h (lE_of hT) (yF0' hF) hm (by decide) rfl rfl mv_X8_row ml_L_89 rfl dL_law_572 rfl (Nat.le_of_ble_eq_true rfl) (fun r2 τ2 q2 => ?_)
  obtain ⟨rfl, hr⟩ := q2
  refine l_eqv (pc := 575) (tgt := 1042) h dL_law_575 rfl ?_
  exact l_widen (Nat.le_add_right _ _) (Nat.le_add_right _ _) (kk τ2 v0 hr)
theorem lc_truck {x : zX} {nc ns : Nat} {Q : State → Prop} {σ : zS} {cL : ClassId} {v0 : Int64} {L : Nat} {xs : Nat → Int32} {i : Int} (h : yH x RL cL_law 7 12) (hT : lT x cL) (hF : yF x (nc + 1) (ns + 6)) (hS : lS x L xs) (hL : L ≤ 2048) (h0 : 0 ≤ i) (h1 : i + 4 ≤ L) (hR : REL σ) (kk : ∀ τ v, REL τ → yW x (lA x) (lEx x cL v) (nc + 1) (ns + 6) Q 1042 (lls i) [] τ) : yW x (lA x) (lEx x cL v0) nc ns Q 580 (lls i) [] σ := by
  obtain ⟨v, th, hth, hco, hmm⟩ := J_truck hR (zin_v (xs (i + 1).toNat)) (zin_v (xs (i + 2).toNat))
  refine y_aload_n (pc := 580) h dL_law_580 rfl ?_
  refine y_aload_n (pc := 581) h dL_law_581 rfl ?_
  refine y_iload (pc := 582) h dL_law_582 rfl ?_
  refine y_iconst (pc := 584) h dL_law_584 ?_
  refine y_iadd (pc := 585) h dL_law_585 ?_
  refine l_sld (pc := 586) h hS (by omega) (by omega) hL dL_law_586 ?_
  refine y_aload_n (pc := 587) h dL_law_587 rfl ?_
  refine y_iload (pc := 588) h dL_law_588 rfl ?_
  refine y_iconst (pc := 590) h dL_law_590 ?_
  refine y_iadd (pc := 591) h dL_law_591 ?_
  refine l_sld (pc := 592) h hS (by omega) (by omega) hL dL_law_592 ?_
  refine y_aload_n (pc := 593) h dL_law_593 rfl ?_
  refine l_help (pc := 594) h hT hF hco (by decide) ⟨by decide, by decide, by decide +kernel⟩ ml_L_90 sm_L_truck ini_RL cw_L_truck dL_law_594 (fun r w q => ?_)
  obtain ⟨rfl, hw⟩ := q
  refine y_ist_5 (pc := 597) h dL_law_597 (by decide) rfl ?_
  refine y_aload_n (pc := 599) h dL_law_599 rfl ?_
  refine y_aload_n (pc := 600) h dL_law_600 rfl ?_
  refine y_iload (pc := 601) h dL_law_601 rfl ?_
  refine y_iconst (pc := 603) h dL_law_603 ?_
  refine y_iadd (pc := 604) h dL_law_604 ?_
  refine l_sld (pc := 605) h hS (by omega) (by omega) hL dL_law_605 ?_
  refine y_aload_n (pc := 606) h dL_law_606 rfl ?_
  refine y_iload (pc := 607) h dL_law_607 rfl ?_
  refine y_iconst (pc := 609) h dL_law_609 ?_
  refine y_iadd (pc := 610) h dL_law_610 ?_
  refine l_sld (pc := 611) h hS (by omega) (by omega) hL dL_law_611 ?_
  refine y_callV (pc := 612) (o := 31) (c := 8) (np := 2) (st := []) h (lE_of hT) hF hmm (by decide) rfl rfl mv_X8_truck ml_L_92 rfl dL_law_612 rfl (Nat.le_of_ble_eq_true rfl) (fun r2 τ q2 => ?_)
  obtain ⟨rfl, hr, hx⟩ := q2
  refine y_ist_6 (pc := 615) h dL_law_615 (by decide) rfl ?_
  refine y_aload_n (pc := 617) h dL_law_617 rfl ?_
  refine y_callV (pc := 618) (o := 31) (c := 8) (np := 0) (st := []) h (lE_of hT) hF hx (by decide) rfl rfl mv_X8_thrown ml_L_83 rfl dL_law_618 rfl (Nat.le_of_ble_eq_true rfl) (fun r3 τ3 q3 => ?_)
  obtain ⟨rfl, rfl⟩ := q3
  refine y_iload (pc := 621) h dL_law_621 rfl ?_
  refine l_eqv (pc := 623) (tgt := 628) h dL_law_623 rfl ?_
  refine y_iload (pc := 628) h dL_law_628 rfl ?_
  rcases hth with hth | hth
  · subst hth
    refine y_if_ne (pc := 630) (tgt := 645) h (by decide) dL_law_630 rfl (fun c => absurd rfl c) (fun _ => ?_)
    refine y_aload_n (pc := 633) h dL_law_633 rfl ?_
    refine y_iconst (pc := 634) h dL_law_634 ?_
    refine l_laload (pc := 635) h hT dL_law_635 ?_
    refine y_iload (pc := 636) h dL_law_636 rfl ?_
    refine y_i2l (pc := 638) h dL_law_638 ?_
    refine y_lcmp (pc := 639) h dL_law_639 ?_
    rw [hw rfl, zlc_s]
    refine y_if_eq (pc := 640) (tgt := 645) h (by decide) dL_law_640 rfl (fun _ => ?_) (fun c => absurd rfl c)
    refine y_goto (pc := 645) (tgt := 1042) h dL_law_645 rfl ?_
    exact l_forget (lls_w i _ _) (kk _ _ hr)
  · subst hth
    refine y_if_ne (pc := 630) (tgt := 645) h (by decide) dL_law_630 rfl (fun _ => ?_) (fun c => absurd c (by decide))
    refine y_goto (pc := 645) (tgt := 1042) h dL_law_645 rfl ?_
    exact l_forget (lls_w i _ _) (kk _ _ hr)
theorem lc_carton {x : zX} {nc ns : Nat} {Q : State → Prop} {σ : zS} {cL : ClassId} {v0 : Int64} {L : Nat} {xs : Nat → Int32} {i : Int} (h : yH x RL cL_law 7 12) (hT : lT x cL) (hF : yF x (nc + 1) (ns + 6)) (hS : lS x L xs) (hL : L ≤ 2048) (h0 : 0 ≤ i) (h1 : i + 4 ≤ L) (hR : REL σ) (kk : ∀ τ v, REL τ → yW x (lA x) (lEx x cL v) (nc + 1) (ns + 6) Q 1042 (lls i) [] τ) : yW x (lA x) (lEx x cL v0) nc ns Q 648 (lls i) [] σ := by
  obtain ⟨v, th, hth, hco, hmm⟩ := J_carton hR (zin_v (xs (i + 1).toNat)) (zin_v (xs (i + 2).toNat))
  refine y_aload_n (pc := 648) h dL_law_648 rfl ?_
  refine y_aload_n (pc := 649) h dL_law_649 rfl ?_
  refine y_iload (pc := 650) h dL_law_650 rfl ?_
  refine y_iconst (pc := 652) h dL_law_652 ?_
  refine y_iadd (pc := 653) h dL_law_653 ?_
  refine l_sld (pc := 654) h hS (by omega) (by omega) hL dL_law_654 ?_
  refine y_aload_n (pc := 655) h dL_law_655 rfl ?_
  refine y_iload (pc := 656) h dL_law_656 rfl ?_
  refine y_iconst (pc := 658) h dL_law_658 ?_
  refine y_iadd (pc := 659) h dL_law_659 ?_
  refine l_sld (pc := 660) h hS (by omega) (by omega) hL dL_law_660 ?_
  refine y_aload_n (pc := 661) h dL_law_661 rfl ?_
  refine l_help (pc := 662) h hT hF hco (by decide) ⟨by decide, by decide, by decide +kernel⟩ ml_L_93 sm_L_carton ini_RL cw_L_carton dL_law_662 (fun r w q => ?_)
  obtain ⟨rfl, hw⟩ := q
  refine y_ist_5 (pc := 665) h dL_law_665 (by decide) rfl ?_
  refine y_aload_n (pc := 667) h dL_law_667 rfl ?_
  refine y_aload_n (pc := 668) h dL_law_668 rfl ?_
  refine y_iload (pc := 669) h dL_law_669 rfl ?_
  refine y_iconst (pc := 671) h dL_law_671 ?_
  refine y_iadd (pc := 672) h dL_law_672 ?_
  refine l_sld (pc := 673) h hS (by omega) (by omega) hL dL_law_673 ?_
  refine y_aload_n (pc := 674) h dL_law_674 rfl ?_
  refine y_iload (pc := 675) h dL_law_675 rfl ?_
  refine y_iconst (pc := 677) h dL_law_677 ?_
  refine y_iadd (pc := 678) h dL_law_678 ?_
  refine l_sld (pc := 679) h hS (by omega) (by omega) hL dL_law_679 ?_
  refine y_callV (pc := 680) (o := 31) (c := 8) (np := 2) (st := []) h (lE_of hT) hF hmm (by decide) rfl rfl mv_X8_carton ml_L_95 rfl dL_law_680 rfl (Nat.le_of_ble_eq_true rfl) (fun r2 τ q2 => ?_)
  obtain ⟨rfl, hr, hx⟩ := q2
  refine y_ist_6 (pc := 683) h dL_law_683 (by decide) rfl ?_
  refine y_aload_n (pc := 685) h dL_law_685 rfl ?_
  refine y_callV (pc := 686) (o := 31) (c := 8) (np := 0) (st := []) h (lE_of hT) hF hx (by decide) rfl rfl mv_X8_thrown ml_L_83 rfl dL_law_686 rfl (Nat.le_of_ble_eq_true rfl) (fun r3 τ3 q3 => ?_)
  obtain ⟨rfl, rfl⟩ := q3
  refine y_iload (pc := 689) h dL_law_689 rfl ?_
  refine l_eqv (pc := 691) (tgt := 696) h dL_law_691 rfl ?_
  refine y_iload (pc := 696) h dL_law_696 rfl ?_
  rcases hth with hth | hth
  · subst hth
    refine y_if_ne (pc := 698) (tgt := 713) h (by decide) dL_law_698 rfl (fun c => absurd rfl c) (fun _ => ?_)
    refine y_aload_n (pc := 701) h dL_law_701 rfl ?_
    refine y_iconst (pc := 702) h dL_law_702 ?_
    refine l_laload (pc := 703) h hT dL_law_703 ?_
    refine y_iload (pc := 704) h dL_law_704 rfl ?_
    refine y_i2l (pc := 706) h dL_law_706 ?_
    refine y_lcmp (pc := 707) h dL_law_707 ?_
    rw [hw rfl, zlc_s]
    refine y_if_eq (pc := 708) (tgt := 713) h (by decide) dL_law_708 rfl (fun _ => ?_) (fun c => absurd rfl c)
    refine y_goto (pc := 713) (tgt := 1042) h dL_law_713 rfl ?_
    exact l_forget (lls_w i _ _) (kk _ _ hr)
  · subst hth
    refine y_if_ne (pc := 698) (tgt := 713) h (by decide) dL_law_698 rfl (fun _ => ?_) (fun c => absurd c (by decide))
    refine y_goto (pc := 713) (tgt := 1042) h dL_law_713 rfl ?_
    exact l_forget (lls_w i _ _) (kk _ _ hr)
