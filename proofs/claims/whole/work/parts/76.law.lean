def LwK (X : CX) (d : Nat) (Q : Option VV → List Sh → Mem → Prop) (i : Nat) : Prop := ∀ (g : Mem) {tN : Nat} {tX : Nat → Int} {flt : Int} {u : PV} {v : LV} {kn : Nat} {kL : Nat → LV} {im : Nat → Bool × Int × LV} {sd : Int} {ln : Nat} {la : Nat → Nat} {lr : Nat → Bool} {bn : Nat} {bp : Nat → Nat} {bf : Nat → Int}, CS g tN tX flt u v kn kL im sd ln la lr bn bp bf → MS g tN tX flt u v kn kL im sd ln la lr bn bp bf → FT g → AJ X (d + 30) mL_law 183 3111 Q 183 3111 1028 [some vsc, some (vr 0), some (vr 166), some (vi (i : Int))] [] Z0 g
theorem r_same {X : CX} {d : Nat} {M : MI} {mc ms : Nat} {Q : Option VV → List Sh → Mem → Prop} {k n pc : Nat} {ls : List (Option VV)} {st : List VV} {Z : List Sh} {g : Mem} {a off : Int} {tgt : Nat} (hd : decode M.2.1 pc = .ok (.if_icmp .eq off, 3)) (ht : (pc : Int) + off = (tgt : Int)) (kk : AJ X d M mc ms Q k n tgt ls st Z g) : AJ X d M mc ms Q k n pc ls (vi a :: vi a :: st) Z g := by
  intro p l e R s m args below meth c Qw A ρ0 n0 S H locs ρ arr D
  have D' := D.stk (wfs_t (wfs_t D.sk))
  exact lv_icmp_eq S.ex S.co hd ht (fun _ => kk p l e R s m args below meth c Qw A ρ0 n0 S H locs ρ arr D') (fun q => absurd rfl q)
theorem lc_feed {X : CX} {d : Nat} {Q : Option VV → List Sh → Mem → Prop} {i : Nat} {g : Mem} {tN : Nat} {tX : Nat → Int} {flt : Int} {u : PV} {v : LV} {kn : Nat} {kL : Nat → LV} {im : Nat → Bool × Int × LV} {sd : Int} {ln : Nat} {la : Nat → Nat} {lr : Nat → Bool} {bn : Nat} {bp : Nat → Nat} {bf : Nat → Int} (hS : CS g tN tX flt u v kn kL im sd ln la lr bn bp bf) (hM : MS g tN tX flt u v kn kL im sd ln la lr bn bp bf) (hF : FT g) (hL : X.2.1 ≤ 2048) (hi : i + 4 ≤ X.2.1) (hx : ∀ j : Int, R32 (X.2.2.1 j)) (h : LwK X d Q i) : AJ X (d + 30) mL_law 183 3111 Q 183 3111 184 [some vsc, some (vr 0), some (vr 166), some (vi (i : Int))] [] Z0 g := by
  refine r_aload_n (pc' := 185) dL_law_184 rfl rfl ?_
  refine r_aload_s (pc' := 186) dL_law_185 rfl rfl ?_
  refine r_iload_n (pc' := 187) dL_law_186 rfl rfl ?_
  refine r_iconst (pc' := 188) dL_law_187 rfl ?_
  refine r_iadd (pc' := 189) dL_law_188 rfl ?_
  refine r_sald (pc' := 190) rfl dL_law_189 rfl (by omega) (by omega) (by omega) rfl ?_
  refine r_vi1 (pc' := 193) dL_law_190 rfl qX10_feed lL_13 z0 rfl rfl rfl rfl (Nat.le_refl _) (Nat.le_refl _) (C_feed hS (X.2.2.1 ((i : Int) + 1)) (hx _) (fun g1 hS1 fr1 => ?_))
  refine r_aload_n (pc' := 194) dL_law_193 rfl rfl ?_
  refine r_aload_s (pc' := 195) dL_law_194 rfl rfl ?_
  refine r_iload_n (pc' := 196) dL_law_195 rfl rfl ?_
  refine r_iconst (pc' := 197) dL_law_196 rfl ?_
  refine r_iadd (pc' := 198) dL_law_197 rfl ?_
  refine r_sald (pc' := 199) rfl dL_law_198 rfl (by omega) (by omega) (by omega) rfl ?_
  refine r_vi1 (pc' := 202) dL_law_199 rfl qX11_feed lL_17 z166 rfl rfl rfl rfl (Nat.le_refl _) (Nat.le_refl _) (M_feed (hM.fr fr1) hS.ws (X.2.2.1 ((i : Int) + 1)) (hx _) (fun g2 hM2 fr2 => ?_))
  refine r_same (tgt := 1028) dL_law_202 rfl ?_
  exact h g2 (hS1.frM fr2.1) hM2 (hF.fr (fr2.2.1.trans (fr1 178 (by decide))) (fr2.2.2.trans (congrFun (fr1 166 (by decide)) _)))
theorem lc_cord {X : CX} {d : Nat} {Q : Option VV → List Sh → Mem → Prop} {i : Nat} {g : Mem} {tN : Nat} {tX : Nat → Int} {flt : Int} {u : PV} {v : LV} {kn : Nat} {kL : Nat → LV} {im : Nat → Bool × Int × LV} {sd : Int} {ln : Nat} {la : Nat → Nat} {lr : Nat → Bool} {bn : Nat} {bp : Nat → Nat} {bf : Nat → Int} (hS : CS g tN tX flt u v kn kL im sd ln la lr bn bp bf) (hM : MS g tN tX flt u v kn kL im sd ln la lr bn bp bf) (hF : FT g) (hL : X.2.1 ≤ 2048) (hi : i + 4 ≤ X.2.1) (hx : ∀ j : Int, R32 (X.2.2.1 j)) (h : LwK X d Q i) : AJ X (d + 30) mL_law 183 3111 Q 183 3111 207 [some vsc, some (vr 0), some (vr 166), some (vi (i : Int))] [] Z0 g := by
  refine r_aload_n (pc' := 208) dL_law_207 rfl rfl ?_
  refine r_vi0 (pc' := 211) dL_law_208 rfl qX10_cord lL_18 z0 rfl rfl rfl (Nat.le_refl _) (Nat.le_refl _) (C_cord hS   (fun g1 hS1 fr1 => ?_))
  refine r_aload_n (pc' := 212) dL_law_211 rfl rfl ?_
  refine r_vi0 (pc' := 215) dL_law_212 rfl qX11_cord lL_22 z166 rfl rfl rfl (Nat.le_refl _) (Nat.le_refl _) (M_cord (hM.fr fr1) hS.ws   (fun g2 hM2 fr2 => ?_))
  refine r_same (tgt := 1028) dL_law_215 rfl ?_
  exact h g2 (hS1.frM fr2.1) hM2 (hF.fr (fr2.2.1.trans (fr1 178 (by decide))) (fr2.2.2.trans (congrFun (fr1 166 (by decide)) _)))
theorem lc_fault {X : CX} {d : Nat} {Q : Option VV → List Sh → Mem → Prop} {i : Nat} {g : Mem} {tN : Nat} {tX : Nat → Int} {flt : Int} {u : PV} {v : LV} {kn : Nat} {kL : Nat → LV} {im : Nat → Bool × Int × LV} {sd : Int} {ln : Nat} {la : Nat → Nat} {lr : Nat → Bool} {bn : Nat} {bp : Nat → Nat} {bf : Nat → Int} (hS : CS g tN tX flt u v kn kL im sd ln la lr bn bp bf) (hM : MS g tN tX flt u v kn kL im sd ln la lr bn bp bf) (hF : FT g) (hL : X.2.1 ≤ 2048) (hi : i + 4 ≤ X.2.1) (hx : ∀ j : Int, R32 (X.2.2.1 j)) (h : LwK X d Q i) : AJ X (d + 30) mL_law 183 3111 Q 183 3111 220 [some vsc, some (vr 0), some (vr 166), some (vi (i : Int))] [] Z0 g := by
  refine r_aload_n (pc' := 221) dL_law_220 rfl rfl ?_
  refine r_vi0 (pc' := 224) dL_law_221 rfl qX10_fault lL_23 z0 rfl rfl rfl (Nat.le_refl _) (Nat.le_refl _) (C_fault hS   (fun g1 hS1 fr1 => ?_))
  refine r_aload_n (pc' := 225) dL_law_224 rfl rfl ?_
  refine r_vi0 (pc' := 228) dL_law_225 rfl qX11_fault lL_26 z166 rfl rfl rfl (Nat.le_refl _) (Nat.le_refl _) (M_fault (hM.fr fr1) hS.ws   (fun g2 hM2 fr2 => ?_))
  refine r_same (tgt := 1028) dL_law_228 rfl ?_
  exact h g2 (hS1.frM fr2.1) hM2 (hF.fr (fr2.2.1.trans (fr1 178 (by decide))) (fr2.2.2.trans (congrFun (fr1 166 (by decide)) _)))
theorem lc_told {X : CX} {d : Nat} {Q : Option VV → List Sh → Mem → Prop} {i : Nat} {g : Mem} {tN : Nat} {tX : Nat → Int} {flt : Int} {u : PV} {v : LV} {kn : Nat} {kL : Nat → LV} {im : Nat → Bool × Int × LV} {sd : Int} {ln : Nat} {la : Nat → Nat} {lr : Nat → Bool} {bn : Nat} {bp : Nat → Nat} {bf : Nat → Int} (hS : CS g tN tX flt u v kn kL im sd ln la lr bn bp bf) (hM : MS g tN tX flt u v kn kL im sd ln la lr bn bp bf) (hF : FT g) (hL : X.2.1 ≤ 2048) (hi : i + 4 ≤ X.2.1) (hx : ∀ j : Int, R32 (X.2.2.1 j)) (h : LwK X d Q i) : AJ X (d + 30) mL_law 183 3111 Q 183 3111 233 [some vsc, some (vr 0), some (vr 166), some (vi (i : Int))] [] Z0 g := by
  refine r_aload_n (pc' := 234) dL_law_233 rfl rfl ?_
  refine r_aload_s (pc' := 235) dL_law_234 rfl rfl ?_
  refine r_iload_n (pc' := 236) dL_law_235 rfl rfl ?_
  refine r_iconst (pc' := 237) dL_law_236 rfl ?_
  refine r_iadd (pc' := 238) dL_law_237 rfl ?_
  refine r_sald (pc' := 239) rfl dL_law_238 rfl (by omega) (by omega) (by omega) rfl ?_
  refine r_vi1 (pc' := 242) dL_law_239 rfl qX10_told lL_27 z0 rfl rfl rfl rfl (Nat.le_refl _) (Nat.le_refl _) (C_told hS (X.2.2.1 ((i : Int) + 1)) (hx _) (fun g1 hS1 fr1 => ?_))
  refine r_aload_n (pc' := 243) dL_law_242 rfl rfl ?_
  refine r_aload_s (pc' := 244) dL_law_243 rfl rfl ?_
  refine r_iload_n (pc' := 245) dL_law_244 rfl rfl ?_
  refine r_iconst (pc' := 246) dL_law_245 rfl ?_
  refine r_iadd (pc' := 247) dL_law_246 rfl ?_
  refine r_sald (pc' := 248) rfl dL_law_247 rfl (by omega) (by omega) (by omega) rfl ?_
  refine r_vi1 (pc' := 251) dL_law_248 rfl qX11_told lL_30 z166 rfl rfl rfl rfl (Nat.le_refl _) (Nat.le_refl _) (M_told (hM.fr fr1) hS.ws (X.2.2.1 ((i : Int) + 1)) (hx _) (fun g2 hM2 fr2 => ?_))
  refine r_same (tgt := 1028) dL_law_251 rfl ?_
  exact h g2 (hS1.frM fr2.1) hM2 (hF.fr (fr2.2.1.trans (fr1 178 (by decide))) (fr2.2.2.trans (congrFun (fr1 166 (by decide)) _)))
theorem lc_flag {X : CX} {d : Nat} {Q : Option VV → List Sh → Mem → Prop} {i : Nat} {g : Mem} {tN : Nat} {tX : Nat → Int} {flt : Int} {u : PV} {v : LV} {kn : Nat} {kL : Nat → LV} {im : Nat → Bool × Int × LV} {sd : Int} {ln : Nat} {la : Nat → Nat} {lr : Nat → Bool} {bn : Nat} {bp : Nat → Nat} {bf : Nat → Int} (hS : CS g tN tX flt u v kn kL im sd ln la lr bn bp bf) (hM : MS g tN tX flt u v kn kL im sd ln la lr bn bp bf) (hF : FT g) (hL : X.2.1 ≤ 2048) (hi : i + 4 ≤ X.2.1) (hx : ∀ j : Int, R32 (X.2.2.1 j)) (h : LwK X d Q i) : AJ X (d + 30) mL_law 183 3111 Q 183 3111 256 [some vsc, some (vr 0), some (vr 166), some (vi (i : Int))] [] Z0 g := by
  refine r_aload_n (pc' := 257) dL_law_256 rfl rfl ?_
  refine r_aload_s (pc' := 258) dL_law_257 rfl rfl ?_
  refine r_iload_n (pc' := 259) dL_law_258 rfl rfl ?_
  refine r_iconst (pc' := 260) dL_law_259 rfl ?_
  refine r_iadd (pc' := 261) dL_law_260 rfl ?_
  refine r_sald (pc' := 262) rfl dL_law_261 rfl (by omega) (by omega) (by omega) rfl ?_
  refine r_aload_s (pc' := 263) dL_law_262 rfl rfl ?_
  refine r_iload_n (pc' := 264) dL_law_263 rfl rfl ?_
  refine r_iconst (pc' := 265) dL_law_264 rfl ?_
  refine r_iadd (pc' := 266) dL_law_265 rfl ?_
  refine r_sald (pc' := 267) rfl dL_law_266 rfl (by omega) (by omega) (by omega) rfl ?_
  refine r_vi2 (pc' := 270) dL_law_267 rfl qX10_flag lL_31 z0 rfl rfl rfl rfl (Nat.le_refl _) (Nat.le_refl _) (C_flag hS (X.2.2.1 ((i : Int) + 1)) (X.2.2.1 ((i : Int) + 2)) (hx _) (hx _) (fun g1 hS1 fr1 => ?_))
  refine r_aload_n (pc' := 271) dL_law_270 rfl rfl ?_
  refine r_aload_s (pc' := 272) dL_law_271 rfl rfl ?_
  refine r_iload_n (pc' := 273) dL_law_272 rfl rfl ?_
  refine r_iconst (pc' := 274) dL_law_273 rfl ?_
  refine r_iadd (pc' := 275) dL_law_274 rfl ?_
  refine r_sald (pc' := 276) rfl dL_law_275 rfl (by omega) (by omega) (by omega) rfl ?_
  refine r_aload_s (pc' := 277) dL_law_276 rfl rfl ?_
  refine r_iload_n (pc' := 278) dL_law_277 rfl rfl ?_
  refine r_iconst (pc' := 279) dL_law_278 rfl ?_
  refine r_iadd (pc' := 280) dL_law_279 rfl ?_
  refine r_sald (pc' := 281) rfl dL_law_280 rfl (by omega) (by omega) (by omega) rfl ?_
  refine r_vi2 (pc' := 284) dL_law_281 rfl qX11_flag lL_35 z166 rfl rfl rfl rfl (Nat.le_refl _) (Nat.le_refl _) (M_flag (hM.fr fr1) hS.ws (X.2.2.1 ((i : Int) + 1)) (X.2.2.1 ((i : Int) + 2)) (hx _) (hx _) (fun g2 hM2 fr2 => ?_))
  refine r_same (tgt := 1028) dL_law_284 rfl ?_
  exact h g2 (hS1.frM fr2.1) hM2 (hF.fr (fr2.2.1.trans (fr1 178 (by decide))) (fr2.2.2.trans (congrFun (fr1 166 (by decide)) _)))
theorem lc_at {X : CX} {d : Nat} {Q : Option VV → List Sh → Mem → Prop} {i : Nat} {g : Mem} {tN : Nat} {tX : Nat → Int} {flt : Int} {u : PV} {v : LV} {kn : Nat} {kL : Nat → LV} {im : Nat → Bool × Int × LV} {sd : Int} {ln : Nat} {la : Nat → Nat} {lr : Nat → Bool} {bn : Nat} {bp : Nat → Nat} {bf : Nat → Int} (hS : CS g tN tX flt u v kn kL im sd ln la lr bn bp bf) (hM : MS g tN tX flt u v kn kL im sd ln la lr bn bp bf) (hF : FT g) (hL : X.2.1 ≤ 2048) (hi : i + 4 ≤ X.2.1) (hx : ∀ j : Int, R32 (X.2.2.1 j)) (h : LwK X d Q i) : AJ X (d + 30) mL_law 183 3111 Q 183 3111 289 [some vsc, some (vr 0), some (vr 166), some (vi (i : Int))] [] Z0 g := by
  refine r_aload_n (pc' := 290) dL_law_289 rfl rfl ?_
  refine r_aload_s (pc' := 291) dL_law_290 rfl rfl ?_
  refine r_iload_n (pc' := 292) dL_law_291 rfl rfl ?_
  refine r_iconst (pc' := 293) dL_law_292 rfl ?_
  refine r_iadd (pc' := 294) dL_law_293 rfl ?_
  refine r_sald (pc' := 295) rfl dL_law_294 rfl (by omega) (by omega) (by omega) rfl ?_
  refine r_vi1 (pc' := 298) dL_law_295 rfl qX10_at lL_36 z0 rfl rfl rfl rfl (Nat.le_refl _) (Nat.le_refl _) (C_at hS (X.2.2.1 ((i : Int) + 1)) (hx _) (fun g1 hS1 fr1 => ?_))
  refine r_aload_n (pc' := 299) dL_law_298 rfl rfl ?_
  refine r_aload_s (pc' := 300) dL_law_299 rfl rfl ?_
  refine r_iload_n (pc' := 301) dL_law_300 rfl rfl ?_
  refine r_iconst (pc' := 302) dL_law_301 rfl ?_
  refine r_iadd (pc' := 303) dL_law_302 rfl ?_
  refine r_sald (pc' := 304) rfl dL_law_303 rfl (by omega) (by omega) (by omega) rfl ?_
  refine r_vi1 (pc' := 307) dL_law_304 rfl qX11_at lL_39 z166 rfl rfl rfl rfl (Nat.le_refl _) (Nat.le_refl _) (M_at (hM.fr fr1) hS.ws (X.2.2.1 ((i : Int) + 1)) (hx _) (fun g2 hM2 fr2 => ?_))
  refine r_same (tgt := 1028) dL_law_307 rfl ?_
  exact h g2 (hS1.frM fr2.1) hM2 (hF.fr (fr2.2.1.trans (fr1 178 (by decide))) (fr2.2.2.trans (congrFun (fr1 166 (by decide)) _)))
theorem lc_hook {X : CX} {d : Nat} {Q : Option VV → List Sh → Mem → Prop} {i : Nat} {g : Mem} {tN : Nat} {tX : Nat → Int} {flt : Int} {u : PV} {v : LV} {kn : Nat} {kL : Nat → LV} {im : Nat → Bool × Int × LV} {sd : Int} {ln : Nat} {la : Nat → Nat} {lr : Nat → Bool} {bn : Nat} {bp : Nat → Nat} {bf : Nat → Int} (hS : CS g tN tX flt u v kn kL im sd ln la lr bn bp bf) (hM : MS g tN tX flt u v kn kL im sd ln la lr bn bp bf) (hF : FT g) (hL : X.2.1 ≤ 2048) (hi : i + 4 ≤ X.2.1) (hx : ∀ j : Int, R32 (X.2.2.1 j)) (h : LwK X d Q i) : AJ X (d + 30) mL_law 183 3111 Q 183 3111 312 [some vsc, some (vr 0), some (vr 166), some (vi (i : Int))] [] Z0 g := by
  refine r_aload_n (pc' := 313) dL_law_312 rfl rfl ?_
  refine r_aload_s (pc' := 314) dL_law_313 rfl rfl ?_
  refine r_iload_n (pc' := 315) dL_law_314 rfl rfl ?_
  refine r_iconst (pc' := 316) dL_law_315 rfl ?_
  refine r_iadd (pc' := 317) dL_law_316 rfl ?_
  refine r_sald (pc' := 318) rfl dL_law_317 rfl (by omega) (by omega) (by omega) rfl ?_
  refine r_aload_s (pc' := 319) dL_law_318 rfl rfl ?_
  refine r_iload_n (pc' := 320) dL_law_319 rfl rfl ?_
  refine r_iconst (pc' := 321) dL_law_320 rfl ?_
  refine r_iadd (pc' := 322) dL_law_321 rfl ?_
  refine r_sald (pc' := 323) rfl dL_law_322 rfl (by omega) (by omega) (by omega) rfl ?_
  refine r_vi2 (pc' := 326) dL_law_323 rfl qX10_hook lL_40 z0 rfl rfl rfl rfl (Nat.le_refl _) (Nat.le_refl _) (C_hook hS (X.2.2.1 ((i : Int) + 1)) (X.2.2.1 ((i : Int) + 2)) (hx _) (hx _) (fun g1 hS1 fr1 => ?_))
  refine r_aload_n (pc' := 327) dL_law_326 rfl rfl ?_
  refine r_aload_s (pc' := 328) dL_law_327 rfl rfl ?_
  refine r_iload_n (pc' := 329) dL_law_328 rfl rfl ?_
  refine r_iconst (pc' := 330) dL_law_329 rfl ?_
  refine r_iadd (pc' := 331) dL_law_330 rfl ?_
  refine r_sald (pc' := 332) rfl dL_law_331 rfl (by omega) (by omega) (by omega) rfl ?_
  refine r_aload_s (pc' := 333) dL_law_332 rfl rfl ?_
  refine r_iload_n (pc' := 334) dL_law_333 rfl rfl ?_
  refine r_iconst (pc' := 335) dL_law_334 rfl ?_
  refine r_iadd (pc' := 336) dL_law_335 rfl ?_
  refine r_sald (pc' := 337) rfl dL_law_336 rfl (by omega) (by omega) (by omega) rfl ?_
  refine r_vi2 (pc' := 340) dL_law_337 rfl qX11_hook lL_43 z166 rfl rfl rfl rfl (Nat.le_refl _) (Nat.le_refl _) (M_hook (hM.fr fr1) hS.ws (X.2.2.1 ((i : Int) + 1)) (X.2.2.1 ((i : Int) + 2)) (hx _) (hx _) (fun g2 hM2 fr2 => ?_))
  refine r_same (tgt := 1028) dL_law_340 rfl ?_
  exact h g2 (hS1.frM fr2.1) hM2 (hF.fr (fr2.2.1.trans (fr1 178 (by decide))) (fr2.2.2.trans (congrFun (fr1 166 (by decide)) _)))
theorem lc_word {X : CX} {d : Nat} {Q : Option VV → List Sh → Mem → Prop} {i : Nat} {g : Mem} {tN : Nat} {tX : Nat → Int} {flt : Int} {u : PV} {v : LV} {kn : Nat} {kL : Nat → LV} {im : Nat → Bool × Int × LV} {sd : Int} {ln : Nat} {la : Nat → Nat} {lr : Nat → Bool} {bn : Nat} {bp : Nat → Nat} {bf : Nat → Int} (hS : CS g tN tX flt u v kn kL im sd ln la lr bn bp bf) (hM : MS g tN tX flt u v kn kL im sd ln la lr bn bp bf) (hF : FT g) (hL : X.2.1 ≤ 2048) (hi : i + 4 ≤ X.2.1) (hx : ∀ j : Int, R32 (X.2.2.1 j)) (h : LwK X d Q i) : AJ X (d + 30) mL_law 183 3111 Q 183 3111 345 [some vsc, some (vr 0), some (vr 166), some (vi (i : Int))] [] Z0 g := by
  refine r_aload_n (pc' := 346) dL_law_345 rfl rfl ?_
  refine r_aload_s (pc' := 347) dL_law_346 rfl rfl ?_
  refine r_iload_n (pc' := 348) dL_law_347 rfl rfl ?_
  refine r_iconst (pc' := 349) dL_law_348 rfl ?_
  refine r_iadd (pc' := 350) dL_law_349 rfl ?_
  refine r_sald (pc' := 351) rfl dL_law_350 rfl (by omega) (by omega) (by omega) rfl ?_
  refine r_aload_s (pc' := 352) dL_law_351 rfl rfl ?_
  refine r_iload_n (pc' := 353) dL_law_352 rfl rfl ?_
  refine r_iconst (pc' := 354) dL_law_353 rfl ?_
  refine r_iadd (pc' := 355) dL_law_354 rfl ?_
  refine r_sald (pc' := 356) rfl dL_law_355 rfl (by omega) (by omega) (by omega) rfl ?_
  refine r_vi2 (pc' := 359) dL_law_356 rfl qX10_word lL_44 z0 rfl rfl rfl rfl (Nat.le_refl _) (Nat.le_refl _) (C_word hS (X.2.2.1 ((i : Int) + 1)) (X.2.2.1 ((i : Int) + 2)) (hx _) (hx _) (fun g1 hS1 fr1 => ?_))
  refine r_aload_n (pc' := 360) dL_law_359 rfl rfl ?_
  refine r_aload_s (pc' := 361) dL_law_360 rfl rfl ?_
  refine r_iload_n (pc' := 362) dL_law_361 rfl rfl ?_
  refine r_iconst (pc' := 363) dL_law_362 rfl ?_
  refine r_iadd (pc' := 364) dL_law_363 rfl ?_
  refine r_sald (pc' := 365) rfl dL_law_364 rfl (by omega) (by omega) (by omega) rfl ?_
  refine r_aload_s (pc' := 366) dL_law_365 rfl rfl ?_
  refine r_iload_n (pc' := 367) dL_law_366 rfl rfl ?_
  refine r_iconst (pc' := 368) dL_law_367 rfl ?_
  refine r_iadd (pc' := 369) dL_law_368 rfl ?_
  refine r_sald (pc' := 370) rfl dL_law_369 rfl (by omega) (by omega) (by omega) rfl ?_
  refine r_vi2 (pc' := 373) dL_law_370 rfl qX11_word lL_47 z166 rfl rfl rfl rfl (Nat.le_refl _) (Nat.le_refl _) (M_word (hM.fr fr1) hS.ws (X.2.2.1 ((i : Int) + 1)) (X.2.2.1 ((i : Int) + 2)) (hx _) (hx _) (fun g2 hM2 fr2 => ?_))
  refine r_same (tgt := 1028) dL_law_373 rfl ?_
  exact h g2 (hS1.frM fr2.1) hM2 (hF.fr (fr2.2.1.trans (fr1 178 (by decide))) (fr2.2.2.trans (congrFun (fr1 166 (by decide)) _)))
theorem lc_turn {X : CX} {d : Nat} {Q : Option VV → List Sh → Mem → Prop} {i : Nat} {g : Mem} {tN : Nat} {tX : Nat → Int} {flt : Int} {u : PV} {v : LV} {kn : Nat} {kL : Nat → LV} {im : Nat → Bool × Int × LV} {sd : Int} {ln : Nat} {la : Nat → Nat} {lr : Nat → Bool} {bn : Nat} {bp : Nat → Nat} {bf : Nat → Int} (hS : CS g tN tX flt u v kn kL im sd ln la lr bn bp bf) (hM : MS g tN tX flt u v kn kL im sd ln la lr bn bp bf) (hF : FT g) (hL : X.2.1 ≤ 2048) (hi : i + 4 ≤ X.2.1) (hx : ∀ j : Int, R32 (X.2.2.1 j)) (h : LwK X d Q i) : AJ X (d + 30) mL_law 183 3111 Q 183 3111 378 [some vsc, some (vr 0), some (vr 166), some (vi (i : Int))] [] Z0 g := by
  refine r_aload_n (pc' := 379) dL_law_378 rfl rfl ?_
  refine r_aload_s (pc' := 380) dL_law_379 rfl rfl ?_
  refine r_iload_n (pc' := 381) dL_law_380 rfl rfl ?_
  refine r_iconst (pc' := 382) dL_law_381 rfl ?_
  refine r_iadd (pc' := 383) dL_law_382 rfl ?_
  refine r_sald (pc' := 384) rfl dL_law_383 rfl (by omega) (by omega) (by omega) rfl ?_
  refine r_vi1 (pc' := 387) dL_law_384 rfl qX10_turn lL_48 z0 rfl rfl rfl rfl (Nat.le_refl _) (Nat.le_refl _) (C_turn hS (X.2.2.1 ((i : Int) + 1)) (hx _) (fun g1 hS1 fr1 => ?_))
  refine r_aload_n (pc' := 388) dL_law_387 rfl rfl ?_
  refine r_aload_s (pc' := 389) dL_law_388 rfl rfl ?_
  refine r_iload_n (pc' := 390) dL_law_389 rfl rfl ?_
  refine r_iconst (pc' := 391) dL_law_390 rfl ?_
  refine r_iadd (pc' := 392) dL_law_391 rfl ?_
  refine r_sald (pc' := 393) rfl dL_law_392 rfl (by omega) (by omega) (by omega) rfl ?_
  refine r_vi1 (pc' := 396) dL_law_393 rfl qX11_turn lL_51 z166 rfl rfl rfl rfl (Nat.le_refl _) (Nat.le_refl _) (M_turn (hM.fr fr1) hS.ws (X.2.2.1 ((i : Int) + 1)) (hx _) (fun g2 hM2 fr2 => ?_))
  refine r_same (tgt := 1028) dL_law_396 rfl ?_
  exact h g2 (hS1.frM fr2.1) hM2 (hF.fr (fr2.2.1.trans (fr1 178 (by decide))) (fr2.2.2.trans (congrFun (fr1 166 (by decide)) _)))
theorem lc_cut {X : CX} {d : Nat} {Q : Option VV → List Sh → Mem → Prop} {i : Nat} {g : Mem} {tN : Nat} {tX : Nat → Int} {flt : Int} {u : PV} {v : LV} {kn : Nat} {kL : Nat → LV} {im : Nat → Bool × Int × LV} {sd : Int} {ln : Nat} {la : Nat → Nat} {lr : Nat → Bool} {bn : Nat} {bp : Nat → Nat} {bf : Nat → Int} (hS : CS g tN tX flt u v kn kL im sd ln la lr bn bp bf) (hM : MS g tN tX flt u v kn kL im sd ln la lr bn bp bf) (hF : FT g) (hL : X.2.1 ≤ 2048) (hi : i + 4 ≤ X.2.1) (hx : ∀ j : Int, R32 (X.2.2.1 j)) (h : LwK X d Q i) : AJ X (d + 30) mL_law 183 3111 Q 183 3111 401 [some vsc, some (vr 0), some (vr 166), some (vi (i : Int))] [] Z0 g := by
  refine r_aload_n (pc' := 402) dL_law_401 rfl rfl ?_
  refine r_aload_s (pc' := 403) dL_law_402 rfl rfl ?_
  refine r_iload_n (pc' := 404) dL_law_403 rfl rfl ?_
  refine r_iconst (pc' := 405) dL_law_404 rfl ?_
  refine r_iadd (pc' := 406) dL_law_405 rfl ?_
  refine r_sald (pc' := 407) rfl dL_law_406 rfl (by omega) (by omega) (by omega) rfl ?_
  refine r_vi1 (pc' := 410) dL_law_407 rfl qX10_cut lL_52 z0 rfl rfl rfl rfl (Nat.le_refl _) (Nat.le_refl _) (C_cut hS (X.2.2.1 ((i : Int) + 1)) (hx _) (fun g1 hS1 fr1 => ?_))
  refine r_aload_n (pc' := 411) dL_law_410 rfl rfl ?_
  refine r_aload_s (pc' := 412) dL_law_411 rfl rfl ?_
  refine r_iload_n (pc' := 413) dL_law_412 rfl rfl ?_
  refine r_iconst (pc' := 414) dL_law_413 rfl ?_
  refine r_iadd (pc' := 415) dL_law_414 rfl ?_
  refine r_sald (pc' := 416) rfl dL_law_415 rfl (by omega) (by omega) (by omega) rfl ?_
  refine r_vi1 (pc' := 419) dL_law_416 rfl qX11_cut lL_55 z166 rfl rfl rfl rfl (Nat.le_refl _) (Nat.le_refl _) (M_cut (hM.fr fr1) hS.ws (X.2.2.1 ((i : Int) + 1)) (hx _) (fun g2 hM2 fr2 => ?_))
  refine r_same (tgt := 1028) dL_law_419 rfl ?_
  exact h g2 (hS1.frM fr2.1) hM2 (hF.fr (fr2.2.1.trans (fr1 178 (by decide))) (fr2.2.2.trans (congrFun (fr1 166 (by decide)) _)))
theorem lc_eat {X : CX} {d : Nat} {Q : Option VV → List Sh → Mem → Prop} {i : Nat} {g : Mem} {tN : Nat} {tX : Nat → Int} {flt : Int} {u : PV} {v : LV} {kn : Nat} {kL : Nat → LV} {im : Nat → Bool × Int × LV} {sd : Int} {ln : Nat} {la : Nat → Nat} {lr : Nat → Bool} {bn : Nat} {bp : Nat → Nat} {bf : Nat → Int} (hS : CS g tN tX flt u v kn kL im sd ln la lr bn bp bf) (hM : MS g tN tX flt u v kn kL im sd ln la lr bn bp bf) (hF : FT g) (hL : X.2.1 ≤ 2048) (hi : i + 4 ≤ X.2.1) (hx : ∀ j : Int, R32 (X.2.2.1 j)) (h : LwK X d Q i) : AJ X (d + 30) mL_law 183 3111 Q 183 3111 424 [some vsc, some (vr 0), some (vr 166), some (vi (i : Int))] [] Z0 g := by
  refine r_aload_n (pc' := 425) dL_law_424 rfl rfl ?_
  refine r_aload_s (pc' := 426) dL_law_425 rfl rfl ?_
  refine r_iload_n (pc' := 427) dL_law_426 rfl rfl ?_
  refine r_iconst (pc' := 428) dL_law_427 rfl ?_
  refine r_iadd (pc' := 429) dL_law_428 rfl ?_
  refine r_sald (pc' := 430) rfl dL_law_429 rfl (by omega) (by omega) (by omega) rfl ?_
  refine r_vi1 (pc' := 433) dL_law_430 rfl qX10_eat lL_56 z0 rfl rfl rfl rfl (Nat.le_refl _) (Nat.le_refl _) (C_eat hS (X.2.2.1 ((i : Int) + 1)) (hx _) (fun g1 hS1 fr1 => ?_))
  refine r_aload_n (pc' := 434) dL_law_433 rfl rfl ?_
  refine r_aload_s (pc' := 435) dL_law_434 rfl rfl ?_
  refine r_iload_n (pc' := 436) dL_law_435 rfl rfl ?_
  refine r_iconst (pc' := 437) dL_law_436 rfl ?_
  refine r_iadd (pc' := 438) dL_law_437 rfl ?_
  refine r_sald (pc' := 439) rfl dL_law_438 rfl (by omega) (by omega) (by omega) rfl ?_
  refine r_vi1 (pc' := 442) dL_law_439 rfl qX11_eat lL_59 z166 rfl rfl rfl rfl (Nat.le_refl _) (Nat.le_refl _) (M_eat (hM.fr fr1) hS.ws (X.2.2.1 ((i : Int) + 1)) (hx _) (fun g2 hM2 fr2 => ?_))
  refine r_same (tgt := 1028) dL_law_442 rfl ?_
  exact h g2 (hS1.frM fr2.1) hM2 (hF.fr (fr2.2.1.trans (fr1 178 (by decide))) (fr2.2.2.trans (congrFun (fr1 166 (by decide)) _)))
theorem lc_sew {X : CX} {d : Nat} {Q : Option VV → List Sh → Mem → Prop} {i : Nat} {g : Mem} {tN : Nat} {tX : Nat → Int} {flt : Int} {u : PV} {v : LV} {kn : Nat} {kL : Nat → LV} {im : Nat → Bool × Int × LV} {sd : Int} {ln : Nat} {la : Nat → Nat} {lr : Nat → Bool} {bn : Nat} {bp : Nat → Nat} {bf : Nat → Int} (hS : CS g tN tX flt u v kn kL im sd ln la lr bn bp bf) (hM : MS g tN tX flt u v kn kL im sd ln la lr bn bp bf) (hF : FT g) (hL : X.2.1 ≤ 2048) (hi : i + 4 ≤ X.2.1) (hx : ∀ j : Int, R32 (X.2.2.1 j)) (h : LwK X d Q i) : AJ X (d + 30) mL_law 183 3111 Q 183 3111 447 [some vsc, some (vr 0), some (vr 166), some (vi (i : Int))] [] Z0 g := by
  refine r_aload_n (pc' := 448) dL_law_447 rfl rfl ?_
  refine r_aload_s (pc' := 449) dL_law_448 rfl rfl ?_
  refine r_iload_n (pc' := 450) dL_law_449 rfl rfl ?_
  refine r_iconst (pc' := 451) dL_law_450 rfl ?_
  refine r_iadd (pc' := 452) dL_law_451 rfl ?_
  refine r_sald (pc' := 453) rfl dL_law_452 rfl (by omega) (by omega) (by omega) rfl ?_
  refine r_aload_s (pc' := 454) dL_law_453 rfl rfl ?_
  refine r_iload_n (pc' := 455) dL_law_454 rfl rfl ?_
  refine r_iconst (pc' := 456) dL_law_455 rfl ?_
  refine r_iadd (pc' := 457) dL_law_456 rfl ?_
  refine r_sald (pc' := 458) rfl dL_law_457 rfl (by omega) (by omega) (by omega) rfl ?_
  refine r_vi2 (pc' := 461) dL_law_458 rfl qX10_sew lL_60 z0 rfl rfl rfl rfl (Nat.le_refl _) (Nat.le_refl _) (C_sew hS (X.2.2.1 ((i : Int) + 1)) (X.2.2.1 ((i : Int) + 2)) (hx _) (hx _) (fun g1 hS1 fr1 => ?_))
  refine r_aload_n (pc' := 462) dL_law_461 rfl rfl ?_
  refine r_aload_s (pc' := 463) dL_law_462 rfl rfl ?_
  refine r_iload_n (pc' := 464) dL_law_463 rfl rfl ?_
  refine r_iconst (pc' := 465) dL_law_464 rfl ?_
  refine r_iadd (pc' := 466) dL_law_465 rfl ?_
  refine r_sald (pc' := 467) rfl dL_law_466 rfl (by omega) (by omega) (by omega) rfl ?_
  refine r_aload_s (pc' := 468) dL_law_467 rfl rfl ?_
  refine r_iload_n (pc' := 469) dL_law_468 rfl rfl ?_
  refine r_iconst (pc' := 470) dL_law_469 rfl ?_
  refine r_iadd (pc' := 471) dL_law_470 rfl ?_
  refine r_sald (pc' := 472) rfl dL_law_471 rfl (by omega) (by omega) (by omega) rfl ?_
  refine r_vi2 (pc' := 475) dL_law_472 rfl qX11_sew lL_63 z166 rfl rfl rfl rfl (Nat.le_refl _) (Nat.le_refl _) (M_sew (hM.fr fr1) hS.ws (X.2.2.1 ((i : Int) + 1)) (X.2.2.1 ((i : Int) + 2)) (hx _) (hx _) (fun g2 hM2 fr2 => ?_))
  refine r_same (tgt := 1028) dL_law_475 rfl ?_
  exact h g2 (hS1.frM fr2.1) hM2 (hF.fr (fr2.2.1.trans (fr1 178 (by decide))) (fr2.2.2.trans (congrFun (fr1 166 (by decide)) _)))
theorem lc_rain {X : CX} {d : Nat} {Q : Option VV → List Sh → Mem → Prop} {i : Nat} {g : Mem} {tN : Nat} {tX : Nat → Int} {flt : Int} {u : PV} {v : LV} {kn : Nat} {kL : Nat → LV} {im : Nat → Bool × Int × LV} {sd : Int} {ln : Nat} {la : Nat → Nat} {lr : Nat → Bool} {bn : Nat} {bp : Nat → Nat} {bf : Nat → Int} (hS : CS g tN tX flt u v kn kL im sd ln la lr bn bp bf) (hM : MS g tN tX flt u v kn kL im sd ln la lr bn bp bf) (hF : FT g) (hL : X.2.1 ≤ 2048) (hi : i + 4 ≤ X.2.1) (hx : ∀ j : Int, R32 (X.2.2.1 j)) (h : LwK X d Q i) : AJ X (d + 30) mL_law 183 3111 Q 183 3111 480 [some vsc, some (vr 0), some (vr 166), some (vi (i : Int))] [] Z0 g := by
  refine r_aload_n (pc' := 481) dL_law_480 rfl rfl ?_
  refine r_aload_s (pc' := 482) dL_law_481 rfl rfl ?_
  refine r_iload_n (pc' := 483) dL_law_482 rfl rfl ?_
  refine r_iconst (pc' := 484) dL_law_483 rfl ?_
  refine r_iadd (pc' := 485) dL_law_484 rfl ?_
  refine r_sald (pc' := 486) rfl dL_law_485 rfl (by omega) (by omega) (by omega) rfl ?_
  refine r_if_eq (tgt := 493) (pc' := 489) dL_law_486 rfl rfl (hx _) (fun c486 => ?_) (fun c486 => ?_)
  · refine r_iconst (pc' := 494) dL_law_493 rfl ?_
    first
      | (have cb : ¬ _ = (0 : Int) := c486
         refine r_vi1 (pc' := 497) dL_law_494 rfl qX10_rain lL_64 z0 rfl rfl rfl rfl (Nat.le_refl _) (Nat.le_refl _) (C_rain hS true (fun g1 hS1 fr1 => ?_))
         refine r_aload_n (pc' := 498) dL_law_497 rfl rfl ?_
         refine r_aload_s (pc' := 499) dL_law_498 rfl rfl ?_
         refine r_iload_n (pc' := 500) dL_law_499 rfl rfl ?_
         refine r_iconst (pc' := 501) dL_law_500 rfl ?_
         refine r_iadd (pc' := 502) dL_law_501 rfl ?_
         refine r_sald (pc' := 503) rfl dL_law_502 rfl (by omega) (by omega) (by omega) rfl ?_
         refine r_if_eq (tgt := 510) (pc' := 506) dL_law_503 rfl rfl (hx _) (fun c503 => ?_) (fun c503 => ?_)
         · exact absurd c503 c486
         · refine r_iconst (pc' := 507) dL_law_506 rfl ?_
           refine r_goto (tgt := 511) dL_law_507 rfl ?_
           refine r_vi1 (pc' := 514) dL_law_511 rfl qX11_rain lL_68 z166 rfl rfl rfl rfl (Nat.le_refl _) (Nat.le_refl _) (M_rain (hM.fr fr1) hS.ws true (fun g2 hM2 fr2 => ?_))
           refine r_same (tgt := 1028) dL_law_514 rfl ?_
           exact h g2 (hS1.frM fr2.1) hM2 (hF.fr (fr2.2.1.trans (fr1 178 (by decide))) (fr2.2.2.trans (congrFun (fr1 166 (by decide)) _))))
      | (have cb : _ = (0 : Int) := c486
         refine r_vi1 (pc' := 497) dL_law_494 rfl qX10_rain lL_64 z0 rfl rfl rfl rfl (Nat.le_refl _) (Nat.le_refl _) (C_rain hS false (fun g1 hS1 fr1 => ?_))
         refine r_aload_n (pc' := 498) dL_law_497 rfl rfl ?_
         refine r_aload_s (pc' := 499) dL_law_498 rfl rfl ?_
         refine r_iload_n (pc' := 500) dL_law_499 rfl rfl ?_
         refine r_iconst (pc' := 501) dL_law_500 rfl ?_
         refine r_iadd (pc' := 502) dL_law_501 rfl ?_
         refine r_sald (pc' := 503) rfl dL_law_502 rfl (by omega) (by omega) (by omega) rfl ?_
         refine r_if_eq (tgt := 510) (pc' := 506) dL_law_503 rfl rfl (hx _) (fun c503 => ?_) (fun c503 => ?_)
         · refine r_iconst (pc' := 511) dL_law_510 rfl ?_
           refine r_vi1 (pc' := 514) dL_law_511 rfl qX11_rain lL_68 z166 rfl rfl rfl rfl (Nat.le_refl _) (Nat.le_refl _) (M_rain (hM.fr fr1) hS.ws false (fun g2 hM2 fr2 => ?_))
           refine r_same (tgt := 1028) dL_law_514 rfl ?_
           exact h g2 (hS1.frM fr2.1) hM2 (hF.fr (fr2.2.1.trans (fr1 178 (by decide))) (fr2.2.2.trans (congrFun (fr1 166 (by decide)) _)))
         · exact absurd c486 c503)
  · refine r_iconst (pc' := 490) dL_law_489 rfl ?_
    refine r_goto (tgt := 494) dL_law_490 rfl ?_
    first
      | (have cb : ¬ _ = (0 : Int) := c486
         refine r_vi1 (pc' := 497) dL_law_494 rfl qX10_rain lL_64 z0 rfl rfl rfl rfl (Nat.le_refl _) (Nat.le_refl _) (C_rain hS true (fun g1 hS1 fr1 => ?_))
         refine r_aload_n (pc' := 498) dL_law_497 rfl rfl ?_
         refine r_aload_s (pc' := 499) dL_law_498 rfl rfl ?_
         refine r_iload_n (pc' := 500) dL_law_499 rfl rfl ?_
         refine r_iconst (pc' := 501) dL_law_500 rfl ?_
         refine r_iadd (pc' := 502) dL_law_501 rfl ?_
         refine r_sald (pc' := 503) rfl dL_law_502 rfl (by omega) (by omega) (by omega) rfl ?_
         refine r_if_eq (tgt := 510) (pc' := 506) dL_law_503 rfl rfl (hx _) (fun c503 => ?_) (fun c503 => ?_)
         · exact absurd c503 c486
         · refine r_iconst (pc' := 507) dL_law_506 rfl ?_
           refine r_goto (tgt := 511) dL_law_507 rfl ?_
           refine r_vi1 (pc' := 514) dL_law_511 rfl qX11_rain lL_68 z166 rfl rfl rfl rfl (Nat.le_refl _) (Nat.le_refl _) (M_rain (hM.fr fr1) hS.ws true (fun g2 hM2 fr2 => ?_))
           refine r_same (tgt := 1028) dL_law_514 rfl ?_
           exact h g2 (hS1.frM fr2.1) hM2 (hF.fr (fr2.2.1.trans (fr1 178 (by decide))) (fr2.2.2.trans (congrFun (fr1 166 (by decide)) _))))
      | (have cb : _ = (0 : Int) := c486
         refine r_vi1 (pc' := 497) dL_law_494 rfl qX10_rain lL_64 z0 rfl rfl rfl rfl (Nat.le_refl _) (Nat.le_refl _) (C_rain hS false (fun g1 hS1 fr1 => ?_))
         refine r_aload_n (pc' := 498) dL_law_497 rfl rfl ?_
         refine r_aload_s (pc' := 499) dL_law_498 rfl rfl ?_
         refine r_iload_n (pc' := 500) dL_law_499 rfl rfl ?_
         refine r_iconst (pc' := 501) dL_law_500 rfl ?_
         refine r_iadd (pc' := 502) dL_law_501 rfl ?_
         refine r_sald (pc' := 503) rfl dL_law_502 rfl (by omega) (by omega) (by omega) rfl ?_
         refine r_if_eq (tgt := 510) (pc' := 506) dL_law_503 rfl rfl (hx _) (fun c503 => ?_) (fun c503 => ?_)
         · refine r_iconst (pc' := 511) dL_law_510 rfl ?_
           refine r_vi1 (pc' := 514) dL_law_511 rfl qX11_rain lL_68 z166 rfl rfl rfl rfl (Nat.le_refl _) (Nat.le_refl _) (M_rain (hM.fr fr1) hS.ws false (fun g2 hM2 fr2 => ?_))
           refine r_same (tgt := 1028) dL_law_514 rfl ?_
           exact h g2 (hS1.frM fr2.1) hM2 (hF.fr (fr2.2.1.trans (fr1 178 (by decide))) (fr2.2.2.trans (congrFun (fr1 166 (by decide)) _)))
         · exact absurd c486 c503)
theorem lc_wind {X : CX} {d : Nat} {Q : Option VV → List Sh → Mem → Prop} {i : Nat} {g : Mem} {tN : Nat} {tX : Nat → Int} {flt : Int} {u : PV} {v : LV} {kn : Nat} {kL : Nat → LV} {im : Nat → Bool × Int × LV} {sd : Int} {ln : Nat} {la : Nat → Nat} {lr : Nat → Bool} {bn : Nat} {bp : Nat → Nat} {bf : Nat → Int} (hS : CS g tN tX flt u v kn kL im sd ln la lr bn bp bf) (hM : MS g tN tX flt u v kn kL im sd ln la lr bn bp bf) (hF : FT g) (hL : X.2.1 ≤ 2048) (hi : i + 4 ≤ X.2.1) (hx : ∀ j : Int, R32 (X.2.2.1 j)) (h : LwK X d Q i) : AJ X (d + 30) mL_law 183 3111 Q 183 3111 519 [some vsc, some (vr 0), some (vr 166), some (vi (i : Int))] [] Z0 g := by
  refine r_aload_n (pc' := 520) dL_law_519 rfl rfl ?_
  refine r_aload_s (pc' := 521) dL_law_520 rfl rfl ?_
  refine r_iload_n (pc' := 522) dL_law_521 rfl rfl ?_
  refine r_iconst (pc' := 523) dL_law_522 rfl ?_
  refine r_iadd (pc' := 524) dL_law_523 rfl ?_
  refine r_sald (pc' := 525) rfl dL_law_524 rfl (by omega) (by omega) (by omega) rfl ?_
  refine r_vi1 (pc' := 528) dL_law_525 rfl qX10_wind lL_69 z0 rfl rfl rfl rfl (Nat.le_refl _) (Nat.le_refl _) (C_wind hS (X.2.2.1 ((i : Int) + 1)) (hx _) (fun g1 hS1 fr1 => ?_))
  refine r_aload_n (pc' := 529) dL_law_528 rfl rfl ?_
  refine r_aload_s (pc' := 530) dL_law_529 rfl rfl ?_
  refine r_iload_n (pc' := 531) dL_law_530 rfl rfl ?_
  refine r_iconst (pc' := 532) dL_law_531 rfl ?_
  refine r_iadd (pc' := 533) dL_law_532 rfl ?_
  refine r_sald (pc' := 534) rfl dL_law_533 rfl (by omega) (by omega) (by omega) rfl ?_
  refine r_vi1 (pc' := 537) dL_law_534 rfl qX11_wind lL_72 z166 rfl rfl rfl rfl (Nat.le_refl _) (Nat.le_refl _) (M_wind (hM.fr fr1) hS.ws (X.2.2.1 ((i : Int) + 1)) (hx _) (fun g2 hM2 fr2 => ?_))
  refine r_same (tgt := 1028) dL_law_537 rfl ?_
  exact h g2 (hS1.frM fr2.1) hM2 (hF.fr (fr2.2.1.trans (fr1 178 (by decide))) (fr2.2.2.trans (congrFun (fr1 166 (by decide)) _)))
theorem lc_year {X : CX} {d : Nat} {Q : Option VV → List Sh → Mem → Prop} {i : Nat} {g : Mem} {tN : Nat} {tX : Nat → Int} {flt : Int} {u : PV} {v : LV} {kn : Nat} {kL : Nat → LV} {im : Nat → Bool × Int × LV} {sd : Int} {ln : Nat} {la : Nat → Nat} {lr : Nat → Bool} {bn : Nat} {bp : Nat → Nat} {bf : Nat → Int} (hS : CS g tN tX flt u v kn kL im sd ln la lr bn bp bf) (hM : MS g tN tX flt u v kn kL im sd ln la lr bn bp bf) (hF : FT g) (hL : X.2.1 ≤ 2048) (hi : i + 4 ≤ X.2.1) (hx : ∀ j : Int, R32 (X.2.2.1 j)) (h : LwK X d Q i) : AJ X (d + 30) mL_law 183 3111 Q 183 3111 542 [some vsc, some (vr 0), some (vr 166), some (vi (i : Int))] [] Z0 g := by
  refine r_aload_n (pc' := 543) dL_law_542 rfl rfl ?_
  refine r_aload_s (pc' := 544) dL_law_543 rfl rfl ?_
  refine r_iload_n (pc' := 545) dL_law_544 rfl rfl ?_
  refine r_iconst (pc' := 546) dL_law_545 rfl ?_
  refine r_iadd (pc' := 547) dL_law_546 rfl ?_
  refine r_sald (pc' := 548) rfl dL_law_547 rfl (by omega) (by omega) (by omega) rfl ?_
  refine r_vi1 (pc' := 551) dL_law_548 rfl qX10_year lL_73 z0 rfl rfl rfl rfl (Nat.le_refl _) (Nat.le_refl _) (C_year hS (X.2.2.1 ((i : Int) + 1)) (hx _) (fun g1 hS1 fr1 => ?_))
  refine r_aload_n (pc' := 552) dL_law_551 rfl rfl ?_
  refine r_aload_s (pc' := 553) dL_law_552 rfl rfl ?_
  refine r_iload_n (pc' := 554) dL_law_553 rfl rfl ?_
  refine r_iconst (pc' := 555) dL_law_554 rfl ?_
  refine r_iadd (pc' := 556) dL_law_555 rfl ?_
  refine r_sald (pc' := 557) rfl dL_law_556 rfl (by omega) (by omega) (by omega) rfl ?_
  refine r_vi1 (pc' := 560) dL_law_557 rfl qX11_year lL_76 z166 rfl rfl rfl rfl (Nat.le_refl _) (Nat.le_refl _) (M_year (hM.fr fr1) hS.ws (X.2.2.1 ((i : Int) + 1)) (hx _) (fun g2 hM2 fr2 => ?_))
  refine r_same (tgt := 1028) dL_law_560 rfl ?_
  exact h g2 (hS1.frM fr2.1) hM2 (hF.fr (fr2.2.1.trans (fr1 178 (by decide))) (fr2.2.2.trans (congrFun (fr1 166 (by decide)) _)))
theorem lc_drift {X : CX} {d : Nat} {Q : Option VV → List Sh → Mem → Prop} {i : Nat} {g : Mem} {tN : Nat} {tX : Nat → Int} {flt : Int} {u : PV} {v : LV} {kn : Nat} {kL : Nat → LV} {im : Nat → Bool × Int × LV} {sd : Int} {ln : Nat} {la : Nat → Nat} {lr : Nat → Bool} {bn : Nat} {bp : Nat → Nat} {bf : Nat → Int} (hS : CS g tN tX flt u v kn kL im sd ln la lr bn bp bf) (hM : MS g tN tX flt u v kn kL im sd ln la lr bn bp bf) (hF : FT g) (hL : X.2.1 ≤ 2048) (hi : i + 4 ≤ X.2.1) (hx : ∀ j : Int, R32 (X.2.2.1 j)) (h : LwK X d Q i) : AJ X (d + 30) mL_law 183 3111 Q 183 3111 565 [some vsc, some (vr 0), some (vr 166), some (vi (i : Int))] [] Z0 g := by
  refine r_aload_n (pc' := 566) dL_law_565 rfl rfl ?_
  refine r_aload_s (pc' := 567) dL_law_566 rfl rfl ?_
  refine r_iload_n (pc' := 568) dL_law_567 rfl rfl ?_
  refine r_iconst (pc' := 569) dL_law_568 rfl ?_
  refine r_iadd (pc' := 570) dL_law_569 rfl ?_
  refine r_sald (pc' := 571) rfl dL_law_570 rfl (by omega) (by omega) (by omega) rfl ?_
  refine r_vi1 (pc' := 574) dL_law_571 rfl qX10_drift lL_77 z0 rfl rfl rfl rfl (Nat.le_refl _) (Nat.le_refl _) (C_drift hS (X.2.2.1 ((i : Int) + 1)) (hx _) (fun g1 hS1 fr1 => ?_))
  refine r_aload_n (pc' := 575) dL_law_574 rfl rfl ?_
  refine r_aload_s (pc' := 576) dL_law_575 rfl rfl ?_
  refine r_iload_n (pc' := 577) dL_law_576 rfl rfl ?_
  refine r_iconst (pc' := 578) dL_law_577 rfl ?_
  refine r_iadd (pc' := 579) dL_law_578 rfl ?_
  refine r_sald (pc' := 580) rfl dL_law_579 rfl (by omega) (by omega) (by omega) rfl ?_
  refine r_vi1 (pc' := 583) dL_law_580 rfl qX11_drift lL_80 z166 rfl rfl rfl rfl (Nat.le_refl _) (Nat.le_refl _) (M_drift (hM.fr fr1) hS.ws (X.2.2.1 ((i : Int) + 1)) (hx _) (fun g2 hM2 fr2 => ?_))
  refine r_same (tgt := 1028) dL_law_583 rfl ?_
  exact h g2 (hS1.frM fr2.1) hM2 (hF.fr (fr2.2.1.trans (fr1 178 (by decide))) (fr2.2.2.trans (congrFun (fr1 166 (by decide)) _)))
theorem lc_undo {X : CX} {d : Nat} {Q : Option VV → List Sh → Mem → Prop} {i : Nat} {g : Mem} {tN : Nat} {tX : Nat → Int} {flt : Int} {u : PV} {v : LV} {kn : Nat} {kL : Nat → LV} {im : Nat → Bool × Int × LV} {sd : Int} {ln : Nat} {la : Nat → Nat} {lr : Nat → Bool} {bn : Nat} {bp : Nat → Nat} {bf : Nat → Int} (hS : CS g tN tX flt u v kn kL im sd ln la lr bn bp bf) (hM : MS g tN tX flt u v kn kL im sd ln la lr bn bp bf) (hF : FT g) (hL : X.2.1 ≤ 2048) (hi : i + 4 ≤ X.2.1) (hx : ∀ j : Int, R32 (X.2.2.1 j)) (h : LwK X d Q i) : AJ X (d + 30) mL_law 183 3111 Q 183 3111 588 [some vsc, some (vr 0), some (vr 166), some (vi (i : Int))] [] Z0 g := by
  refine r_aload_n (pc' := 589) dL_law_588 rfl rfl ?_
  refine r_aload_s (pc' := 590) dL_law_589 rfl rfl ?_
  refine r_iload_n (pc' := 591) dL_law_590 rfl rfl ?_
  refine r_iconst (pc' := 592) dL_law_591 rfl ?_
  refine r_iadd (pc' := 593) dL_law_592 rfl ?_
  refine r_sald (pc' := 594) rfl dL_law_593 rfl (by omega) (by omega) (by omega) rfl ?_
  refine r_vi1 (pc' := 597) dL_law_594 rfl qX10_undo lL_81 z0 rfl rfl rfl rfl (Nat.le_refl _) (Nat.le_refl _) (C_undo hS (X.2.2.1 ((i : Int) + 1)) (hx _) (fun g1 hS1 fr1 => ?_))
  refine r_aload_n (pc' := 598) dL_law_597 rfl rfl ?_
  refine r_aload_s (pc' := 599) dL_law_598 rfl rfl ?_
  refine r_iload_n (pc' := 600) dL_law_599 rfl rfl ?_
  refine r_iconst (pc' := 601) dL_law_600 rfl ?_
  refine r_iadd (pc' := 602) dL_law_601 rfl ?_
  refine r_sald (pc' := 603) rfl dL_law_602 rfl (by omega) (by omega) (by omega) rfl ?_
  refine r_vi1 (pc' := 606) dL_law_603 rfl qX11_undo lL_84 z166 rfl rfl rfl rfl (Nat.le_refl _) (Nat.le_refl _) (M_undo (hM.fr fr1) hS.ws (X.2.2.1 ((i : Int) + 1)) (hx _) (fun g2 hM2 fr2 => ?_))
  refine r_same (tgt := 1028) dL_law_606 rfl ?_
  exact h g2 (hS1.frM fr2.1) hM2 (hF.fr (fr2.2.1.trans (fr1 178 (by decide))) (fr2.2.2.trans (congrFun (fr1 166 (by decide)) _)))
theorem lc_turnings {X : CX} {d : Nat} {Q : Option VV → List Sh → Mem → Prop} {i : Nat} {g : Mem} {tN : Nat} {tX : Nat → Int} {flt : Int} {u : PV} {v : LV} {kn : Nat} {kL : Nat → LV} {im : Nat → Bool × Int × LV} {sd : Int} {ln : Nat} {la : Nat → Nat} {lr : Nat → Bool} {bn : Nat} {bp : Nat → Nat} {bf : Nat → Int} (hS : CS g tN tX flt u v kn kL im sd ln la lr bn bp bf) (hM : MS g tN tX flt u v kn kL im sd ln la lr bn bp bf) (hF : FT g) (hL : X.2.1 ≤ 2048) (hi : i + 4 ≤ X.2.1) (hx : ∀ j : Int, R32 (X.2.2.1 j)) (h : LwK X d Q i) : AJ X (d + 30) mL_law 183 3111 Q 183 3111 611 [some vsc, some (vr 0), some (vr 166), some (vi (i : Int))] [] Z0 g := by
  refine r_aload_n (pc' := 612) dL_law_611 rfl rfl ?_
  refine r_aload_s (pc' := 613) dL_law_612 rfl rfl ?_
  refine r_iload_n (pc' := 614) dL_law_613 rfl rfl ?_
  refine r_iconst (pc' := 615) dL_law_614 rfl ?_
  refine r_iadd (pc' := 616) dL_law_615 rfl ?_
  refine r_sald (pc' := 617) rfl dL_law_616 rfl (by omega) (by omega) (by omega) rfl ?_
  refine r_vi1 (pc' := 620) dL_law_617 rfl qX10_turnings lL_85 z0 rfl rfl rfl rfl (Nat.le_refl _) (Nat.le_refl _) (C_turnings hS (X.2.2.1 ((i : Int) + 1)) (hx _) (fun g1 hS1 fr1 => ?_))
  refine r_aload_n (pc' := 621) dL_law_620 rfl rfl ?_
  refine r_aload_s (pc' := 622) dL_law_621 rfl rfl ?_
  refine r_iload_n (pc' := 623) dL_law_622 rfl rfl ?_
  refine r_iconst (pc' := 624) dL_law_623 rfl ?_
  refine r_iadd (pc' := 625) dL_law_624 rfl ?_
  refine r_sald (pc' := 626) rfl dL_law_625 rfl (by omega) (by omega) (by omega) rfl ?_
  refine r_vi1 (pc' := 629) dL_law_626 rfl qX11_turnings lL_88 z166 rfl rfl rfl rfl (Nat.le_refl _) (Nat.le_refl _) (M_turnings (hM.fr fr1) hS.ws (hF.fr (fr1 178 (by decide)) (congrFun (fr1 166 (by decide)) _)) (X.2.2.1 ((i : Int) + 1)) (hx _) (fun g2 hM2 fr2 hF2 => ?_))
  refine r_same (tgt := 1028) dL_law_629 rfl ?_
  exact h g2 (hS1.frM fr2) hM2 hF2
theorem lc_loose {X : CX} {d : Nat} {Q : Option VV → List Sh → Mem → Prop} {i : Nat} {g : Mem} {tN : Nat} {tX : Nat → Int} {flt : Int} {u : PV} {v : LV} {kn : Nat} {kL : Nat → LV} {im : Nat → Bool × Int × LV} {sd : Int} {ln : Nat} {la : Nat → Nat} {lr : Nat → Bool} {bn : Nat} {bp : Nat → Nat} {bf : Nat → Int} (hS : CS g tN tX flt u v kn kL im sd ln la lr bn bp bf) (hM : MS g tN tX flt u v kn kL im sd ln la lr bn bp bf) (hF : FT g) (hL : X.2.1 ≤ 2048) (hi : i + 4 ≤ X.2.1) (hx : ∀ j : Int, R32 (X.2.2.1 j)) (h : LwK X d Q i) : AJ X (d + 30) mL_law 183 3111 Q 183 3111 634 [some vsc, some (vr 0), some (vr 166), some (vi (i : Int))] [] Z0 g := by
  refine r_aload_n (pc' := 635) dL_law_634 rfl rfl ?_
  refine r_aload_s (pc' := 636) dL_law_635 rfl rfl ?_
  refine r_iload_n (pc' := 637) dL_law_636 rfl rfl ?_
  refine r_iconst (pc' := 638) dL_law_637 rfl ?_
  refine r_iadd (pc' := 639) dL_law_638 rfl ?_
  refine r_sald (pc' := 640) rfl dL_law_639 rfl (by omega) (by omega) (by omega) rfl ?_
  refine r_vi1 (pc' := 643) dL_law_640 rfl qX10_loose lL_89 z0 rfl rfl rfl rfl (Nat.le_refl _) (Nat.le_refl _) (C_loose hS (X.2.2.1 ((i : Int) + 1)) (hx _) (fun g1 hS1 fr1 => ?_))
  refine r_aload_n (pc' := 644) dL_law_643 rfl rfl ?_
  refine r_aload_s (pc' := 645) dL_law_644 rfl rfl ?_
  refine r_iload_n (pc' := 646) dL_law_645 rfl rfl ?_
  refine r_iconst (pc' := 647) dL_law_646 rfl ?_
  refine r_iadd (pc' := 648) dL_law_647 rfl ?_
  refine r_sald (pc' := 649) rfl dL_law_648 rfl (by omega) (by omega) (by omega) rfl ?_
  refine r_vi1 (pc' := 652) dL_law_649 rfl qX11_loose lL_92 z166 rfl rfl rfl rfl (Nat.le_refl _) (Nat.le_refl _) (M_loose (hM.fr fr1) hS.ws (X.2.2.1 ((i : Int) + 1)) (hx _) (fun g2 hM2 fr2 => ?_))
  refine r_same (tgt := 1028) dL_law_652 rfl ?_
  exact h g2 (hS1.frM fr2.1) hM2 (hF.fr (fr2.2.1.trans (fr1 178 (by decide))) (fr2.2.2.trans (congrFun (fr1 166 (by decide)) _)))
theorem lc_felt {X : CX} {d : Nat} {Q : Option VV → List Sh → Mem → Prop} {i : Nat} {g : Mem} {tN : Nat} {tX : Nat → Int} {flt : Int} {u : PV} {v : LV} {kn : Nat} {kL : Nat → LV} {im : Nat → Bool × Int × LV} {sd : Int} {ln : Nat} {la : Nat → Nat} {lr : Nat → Bool} {bn : Nat} {bp : Nat → Nat} {bf : Nat → Int} (hS : CS g tN tX flt u v kn kL im sd ln la lr bn bp bf) (hM : MS g tN tX flt u v kn kL im sd ln la lr bn bp bf) (hF : FT g) (hL : X.2.1 ≤ 2048) (hi : i + 4 ≤ X.2.1) (hx : ∀ j : Int, R32 (X.2.2.1 j)) (h : LwK X d Q i) : AJ X (d + 30) mL_law 183 3111 Q 183 3111 657 [some vsc, some (vr 0), some (vr 166), some (vi (i : Int))] [] Z0 g := by
  refine r_aload_n (pc' := 658) dL_law_657 rfl rfl ?_
  refine r_aload_s (pc' := 659) dL_law_658 rfl rfl ?_
  refine r_iload_n (pc' := 660) dL_law_659 rfl rfl ?_
  refine r_iconst (pc' := 661) dL_law_660 rfl ?_
  refine r_iadd (pc' := 662) dL_law_661 rfl ?_
  refine r_sald (pc' := 663) rfl dL_law_662 rfl (by omega) (by omega) (by omega) rfl ?_
  refine r_aload_s (pc' := 664) dL_law_663 rfl rfl ?_
  refine r_iload_n (pc' := 665) dL_law_664 rfl rfl ?_
  refine r_iconst (pc' := 666) dL_law_665 rfl ?_
  refine r_iadd (pc' := 667) dL_law_666 rfl ?_
  refine r_sald (pc' := 668) rfl dL_law_667 rfl (by omega) (by omega) (by omega) rfl ?_
  refine r_vi2 (pc' := 671) dL_law_668 rfl qX10_felt lL_93 z0 rfl rfl rfl rfl (Nat.le_refl _) (Nat.le_refl _) (C_felt hS (X.2.2.1 ((i : Int) + 1)) (X.2.2.1 ((i : Int) + 2)) (hx _) (hx _) (fun g1 hS1 fr1 => ?_))
  refine r_aload_n (pc' := 672) dL_law_671 rfl rfl ?_
  refine r_aload_s (pc' := 673) dL_law_672 rfl rfl ?_
  refine r_iload_n (pc' := 674) dL_law_673 rfl rfl ?_
  refine r_iconst (pc' := 675) dL_law_674 rfl ?_
  refine r_iadd (pc' := 676) dL_law_675 rfl ?_
  refine r_sald (pc' := 677) rfl dL_law_676 rfl (by omega) (by omega) (by omega) rfl ?_
  refine r_aload_s (pc' := 678) dL_law_677 rfl rfl ?_
  refine r_iload_n (pc' := 679) dL_law_678 rfl rfl ?_
  refine r_iconst (pc' := 680) dL_law_679 rfl ?_
  refine r_iadd (pc' := 681) dL_law_680 rfl ?_
  refine r_sald (pc' := 682) rfl dL_law_681 rfl (by omega) (by omega) (by omega) rfl ?_
  refine r_vi2 (pc' := 685) dL_law_682 rfl qX11_felt lL_96 z166 rfl rfl rfl rfl (Nat.le_refl _) (Nat.le_refl _) (M_felt (hM.fr fr1) hS.ws (X.2.2.1 ((i : Int) + 1)) (X.2.2.1 ((i : Int) + 2)) (hx _) (hx _) (fun g2 hM2 fr2 => ?_))
  refine r_same (tgt := 1028) dL_law_685 rfl ?_
  exact h g2 (hS1.frM fr2.1) hM2 (hF.fr (fr2.2.1.trans (fr1 178 (by decide))) (fr2.2.2.trans (congrFun (fr1 166 (by decide)) _)))
theorem lc_farthest {X : CX} {d : Nat} {Q : Option VV → List Sh → Mem → Prop} {i : Nat} {g : Mem} {tN : Nat} {tX : Nat → Int} {flt : Int} {u : PV} {v : LV} {kn : Nat} {kL : Nat → LV} {im : Nat → Bool × Int × LV} {sd : Int} {ln : Nat} {la : Nat → Nat} {lr : Nat → Bool} {bn : Nat} {bp : Nat → Nat} {bf : Nat → Int} (hS : CS g tN tX flt u v kn kL im sd ln la lr bn bp bf) (hM : MS g tN tX flt u v kn kL im sd ln la lr bn bp bf) (hF : FT g) (hL : X.2.1 ≤ 2048) (hi : i + 4 ≤ X.2.1) (hx : ∀ j : Int, R32 (X.2.2.1 j)) (h : LwK X d Q i) : AJ X (d + 30) mL_law 183 3111 Q 183 3111 690 [some vsc, some (vr 0), some (vr 166), some (vi (i : Int))] [] Z0 g := by
  refine r_aload_n (pc' := 691) dL_law_690 rfl rfl ?_
  refine r_aload_s (pc' := 692) dL_law_691 rfl rfl ?_
  refine r_iload_n (pc' := 693) dL_law_692 rfl rfl ?_
  refine r_iconst (pc' := 694) dL_law_693 rfl ?_
  refine r_iadd (pc' := 695) dL_law_694 rfl ?_
  refine r_sald (pc' := 696) rfl dL_law_695 rfl (by omega) (by omega) (by omega) rfl ?_
  refine r_vi1 (pc' := 699) dL_law_696 rfl qX10_farthest lL_97 z0 rfl rfl rfl rfl (Nat.le_refl _) (Nat.le_refl _) (C_farthest hS (X.2.2.1 ((i : Int) + 1)) (hx _) (fun g1 hS1 fr1 => ?_))
  refine r_aload_n (pc' := 700) dL_law_699 rfl rfl ?_
  refine r_aload_s (pc' := 701) dL_law_700 rfl rfl ?_
  refine r_iload_n (pc' := 702) dL_law_701 rfl rfl ?_
  refine r_iconst (pc' := 703) dL_law_702 rfl ?_
  refine r_iadd (pc' := 704) dL_law_703 rfl ?_
  refine r_sald (pc' := 705) rfl dL_law_704 rfl (by omega) (by omega) (by omega) rfl ?_
  refine r_vi1 (pc' := 708) dL_law_705 rfl qX11_farthest lL_100 z166 rfl rfl rfl rfl (Nat.le_refl _) (Nat.le_refl _) (M_farthest (hM.fr fr1) hS.ws (X.2.2.1 ((i : Int) + 1)) (hx _) (fun g2 hM2 fr2 => ?_))
  refine r_same (tgt := 1028) dL_law_708 rfl ?_
  exact h g2 (hS1.frM fr2.1) hM2 (hF.fr (fr2.2.1.trans (fr1 178 (by decide))) (fr2.2.2.trans (congrFun (fr1 166 (by decide)) _)))
theorem lc_hooked {X : CX} {d : Nat} {Q : Option VV → List Sh → Mem → Prop} {i : Nat} {g : Mem} {tN : Nat} {tX : Nat → Int} {flt : Int} {u : PV} {v : LV} {kn : Nat} {kL : Nat → LV} {im : Nat → Bool × Int × LV} {sd : Int} {ln : Nat} {la : Nat → Nat} {lr : Nat → Bool} {bn : Nat} {bp : Nat → Nat} {bf : Nat → Int} (hS : CS g tN tX flt u v kn kL im sd ln la lr bn bp bf) (hM : MS g tN tX flt u v kn kL im sd ln la lr bn bp bf) (hF : FT g) (hL : X.2.1 ≤ 2048) (hi : i + 4 ≤ X.2.1) (hx : ∀ j : Int, R32 (X.2.2.1 j)) (h : LwK X d Q i) : AJ X (d + 30) mL_law 183 3111 Q 183 3111 713 [some vsc, some (vr 0), some (vr 166), some (vi (i : Int))] [] Z0 g := by
  refine r_aload_n (pc' := 714) dL_law_713 rfl rfl ?_
  refine r_aload_s (pc' := 715) dL_law_714 rfl rfl ?_
  refine r_iload_n (pc' := 716) dL_law_715 rfl rfl ?_
  refine r_iconst (pc' := 717) dL_law_716 rfl ?_
  refine r_iadd (pc' := 718) dL_law_717 rfl ?_
  refine r_sald (pc' := 719) rfl dL_law_718 rfl (by omega) (by omega) (by omega) rfl ?_
  refine r_vi1 (pc' := 722) dL_law_719 rfl qX10_hooked lL_101 z0 rfl rfl rfl rfl (Nat.le_refl _) (Nat.le_refl _) (C_hooked hS (X.2.2.1 ((i : Int) + 1)) (hx _) (fun g1 hS1 fr1 => ?_))
  refine r_aload_n (pc' := 723) dL_law_722 rfl rfl ?_
  refine r_aload_s (pc' := 724) dL_law_723 rfl rfl ?_
  refine r_iload_n (pc' := 725) dL_law_724 rfl rfl ?_
  refine r_iconst (pc' := 726) dL_law_725 rfl ?_
  refine r_iadd (pc' := 727) dL_law_726 rfl ?_
  refine r_sald (pc' := 728) rfl dL_law_727 rfl (by omega) (by omega) (by omega) rfl ?_
  refine r_vi1 (pc' := 731) dL_law_728 rfl qX11_hooked lL_104 z166 rfl rfl rfl rfl (Nat.le_refl _) (Nat.le_refl _) (M_hooked (hM.fr fr1) hS.ws (X.2.2.1 ((i : Int) + 1)) (hx _) (fun g2 hM2 fr2 => ?_))
  refine r_same (tgt := 1028) dL_law_731 rfl ?_
  exact h g2 (hS1.frM fr2.1) hM2 (hF.fr (fr2.2.1.trans (fr1 178 (by decide))) (fr2.2.2.trans (congrFun (fr1 166 (by decide)) _)))
theorem lc_gap {X : CX} {d : Nat} {Q : Option VV → List Sh → Mem → Prop} {i : Nat} {g : Mem} {tN : Nat} {tX : Nat → Int} {flt : Int} {u : PV} {v : LV} {kn : Nat} {kL : Nat → LV} {im : Nat → Bool × Int × LV} {sd : Int} {ln : Nat} {la : Nat → Nat} {lr : Nat → Bool} {bn : Nat} {bp : Nat → Nat} {bf : Nat → Int} (hS : CS g tN tX flt u v kn kL im sd ln la lr bn bp bf) (hM : MS g tN tX flt u v kn kL im sd ln la lr bn bp bf) (hF : FT g) (hL : X.2.1 ≤ 2048) (hi : i + 4 ≤ X.2.1) (hx : ∀ j : Int, R32 (X.2.2.1 j)) (h : LwK X d Q i) : AJ X (d + 30) mL_law 183 3111 Q 183 3111 736 [some vsc, some (vr 0), some (vr 166), some (vi (i : Int))] [] Z0 g := by
  refine r_aload_n (pc' := 737) dL_law_736 rfl rfl ?_
  refine r_aload_s (pc' := 738) dL_law_737 rfl rfl ?_
  refine r_iload_n (pc' := 739) dL_law_738 rfl rfl ?_
  refine r_iconst (pc' := 740) dL_law_739 rfl ?_
  refine r_iadd (pc' := 741) dL_law_740 rfl ?_
  refine r_sald (pc' := 742) rfl dL_law_741 rfl (by omega) (by omega) (by omega) rfl ?_
  refine r_vi1 (pc' := 745) dL_law_742 rfl qX10_gap lL_105 z0 rfl rfl rfl rfl (Nat.le_refl _) (Nat.le_refl _) (C_gap hS (X.2.2.1 ((i : Int) + 1)) (hx _) (fun g1 hS1 fr1 => ?_))
  refine r_aload_n (pc' := 746) dL_law_745 rfl rfl ?_
  refine r_aload_s (pc' := 747) dL_law_746 rfl rfl ?_
  refine r_iload_n (pc' := 748) dL_law_747 rfl rfl ?_
  refine r_iconst (pc' := 749) dL_law_748 rfl ?_
  refine r_iadd (pc' := 750) dL_law_749 rfl ?_
  refine r_sald (pc' := 751) rfl dL_law_750 rfl (by omega) (by omega) (by omega) rfl ?_
  refine r_vi1 (pc' := 754) dL_law_751 rfl qX11_gap lL_108 z166 rfl rfl rfl rfl (Nat.le_refl _) (Nat.le_refl _) (M_gap (hM.fr fr1) hS.ws (X.2.2.1 ((i : Int) + 1)) (hx _) (fun g2 hM2 fr2 => ?_))
  refine r_same (tgt := 1028) dL_law_754 rfl ?_
  exact h g2 (hS1.frM fr2.1) hM2 (hF.fr (fr2.2.1.trans (fr1 178 (by decide))) (fr2.2.2.trans (congrFun (fr1 166 (by decide)) _)))
theorem lc_ends {X : CX} {d : Nat} {Q : Option VV → List Sh → Mem → Prop} {i : Nat} {g : Mem} {tN : Nat} {tX : Nat → Int} {flt : Int} {u : PV} {v : LV} {kn : Nat} {kL : Nat → LV} {im : Nat → Bool × Int × LV} {sd : Int} {ln : Nat} {la : Nat → Nat} {lr : Nat → Bool} {bn : Nat} {bp : Nat → Nat} {bf : Nat → Int} (hS : CS g tN tX flt u v kn kL im sd ln la lr bn bp bf) (hM : MS g tN tX flt u v kn kL im sd ln la lr bn bp bf) (hF : FT g) (hL : X.2.1 ≤ 2048) (hi : i + 4 ≤ X.2.1) (hx : ∀ j : Int, R32 (X.2.2.1 j)) (h : LwK X d Q i) : AJ X (d + 30) mL_law 183 3111 Q 183 3111 759 [some vsc, some (vr 0), some (vr 166), some (vi (i : Int))] [] Z0 g := by
  refine r_aload_n (pc' := 760) dL_law_759 rfl rfl ?_
  refine r_aload_s (pc' := 761) dL_law_760 rfl rfl ?_
  refine r_iload_n (pc' := 762) dL_law_761 rfl rfl ?_
  refine r_iconst (pc' := 763) dL_law_762 rfl ?_
  refine r_iadd (pc' := 764) dL_law_763 rfl ?_
  refine r_sald (pc' := 765) rfl dL_law_764 rfl (by omega) (by omega) (by omega) rfl ?_
  refine r_vi1 (pc' := 768) dL_law_765 rfl qX10_ends lL_109 z0 rfl rfl rfl rfl (Nat.le_refl _) (Nat.le_refl _) (C_ends hS (X.2.2.1 ((i : Int) + 1)) (hx _) (fun g1 hS1 fr1 => ?_))
  refine r_aload_n (pc' := 769) dL_law_768 rfl rfl ?_
  refine r_aload_s (pc' := 770) dL_law_769 rfl rfl ?_
  refine r_iload_n (pc' := 771) dL_law_770 rfl rfl ?_
  refine r_iconst (pc' := 772) dL_law_771 rfl ?_
  refine r_iadd (pc' := 773) dL_law_772 rfl ?_
  refine r_sald (pc' := 774) rfl dL_law_773 rfl (by omega) (by omega) (by omega) rfl ?_
  refine r_vi1 (pc' := 777) dL_law_774 rfl qX11_ends_ lL_112 z166 rfl rfl rfl rfl (Nat.le_refl _) (Nat.le_refl _) (M_ends (hM.fr fr1) hS.ws (X.2.2.1 ((i : Int) + 1)) (hx _) (fun g2 hM2 fr2 => ?_))
  refine r_same (tgt := 1028) dL_law_777 rfl ?_
  exact h g2 (hS1.frM fr2.1) hM2 (hF.fr (fr2.2.1.trans (fr1 178 (by decide))) (fr2.2.2.trans (congrFun (fr1 166 (by decide)) _)))
theorem lc_calm {X : CX} {d : Nat} {Q : Option VV → List Sh → Mem → Prop} {i : Nat} {g : Mem} {tN : Nat} {tX : Nat → Int} {flt : Int} {u : PV} {v : LV} {kn : Nat} {kL : Nat → LV} {im : Nat → Bool × Int × LV} {sd : Int} {ln : Nat} {la : Nat → Nat} {lr : Nat → Bool} {bn : Nat} {bp : Nat → Nat} {bf : Nat → Int} (hS : CS g tN tX flt u v kn kL im sd ln la lr bn bp bf) (hM : MS g tN tX flt u v kn kL im sd ln la lr bn bp bf) (hF : FT g) (hL : X.2.1 ≤ 2048) (hi : i + 4 ≤ X.2.1) (hx : ∀ j : Int, R32 (X.2.2.1 j)) (h : LwK X d Q i) : AJ X (d + 30) mL_law 183 3111 Q 183 3111 782 [some vsc, some (vr 0), some (vr 166), some (vi (i : Int))] [] Z0 g := by
  refine r_aload_n (pc' := 783) dL_law_782 rfl rfl ?_
  refine r_aload_s (pc' := 784) dL_law_783 rfl rfl ?_
  refine r_iload_n (pc' := 785) dL_law_784 rfl rfl ?_
  refine r_iconst (pc' := 786) dL_law_785 rfl ?_
  refine r_iadd (pc' := 787) dL_law_786 rfl ?_
  refine r_sald (pc' := 788) rfl dL_law_787 rfl (by omega) (by omega) (by omega) rfl ?_
  refine r_aload_s (pc' := 789) dL_law_788 rfl rfl ?_
  refine r_iload_n (pc' := 790) dL_law_789 rfl rfl ?_
  refine r_iconst (pc' := 791) dL_law_790 rfl ?_
  refine r_iadd (pc' := 792) dL_law_791 rfl ?_
  refine r_sald (pc' := 793) rfl dL_law_792 rfl (by omega) (by omega) (by omega) rfl ?_
  refine r_vi2 (pc' := 796) dL_law_793 rfl qX10_calm lL_113 z0 rfl rfl rfl rfl (Nat.le_refl _) (Nat.le_refl _) (C_calm hS (X.2.2.1 ((i : Int) + 1)) (X.2.2.1 ((i : Int) + 2)) (hx _) (hx _) (fun g1 hS1 fr1 => ?_))
  refine r_aload_n (pc' := 797) dL_law_796 rfl rfl ?_
  refine r_aload_s (pc' := 798) dL_law_797 rfl rfl ?_
  refine r_iload_n (pc' := 799) dL_law_798 rfl rfl ?_
  refine r_iconst (pc' := 800) dL_law_799 rfl ?_
  refine r_iadd (pc' := 801) dL_law_800 rfl ?_
  refine r_sald (pc' := 802) rfl dL_law_801 rfl (by omega) (by omega) (by omega) rfl ?_
  refine r_aload_s (pc' := 803) dL_law_802 rfl rfl ?_
  refine r_iload_n (pc' := 804) dL_law_803 rfl rfl ?_
  refine r_iconst (pc' := 805) dL_law_804 rfl ?_
  refine r_iadd (pc' := 806) dL_law_805 rfl ?_
  refine r_sald (pc' := 807) rfl dL_law_806 rfl (by omega) (by omega) (by omega) rfl ?_
  refine r_vi2 (pc' := 810) dL_law_807 rfl qX11_calm lL_116 z166 rfl rfl rfl rfl (Nat.le_refl _) (Nat.le_refl _) (M_calm (hM.fr fr1) hS.ws (X.2.2.1 ((i : Int) + 1)) (X.2.2.1 ((i : Int) + 2)) (hx _) (hx _) (fun g2 hM2 fr2 => ?_))
  refine r_same (tgt := 1028) dL_law_810 rfl ?_
  exact h g2 (hS1.frM fr2.1) hM2 (hF.fr (fr2.2.1.trans (fr1 178 (by decide))) (fr2.2.2.trans (congrFun (fr1 166 (by decide)) _)))
theorem lc_old {X : CX} {d : Nat} {Q : Option VV → List Sh → Mem → Prop} {i : Nat} {g : Mem} {tN : Nat} {tX : Nat → Int} {flt : Int} {u : PV} {v : LV} {kn : Nat} {kL : Nat → LV} {im : Nat → Bool × Int × LV} {sd : Int} {ln : Nat} {la : Nat → Nat} {lr : Nat → Bool} {bn : Nat} {bp : Nat → Nat} {bf : Nat → Int} (hS : CS g tN tX flt u v kn kL im sd ln la lr bn bp bf) (hM : MS g tN tX flt u v kn kL im sd ln la lr bn bp bf) (hF : FT g) (hL : X.2.1 ≤ 2048) (hi : i + 4 ≤ X.2.1) (hx : ∀ j : Int, R32 (X.2.2.1 j)) (h : LwK X d Q i) : AJ X (d + 30) mL_law 183 3111 Q 183 3111 815 [some vsc, some (vr 0), some (vr 166), some (vi (i : Int))] [] Z0 g := by
  refine r_aload_n (pc' := 816) dL_law_815 rfl rfl ?_
  refine r_aload_s (pc' := 817) dL_law_816 rfl rfl ?_
  refine r_iload_n (pc' := 818) dL_law_817 rfl rfl ?_
  refine r_iconst (pc' := 819) dL_law_818 rfl ?_
  refine r_iadd (pc' := 820) dL_law_819 rfl ?_
  refine r_sald (pc' := 821) rfl dL_law_820 rfl (by omega) (by omega) (by omega) rfl ?_
  refine r_aload_s (pc' := 822) dL_law_821 rfl rfl ?_
  refine r_iload_n (pc' := 823) dL_law_822 rfl rfl ?_
  refine r_iconst (pc' := 824) dL_law_823 rfl ?_
  refine r_iadd (pc' := 825) dL_law_824 rfl ?_
  refine r_sald (pc' := 826) rfl dL_law_825 rfl (by omega) (by omega) (by omega) rfl ?_
  refine r_aload_s (pc' := 827) dL_law_826 rfl rfl ?_
  refine r_iload_n (pc' := 828) dL_law_827 rfl rfl ?_
  refine r_iconst (pc' := 829) dL_law_828 rfl ?_
  refine r_iadd (pc' := 830) dL_law_829 rfl ?_
  refine r_sald (pc' := 831) rfl dL_law_830 rfl (by omega) (by omega) (by omega) rfl ?_
  refine r_if_eq (tgt := 838) (pc' := 834) dL_law_831 rfl rfl (hx _) (fun c831 => ?_) (fun c831 => ?_)
  · refine r_iconst (pc' := 839) dL_law_838 rfl ?_
    first
      | (have cb : ¬ _ = (0 : Int) := c831
         refine r_vi3 (pc' := 842) dL_law_839 rfl qX10_old lL_117 z0 rfl rfl rfl rfl (Nat.le_refl _) (Nat.le_refl _) (C_old hS (X.2.2.1 ((i : Int) + 1)) (X.2.2.1 ((i : Int) + 2)) true (hx _) (hx _) (fun g1 hS1 fr1 => ?_))
         refine r_aload_n (pc' := 843) dL_law_842 rfl rfl ?_
         refine r_aload_s (pc' := 844) dL_law_843 rfl rfl ?_
         refine r_iload_n (pc' := 845) dL_law_844 rfl rfl ?_
         refine r_iconst (pc' := 846) dL_law_845 rfl ?_
         refine r_iadd (pc' := 847) dL_law_846 rfl ?_
         refine r_sald (pc' := 848) rfl dL_law_847 rfl (by omega) (by omega) (by omega) rfl ?_
         refine r_aload_s (pc' := 849) dL_law_848 rfl rfl ?_
         refine r_iload_n (pc' := 850) dL_law_849 rfl rfl ?_
         refine r_iconst (pc' := 851) dL_law_850 rfl ?_
         refine r_iadd (pc' := 852) dL_law_851 rfl ?_
         refine r_sald (pc' := 853) rfl dL_law_852 rfl (by omega) (by omega) (by omega) rfl ?_
         refine r_aload_s (pc' := 854) dL_law_853 rfl rfl ?_
         refine r_iload_n (pc' := 855) dL_law_854 rfl rfl ?_
         refine r_iconst (pc' := 856) dL_law_855 rfl ?_
         refine r_iadd (pc' := 857) dL_law_856 rfl ?_
         refine r_sald (pc' := 858) rfl dL_law_857 rfl (by omega) (by omega) (by omega) rfl ?_
         refine r_if_eq (tgt := 865) (pc' := 861) dL_law_858 rfl rfl (hx _) (fun c858 => ?_) (fun c858 => ?_)
         · exact absurd c858 c831
         · refine r_iconst (pc' := 862) dL_law_861 rfl ?_
           refine r_goto (tgt := 866) dL_law_862 rfl ?_
           refine r_vi3 (pc' := 869) dL_law_866 rfl qX11_old lL_121 z166 rfl rfl rfl rfl (Nat.le_refl _) (Nat.le_refl _) (M_old (hM.fr fr1) hS.ws (X.2.2.1 ((i : Int) + 1)) (X.2.2.1 ((i : Int) + 2)) true (hx _) (hx _) (fun g2 hM2 fr2 => ?_))
           refine r_same (tgt := 1028) dL_law_869 rfl ?_
           exact h g2 (hS1.frM fr2.1) hM2 (hF.fr (fr2.2.1.trans (fr1 178 (by decide))) (fr2.2.2.trans (congrFun (fr1 166 (by decide)) _))))
      | (have cb : _ = (0 : Int) := c831
         refine r_vi3 (pc' := 842) dL_law_839 rfl qX10_old lL_117 z0 rfl rfl rfl rfl (Nat.le_refl _) (Nat.le_refl _) (C_old hS (X.2.2.1 ((i : Int) + 1)) (X.2.2.1 ((i : Int) + 2)) false (hx _) (hx _) (fun g1 hS1 fr1 => ?_))
         refine r_aload_n (pc' := 843) dL_law_842 rfl rfl ?_
         refine r_aload_s (pc' := 844) dL_law_843 rfl rfl ?_
         refine r_iload_n (pc' := 845) dL_law_844 rfl rfl ?_
         refine r_iconst (pc' := 846) dL_law_845 rfl ?_
         refine r_iadd (pc' := 847) dL_law_846 rfl ?_
         refine r_sald (pc' := 848) rfl dL_law_847 rfl (by omega) (by omega) (by omega) rfl ?_
         refine r_aload_s (pc' := 849) dL_law_848 rfl rfl ?_
         refine r_iload_n (pc' := 850) dL_law_849 rfl rfl ?_
         refine r_iconst (pc' := 851) dL_law_850 rfl ?_
         refine r_iadd (pc' := 852) dL_law_851 rfl ?_
         refine r_sald (pc' := 853) rfl dL_law_852 rfl (by omega) (by omega) (by omega) rfl ?_
         refine r_aload_s (pc' := 854) dL_law_853 rfl rfl ?_
         refine r_iload_n (pc' := 855) dL_law_854 rfl rfl ?_
         refine r_iconst (pc' := 856) dL_law_855 rfl ?_
         refine r_iadd (pc' := 857) dL_law_856 rfl ?_
         refine r_sald (pc' := 858) rfl dL_law_857 rfl (by omega) (by omega) (by omega) rfl ?_
         refine r_if_eq (tgt := 865) (pc' := 861) dL_law_858 rfl rfl (hx _) (fun c858 => ?_) (fun c858 => ?_)
         · refine r_iconst (pc' := 866) dL_law_865 rfl ?_
           refine r_vi3 (pc' := 869) dL_law_866 rfl qX11_old lL_121 z166 rfl rfl rfl rfl (Nat.le_refl _) (Nat.le_refl _) (M_old (hM.fr fr1) hS.ws (X.2.2.1 ((i : Int) + 1)) (X.2.2.1 ((i : Int) + 2)) false (hx _) (hx _) (fun g2 hM2 fr2 => ?_))
           refine r_same (tgt := 1028) dL_law_869 rfl ?_
           exact h g2 (hS1.frM fr2.1) hM2 (hF.fr (fr2.2.1.trans (fr1 178 (by decide))) (fr2.2.2.trans (congrFun (fr1 166 (by decide)) _)))
         · exact absurd c831 c858)
  · refine r_iconst (pc' := 835) dL_law_834 rfl ?_
    refine r_goto (tgt := 839) dL_law_835 rfl ?_
    first
      | (have cb : ¬ _ = (0 : Int) := c831
         refine r_vi3 (pc' := 842) dL_law_839 rfl qX10_old lL_117 z0 rfl rfl rfl rfl (Nat.le_refl _) (Nat.le_refl _) (C_old hS (X.2.2.1 ((i : Int) + 1)) (X.2.2.1 ((i : Int) + 2)) true (hx _) (hx _) (fun g1 hS1 fr1 => ?_))
         refine r_aload_n (pc' := 843) dL_law_842 rfl rfl ?_
         refine r_aload_s (pc' := 844) dL_law_843 rfl rfl ?_
         refine r_iload_n (pc' := 845) dL_law_844 rfl rfl ?_
         refine r_iconst (pc' := 846) dL_law_845 rfl ?_
         refine r_iadd (pc' := 847) dL_law_846 rfl ?_
         refine r_sald (pc' := 848) rfl dL_law_847 rfl (by omega) (by omega) (by omega) rfl ?_
         refine r_aload_s (pc' := 849) dL_law_848 rfl rfl ?_
         refine r_iload_n (pc' := 850) dL_law_849 rfl rfl ?_
         refine r_iconst (pc' := 851) dL_law_850 rfl ?_
         refine r_iadd (pc' := 852) dL_law_851 rfl ?_
         refine r_sald (pc' := 853) rfl dL_law_852 rfl (by omega) (by omega) (by omega) rfl ?_
         refine r_aload_s (pc' := 854) dL_law_853 rfl rfl ?_
         refine r_iload_n (pc' := 855) dL_law_854 rfl rfl ?_
         refine r_iconst (pc' := 856) dL_law_855 rfl ?_
         refine r_iadd (pc' := 857) dL_law_856 rfl ?_
         refine r_sald (pc' := 858) rfl dL_law_857 rfl (by omega) (by omega) (by omega) rfl ?_
         refine r_if_eq (tgt := 865) (pc' := 861) dL_law_858 rfl rfl (hx _) (fun c858 => ?_) (fun c858 => ?_)
         · exact absurd c858 c831
         · refine r_iconst (pc' := 862) dL_law_861 rfl ?_
           refine r_goto (tgt := 866) dL_law_862 rfl ?_
           refine r_vi3 (pc' := 869) dL_law_866 rfl qX11_old lL_121 z166 rfl rfl rfl rfl (Nat.le_refl _) (Nat.le_refl _) (M_old (hM.fr fr1) hS.ws (X.2.2.1 ((i : Int) + 1)) (X.2.2.1 ((i : Int) + 2)) true (hx _) (hx _) (fun g2 hM2 fr2 => ?_))
           refine r_same (tgt := 1028) dL_law_869 rfl ?_
           exact h g2 (hS1.frM fr2.1) hM2 (hF.fr (fr2.2.1.trans (fr1 178 (by decide))) (fr2.2.2.trans (congrFun (fr1 166 (by decide)) _))))
      | (have cb : _ = (0 : Int) := c831
         refine r_vi3 (pc' := 842) dL_law_839 rfl qX10_old lL_117 z0 rfl rfl rfl rfl (Nat.le_refl _) (Nat.le_refl _) (C_old hS (X.2.2.1 ((i : Int) + 1)) (X.2.2.1 ((i : Int) + 2)) false (hx _) (hx _) (fun g1 hS1 fr1 => ?_))
         refine r_aload_n (pc' := 843) dL_law_842 rfl rfl ?_
         refine r_aload_s (pc' := 844) dL_law_843 rfl rfl ?_
         refine r_iload_n (pc' := 845) dL_law_844 rfl rfl ?_
         refine r_iconst (pc' := 846) dL_law_845 rfl ?_
         refine r_iadd (pc' := 847) dL_law_846 rfl ?_
         refine r_sald (pc' := 848) rfl dL_law_847 rfl (by omega) (by omega) (by omega) rfl ?_
         refine r_aload_s (pc' := 849) dL_law_848 rfl rfl ?_
         refine r_iload_n (pc' := 850) dL_law_849 rfl rfl ?_
         refine r_iconst (pc' := 851) dL_law_850 rfl ?_
         refine r_iadd (pc' := 852) dL_law_851 rfl ?_
         refine r_sald (pc' := 853) rfl dL_law_852 rfl (by omega) (by omega) (by omega) rfl ?_
         refine r_aload_s (pc' := 854) dL_law_853 rfl rfl ?_
         refine r_iload_n (pc' := 855) dL_law_854 rfl rfl ?_
         refine r_iconst (pc' := 856) dL_law_855 rfl ?_
         refine r_iadd (pc' := 857) dL_law_856 rfl ?_
         refine r_sald (pc' := 858) rfl dL_law_857 rfl (by omega) (by omega) (by omega) rfl ?_
         refine r_if_eq (tgt := 865) (pc' := 861) dL_law_858 rfl rfl (hx _) (fun c858 => ?_) (fun c858 => ?_)
         · refine r_iconst (pc' := 866) dL_law_865 rfl ?_
           refine r_vi3 (pc' := 869) dL_law_866 rfl qX11_old lL_121 z166 rfl rfl rfl rfl (Nat.le_refl _) (Nat.le_refl _) (M_old (hM.fr fr1) hS.ws (X.2.2.1 ((i : Int) + 1)) (X.2.2.1 ((i : Int) + 2)) false (hx _) (hx _) (fun g2 hM2 fr2 => ?_))
           refine r_same (tgt := 1028) dL_law_869 rfl ?_
           exact h g2 (hS1.frM fr2.1) hM2 (hF.fr (fr2.2.1.trans (fr1 178 (by decide))) (fr2.2.2.trans (congrFun (fr1 166 (by decide)) _)))
         · exact absurd c831 c858)
theorem lc_couldBe {X : CX} {d : Nat} {Q : Option VV → List Sh → Mem → Prop} {i : Nat} {g : Mem} {tN : Nat} {tX : Nat → Int} {flt : Int} {u : PV} {v : LV} {kn : Nat} {kL : Nat → LV} {im : Nat → Bool × Int × LV} {sd : Int} {ln : Nat} {la : Nat → Nat} {lr : Nat → Bool} {bn : Nat} {bp : Nat → Nat} {bf : Nat → Int} (hS : CS g tN tX flt u v kn kL im sd ln la lr bn bp bf) (hM : MS g tN tX flt u v kn kL im sd ln la lr bn bp bf) (hF : FT g) (hL : X.2.1 ≤ 2048) (hi : i + 4 ≤ X.2.1) (hx : ∀ j : Int, R32 (X.2.2.1 j)) (h : LwK X d Q i) : AJ X (d + 30) mL_law 183 3111 Q 183 3111 874 [some vsc, some (vr 0), some (vr 166), some (vi (i : Int))] [] Z0 g := by
  refine r_aload_n (pc' := 875) dL_law_874 rfl rfl ?_
  refine r_vi0 (pc' := 878) dL_law_875 rfl qX10_couldBe lL_122 z0 rfl rfl rfl (Nat.le_refl _) (Nat.le_refl _) (C_couldBe hS   (fun g1 hS1 fr1 => ?_))
  refine r_aload_n (pc' := 879) dL_law_878 rfl rfl ?_
  refine r_vi0 (pc' := 882) dL_law_879 rfl qX11_couldBe lL_125 z166 rfl rfl rfl (Nat.le_refl _) (Nat.le_refl _) (M_couldBe (hM.fr fr1) hS.ws   (fun g2 hM2 fr2 => ?_))
  refine r_same (tgt := 1028) dL_law_882 rfl ?_
  exact h g2 (hS1.frM fr2.1) hM2 (hF.fr (fr2.2.1.trans (fr1 178 (by decide))) (fr2.2.2.trans (congrFun (fr1 166 (by decide)) _)))
theorem lc_next {X : CX} {d : Nat} {Q : Option VV → List Sh → Mem → Prop} {i : Nat} {g : Mem} {tN : Nat} {tX : Nat → Int} {flt : Int} {u : PV} {v : LV} {kn : Nat} {kL : Nat → LV} {im : Nat → Bool × Int × LV} {sd : Int} {ln : Nat} {la : Nat → Nat} {lr : Nat → Bool} {bn : Nat} {bp : Nat → Nat} {bf : Nat → Int} (hS : CS g tN tX flt u v kn kL im sd ln la lr bn bp bf) (hM : MS g tN tX flt u v kn kL im sd ln la lr bn bp bf) (hF : FT g) (hL : X.2.1 ≤ 2048) (hi : i + 4 ≤ X.2.1) (hx : ∀ j : Int, R32 (X.2.2.1 j)) (h : LwK X d Q i) : AJ X (d + 30) mL_law 183 3111 Q 183 3111 887 [some vsc, some (vr 0), some (vr 166), some (vi (i : Int))] [] Z0 g := by
  refine r_aload_n (pc' := 888) dL_law_887 rfl rfl ?_
  refine r_vi0 (pc' := 891) dL_law_888 rfl qX10_next lL_126 z0 rfl rfl rfl (Nat.le_refl _) (Nat.le_refl _) (C_next hS   (fun g1 hS1 fr1 => ?_))
  refine r_aload_n (pc' := 892) dL_law_891 rfl rfl ?_
  refine r_vi0 (pc' := 895) dL_law_892 rfl qX11_next lL_129 z166 rfl rfl rfl (Nat.le_refl _) (Nat.le_refl _) (M_next (hM.fr fr1) hS.ws   (fun g2 hM2 fr2 => ?_))
  refine r_same (tgt := 1028) dL_law_895 rfl ?_
  exact h g2 (hS1.frM fr2.1) hM2 (hF.fr (fr2.2.1.trans (fr1 178 (by decide))) (fr2.2.2.trans (congrFun (fr1 166 (by decide)) _)))
theorem lc_write {X : CX} {d : Nat} {Q : Option VV → List Sh → Mem → Prop} {i : Nat} {g : Mem} {tN : Nat} {tX : Nat → Int} {flt : Int} {u : PV} {v : LV} {kn : Nat} {kL : Nat → LV} {im : Nat → Bool × Int × LV} {sd : Int} {ln : Nat} {la : Nat → Nat} {lr : Nat → Bool} {bn : Nat} {bp : Nat → Nat} {bf : Nat → Int} (hS : CS g tN tX flt u v kn kL im sd ln la lr bn bp bf) (hM : MS g tN tX flt u v kn kL im sd ln la lr bn bp bf) (hF : FT g) (hL : X.2.1 ≤ 2048) (hi : i + 4 ≤ X.2.1) (hx : ∀ j : Int, R32 (X.2.2.1 j)) (h : LwK X d Q i) : AJ X (d + 30) mL_law 183 3111 Q 183 3111 900 [some vsc, some (vr 0), some (vr 166), some (vi (i : Int))] [] Z0 g := by
  refine r_aload_n (pc' := 901) dL_law_900 rfl rfl ?_
  refine r_aload_s (pc' := 902) dL_law_901 rfl rfl ?_
  refine r_iload_n (pc' := 903) dL_law_902 rfl rfl ?_
  refine r_iconst (pc' := 904) dL_law_903 rfl ?_
  refine r_iadd (pc' := 905) dL_law_904 rfl ?_
  refine r_sald (pc' := 906) rfl dL_law_905 rfl (by omega) (by omega) (by omega) rfl ?_
  refine r_aload_s (pc' := 907) dL_law_906 rfl rfl ?_
  refine r_iload_n (pc' := 908) dL_law_907 rfl rfl ?_
  refine r_iconst (pc' := 909) dL_law_908 rfl ?_
  refine r_iadd (pc' := 910) dL_law_909 rfl ?_
  refine r_sald (pc' := 911) rfl dL_law_910 rfl (by omega) (by omega) (by omega) rfl ?_
  refine r_vi2 (pc' := 914) dL_law_911 rfl qX10_write lL_130 z0 rfl rfl rfl rfl (Nat.le_refl _) (Nat.le_refl _) (C_write hS (X.2.2.1 ((i : Int) + 1)) (X.2.2.1 ((i : Int) + 2)) (hx _) (hx _) (fun g1 hS1 fr1 => ?_))
  refine r_aload_n (pc' := 915) dL_law_914 rfl rfl ?_
  refine r_aload_s (pc' := 916) dL_law_915 rfl rfl ?_
  refine r_iload_n (pc' := 917) dL_law_916 rfl rfl ?_
  refine r_iconst (pc' := 918) dL_law_917 rfl ?_
  refine r_iadd (pc' := 919) dL_law_918 rfl ?_
  refine r_sald (pc' := 920) rfl dL_law_919 rfl (by omega) (by omega) (by omega) rfl ?_
  refine r_aload_s (pc' := 921) dL_law_920 rfl rfl ?_
  refine r_iload_n (pc' := 922) dL_law_921 rfl rfl ?_
  refine r_iconst (pc' := 923) dL_law_922 rfl ?_
  refine r_iadd (pc' := 924) dL_law_923 rfl ?_
  refine r_sald (pc' := 925) rfl dL_law_924 rfl (by omega) (by omega) (by omega) rfl ?_
  refine r_vi2 (pc' := 928) dL_law_925 rfl qX11_write lL_133 z166 rfl rfl rfl rfl (Nat.le_refl _) (Nat.le_refl _) (M_write (hM.fr fr1) hS.ws (X.2.2.1 ((i : Int) + 1)) (X.2.2.1 ((i : Int) + 2)) (hx _) (hx _) (fun g2 hM2 fr2 => ?_))
  refine r_same (tgt := 1028) dL_law_928 rfl ?_
  exact h g2 (hS1.frM fr2.1) hM2 (hF.fr (fr2.2.1.trans (fr1 178 (by decide))) (fr2.2.2.trans (congrFun (fr1 166 (by decide)) _)))
theorem lc_judge {X : CX} {d : Nat} {Q : Option VV → List Sh → Mem → Prop} {i : Nat} {g : Mem} {tN : Nat} {tX : Nat → Int} {flt : Int} {u : PV} {v : LV} {kn : Nat} {kL : Nat → LV} {im : Nat → Bool × Int × LV} {sd : Int} {ln : Nat} {la : Nat → Nat} {lr : Nat → Bool} {bn : Nat} {bp : Nat → Nat} {bf : Nat → Int} (hS : CS g tN tX flt u v kn kL im sd ln la lr bn bp bf) (hM : MS g tN tX flt u v kn kL im sd ln la lr bn bp bf) (hF : FT g) (hL : X.2.1 ≤ 2048) (hi : i + 4 ≤ X.2.1) (hx : ∀ j : Int, R32 (X.2.2.1 j)) (h : LwK X d Q i) : AJ X (d + 30) mL_law 183 3111 Q 183 3111 933 [some vsc, some (vr 0), some (vr 166), some (vi (i : Int))] [] Z0 g := by
  refine r_aload_n (pc' := 934) dL_law_933 rfl rfl ?_
  refine r_vi0 (pc' := 937) dL_law_934 rfl qX10_judge lL_134 z0 rfl rfl rfl (Nat.le_refl _) (Nat.le_refl _) (C_judge hS   (fun g1 hS1 fr1 => ?_))
  refine r_aload_n (pc' := 938) dL_law_937 rfl rfl ?_
  refine r_vi0 (pc' := 941) dL_law_938 rfl qX11_judge lL_137 z166 rfl rfl rfl (Nat.le_refl _) (Nat.le_refl _) (M_judge (hM.fr fr1) hS.ws   (fun g2 hM2 fr2 => ?_))
  refine r_same (tgt := 1028) dL_law_941 rfl ?_
  exact h g2 (hS1.frM fr2.1) hM2 (hF.fr (fr2.2.1.trans (fr1 178 (by decide))) (fr2.2.2.trans (congrFun (fr1 166 (by decide)) _)))
theorem lc_tear {X : CX} {d : Nat} {Q : Option VV → List Sh → Mem → Prop} {i : Nat} {g : Mem} {tN : Nat} {tX : Nat → Int} {flt : Int} {u : PV} {v : LV} {kn : Nat} {kL : Nat → LV} {im : Nat → Bool × Int × LV} {sd : Int} {ln : Nat} {la : Nat → Nat} {lr : Nat → Bool} {bn : Nat} {bp : Nat → Nat} {bf : Nat → Int} (hS : CS g tN tX flt u v kn kL im sd ln la lr bn bp bf) (hM : MS g tN tX flt u v kn kL im sd ln la lr bn bp bf) (hF : FT g) (hL : X.2.1 ≤ 2048) (hi : i + 4 ≤ X.2.1) (hx : ∀ j : Int, R32 (X.2.2.1 j)) (h : LwK X d Q i) : AJ X (d + 30) mL_law 183 3111 Q 183 3111 946 [some vsc, some (vr 0), some (vr 166), some (vi (i : Int))] [] Z0 g := by
  refine r_aload_n (pc' := 947) dL_law_946 rfl rfl ?_
  refine r_vi0 (pc' := 950) dL_law_947 rfl qX10_tear lL_138 z0 rfl rfl rfl (Nat.le_refl _) (Nat.le_refl _) (C_tear hS   (fun g1 hS1 fr1 => ?_))
  refine r_aload_n (pc' := 951) dL_law_950 rfl rfl ?_
  refine r_vi0 (pc' := 954) dL_law_951 rfl qX11_tear lL_141 z166 rfl rfl rfl (Nat.le_refl _) (Nat.le_refl _) (M_tear (hM.fr fr1) hS.ws   (fun g2 hM2 fr2 => ?_))
  refine r_same (tgt := 1028) dL_law_954 rfl ?_
  exact h g2 (hS1.frM fr2.1) hM2 (hF.fr (fr2.2.1.trans (fr1 178 (by decide))) (fr2.2.2.trans (congrFun (fr1 166 (by decide)) _)))
theorem lc_seed {X : CX} {d : Nat} {Q : Option VV → List Sh → Mem → Prop} {i : Nat} {g : Mem} {tN : Nat} {tX : Nat → Int} {flt : Int} {u : PV} {v : LV} {kn : Nat} {kL : Nat → LV} {im : Nat → Bool × Int × LV} {sd : Int} {ln : Nat} {la : Nat → Nat} {lr : Nat → Bool} {bn : Nat} {bp : Nat → Nat} {bf : Nat → Int} (hS : CS g tN tX flt u v kn kL im sd ln la lr bn bp bf) (hM : MS g tN tX flt u v kn kL im sd ln la lr bn bp bf) (hF : FT g) (hL : X.2.1 ≤ 2048) (hi : i + 4 ≤ X.2.1) (hx : ∀ j : Int, R32 (X.2.2.1 j)) (h : LwK X d Q i) : AJ X (d + 30) mL_law 183 3111 Q 183 3111 959 [some vsc, some (vr 0), some (vr 166), some (vi (i : Int))] [] Z0 g := by
  refine r_aload_n (pc' := 960) dL_law_959 rfl rfl ?_
  refine r_aload_s (pc' := 961) dL_law_960 rfl rfl ?_
  refine r_iload_n (pc' := 962) dL_law_961 rfl rfl ?_
  refine r_iconst (pc' := 963) dL_law_962 rfl ?_
  refine r_iadd (pc' := 964) dL_law_963 rfl ?_
  refine r_sald (pc' := 965) rfl dL_law_964 rfl (by omega) (by omega) (by omega) rfl ?_
  refine r_vi1 (pc' := 968) dL_law_965 rfl qX10_seed lL_142 z0 rfl rfl rfl rfl (Nat.le_refl _) (Nat.le_refl _) (C_seed hS (X.2.2.1 ((i : Int) + 1)) (hx _) (fun g1 hS1 fr1 => ?_))
  refine r_aload_n (pc' := 969) dL_law_968 rfl rfl ?_
  refine r_aload_s (pc' := 970) dL_law_969 rfl rfl ?_
  refine r_iload_n (pc' := 971) dL_law_970 rfl rfl ?_
  refine r_iconst (pc' := 972) dL_law_971 rfl ?_
  refine r_iadd (pc' := 973) dL_law_972 rfl ?_
  refine r_sald (pc' := 974) rfl dL_law_973 rfl (by omega) (by omega) (by omega) rfl ?_
  refine r_vi1 (pc' := 977) dL_law_974 rfl qX11_seed lL_145 z166 rfl rfl rfl rfl (Nat.le_refl _) (Nat.le_refl _) (M_seed (hM.fr fr1) hS.ws (X.2.2.1 ((i : Int) + 1)) (hx _) (fun g2 hM2 fr2 => ?_))
  refine r_same (tgt := 1028) dL_law_977 rfl ?_
  exact h g2 (hS1.frM fr2.1) hM2 (hF.fr (fr2.2.1.trans (fr1 178 (by decide))) (fr2.2.2.trans (congrFun (fr1 166 (by decide)) _)))
theorem lc_keep {X : CX} {d : Nat} {Q : Option VV → List Sh → Mem → Prop} {i : Nat} {g : Mem} {tN : Nat} {tX : Nat → Int} {flt : Int} {u : PV} {v : LV} {kn : Nat} {kL : Nat → LV} {im : Nat → Bool × Int × LV} {sd : Int} {ln : Nat} {la : Nat → Nat} {lr : Nat → Bool} {bn : Nat} {bp : Nat → Nat} {bf : Nat → Int} (hS : CS g tN tX flt u v kn kL im sd ln la lr bn bp bf) (hM : MS g tN tX flt u v kn kL im sd ln la lr bn bp bf) (hF : FT g) (hL : X.2.1 ≤ 2048) (hi : i + 4 ≤ X.2.1) (hx : ∀ j : Int, R32 (X.2.2.1 j)) (h : LwK X d Q i) : AJ X (d + 30) mL_law 183 3111 Q 183 3111 982 [some vsc, some (vr 0), some (vr 166), some (vi (i : Int))] [] Z0 g := by
  refine r_aload_n (pc' := 983) dL_law_982 rfl rfl ?_
  refine r_aload_s (pc' := 984) dL_law_983 rfl rfl ?_
  refine r_iload_n (pc' := 985) dL_law_984 rfl rfl ?_
  refine r_iconst (pc' := 986) dL_law_985 rfl ?_
  refine r_iadd (pc' := 987) dL_law_986 rfl ?_
  refine r_sald (pc' := 988) rfl dL_law_987 rfl (by omega) (by omega) (by omega) rfl ?_
  refine r_vi1 (pc' := 991) dL_law_988 rfl qX10_keep lL_146 z0 rfl rfl rfl rfl (Nat.le_refl _) (Nat.le_refl _) (C_keep hS (X.2.2.1 ((i : Int) + 1)) (hx _) (fun g1 hS1 fr1 => ?_))
  refine r_aload_n (pc' := 992) dL_law_991 rfl rfl ?_
  refine r_aload_s (pc' := 993) dL_law_992 rfl rfl ?_
  refine r_iload_n (pc' := 994) dL_law_993 rfl rfl ?_
  refine r_iconst (pc' := 995) dL_law_994 rfl ?_
  refine r_iadd (pc' := 996) dL_law_995 rfl ?_
  refine r_sald (pc' := 997) rfl dL_law_996 rfl (by omega) (by omega) (by omega) rfl ?_
  refine r_vi1 (pc' := 1000) dL_law_997 rfl qX11_keep lL_149 z166 rfl rfl rfl rfl (Nat.le_refl _) (Nat.le_refl _) (M_keep (hM.fr fr1) hS.ws (X.2.2.1 ((i : Int) + 1)) (hx _) (fun g2 hM2 fr2 => ?_))
  refine r_same (tgt := 1028) dL_law_1000 rfl ?_
  exact h g2 (hS1.frM fr2.1) hM2 (hF.fr (fr2.2.1.trans (fr1 178 (by decide))) (fr2.2.2.trans (congrFun (fr1 166 (by decide)) _)))
theorem lc_goBack {X : CX} {d : Nat} {Q : Option VV → List Sh → Mem → Prop} {i : Nat} {g : Mem} {tN : Nat} {tX : Nat → Int} {flt : Int} {u : PV} {v : LV} {kn : Nat} {kL : Nat → LV} {im : Nat → Bool × Int × LV} {sd : Int} {ln : Nat} {la : Nat → Nat} {lr : Nat → Bool} {bn : Nat} {bp : Nat → Nat} {bf : Nat → Int} (hS : CS g tN tX flt u v kn kL im sd ln la lr bn bp bf) (hM : MS g tN tX flt u v kn kL im sd ln la lr bn bp bf) (hF : FT g) (hL : X.2.1 ≤ 2048) (hi : i + 4 ≤ X.2.1) (hx : ∀ j : Int, R32 (X.2.2.1 j)) (h : LwK X d Q i) : AJ X (d + 30) mL_law 183 3111 Q 183 3111 1005 [some vsc, some (vr 0), some (vr 166), some (vi (i : Int))] [] Z0 g := by
  refine r_aload_n (pc' := 1006) dL_law_1005 rfl rfl ?_
  refine r_aload_s (pc' := 1007) dL_law_1006 rfl rfl ?_
  refine r_iload_n (pc' := 1008) dL_law_1007 rfl rfl ?_
  refine r_iconst (pc' := 1009) dL_law_1008 rfl ?_
  refine r_iadd (pc' := 1010) dL_law_1009 rfl ?_
  refine r_sald (pc' := 1011) rfl dL_law_1010 rfl (by omega) (by omega) (by omega) rfl ?_
  refine r_vi1 (pc' := 1014) dL_law_1011 rfl qX10_goBack lL_150 z0 rfl rfl rfl rfl (Nat.le_refl _) (Nat.le_refl _) (C_goBack hS (X.2.2.1 ((i : Int) + 1)) (hx _) (fun g1 hS1 fr1 => ?_))
  refine r_aload_n (pc' := 1015) dL_law_1014 rfl rfl ?_
  refine r_aload_s (pc' := 1016) dL_law_1015 rfl rfl ?_
  refine r_iload_n (pc' := 1017) dL_law_1016 rfl rfl ?_
  refine r_iconst (pc' := 1018) dL_law_1017 rfl ?_
  refine r_iadd (pc' := 1019) dL_law_1018 rfl ?_
  refine r_sald (pc' := 1020) rfl dL_law_1019 rfl (by omega) (by omega) (by omega) rfl ?_
  refine r_vi1 (pc' := 1023) dL_law_1020 rfl qX11_goBack lL_153 z166 rfl rfl rfl rfl (Nat.le_refl _) (Nat.le_refl _) (M_goBack (hM.fr fr1) hS.ws (X.2.2.1 ((i : Int) + 1)) (hx _) (fun g2 hM2 fr2 => ?_))
  refine r_same (tgt := 1028) dL_law_1023 rfl ?_
  exact h g2 (hS1.frM fr2.1) hM2 (hF.fr (fr2.2.1.trans (fr1 178 (by decide))) (fr2.2.2.trans (congrFun (fr1 166 (by decide)) _)))
def lwOffs : Array Int := #[152, 175, 188, 201, 224, 257, 280, 313, 346, 369, 392, 415, 448, 487, 510, 533, 556, 579, 602, 625, 658, 681, 704, 727, 750, 783, 842, 855, 868, 901, 914, 927, 950, 973]
theorem dL32 : decode mL_law.2.1 32 = .ok (.tableswitch 996 0 33 lwOffs, 152) := dL_law_32
set_option maxRecDepth 100000 in
set_option maxHeartbeats 4000000 in
theorem lw_loop {X : CX} {d : Nat} {Q : Option VV → List Sh → Mem → Prop} (hL : X.2.1 ≤ 2048) (hx : ∀ j : Int, R32 (X.2.2.1 j)) (hQ : ∀ g, Q (some (vi 1)) Z0 g) : ∀ (j i : Nat) (g : Mem) {tN : Nat} {tX : Nat → Int} {flt : Int} {u : PV} {v : LV} {kn : Nat} {kL : Nat → LV} {im : Nat → Bool × Int × LV} {sd : Int} {ln : Nat} {la : Nat → Nat} {lr : Nat → Bool} {bn : Nat} {bp : Nat → Nat} {bf : Nat → Int}, CS g tN tX flt u v kn kL im sd ln la lr bn bp bf → MS g tN tX flt u v kn kL im sd ln la lr bn bp bf → FT g → X.2.1 ≤ i + j → i ≤ 2052 → AJ X (d + 30) mL_law 183 3111 Q 183 3111 18 [some vsc, some (vr 0), some (vr 166), some (vi (i : Int))] [] Z0 g := by
  intro j
  induction j with
  | zero =>
    intro i g tN tX flt u v kn kL im sd ln la lr bn bp bf hS hM hF hj hi
    refine r_iload_n (pc' := 19) dL_law_18 rfl rfl ?_
    refine r_aload_s (pc' := 20) dL_law_19 rfl rfl ?_
    refine r_slen (pc' := 21) rfl dL_law_20 rfl ?_
    refine r_iconst (pc' := 22) dL_law_21 rfl ?_
    refine r_isub (pc' := 23) dL_law_22 rfl ?_
    refine r_icmp_gt (tgt := 1034) (pc' := 26) dL_law_23 rfl rfl (by omega) (by omega) (fun c23 => ?_) (fun c23 => ?_)
    · refine r_iconst (pc' := 1035) dL_law_1034 rfl ?_
      exact r_ret dL_law_1035 rfl (Or.inr ⟨rfl, Or.inr rfl⟩) (Nat.le_refl _) (Nat.le_refl _) (hQ g)
    · exact absurd c23 (by omega)
  | succ j ih =>
    intro i g tN tX flt u v kn kL im sd ln la lr bn bp bf hS hM hF hj hi
    by_cases hend : X.2.1 ≤ i
    · refine r_iload_n (pc' := 19) dL_law_18 rfl rfl ?_
      refine r_aload_s (pc' := 20) dL_law_19 rfl rfl ?_
      refine r_slen (pc' := 21) rfl dL_law_20 rfl ?_
      refine r_iconst (pc' := 22) dL_law_21 rfl ?_
      refine r_isub (pc' := 23) dL_law_22 rfl ?_
      refine r_icmp_gt (tgt := 1034) (pc' := 26) dL_law_23 rfl rfl (by omega) (by omega) (fun c23 => ?_) (fun c23 => ?_)
      · refine r_iconst (pc' := 1035) dL_law_1034 rfl ?_
        exact r_ret dL_law_1035 rfl (Or.inr ⟨rfl, Or.inr rfl⟩) (Nat.le_refl _) (Nat.le_refl _) (hQ g)
      · exact absurd c23 (by omega)
    have hi2 : i ≤ 2048 := by omega
    have hN : LwK X d Q i := fun g1 tN tX flt u v kn kL im sd ln la lr bn bp bf hS1 hM1 hF1 => by
      refine r_iinc (pc' := 1031) dL_law_1028 rfl rfl rfl ?_
      refine r_goto (tgt := 18) dL_law_1031 rfl ?_
      exact ih (i + 4) g1 hS1 hM1 hF1 (by omega) (by omega)
    refine r_iload_n (pc' := 19) dL_law_18 rfl rfl ?_
    refine r_aload_s (pc' := 20) dL_law_19 rfl rfl ?_
    refine r_slen (pc' := 21) rfl dL_law_20 rfl ?_
    refine r_iconst (pc' := 22) dL_law_21 rfl ?_
    refine r_isub (pc' := 23) dL_law_22 rfl ?_
    refine r_icmp_gt (tgt := 1034) (pc' := 26) dL_law_23 rfl rfl (by omega) (by omega) (fun c23 => ?_) (fun c23 => ?_)
    · refine r_iconst (pc' := 1035) dL_law_1034 rfl ?_
      exact r_ret dL_law_1035 rfl (Or.inr ⟨rfl, Or.inr rfl⟩) (Nat.le_refl _) (Nat.le_refl _) (hQ g)
    · refine r_aload_s (pc' := 27) dL_law_26 rfl rfl ?_
      refine r_iload_n (pc' := 28) dL_law_27 rfl rfl ?_
      refine r_sald (pc' := 29) rfl dL_law_28 rfl (by omega) (by omega) (by omega) rfl ?_
      refine r_bipush (pc' := 31) dL_law_29 rfl (by decide) ?_
      refine r_iand (pc' := 32) dL_law_31 rfl ?_
      have hwR : R32 (b_and (X.2.2.1 (i : Int)) 63) := b_and_R _ _
      generalize b_and (X.2.2.1 (i : Int)) 63 = w at hwR ⊢
      by_cases hsw : w = 0 ∨ w = 1 ∨ w = 2 ∨ w = 3 ∨ w = 4 ∨ w = 5 ∨ w = 6 ∨ w = 7 ∨ w = 8 ∨ w = 9 ∨ w = 10 ∨ w = 11 ∨ w = 12 ∨ w = 13 ∨ w = 14 ∨ w = 15 ∨ w = 16 ∨ w = 17 ∨ w = 18 ∨ w = 19 ∨ w = 20 ∨ w = 21 ∨ w = 22 ∨ w = 23 ∨ w = 24 ∨ w = 25 ∨ w = 26 ∨ w = 27 ∨ w = 28 ∨ w = 29 ∨ w = 30 ∨ w = 31 ∨ w = 32 ∨ w = 33
      · rcases hsw with rfl | rfl | rfl | rfl | rfl | rfl | rfl | rfl | rfl | rfl | rfl | rfl | rfl | rfl | rfl | rfl | rfl | rfl | rfl | rfl | rfl | rfl | rfl | rfl | rfl | rfl | rfl | rfl | rfl | rfl | rfl | rfl | rfl | rfl
        · refine r_tabI (tgt := 184) dL32 (by decide) (by decide) (by decide) rfl rfl ?_
          exact lc_feed hS hM hF hL (by omega) hx hN
        · refine r_tabI (tgt := 207) dL32 (by decide) (by decide) (by decide) rfl rfl ?_
          exact lc_cord hS hM hF hL (by omega) hx hN
        · refine r_tabI (tgt := 220) dL32 (by decide) (by decide) (by decide) rfl rfl ?_
          exact lc_fault hS hM hF hL (by omega) hx hN
        · refine r_tabI (tgt := 233) dL32 (by decide) (by decide) (by decide) rfl rfl ?_
          exact lc_told hS hM hF hL (by omega) hx hN
        · refine r_tabI (tgt := 256) dL32 (by decide) (by decide) (by decide) rfl rfl ?_
          exact lc_flag hS hM hF hL (by omega) hx hN
        · refine r_tabI (tgt := 289) dL32 (by decide) (by decide) (by decide) rfl rfl ?_
          exact lc_at hS hM hF hL (by omega) hx hN
        · refine r_tabI (tgt := 312) dL32 (by decide) (by decide) (by decide) rfl rfl ?_
          exact lc_hook hS hM hF hL (by omega) hx hN
        · refine r_tabI (tgt := 345) dL32 (by decide) (by decide) (by decide) rfl rfl ?_
          exact lc_word hS hM hF hL (by omega) hx hN
        · refine r_tabI (tgt := 378) dL32 (by decide) (by decide) (by decide) rfl rfl ?_
          exact lc_turn hS hM hF hL (by omega) hx hN
        · refine r_tabI (tgt := 401) dL32 (by decide) (by decide) (by decide) rfl rfl ?_
          exact lc_cut hS hM hF hL (by omega) hx hN
        · refine r_tabI (tgt := 424) dL32 (by decide) (by decide) (by decide) rfl rfl ?_
          exact lc_eat hS hM hF hL (by omega) hx hN
        · refine r_tabI (tgt := 447) dL32 (by decide) (by decide) (by decide) rfl rfl ?_
          exact lc_sew hS hM hF hL (by omega) hx hN
        · refine r_tabI (tgt := 480) dL32 (by decide) (by decide) (by decide) rfl rfl ?_
          exact lc_rain hS hM hF hL (by omega) hx hN
        · refine r_tabI (tgt := 519) dL32 (by decide) (by decide) (by decide) rfl rfl ?_
          exact lc_wind hS hM hF hL (by omega) hx hN
        · refine r_tabI (tgt := 542) dL32 (by decide) (by decide) (by decide) rfl rfl ?_
          exact lc_year hS hM hF hL (by omega) hx hN
        · refine r_tabI (tgt := 565) dL32 (by decide) (by decide) (by decide) rfl rfl ?_
          exact lc_drift hS hM hF hL (by omega) hx hN
        · refine r_tabI (tgt := 588) dL32 (by decide) (by decide) (by decide) rfl rfl ?_
          exact lc_undo hS hM hF hL (by omega) hx hN
        · refine r_tabI (tgt := 611) dL32 (by decide) (by decide) (by decide) rfl rfl ?_
          exact lc_turnings hS hM hF hL (by omega) hx hN
        · refine r_tabI (tgt := 634) dL32 (by decide) (by decide) (by decide) rfl rfl ?_
          exact lc_loose hS hM hF hL (by omega) hx hN
        · refine r_tabI (tgt := 657) dL32 (by decide) (by decide) (by decide) rfl rfl ?_
          exact lc_felt hS hM hF hL (by omega) hx hN
        · refine r_tabI (tgt := 690) dL32 (by decide) (by decide) (by decide) rfl rfl ?_
          exact lc_farthest hS hM hF hL (by omega) hx hN
        · refine r_tabI (tgt := 713) dL32 (by decide) (by decide) (by decide) rfl rfl ?_
          exact lc_hooked hS hM hF hL (by omega) hx hN
        · refine r_tabI (tgt := 736) dL32 (by decide) (by decide) (by decide) rfl rfl ?_
          exact lc_gap hS hM hF hL (by omega) hx hN
        · refine r_tabI (tgt := 759) dL32 (by decide) (by decide) (by decide) rfl rfl ?_
          exact lc_ends hS hM hF hL (by omega) hx hN
        · refine r_tabI (tgt := 782) dL32 (by decide) (by decide) (by decide) rfl rfl ?_
          exact lc_calm hS hM hF hL (by omega) hx hN
        · refine r_tabI (tgt := 815) dL32 (by decide) (by decide) (by decide) rfl rfl ?_
          exact lc_old hS hM hF hL (by omega) hx hN
        · refine r_tabI (tgt := 874) dL32 (by decide) (by decide) (by decide) rfl rfl ?_
          exact lc_couldBe hS hM hF hL (by omega) hx hN
        · refine r_tabI (tgt := 887) dL32 (by decide) (by decide) (by decide) rfl rfl ?_
          exact lc_next hS hM hF hL (by omega) hx hN
        · refine r_tabI (tgt := 900) dL32 (by decide) (by decide) (by decide) rfl rfl ?_
          exact lc_write hS hM hF hL (by omega) hx hN
        · refine r_tabI (tgt := 933) dL32 (by decide) (by decide) (by decide) rfl rfl ?_
          exact lc_judge hS hM hF hL (by omega) hx hN
        · refine r_tabI (tgt := 946) dL32 (by decide) (by decide) (by decide) rfl rfl ?_
          exact lc_tear hS hM hF hL (by omega) hx hN
        · refine r_tabI (tgt := 959) dL32 (by decide) (by decide) (by decide) rfl rfl ?_
          exact lc_seed hS hM hF hL (by omega) hx hN
        · refine r_tabI (tgt := 982) dL32 (by decide) (by decide) (by decide) rfl rfl ?_
          exact lc_keep hS hM hF hL (by omega) hx hN
        · refine r_tabI (tgt := 1005) dL32 (by decide) (by decide) (by decide) rfl rfl ?_
          exact lc_goBack hS hM hF hL (by omega) hx hN
      · refine r_tabO (tgt := 1028) dL32 hwR (by omega) rfl ?_
        exact hN g hS hM hF
