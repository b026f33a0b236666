/-! The law's cases. -/
theorem law_letters {p : Program} {l : Launch} {e : Env} {s : State} {m : MethodId} {args : Array Value} {below : List Frame} {meth : Method} {c : Code} {kc ks : Nat} {Q : State → Prop} {t : TT} {D : va_G} {al : Int → Nat} {A : Nat → Prop} {b L : Nat} {xs : Nat → Int32} {M : Mem} {i : Int} (X : Cx p s m args c room_1 kc ks cL_law "RedSkiesLaw" 4 t D al A) (hX : va_X b L xs s s.heap) (hbl : b < s.heap.size) (hbA : ¬ A b) (hL : L ≤ 448) (i0 : 0 ≤ i) (i1 : i + 7 ≤ L) (x : IVA M) (kk : ∀ M2, IVA M2 → Gd p l e room_1 s m args below meth c kc ks Q t D al A 1086 [some (.ref b), some (.ref (al 0)), some (.ref (al 114)), some (.int (iN i))] [] M2) : Gd p l e room_1 s m args below meth c kc ks Q t D al A 164 [some (.ref b), some (.ref (al 0)), some (.ref (al 114)), some (.int (iN i))] [] M := by
  refine g_aload_n X dL_law_164 rfl rfl ?_
  refine g_aload_n X dL_law_165 rfl rfl ?_
  refine g_iload_n X dL_law_166 rfl rfl ?_
  refine g_iconst X dL_law_167 ?_
  refine g_iadd X dL_law_168 ?_
  refine g_sld X hX hbl hbA (by omega) (by omega) hL dL_law_169 ?_
  refine g_i2l X dL_law_170 (i32_of _) ?_
  refine g_bipush X dL_law_171 (by decide +kernel) ?_
  refine g_lshl X dL_law_173 ?_
  refine g_aload_n X dL_law_174 rfl rfl ?_
  refine g_iload_n X dL_law_175 rfl rfl ?_
  refine g_iconst X dL_law_176 ?_
  refine g_iadd X dL_law_177 ?_
  refine g_sld X hX hbl hbA (by omega) (by omega) hL dL_law_178 ?_
  refine g_i2l X dL_law_179 (i32_of _) ?_
  refine g_ldc2 X (n := 4294967295) wd_1288 (by decide +kernel) dL_law_180 ?_
  refine g_land X dL_law_183 ?_
  refine g_lor X dL_law_184 ?_
  refine g_callVI X (c_X9_letters l t D al _ _ x.pg x.ig) kd_0 fc8 lk_RL_15 rfl rfl ⟨by decide, by decide⟩ rfl (Nat.le_of_ble_eq_true rfl) dL_law_185 (fun r1 M1 h1 => ?_)
  have qE := oe_letters x  h1
  refine g_aload_n X dL_law_188 rfl rfl ?_
  refine g_aload_n X dL_law_189 rfl rfl ?_
  refine g_iload_n X dL_law_190 rfl rfl ?_
  refine g_iconst X dL_law_191 ?_
  refine g_iadd X dL_law_192 ?_
  refine g_sld X hX hbl hbA (by omega) (by omega) hL dL_law_193 ?_
  refine g_i2l X dL_law_194 (i32_of _) ?_
  refine g_bipush X dL_law_195 (by decide +kernel) ?_
  refine g_lshl X dL_law_197 ?_
  refine g_aload_n X dL_law_198 rfl rfl ?_
  refine g_iload_n X dL_law_199 rfl rfl ?_
  refine g_iconst X dL_law_200 ?_
  refine g_iadd X dL_law_201 ?_
  refine g_sld X hX hbl hbA (by omega) (by omega) hL dL_law_202 ?_
  refine g_i2l X dL_law_203 (i32_of _) ?_
  refine g_ldc2 X (n := 4294967295) wd_1288 (by decide +kernel) dL_law_204 ?_
  refine g_land X dL_law_207 ?_
  refine g_lor X dL_law_208 ?_
  refine g_callVI X (c_X10_letters l t D al _ _ (qE.pgW x.pg).1) kd_114 fc9 lk_RL_19 rfl rfl ⟨by decide, by decide⟩ rfl (Nat.le_of_ble_eq_true rfl) dL_law_209 (fun r2 M2 h2 => ?_)
  obtain ⟨hr, x2⟩ := op_letters x  h1 h2
  exact g_icmp_same (tgt := 1086) X dL_law_212 (by decide) hr (kk M2 x2)
theorem law_blank {p : Program} {l : Launch} {e : Env} {s : State} {m : MethodId} {args : Array Value} {below : List Frame} {meth : Method} {c : Code} {kc ks : Nat} {Q : State → Prop} {t : TT} {D : va_G} {al : Int → Nat} {A : Nat → Prop} {b L : Nat} {xs : Nat → Int32} {M : Mem} {i : Int} (X : Cx p s m args c room_1 kc ks cL_law "RedSkiesLaw" 4 t D al A) (hX : va_X b L xs s s.heap) (hbl : b < s.heap.size) (hbA : ¬ A b) (hL : L ≤ 448) (i0 : 0 ≤ i) (i1 : i + 7 ≤ L) (x : IVA M) (kk : ∀ M2, IVA M2 → Gd p l e room_1 s m args below meth c kc ks Q t D al A 1086 [some (.ref b), some (.ref (al 0)), some (.ref (al 114)), some (.int (iN i))] [] M2) : Gd p l e room_1 s m args below meth c kc ks Q t D al A 217 [some (.ref b), some (.ref (al 0)), some (.ref (al 114)), some (.int (iN i))] [] M := by
  refine g_aload_n X dL_law_217 rfl rfl ?_
  refine g_callVI X (c_X9_blank l t D al _  x.ig) kd_0 fc8 lk_RL_20 rfl rfl ⟨by decide, by decide⟩ rfl (Nat.le_of_ble_eq_true rfl) dL_law_218 (fun r1 M1 h1 => ?_)
  have qE := oe_blank x  h1
  refine g_aload_n X dL_law_221 rfl rfl ?_
  refine g_callVI X (c_X10_blank l t D al _  ) kd_114 fc9 lk_RL_24 rfl rfl ⟨by decide, by decide⟩ rfl (Nat.le_of_ble_eq_true rfl) dL_law_222 (fun r2 M2 h2 => ?_)
  obtain ⟨hr, x2⟩ := op_blank x  h1 h2
  exact g_icmp_same (tgt := 1086) X dL_law_225 (by decide) hr (kk M2 x2)
theorem law_fault {p : Program} {l : Launch} {e : Env} {s : State} {m : MethodId} {args : Array Value} {below : List Frame} {meth : Method} {c : Code} {kc ks : Nat} {Q : State → Prop} {t : TT} {D : va_G} {al : Int → Nat} {A : Nat → Prop} {b L : Nat} {xs : Nat → Int32} {M : Mem} {i : Int} (X : Cx p s m args c room_1 kc ks cL_law "RedSkiesLaw" 4 t D al A) (hX : va_X b L xs s s.heap) (hbl : b < s.heap.size) (hbA : ¬ A b) (hL : L ≤ 448) (i0 : 0 ≤ i) (i1 : i + 7 ≤ L) (x : IVA M) (kk : ∀ M2, IVA M2 → Gd p l e room_1 s m args below meth c kc ks Q t D al A 1086 [some (.ref b), some (.ref (al 0)), some (.ref (al 114)), some (.int (iN i))] [] M2) : Gd p l e room_1 s m args below meth c kc ks Q t D al A 230 [some (.ref b), some (.ref (al 0)), some (.ref (al 114)), some (.int (iN i))] [] M := by
  refine g_aload_n X dL_law_230 rfl rfl ?_
  refine g_aload_n X dL_law_231 rfl rfl ?_
  refine g_iload_n X dL_law_232 rfl rfl ?_
  refine g_iconst X dL_law_233 ?_
  refine g_iadd X dL_law_234 ?_
  refine g_sld X hX hbl hbA (by omega) (by omega) hL dL_law_235 ?_
  refine g_callVI X (c_X9_fault l t D al _ _ (i32_of _) x.pg x.ig x.bb) kd_0 fc8 lk_RL_25 rfl rfl ⟨by decide, by decide⟩ rfl (Nat.le_of_ble_eq_true rfl) dL_law_236 (fun r1 M1 h1 => ?_)
  have qE := oe_fault x (i32_of _) h1
  refine g_aload_n X dL_law_239 rfl rfl ?_
  refine g_aload_n X dL_law_240 rfl rfl ?_
  refine g_iload_n X dL_law_241 rfl rfl ?_
  refine g_iconst X dL_law_242 ?_
  refine g_iadd X dL_law_243 ?_
  refine g_sld X hX hbl hbA (by omega) (by omega) hL dL_law_244 ?_
  refine g_callVI X (c_X10_fault l t D al _ _ (i32_of _) (qE.pgW x.pg) (qE.bbW x.bb)) kd_114 fc9 lk_RL_29 rfl rfl ⟨by decide, by decide⟩ rfl (Nat.le_of_ble_eq_true rfl) dL_law_245 (fun r2 M2 h2 => ?_)
  obtain ⟨hr, x2⟩ := op_fault x (i32_of _) h1 h2
  exact g_icmp_same (tgt := 1086) X dL_law_248 (by decide) hr (kk M2 x2)
theorem law_lamp {p : Program} {l : Launch} {e : Env} {s : State} {m : MethodId} {args : Array Value} {below : List Frame} {meth : Method} {c : Code} {kc ks : Nat} {Q : State → Prop} {t : TT} {D : va_G} {al : Int → Nat} {A : Nat → Prop} {b L : Nat} {xs : Nat → Int32} {M : Mem} {i : Int} (X : Cx p s m args c room_1 kc ks cL_law "RedSkiesLaw" 4 t D al A) (hX : va_X b L xs s s.heap) (hbl : b < s.heap.size) (hbA : ¬ A b) (hL : L ≤ 448) (i0 : 0 ≤ i) (i1 : i + 7 ≤ L) (x : IVA M) (kk : ∀ M2, IVA M2 → Gd p l e room_1 s m args below meth c kc ks Q t D al A 1086 [some (.ref b), some (.ref (al 0)), some (.ref (al 114)), some (.int (iN i))] [] M2) : Gd p l e room_1 s m args below meth c kc ks Q t D al A 253 [some (.ref b), some (.ref (al 0)), some (.ref (al 114)), some (.int (iN i))] [] M := by
  refine g_aload_n X dL_law_253 rfl rfl ?_
  refine g_callVI X (c_X9_lamp l t D al _  x.iv x.pg x.ig x.bb) kd_0 fc8 lk_RL_30 rfl rfl ⟨by decide, by decide⟩ rfl (Nat.le_of_ble_eq_true rfl) dL_law_254 (fun r1 M1 h1 => ?_)
  have qE := oe_lamp x  h1
  refine g_aload_n X dL_law_257 rfl rfl ?_
  refine g_callVI X (c_X10_lamp l t D al _  (qE.WV x.w).1 (qE.pgW x.pg) (qE.bbW x.bb)) kd_114 fc9 lk_RL_33 rfl rfl ⟨by decide, by decide⟩ rfl (Nat.le_of_ble_eq_true rfl) dL_law_258 (fun r2 M2 h2 => ?_)
  obtain ⟨hr, x2⟩ := op_lamp x  h1 h2
  exact g_icmp_same (tgt := 1086) X dL_law_261 (by decide) hr (kk M2 x2)
theorem law_measure {p : Program} {l : Launch} {e : Env} {s : State} {m : MethodId} {args : Array Value} {below : List Frame} {meth : Method} {c : Code} {kc ks : Nat} {Q : State → Prop} {t : TT} {D : va_G} {al : Int → Nat} {A : Nat → Prop} {b L : Nat} {xs : Nat → Int32} {M : Mem} {i : Int} (X : Cx p s m args c room_1 kc ks cL_law "RedSkiesLaw" 4 t D al A) (hX : va_X b L xs s s.heap) (hbl : b < s.heap.size) (hbA : ¬ A b) (hL : L ≤ 448) (i0 : 0 ≤ i) (i1 : i + 7 ≤ L) (x : IVA M) (kk : ∀ M2, IVA M2 → Gd p l e room_1 s m args below meth c kc ks Q t D al A 1086 [some (.ref b), some (.ref (al 0)), some (.ref (al 114)), some (.int (iN i))] [] M2) : Gd p l e room_1 s m args below meth c kc ks Q t D al A 266 [some (.ref b), some (.ref (al 0)), some (.ref (al 114)), some (.int (iN i))] [] M := by
  refine g_aload_n X dL_law_266 rfl rfl ?_
  refine g_callVI X (c_X9_measure l t D al _  x.iv x.pg x.ig x.bb) kd_0 fc8 lk_RL_34 rfl rfl ⟨by decide, by decide⟩ rfl (Nat.le_of_ble_eq_true rfl) dL_law_267 (fun r1 M1 h1 => ?_)
  have qE := oe_measure x  h1
  refine g_aload_n X dL_law_270 rfl rfl ?_
  refine g_callVI X (c_X10_measure l t D al _  (qE.WV x.w).1 (qE.pgW x.pg) (qE.bbW x.bb)) kd_114 fc9 lk_RL_37 rfl rfl ⟨by decide, by decide⟩ rfl (Nat.le_of_ble_eq_true rfl) dL_law_271 (fun r2 M2 h2 => ?_)
  obtain ⟨hr, x2⟩ := op_measure x  h1 h2
  exact g_icmp_same (tgt := 1086) X dL_law_274 (by decide) hr (kk M2 x2)
theorem law_law {p : Program} {l : Launch} {e : Env} {s : State} {m : MethodId} {args : Array Value} {below : List Frame} {meth : Method} {c : Code} {kc ks : Nat} {Q : State → Prop} {t : TT} {D : va_G} {al : Int → Nat} {A : Nat → Prop} {b L : Nat} {xs : Nat → Int32} {M : Mem} {i : Int} (X : Cx p s m args c room_1 kc ks cL_law "RedSkiesLaw" 4 t D al A) (hX : va_X b L xs s s.heap) (hbl : b < s.heap.size) (hbA : ¬ A b) (hL : L ≤ 448) (i0 : 0 ≤ i) (i1 : i + 7 ≤ L) (x : IVA M) (kk : ∀ M2, IVA M2 → Gd p l e room_1 s m args below meth c kc ks Q t D al A 1086 [some (.ref b), some (.ref (al 0)), some (.ref (al 114)), some (.int (iN i))] [] M2) : Gd p l e room_1 s m args below meth c kc ks Q t D al A 279 [some (.ref b), some (.ref (al 0)), some (.ref (al 114)), some (.int (iN i))] [] M := by
  refine g_aload_n X dL_law_279 rfl rfl ?_
  refine g_callVI X (c_X9_law l t D al _  x.iv x.pg x.ig x.bb) kd_0 fc8 lk_RL_38 rfl rfl ⟨by decide, by decide⟩ rfl (Nat.le_of_ble_eq_true rfl) dL_law_280 (fun r1 M1 h1 => ?_)
  have qE := oe_law x  h1
  refine g_aload_n X dL_law_283 rfl rfl ?_
  refine g_callVI X (c_X10_law l t D al _  (qE.WV x.w).1 (qE.pgW x.pg) (qE.bbW x.bb)) kd_114 fc9 lk_RL_41 rfl rfl ⟨by decide, by decide⟩ rfl (Nat.le_of_ble_eq_true rfl) dL_law_284 (fun r2 M2 h2 => ?_)
  obtain ⟨hr, x2⟩ := op_law x  h1 h2
  exact g_icmp_same (tgt := 1086) X dL_law_287 (by decide) hr (kk M2 x2)
theorem law_pigment {p : Program} {l : Launch} {e : Env} {s : State} {m : MethodId} {args : Array Value} {below : List Frame} {meth : Method} {c : Code} {kc ks : Nat} {Q : State → Prop} {t : TT} {D : va_G} {al : Int → Nat} {A : Nat → Prop} {b L : Nat} {xs : Nat → Int32} {M : Mem} {i : Int} (X : Cx p s m args c room_1 kc ks cL_law "RedSkiesLaw" 4 t D al A) (hX : va_X b L xs s s.heap) (hbl : b < s.heap.size) (hbA : ¬ A b) (hL : L ≤ 448) (i0 : 0 ≤ i) (i1 : i + 7 ≤ L) (x : IVA M) (kk : ∀ M2, IVA M2 → Gd p l e room_1 s m args below meth c kc ks Q t D al A 1086 [some (.ref b), some (.ref (al 0)), some (.ref (al 114)), some (.int (iN i))] [] M2) : Gd p l e room_1 s m args below meth c kc ks Q t D al A 292 [some (.ref b), some (.ref (al 0)), some (.ref (al 114)), some (.int (iN i))] [] M := by
  refine g_aload_n X dL_law_292 rfl rfl ?_
  refine g_aload_n X dL_law_293 rfl rfl ?_
  refine g_iload_n X dL_law_294 rfl rfl ?_
  refine g_iconst X dL_law_295 ?_
  refine g_iadd X dL_law_296 ?_
  refine g_sld X hX hbl hbA (by omega) (by omega) hL dL_law_297 ?_
  refine g_aload_n X dL_law_298 rfl rfl ?_
  refine g_iload_n X dL_law_299 rfl rfl ?_
  refine g_iconst X dL_law_300 ?_
  refine g_iadd X dL_law_301 ?_
  refine g_sld X hX hbl hbA (by omega) (by omega) hL dL_law_302 ?_
  refine g_callVI X (c_X9_pigment l t D al _ _ _ x.iv (i32_of _) (i32_of _)) kd_0 fc8 lk_RL_42 rfl rfl ⟨by decide, by decide⟩ rfl (Nat.le_of_ble_eq_true rfl) dL_law_303 (fun r1 M1 h1 => ?_)
  have qE := oe_pigment x (i32_of _) (i32_of _) h1
  refine g_aload_n X dL_law_306 rfl rfl ?_
  refine g_aload_n X dL_law_307 rfl rfl ?_
  refine g_iload_n X dL_law_308 rfl rfl ?_
  refine g_iconst X dL_law_309 ?_
  refine g_iadd X dL_law_310 ?_
  refine g_sld X hX hbl hbA (by omega) (by omega) hL dL_law_311 ?_
  refine g_aload_n X dL_law_312 rfl rfl ?_
  refine g_iload_n X dL_law_313 rfl rfl ?_
  refine g_iconst X dL_law_314 ?_
  refine g_iadd X dL_law_315 ?_
  refine g_sld X hX hbl hbA (by omega) (by omega) hL dL_law_316 ?_
  refine g_callVI X (c_X10_pigment l t D al _ _ _ (qE.WV x.w).pig.1 (i32_of _) (i32_of _)) kd_114 fc9 lk_RL_46 rfl rfl ⟨by decide, by decide⟩ rfl (Nat.le_of_ble_eq_true rfl) dL_law_317 (fun r2 M2 h2 => ?_)
  obtain ⟨hr, x2⟩ := op_pigment x (i32_of _) (i32_of _) h1 h2
  exact g_icmp_same (tgt := 1086) X dL_law_320 (by decide) hr (kk M2 x2)
theorem law_picture {p : Program} {l : Launch} {e : Env} {s : State} {m : MethodId} {args : Array Value} {below : List Frame} {meth : Method} {c : Code} {kc ks : Nat} {Q : State → Prop} {t : TT} {D : va_G} {al : Int → Nat} {A : Nat → Prop} {b L : Nat} {xs : Nat → Int32} {M : Mem} {i : Int} (X : Cx p s m args c room_1 kc ks cL_law "RedSkiesLaw" 4 t D al A) (hX : va_X b L xs s s.heap) (hbl : b < s.heap.size) (hbA : ¬ A b) (hL : L ≤ 448) (i0 : 0 ≤ i) (i1 : i + 7 ≤ L) (x : IVA M) (kk : ∀ M2, IVA M2 → Gd p l e room_1 s m args below meth c kc ks Q t D al A 1086 [some (.ref b), some (.ref (al 0)), some (.ref (al 114)), some (.int (iN i))] [] M2) : Gd p l e room_1 s m args below meth c kc ks Q t D al A 325 [some (.ref b), some (.ref (al 0)), some (.ref (al 114)), some (.int (iN i))] [] M := by
  refine g_aload_n X dL_law_325 rfl rfl ?_
  refine g_aload_n X dL_law_326 rfl rfl ?_
  refine g_iload_n X dL_law_327 rfl rfl ?_
  refine g_iconst X dL_law_328 ?_
  refine g_iadd X dL_law_329 ?_
  refine g_sld X hX hbl hbA (by omega) (by omega) hL dL_law_330 ?_
  refine g_aload_n X dL_law_331 rfl rfl ?_
  refine g_iload_n X dL_law_332 rfl rfl ?_
  refine g_iconst X dL_law_333 ?_
  refine g_iadd X dL_law_334 ?_
  refine g_sld X hX hbl hbA (by omega) (by omega) hL dL_law_335 ?_
  refine g_aload_n X dL_law_336 rfl rfl ?_
  refine g_iload_n X dL_law_337 rfl rfl ?_
  refine g_iconst X dL_law_338 ?_
  refine g_iadd X dL_law_339 ?_
  refine g_sld X hX hbl hbA (by omega) (by omega) hL dL_law_340 ?_
  refine g_aload_n X dL_law_341 rfl rfl ?_
  refine g_iload_n X dL_law_342 rfl rfl ?_
  refine g_iconst X dL_law_343 ?_
  refine g_iadd X dL_law_344 ?_
  refine g_sld X hX hbl hbA (by omega) (by omega) hL dL_law_345 ?_
  refine g_aload_n X dL_law_346 rfl rfl ?_
  refine g_iload_n X dL_law_347 rfl rfl ?_
  refine g_iconst X dL_law_348 ?_
  refine g_iadd X dL_law_349 ?_
  refine g_sld X hX hbl hbA (by omega) (by omega) hL dL_law_350 ?_
  refine g_aload_n X dL_law_351 rfl rfl ?_
  refine g_iload_n X dL_law_352 rfl rfl ?_
  refine g_bipush X dL_law_353 (by decide +kernel) ?_
  refine g_iadd X dL_law_355 ?_
  refine g_sld X hX hbl hbA (by omega) (by omega) hL dL_law_356 ?_
  refine g_callVI X (c_X9_picture l t D al _ _ _ _ _ _ _ x.iv (i32_of _) (i32_of _) (i32_of _) (i32_of _) (i32_of _) (i32_of _)) kd_0 fc8 lk_RL_47 rfl rfl ⟨by decide, by decide⟩ rfl (Nat.le_of_ble_eq_true rfl) dL_law_357 (fun r1 M1 h1 => ?_)
  have qE := oe_picture x (i32_of _) (i32_of _) (i32_of _) (i32_of _) (i32_of _) (i32_of _) h1
  refine g_aload_n X dL_law_360 rfl rfl ?_
  refine g_aload_n X dL_law_361 rfl rfl ?_
  refine g_iload_n X dL_law_362 rfl rfl ?_
  refine g_iconst X dL_law_363 ?_
  refine g_iadd X dL_law_364 ?_
  refine g_sld X hX hbl hbA (by omega) (by omega) hL dL_law_365 ?_
  refine g_aload_n X dL_law_366 rfl rfl ?_
  refine g_iload_n X dL_law_367 rfl rfl ?_
  refine g_iconst X dL_law_368 ?_
  refine g_iadd X dL_law_369 ?_
  refine g_sld X hX hbl hbA (by omega) (by omega) hL dL_law_370 ?_
  refine g_aload_n X dL_law_371 rfl rfl ?_
  refine g_iload_n X dL_law_372 rfl rfl ?_
  refine g_iconst X dL_law_373 ?_
  refine g_iadd X dL_law_374 ?_
  refine g_sld X hX hbl hbA (by omega) (by omega) hL dL_law_375 ?_
  refine g_aload_n X dL_law_376 rfl rfl ?_
  refine g_iload_n X dL_law_377 rfl rfl ?_
  refine g_iconst X dL_law_378 ?_
  refine g_iadd X dL_law_379 ?_
  refine g_sld X hX hbl hbA (by omega) (by omega) hL dL_law_380 ?_
  refine g_aload_n X dL_law_381 rfl rfl ?_
  refine g_iload_n X dL_law_382 rfl rfl ?_
  refine g_iconst X dL_law_383 ?_
  refine g_iadd X dL_law_384 ?_
  refine g_sld X hX hbl hbA (by omega) (by omega) hL dL_law_385 ?_
  refine g_aload_n X dL_law_386 rfl rfl ?_
  refine g_iload_n X dL_law_387 rfl rfl ?_
  refine g_bipush X dL_law_388 (by decide +kernel) ?_
  refine g_iadd X dL_law_390 ?_
  refine g_sld X hX hbl hbA (by omega) (by omega) hL dL_law_391 ?_
  refine g_callVI X (c_X10_picture l t D al _ _ _ _ _ _ _ (qE.WV x.w) (i32_of _) (i32_of _) (i32_of _) (i32_of _) (i32_of _) (i32_of _)) kd_114 fc9 lk_RL_51 rfl rfl ⟨by decide, by decide⟩ rfl (Nat.le_of_ble_eq_true rfl) dL_law_392 (fun r2 M2 h2 => ?_)
  obtain ⟨hr, x2⟩ := op_picture x (i32_of _) (i32_of _) (i32_of _) (i32_of _) (i32_of _) (i32_of _) h1 h2
  exact g_icmp_same (tgt := 1086) X dL_law_395 (by decide) hr (kk M2 x2)
theorem law_colour {p : Program} {l : Launch} {e : Env} {s : State} {m : MethodId} {args : Array Value} {below : List Frame} {meth : Method} {c : Code} {kc ks : Nat} {Q : State → Prop} {t : TT} {D : va_G} {al : Int → Nat} {A : Nat → Prop} {b L : Nat} {xs : Nat → Int32} {M : Mem} {i : Int} (X : Cx p s m args c room_1 kc ks cL_law "RedSkiesLaw" 4 t D al A) (hX : va_X b L xs s s.heap) (hbl : b < s.heap.size) (hbA : ¬ A b) (hL : L ≤ 448) (i0 : 0 ≤ i) (i1 : i + 7 ≤ L) (x : IVA M) (kk : ∀ M2, IVA M2 → Gd p l e room_1 s m args below meth c kc ks Q t D al A 1086 [some (.ref b), some (.ref (al 0)), some (.ref (al 114)), some (.int (iN i))] [] M2) : Gd p l e room_1 s m args below meth c kc ks Q t D al A 400 [some (.ref b), some (.ref (al 0)), some (.ref (al 114)), some (.int (iN i))] [] M := by
  refine g_aload_n X dL_law_400 rfl rfl ?_
  refine g_aload_n X dL_law_401 rfl rfl ?_
  refine g_iload_n X dL_law_402 rfl rfl ?_
  refine g_iconst X dL_law_403 ?_
  refine g_iadd X dL_law_404 ?_
  refine g_sld X hX hbl hbA (by omega) (by omega) hL dL_law_405 ?_
  refine g_aload_n X dL_law_406 rfl rfl ?_
  refine g_iload_n X dL_law_407 rfl rfl ?_
  refine g_iconst X dL_law_408 ?_
  refine g_iadd X dL_law_409 ?_
  refine g_sld X hX hbl hbA (by omega) (by omega) hL dL_law_410 ?_
  refine g_aload_n X dL_law_411 rfl rfl ?_
  refine g_iload_n X dL_law_412 rfl rfl ?_
  refine g_iconst X dL_law_413 ?_
  refine g_iadd X dL_law_414 ?_
  refine g_sld X hX hbl hbA (by omega) (by omega) hL dL_law_415 ?_
  refine g_aload_n X dL_law_416 rfl rfl ?_
  refine g_iload_n X dL_law_417 rfl rfl ?_
  refine g_iconst X dL_law_418 ?_
  refine g_iadd X dL_law_419 ?_
  refine g_sld X hX hbl hbA (by omega) (by omega) hL dL_law_420 ?_
  refine g_callVI X (c_X9_colour l t D al _ _ _ _ _ x.iv (i32_of _) (i32_of _) (i32_of _) (i32_of _)) kd_0 fc8 lk_RL_52 rfl rfl ⟨by decide, by decide⟩ rfl (Nat.le_of_ble_eq_true rfl) dL_law_421 (fun r1 M1 h1 => ?_)
  have qE := oe_colour x (i32_of _) (i32_of _) (i32_of _) (i32_of _) h1
  refine g_aload_n X dL_law_424 rfl rfl ?_
  refine g_aload_n X dL_law_425 rfl rfl ?_
  refine g_iload_n X dL_law_426 rfl rfl ?_
  refine g_iconst X dL_law_427 ?_
  refine g_iadd X dL_law_428 ?_
  refine g_sld X hX hbl hbA (by omega) (by omega) hL dL_law_429 ?_
  refine g_aload_n X dL_law_430 rfl rfl ?_
  refine g_iload_n X dL_law_431 rfl rfl ?_
  refine g_iconst X dL_law_432 ?_
  refine g_iadd X dL_law_433 ?_
  refine g_sld X hX hbl hbA (by omega) (by omega) hL dL_law_434 ?_
  refine g_aload_n X dL_law_435 rfl rfl ?_
  refine g_iload_n X dL_law_436 rfl rfl ?_
  refine g_iconst X dL_law_437 ?_
  refine g_iadd X dL_law_438 ?_
  refine g_sld X hX hbl hbA (by omega) (by omega) hL dL_law_439 ?_
  refine g_aload_n X dL_law_440 rfl rfl ?_
  refine g_iload_n X dL_law_441 rfl rfl ?_
  refine g_iconst X dL_law_442 ?_
  refine g_iadd X dL_law_443 ?_
  refine g_sld X hX hbl hbA (by omega) (by omega) hL dL_law_444 ?_
  refine g_callVI X (c_X10_colour l t D al _ _ _ _ _ (qE.WV x.w) (i32_of _) (i32_of _) (i32_of _) (i32_of _)) kd_114 fc9 lk_RL_56 rfl rfl ⟨by decide, by decide⟩ rfl (Nat.le_of_ble_eq_true rfl) dL_law_445 (fun r2 M2 h2 => ?_)
  obtain ⟨hr, x2⟩ := op_colour x (i32_of _) (i32_of _) (i32_of _) (i32_of _) h1 h2
  exact g_icmp_same (tgt := 1086) X dL_law_448 (by decide) hr (kk M2 x2)
theorem law_as {p : Program} {l : Launch} {e : Env} {s : State} {m : MethodId} {args : Array Value} {below : List Frame} {meth : Method} {c : Code} {kc ks : Nat} {Q : State → Prop} {t : TT} {D : va_G} {al : Int → Nat} {A : Nat → Prop} {b L : Nat} {xs : Nat → Int32} {M : Mem} {i : Int} (X : Cx p s m args c room_1 kc ks cL_law "RedSkiesLaw" 4 t D al A) (hX : va_X b L xs s s.heap) (hbl : b < s.heap.size) (hbA : ¬ A b) (hL : L ≤ 448) (i0 : 0 ≤ i) (i1 : i + 7 ≤ L) (x : IVA M) (kk : ∀ M2, IVA M2 → Gd p l e room_1 s m args below meth c kc ks Q t D al A 1086 [some (.ref b), some (.ref (al 0)), some (.ref (al 114)), some (.int (iN i))] [] M2) : Gd p l e room_1 s m args below meth c kc ks Q t D al A 453 [some (.ref b), some (.ref (al 0)), some (.ref (al 114)), some (.int (iN i))] [] M := by
  refine g_aload_n X dL_law_453 rfl rfl ?_
  refine g_aload_n X dL_law_454 rfl rfl ?_
  refine g_iload_n X dL_law_455 rfl rfl ?_
  refine g_iconst X dL_law_456 ?_
  refine g_iadd X dL_law_457 ?_
  refine g_sld X hX hbl hbA (by omega) (by omega) hL dL_law_458 ?_
  refine g_aload_n X dL_law_459 rfl rfl ?_
  refine g_iload_n X dL_law_460 rfl rfl ?_
  refine g_iconst X dL_law_461 ?_
  refine g_iadd X dL_law_462 ?_
  refine g_sld X hX hbl hbA (by omega) (by omega) hL dL_law_463 ?_
  refine g_callVI X (c_X9_as l t D al _ _ _ x.iv (i32_of _) (i32_of _)) kd_0 fc8 lk_RL_57 rfl rfl ⟨by decide, by decide⟩ rfl (Nat.le_of_ble_eq_true rfl) dL_law_464 (fun r1 M1 h1 => ?_)
  have qE := oe_as x (i32_of _) (i32_of _) h1
  refine g_aload_n X dL_law_467 rfl rfl ?_
  refine g_aload_n X dL_law_468 rfl rfl ?_
  refine g_iload_n X dL_law_469 rfl rfl ?_
  refine g_iconst X dL_law_470 ?_
  refine g_iadd X dL_law_471 ?_
  refine g_sld X hX hbl hbA (by omega) (by omega) hL dL_law_472 ?_
  refine g_aload_n X dL_law_473 rfl rfl ?_
  refine g_iload_n X dL_law_474 rfl rfl ?_
  refine g_iconst X dL_law_475 ?_
  refine g_iadd X dL_law_476 ?_
  refine g_sld X hX hbl hbA (by omega) (by omega) hL dL_law_477 ?_
  refine g_callVI X (c_X10_as l t D al _ _ _ (qE.WV x.w) (i32_of _) (i32_of _)) kd_114 fc9 lk_RL_60 rfl rfl ⟨by decide, by decide⟩ rfl (Nat.le_of_ble_eq_true rfl) dL_law_478 (fun r2 M2 h2 => ?_)
  obtain ⟨hr, x2⟩ := op_as x (i32_of _) (i32_of _) h1 h2
  exact g_icmp_same (tgt := 1086) X dL_law_481 (by decide) hr (kk M2 x2)
theorem law_about {p : Program} {l : Launch} {e : Env} {s : State} {m : MethodId} {args : Array Value} {below : List Frame} {meth : Method} {c : Code} {kc ks : Nat} {Q : State → Prop} {t : TT} {D : va_G} {al : Int → Nat} {A : Nat → Prop} {b L : Nat} {xs : Nat → Int32} {M : Mem} {i : Int} (X : Cx p s m args c room_1 kc ks cL_law "RedSkiesLaw" 4 t D al A) (hX : va_X b L xs s s.heap) (hbl : b < s.heap.size) (hbA : ¬ A b) (hL : L ≤ 448) (i0 : 0 ≤ i) (i1 : i + 7 ≤ L) (x : IVA M) (kk : ∀ M2, IVA M2 → Gd p l e room_1 s m args below meth c kc ks Q t D al A 1086 [some (.ref b), some (.ref (al 0)), some (.ref (al 114)), some (.int (iN i))] [] M2) : Gd p l e room_1 s m args below meth c kc ks Q t D al A 486 [some (.ref b), some (.ref (al 0)), some (.ref (al 114)), some (.int (iN i))] [] M := by
  refine g_aload_n X dL_law_486 rfl rfl ?_
  refine g_aload_n X dL_law_487 rfl rfl ?_
  refine g_iload_n X dL_law_488 rfl rfl ?_
  refine g_iconst X dL_law_489 ?_
  refine g_iadd X dL_law_490 ?_
  refine g_sld X hX hbl hbA (by omega) (by omega) hL dL_law_491 ?_
  refine g_aload_n X dL_law_492 rfl rfl ?_
  refine g_iload_n X dL_law_493 rfl rfl ?_
  refine g_iconst X dL_law_494 ?_
  refine g_iadd X dL_law_495 ?_
  refine g_sld X hX hbl hbA (by omega) (by omega) hL dL_law_496 ?_
  refine g_callVI X (c_X9_about l t D al _ _ _ x.iv (i32_of _) (i32_of _)) kd_0 fc8 lk_RL_61 rfl rfl ⟨by decide, by decide⟩ rfl (Nat.le_of_ble_eq_true rfl) dL_law_497 (fun r1 M1 h1 => ?_)
  have qE := oe_about x (i32_of _) (i32_of _) h1
  refine g_aload_n X dL_law_500 rfl rfl ?_
  refine g_aload_n X dL_law_501 rfl rfl ?_
  refine g_iload_n X dL_law_502 rfl rfl ?_
  refine g_iconst X dL_law_503 ?_
  refine g_iadd X dL_law_504 ?_
  refine g_sld X hX hbl hbA (by omega) (by omega) hL dL_law_505 ?_
  refine g_aload_n X dL_law_506 rfl rfl ?_
  refine g_iload_n X dL_law_507 rfl rfl ?_
  refine g_iconst X dL_law_508 ?_
  refine g_iadd X dL_law_509 ?_
  refine g_sld X hX hbl hbA (by omega) (by omega) hL dL_law_510 ?_
  refine g_callVI X (c_X10_about l t D al _ _ _ (qE.WV x.w) (i32_of _) (i32_of _)) kd_114 fc9 lk_RL_64 rfl rfl ⟨by decide, by decide⟩ rfl (Nat.le_of_ble_eq_true rfl) dL_law_511 (fun r2 M2 h2 => ?_)
  obtain ⟨hr, x2⟩ := op_about x (i32_of _) (i32_of _) h1 h2
  exact g_icmp_same (tgt := 1086) X dL_law_514 (by decide) hr (kk M2 x2)
theorem law_value {p : Program} {l : Launch} {e : Env} {s : State} {m : MethodId} {args : Array Value} {below : List Frame} {meth : Method} {c : Code} {kc ks : Nat} {Q : State → Prop} {t : TT} {D : va_G} {al : Int → Nat} {A : Nat → Prop} {b L : Nat} {xs : Nat → Int32} {M : Mem} {i : Int} (X : Cx p s m args c room_1 kc ks cL_law "RedSkiesLaw" 4 t D al A) (hX : va_X b L xs s s.heap) (hbl : b < s.heap.size) (hbA : ¬ A b) (hL : L ≤ 448) (i0 : 0 ≤ i) (i1 : i + 7 ≤ L) (x : IVA M) (kk : ∀ M2, IVA M2 → Gd p l e room_1 s m args below meth c kc ks Q t D al A 1086 [some (.ref b), some (.ref (al 0)), some (.ref (al 114)), some (.int (iN i))] [] M2) : Gd p l e room_1 s m args below meth c kc ks Q t D al A 519 [some (.ref b), some (.ref (al 0)), some (.ref (al 114)), some (.int (iN i))] [] M := by
  refine g_aload_n X dL_law_519 rfl rfl ?_
  refine g_aload_n X dL_law_520 rfl rfl ?_
  refine g_iload_n X dL_law_521 rfl rfl ?_
  refine g_iconst X dL_law_522 ?_
  refine g_iadd X dL_law_523 ?_
  refine g_sld X hX hbl hbA (by omega) (by omega) hL dL_law_524 ?_
  refine g_aload_n X dL_law_525 rfl rfl ?_
  refine g_iload_n X dL_law_526 rfl rfl ?_
  refine g_iconst X dL_law_527 ?_
  refine g_iadd X dL_law_528 ?_
  refine g_sld X hX hbl hbA (by omega) (by omega) hL dL_law_529 ?_
  refine g_callVI X (c_X9_value l t D al _ _ _ x.iv (i32_of _) (i32_of _)) kd_0 fc8 lk_RL_65 rfl rfl ⟨by decide, by decide⟩ rfl (Nat.le_of_ble_eq_true rfl) dL_law_530 (fun r1 M1 h1 => ?_)
  have qE := oe_value x (i32_of _) (i32_of _) h1
  refine g_aload_n X dL_law_533 rfl rfl ?_
  refine g_aload_n X dL_law_534 rfl rfl ?_
  refine g_iload_n X dL_law_535 rfl rfl ?_
  refine g_iconst X dL_law_536 ?_
  refine g_iadd X dL_law_537 ?_
  refine g_sld X hX hbl hbA (by omega) (by omega) hL dL_law_538 ?_
  refine g_aload_n X dL_law_539 rfl rfl ?_
  refine g_iload_n X dL_law_540 rfl rfl ?_
  refine g_iconst X dL_law_541 ?_
  refine g_iadd X dL_law_542 ?_
  refine g_sld X hX hbl hbA (by omega) (by omega) hL dL_law_543 ?_
  refine g_callVI X (c_X10_value l t D al _ _ _ (qE.WV x.w) (i32_of _) (i32_of _)) kd_114 fc9 lk_RL_68 rfl rfl ⟨by decide, by decide⟩ rfl (Nat.le_of_ble_eq_true rfl) dL_law_544 (fun r2 M2 h2 => ?_)
  obtain ⟨hr, x2⟩ := op_value x (i32_of _) (i32_of _) h1 h2
  exact g_icmp_same (tgt := 1086) X dL_law_547 (by decide) hr (kk M2 x2)
theorem law_mountain {p : Program} {l : Launch} {e : Env} {s : State} {m : MethodId} {args : Array Value} {below : List Frame} {meth : Method} {c : Code} {kc ks : Nat} {Q : State → Prop} {t : TT} {D : va_G} {al : Int → Nat} {A : Nat → Prop} {b L : Nat} {xs : Nat → Int32} {M : Mem} {i : Int} (X : Cx p s m args c room_1 kc ks cL_law "RedSkiesLaw" 4 t D al A) (hX : va_X b L xs s s.heap) (hbl : b < s.heap.size) (hbA : ¬ A b) (hL : L ≤ 448) (i0 : 0 ≤ i) (i1 : i + 7 ≤ L) (x : IVA M) (kk : ∀ M2, IVA M2 → Gd p l e room_1 s m args below meth c kc ks Q t D al A 1086 [some (.ref b), some (.ref (al 0)), some (.ref (al 114)), some (.int (iN i))] [] M2) : Gd p l e room_1 s m args below meth c kc ks Q t D al A 552 [some (.ref b), some (.ref (al 0)), some (.ref (al 114)), some (.int (iN i))] [] M := by
  refine g_aload_n X dL_law_552 rfl rfl ?_
  refine g_aload_n X dL_law_553 rfl rfl ?_
  refine g_iload_n X dL_law_554 rfl rfl ?_
  refine g_iconst X dL_law_555 ?_
  refine g_iadd X dL_law_556 ?_
  refine g_sld X hX hbl hbA (by omega) (by omega) hL dL_law_557 ?_
  refine g_callVI X (c_X9_mountain l t D al _ _ x.iv (i32_of _)) kd_0 fc8 lk_RL_69 rfl rfl ⟨by decide, by decide⟩ rfl (Nat.le_of_ble_eq_true rfl) dL_law_558 (fun r1 M1 h1 => ?_)
  have qE := oe_mountain x (i32_of _) h1
  refine g_aload_n X dL_law_561 rfl rfl ?_
  refine g_aload_n X dL_law_562 rfl rfl ?_
  refine g_iload_n X dL_law_563 rfl rfl ?_
  refine g_iconst X dL_law_564 ?_
  refine g_iadd X dL_law_565 ?_
  refine g_sld X hX hbl hbA (by omega) (by omega) hL dL_law_566 ?_
  refine g_callVI X (c_X10_mountain l t D al _ _ (qE.WV x.w).n.2.1 (i32_of _)) kd_114 fc9 lk_RL_72 rfl rfl ⟨by decide, by decide⟩ rfl (Nat.le_of_ble_eq_true rfl) dL_law_567 (fun r2 M2 h2 => ?_)
  obtain ⟨hr, x2⟩ := op_mountain x (i32_of _) h1 h2
  exact g_icmp_same (tgt := 1086) X dL_law_570 (by decide) hr (kk M2 x2)
theorem law_near {p : Program} {l : Launch} {e : Env} {s : State} {m : MethodId} {args : Array Value} {below : List Frame} {meth : Method} {c : Code} {kc ks : Nat} {Q : State → Prop} {t : TT} {D : va_G} {al : Int → Nat} {A : Nat → Prop} {b L : Nat} {xs : Nat → Int32} {M : Mem} {i : Int} (X : Cx p s m args c room_1 kc ks cL_law "RedSkiesLaw" 4 t D al A) (hX : va_X b L xs s s.heap) (hbl : b < s.heap.size) (hbA : ¬ A b) (hL : L ≤ 448) (i0 : 0 ≤ i) (i1 : i + 7 ≤ L) (x : IVA M) (kk : ∀ M2, IVA M2 → Gd p l e room_1 s m args below meth c kc ks Q t D al A 1086 [some (.ref b), some (.ref (al 0)), some (.ref (al 114)), some (.int (iN i))] [] M2) : Gd p l e room_1 s m args below meth c kc ks Q t D al A 575 [some (.ref b), some (.ref (al 0)), some (.ref (al 114)), some (.int (iN i))] [] M := by
  refine g_aload_n X dL_law_575 rfl rfl ?_
  refine g_aload_n X dL_law_576 rfl rfl ?_
  refine g_iload_n X dL_law_577 rfl rfl ?_
  refine g_iconst X dL_law_578 ?_
  refine g_iadd X dL_law_579 ?_
  refine g_sld X hX hbl hbA (by omega) (by omega) hL dL_law_580 ?_
  refine g_aload_n X dL_law_581 rfl rfl ?_
  refine g_iload_n X dL_law_582 rfl rfl ?_
  refine g_iconst X dL_law_583 ?_
  refine g_iadd X dL_law_584 ?_
  refine g_sld X hX hbl hbA (by omega) (by omega) hL dL_law_585 ?_
  refine g_callVI X (c_X9_near l t D al _ _ _ x.iv (i32_of _) (i32_of _)) kd_0 fc8 lk_RL_73 rfl rfl ⟨by decide, by decide⟩ rfl (Nat.le_of_ble_eq_true rfl) dL_law_586 (fun r1 M1 h1 => ?_)
  have qE := oe_near x (i32_of _) (i32_of _) h1
  refine g_aload_n X dL_law_589 rfl rfl ?_
  refine g_aload_n X dL_law_590 rfl rfl ?_
  refine g_iload_n X dL_law_591 rfl rfl ?_
  refine g_iconst X dL_law_592 ?_
  refine g_iadd X dL_law_593 ?_
  refine g_sld X hX hbl hbA (by omega) (by omega) hL dL_law_594 ?_
  refine g_aload_n X dL_law_595 rfl rfl ?_
  refine g_iload_n X dL_law_596 rfl rfl ?_
  refine g_iconst X dL_law_597 ?_
  refine g_iadd X dL_law_598 ?_
  refine g_sld X hX hbl hbA (by omega) (by omega) hL dL_law_599 ?_
  refine g_callVI X (c_X10_near l t D al _ _ _ (qE.WV x.w) (i32_of _) (i32_of _)) kd_114 fc9 lk_RL_76 rfl rfl ⟨by decide, by decide⟩ rfl (Nat.le_of_ble_eq_true rfl) dL_law_600 (fun r2 M2 h2 => ?_)
  obtain ⟨hr, x2⟩ := op_near x (i32_of _) (i32_of _) h1 h2
  exact g_icmp_same (tgt := 1086) X dL_law_603 (by decide) hr (kk M2 x2)
theorem law_paint {p : Program} {l : Launch} {e : Env} {s : State} {m : MethodId} {args : Array Value} {below : List Frame} {meth : Method} {c : Code} {kc ks : Nat} {Q : State → Prop} {t : TT} {D : va_G} {al : Int → Nat} {A : Nat → Prop} {b L : Nat} {xs : Nat → Int32} {M : Mem} {i : Int} (X : Cx p s m args c room_1 kc ks cL_law "RedSkiesLaw" 4 t D al A) (hX : va_X b L xs s s.heap) (hbl : b < s.heap.size) (hbA : ¬ A b) (hL : L ≤ 448) (i0 : 0 ≤ i) (i1 : i + 7 ≤ L) (x : IVA M) (kk : ∀ M2, IVA M2 → Gd p l e room_1 s m args below meth c kc ks Q t D al A 1086 [some (.ref b), some (.ref (al 0)), some (.ref (al 114)), some (.int (iN i))] [] M2) : Gd p l e room_1 s m args below meth c kc ks Q t D al A 608 [some (.ref b), some (.ref (al 0)), some (.ref (al 114)), some (.int (iN i))] [] M := by
  refine g_aload_n X dL_law_608 rfl rfl ?_
  refine g_aload_n X dL_law_609 rfl rfl ?_
  refine g_iload_n X dL_law_610 rfl rfl ?_
  refine g_iconst X dL_law_611 ?_
  refine g_iadd X dL_law_612 ?_
  refine g_sld X hX hbl hbA (by omega) (by omega) hL dL_law_613 ?_
  refine g_aload_n X dL_law_614 rfl rfl ?_
  refine g_iload_n X dL_law_615 rfl rfl ?_
  refine g_iconst X dL_law_616 ?_
  refine g_iadd X dL_law_617 ?_
  refine g_sld X hX hbl hbA (by omega) (by omega) hL dL_law_618 ?_
  refine g_aload_n X dL_law_619 rfl rfl ?_
  refine g_iload_n X dL_law_620 rfl rfl ?_
  refine g_iconst X dL_law_621 ?_
  refine g_iadd X dL_law_622 ?_
  refine g_sld X hX hbl hbA (by omega) (by omega) hL dL_law_623 ?_
  refine g_callVI X (c_X9_paint l t D al _ _ _ _ x.iv (i32_of _) (i32_of _) (i32_of _)) kd_0 fc8 lk_RL_77 rfl rfl ⟨by decide, by decide⟩ rfl (Nat.le_of_ble_eq_true rfl) dL_law_624 (fun r1 M1 h1 => ?_)
  have qE := oe_paint x (i32_of _) (i32_of _) (i32_of _) h1
  refine g_aload_n X dL_law_627 rfl rfl ?_
  refine g_aload_n X dL_law_628 rfl rfl ?_
  refine g_iload_n X dL_law_629 rfl rfl ?_
  refine g_iconst X dL_law_630 ?_
  refine g_iadd X dL_law_631 ?_
  refine g_sld X hX hbl hbA (by omega) (by omega) hL dL_law_632 ?_
  refine g_aload_n X dL_law_633 rfl rfl ?_
  refine g_iload_n X dL_law_634 rfl rfl ?_
  refine g_iconst X dL_law_635 ?_
  refine g_iadd X dL_law_636 ?_
  refine g_sld X hX hbl hbA (by omega) (by omega) hL dL_law_637 ?_
  refine g_aload_n X dL_law_638 rfl rfl ?_
  refine g_iload_n X dL_law_639 rfl rfl ?_
  refine g_iconst X dL_law_640 ?_
  refine g_iadd X dL_law_641 ?_
  refine g_sld X hX hbl hbA (by omega) (by omega) hL dL_law_642 ?_
  refine g_callVI X (c_X10_paint l t D al _ _ _ _ (qE.WV x.w) (i32_of _) (i32_of _) (i32_of _)) kd_114 fc9 lk_RL_81 rfl rfl ⟨by decide, by decide⟩ rfl (Nat.le_of_ble_eq_true rfl) dL_law_643 (fun r2 M2 h2 => ?_)
  obtain ⟨hr, x2⟩ := op_paint x (i32_of _) (i32_of _) (i32_of _) h1 h2
  exact g_icmp_same (tgt := 1086) X dL_law_646 (by decide) hr (kk M2 x2)
theorem law_stat {p : Program} {l : Launch} {e : Env} {s : State} {m : MethodId} {args : Array Value} {below : List Frame} {meth : Method} {c : Code} {kc ks : Nat} {Q : State → Prop} {t : TT} {D : va_G} {al : Int → Nat} {A : Nat → Prop} {b L : Nat} {xs : Nat → Int32} {M : Mem} {i : Int} (X : Cx p s m args c room_1 kc ks cL_law "RedSkiesLaw" 4 t D al A) (hX : va_X b L xs s s.heap) (hbl : b < s.heap.size) (hbA : ¬ A b) (hL : L ≤ 448) (i0 : 0 ≤ i) (i1 : i + 7 ≤ L) (x : IVA M) (kk : ∀ M2, IVA M2 → Gd p l e room_1 s m args below meth c kc ks Q t D al A 1086 [some (.ref b), some (.ref (al 0)), some (.ref (al 114)), some (.int (iN i))] [] M2) : Gd p l e room_1 s m args below meth c kc ks Q t D al A 651 [some (.ref b), some (.ref (al 0)), some (.ref (al 114)), some (.int (iN i))] [] M := by
  refine g_aload_n X dL_law_651 rfl rfl ?_
  refine g_aload_n X dL_law_652 rfl rfl ?_
  refine g_iload_n X dL_law_653 rfl rfl ?_
  refine g_iconst X dL_law_654 ?_
  refine g_iadd X dL_law_655 ?_
  refine g_sld X hX hbl hbA (by omega) (by omega) hL dL_law_656 ?_
  refine g_aload_n X dL_law_657 rfl rfl ?_
  refine g_iload_n X dL_law_658 rfl rfl ?_
  refine g_iconst X dL_law_659 ?_
  refine g_iadd X dL_law_660 ?_
  refine g_sld X hX hbl hbA (by omega) (by omega) hL dL_law_661 ?_
  refine g_callVI X (c_X9_stat l t D al _ _ _ x.iv (i32_of _) (i32_of _)) kd_0 fc8 lk_RL_82 rfl rfl ⟨by decide, by decide⟩ rfl (Nat.le_of_ble_eq_true rfl) dL_law_662 (fun r1 M1 h1 => ?_)
  have qE := oe_stat x (i32_of _) (i32_of _) h1
  refine g_aload_n X dL_law_665 rfl rfl ?_
  refine g_aload_n X dL_law_666 rfl rfl ?_
  refine g_iload_n X dL_law_667 rfl rfl ?_
  refine g_iconst X dL_law_668 ?_
  refine g_iadd X dL_law_669 ?_
  refine g_sld X hX hbl hbA (by omega) (by omega) hL dL_law_670 ?_
  refine g_aload_n X dL_law_671 rfl rfl ?_
  refine g_iload_n X dL_law_672 rfl rfl ?_
  refine g_iconst X dL_law_673 ?_
  refine g_iadd X dL_law_674 ?_
  refine g_sld X hX hbl hbA (by omega) (by omega) hL dL_law_675 ?_
  refine g_callVI X (c_X10_stat l t D al _ _ _ (qE.WV x.w) (i32_of _) (i32_of _)) kd_114 fc9 lk_RL_85 rfl rfl ⟨by decide, by decide⟩ rfl (Nat.le_of_ble_eq_true rfl) dL_law_676 (fun r2 M2 h2 => ?_)
  obtain ⟨hr, x2⟩ := op_stat x (i32_of _) (i32_of _) h1 h2
  exact g_icmp_same (tgt := 1086) X dL_law_679 (by decide) hr (kk M2 x2)
theorem law_odds {p : Program} {l : Launch} {e : Env} {s : State} {m : MethodId} {args : Array Value} {below : List Frame} {meth : Method} {c : Code} {kc ks : Nat} {Q : State → Prop} {t : TT} {D : va_G} {al : Int → Nat} {A : Nat → Prop} {b L : Nat} {xs : Nat → Int32} {M : Mem} {i : Int} (X : Cx p s m args c room_1 kc ks cL_law "RedSkiesLaw" 4 t D al A) (hX : va_X b L xs s s.heap) (hbl : b < s.heap.size) (hbA : ¬ A b) (hL : L ≤ 448) (i0 : 0 ≤ i) (i1 : i + 7 ≤ L) (x : IVA M) (kk : ∀ M2, IVA M2 → Gd p l e room_1 s m args below meth c kc ks Q t D al A 1086 [some (.ref b), some (.ref (al 0)), some (.ref (al 114)), some (.int (iN i))] [] M2) : Gd p l e room_1 s m args below meth c kc ks Q t D al A 684 [some (.ref b), some (.ref (al 0)), some (.ref (al 114)), some (.int (iN i))] [] M := by
  refine g_aload_n X dL_law_684 rfl rfl ?_
  refine g_aload_n X dL_law_685 rfl rfl ?_
  refine g_iload_n X dL_law_686 rfl rfl ?_
  refine g_iconst X dL_law_687 ?_
  refine g_iadd X dL_law_688 ?_
  refine g_sld X hX hbl hbA (by omega) (by omega) hL dL_law_689 ?_
  refine g_aload_n X dL_law_690 rfl rfl ?_
  refine g_iload_n X dL_law_691 rfl rfl ?_
  refine g_iconst X dL_law_692 ?_
  refine g_iadd X dL_law_693 ?_
  refine g_sld X hX hbl hbA (by omega) (by omega) hL dL_law_694 ?_
  refine g_aload_n X dL_law_695 rfl rfl ?_
  refine g_iload_n X dL_law_696 rfl rfl ?_
  refine g_iconst X dL_law_697 ?_
  refine g_iadd X dL_law_698 ?_
  refine g_sld X hX hbl hbA (by omega) (by omega) hL dL_law_699 ?_
  refine g_callVJ X (c_X9_odds l t D al _ _ _ _ x.iv (i32_of _) (i32_of _) (i32_of _)) kd_0 fc8 lk_RL_86 rfl rfl ⟨by decide, by decide⟩ rfl (Nat.le_of_ble_eq_true rfl) dL_law_700 (fun r1 M1 h1 => ?_)
  have qE := oe_odds x (i32_of _) (i32_of _) (i32_of _) h1
  refine g_aload_n X dL_law_703 rfl rfl ?_
  refine g_aload_n X dL_law_704 rfl rfl ?_
  refine g_iload_n X dL_law_705 rfl rfl ?_
  refine g_iconst X dL_law_706 ?_
  refine g_iadd X dL_law_707 ?_
  refine g_sld X hX hbl hbA (by omega) (by omega) hL dL_law_708 ?_
  refine g_aload_n X dL_law_709 rfl rfl ?_
  refine g_iload_n X dL_law_710 rfl rfl ?_
  refine g_iconst X dL_law_711 ?_
  refine g_iadd X dL_law_712 ?_
  refine g_sld X hX hbl hbA (by omega) (by omega) hL dL_law_713 ?_
  refine g_aload_n X dL_law_714 rfl rfl ?_
  refine g_iload_n X dL_law_715 rfl rfl ?_
  refine g_iconst X dL_law_716 ?_
  refine g_iadd X dL_law_717 ?_
  refine g_sld X hX hbl hbA (by omega) (by omega) hL dL_law_718 ?_
  refine g_callVJ X (c_X10_odds l t D al _ _ _ _ (qE.WV x.w) (i32_of _) (i32_of _) (i32_of _)) kd_114 fc9 lk_RL_90 rfl rfl ⟨by decide, by decide⟩ rfl (Nat.le_of_ble_eq_true rfl) dL_law_719 (fun r2 M2 h2 => ?_)
  obtain ⟨hr, x2⟩ := op_odds x (i32_of _) (i32_of _) (i32_of _) h1 h2
  exact g_lcmp_same (tgt := 1086) X dL_law_722 dL_law_723 (by decide) hr (kk M2 x2)
theorem law_paid {p : Program} {l : Launch} {e : Env} {s : State} {m : MethodId} {args : Array Value} {below : List Frame} {meth : Method} {c : Code} {kc ks : Nat} {Q : State → Prop} {t : TT} {D : va_G} {al : Int → Nat} {A : Nat → Prop} {b L : Nat} {xs : Nat → Int32} {M : Mem} {i : Int} (X : Cx p s m args c room_1 kc ks cL_law "RedSkiesLaw" 4 t D al A) (hX : va_X b L xs s s.heap) (hbl : b < s.heap.size) (hbA : ¬ A b) (hL : L ≤ 448) (i0 : 0 ≤ i) (i1 : i + 7 ≤ L) (x : IVA M) (kk : ∀ M2, IVA M2 → Gd p l e room_1 s m args below meth c kc ks Q t D al A 1086 [some (.ref b), some (.ref (al 0)), some (.ref (al 114)), some (.int (iN i))] [] M2) : Gd p l e room_1 s m args below meth c kc ks Q t D al A 728 [some (.ref b), some (.ref (al 0)), some (.ref (al 114)), some (.int (iN i))] [] M := by
  refine g_aload_n X dL_law_728 rfl rfl ?_
  refine g_aload_n X dL_law_729 rfl rfl ?_
  refine g_iload_n X dL_law_730 rfl rfl ?_
  refine g_iconst X dL_law_731 ?_
  refine g_iadd X dL_law_732 ?_
  refine g_sld X hX hbl hbA (by omega) (by omega) hL dL_law_733 ?_
  refine g_aload_n X dL_law_734 rfl rfl ?_
  refine g_iload_n X dL_law_735 rfl rfl ?_
  refine g_iconst X dL_law_736 ?_
  refine g_iadd X dL_law_737 ?_
  refine g_sld X hX hbl hbA (by omega) (by omega) hL dL_law_738 ?_
  refine g_callVJ X (c_X9_paid l t D al _ _ _ x.iv (i32_of _) (i32_of _)) kd_0 fc8 lk_RL_91 rfl rfl ⟨by decide, by decide⟩ rfl (Nat.le_of_ble_eq_true rfl) dL_law_739 (fun r1 M1 h1 => ?_)
  have qE := oe_paid x (i32_of _) (i32_of _) h1
  refine g_aload_n X dL_law_742 rfl rfl ?_
  refine g_aload_n X dL_law_743 rfl rfl ?_
  refine g_iload_n X dL_law_744 rfl rfl ?_
  refine g_iconst X dL_law_745 ?_
  refine g_iadd X dL_law_746 ?_
  refine g_sld X hX hbl hbA (by omega) (by omega) hL dL_law_747 ?_
  refine g_aload_n X dL_law_748 rfl rfl ?_
  refine g_iload_n X dL_law_749 rfl rfl ?_
  refine g_iconst X dL_law_750 ?_
  refine g_iadd X dL_law_751 ?_
  refine g_sld X hX hbl hbA (by omega) (by omega) hL dL_law_752 ?_
  refine g_callVJ X (c_X10_paid l t D al _ _ _ (qE.WV x.w) (i32_of _) (i32_of _)) kd_114 fc9 lk_RL_95 rfl rfl ⟨by decide, by decide⟩ rfl (Nat.le_of_ble_eq_true rfl) dL_law_753 (fun r2 M2 h2 => ?_)
  obtain ⟨hr, x2⟩ := op_paid x (i32_of _) (i32_of _) h1 h2
  exact g_lcmp_same (tgt := 1086) X dL_law_756 dL_law_757 (by decide) hr (kk M2 x2)
theorem law_hangs {p : Program} {l : Launch} {e : Env} {s : State} {m : MethodId} {args : Array Value} {below : List Frame} {meth : Method} {c : Code} {kc ks : Nat} {Q : State → Prop} {t : TT} {D : va_G} {al : Int → Nat} {A : Nat → Prop} {b L : Nat} {xs : Nat → Int32} {M : Mem} {i : Int} (X : Cx p s m args c room_1 kc ks cL_law "RedSkiesLaw" 4 t D al A) (hX : va_X b L xs s s.heap) (hbl : b < s.heap.size) (hbA : ¬ A b) (hL : L ≤ 448) (i0 : 0 ≤ i) (i1 : i + 7 ≤ L) (x : IVA M) (kk : ∀ M2, IVA M2 → Gd p l e room_1 s m args below meth c kc ks Q t D al A 1086 [some (.ref b), some (.ref (al 0)), some (.ref (al 114)), some (.int (iN i))] [] M2) : Gd p l e room_1 s m args below meth c kc ks Q t D al A 762 [some (.ref b), some (.ref (al 0)), some (.ref (al 114)), some (.int (iN i))] [] M := by
  refine g_aload_n X dL_law_762 rfl rfl ?_
  refine g_aload_n X dL_law_763 rfl rfl ?_
  refine g_iload_n X dL_law_764 rfl rfl ?_
  refine g_iconst X dL_law_765 ?_
  refine g_iadd X dL_law_766 ?_
  refine g_sld X hX hbl hbA (by omega) (by omega) hL dL_law_767 ?_
  refine g_aload_n X dL_law_768 rfl rfl ?_
  refine g_iload_n X dL_law_769 rfl rfl ?_
  refine g_iconst X dL_law_770 ?_
  refine g_iadd X dL_law_771 ?_
  refine g_sld X hX hbl hbA (by omega) (by omega) hL dL_law_772 ?_
  refine g_callVI X (c_X9_hangs l t D al _ _ _ x.iv x.id x.dn (i32_of _) (i32_of _)) kd_0 fc8 lk_RL_96 rfl rfl ⟨by decide, by decide⟩ rfl (Nat.le_of_ble_eq_true rfl) dL_law_773 (fun r1 M1 h1 => ?_)
  have qE := oe_hangs x (i32_of _) (i32_of _) h1
  refine g_aload_n X dL_law_776 rfl rfl ?_
  refine g_aload_n X dL_law_777 rfl rfl ?_
  refine g_iload_n X dL_law_778 rfl rfl ?_
  refine g_iconst X dL_law_779 ?_
  refine g_iadd X dL_law_780 ?_
  refine g_sld X hX hbl hbA (by omega) (by omega) hL dL_law_781 ?_
  refine g_aload_n X dL_law_782 rfl rfl ?_
  refine g_iload_n X dL_law_783 rfl rfl ?_
  refine g_iconst X dL_law_784 ?_
  refine g_iadd X dL_law_785 ?_
  refine g_sld X hX hbl hbA (by omega) (by omega) hL dL_law_786 ?_
  refine g_callVI X (c_X10_hangs l t D al _ _ _ (qE.WV x.w) (qE.dnW x.dn) (i32_of _) (i32_of _)) kd_114 fc9 lk_RL_99 rfl rfl ⟨by decide, by decide⟩ rfl (Nat.le_of_ble_eq_true rfl) dL_law_787 (fun r2 M2 h2 => ?_)
  obtain ⟨hr, x2⟩ := op_hangs x (i32_of _) (i32_of _) h1 h2
  exact g_icmp_same (tgt := 1086) X dL_law_790 (by decide) hr (kk M2 x2)
theorem law_next {p : Program} {l : Launch} {e : Env} {s : State} {m : MethodId} {args : Array Value} {below : List Frame} {meth : Method} {c : Code} {kc ks : Nat} {Q : State → Prop} {t : TT} {D : va_G} {al : Int → Nat} {A : Nat → Prop} {b L : Nat} {xs : Nat → Int32} {M : Mem} {i : Int} (X : Cx p s m args c room_1 kc ks cL_law "RedSkiesLaw" 4 t D al A) (hX : va_X b L xs s s.heap) (hbl : b < s.heap.size) (hbA : ¬ A b) (hL : L ≤ 448) (i0 : 0 ≤ i) (i1 : i + 7 ≤ L) (x : IVA M) (kk : ∀ M2, IVA M2 → Gd p l e room_1 s m args below meth c kc ks Q t D al A 1086 [some (.ref b), some (.ref (al 0)), some (.ref (al 114)), some (.int (iN i))] [] M2) : Gd p l e room_1 s m args below meth c kc ks Q t D al A 795 [some (.ref b), some (.ref (al 0)), some (.ref (al 114)), some (.int (iN i))] [] M := by
  refine g_aload_n X dL_law_795 rfl rfl ?_
  refine g_aload_n X dL_law_796 rfl rfl ?_
  refine g_iload_n X dL_law_797 rfl rfl ?_
  refine g_iconst X dL_law_798 ?_
  refine g_iadd X dL_law_799 ?_
  refine g_sld X hX hbl hbA (by omega) (by omega) hL dL_law_800 ?_
  refine g_aload_n X dL_law_801 rfl rfl ?_
  refine g_iload_n X dL_law_802 rfl rfl ?_
  refine g_iconst X dL_law_803 ?_
  refine g_iadd X dL_law_804 ?_
  refine g_sld X hX hbl hbA (by omega) (by omega) hL dL_law_805 ?_
  refine g_callVI X (c_X9_next l t D al _ _ _ x.iv x.id x.dn (i32_of _) (i32_of _)) kd_0 fc8 lk_RL_100 rfl rfl ⟨by decide, by decide⟩ rfl (Nat.le_of_ble_eq_true rfl) dL_law_806 (fun r1 M1 h1 => ?_)
  have qE := oe_next x (i32_of _) (i32_of _) h1
  refine g_aload_n X dL_law_809 rfl rfl ?_
  refine g_aload_n X dL_law_810 rfl rfl ?_
  refine g_iload_n X dL_law_811 rfl rfl ?_
  refine g_iconst X dL_law_812 ?_
  refine g_iadd X dL_law_813 ?_
  refine g_sld X hX hbl hbA (by omega) (by omega) hL dL_law_814 ?_
  refine g_aload_n X dL_law_815 rfl rfl ?_
  refine g_iload_n X dL_law_816 rfl rfl ?_
  refine g_iconst X dL_law_817 ?_
  refine g_iadd X dL_law_818 ?_
  refine g_sld X hX hbl hbA (by omega) (by omega) hL dL_law_819 ?_
  refine g_callVI X (c_X10_next l t D al _ _ _ (qE.WV x.w) (qE.dnW x.dn) (i32_of _) (i32_of _)) kd_114 fc9 lk_RL_103 rfl rfl ⟨by decide, by decide⟩ rfl (Nat.le_of_ble_eq_true rfl) dL_law_820 (fun r2 M2 h2 => ?_)
  obtain ⟨hr, x2⟩ := op_next x (i32_of _) (i32_of _) h1 h2
  exact g_icmp_same (tgt := 1086) X dL_law_823 (by decide) hr (kk M2 x2)
theorem law_ice {p : Program} {l : Launch} {e : Env} {s : State} {m : MethodId} {args : Array Value} {below : List Frame} {meth : Method} {c : Code} {kc ks : Nat} {Q : State → Prop} {t : TT} {D : va_G} {al : Int → Nat} {A : Nat → Prop} {b L : Nat} {xs : Nat → Int32} {M : Mem} {i : Int} (X : Cx p s m args c room_1 kc ks cL_law "RedSkiesLaw" 4 t D al A) (hX : va_X b L xs s s.heap) (hbl : b < s.heap.size) (hbA : ¬ A b) (hL : L ≤ 448) (i0 : 0 ≤ i) (i1 : i + 7 ≤ L) (x : IVA M) (kk : ∀ M2, IVA M2 → Gd p l e room_1 s m args below meth c kc ks Q t D al A 1086 [some (.ref b), some (.ref (al 0)), some (.ref (al 114)), some (.int (iN i))] [] M2) : Gd p l e room_1 s m args below meth c kc ks Q t D al A 828 [some (.ref b), some (.ref (al 0)), some (.ref (al 114)), some (.int (iN i))] [] M := by
  refine g_aload_n X dL_law_828 rfl rfl ?_
  refine g_aload_n X dL_law_829 rfl rfl ?_
  refine g_iload_n X dL_law_830 rfl rfl ?_
  refine g_iconst X dL_law_831 ?_
  refine g_iadd X dL_law_832 ?_
  refine g_sld X hX hbl hbA (by omega) (by omega) hL dL_law_833 ?_
  refine g_aload_n X dL_law_834 rfl rfl ?_
  refine g_iload_n X dL_law_835 rfl rfl ?_
  refine g_iconst X dL_law_836 ?_
  refine g_iadd X dL_law_837 ?_
  refine g_sld X hX hbl hbA (by omega) (by omega) hL dL_law_838 ?_
  refine g_aload_n X dL_law_839 rfl rfl ?_
  refine g_iload_n X dL_law_840 rfl rfl ?_
  refine g_iconst X dL_law_841 ?_
  refine g_iadd X dL_law_842 ?_
  refine g_sld X hX hbl hbA (by omega) (by omega) hL dL_law_843 ?_
  refine g_callVI X (c_X9_ice l t D al _ _ _ _ x.iv (i32_of _) (i32_of _) (i32_of _)) kd_0 fc8 lk_RL_104 rfl rfl ⟨by decide, by decide⟩ rfl (Nat.le_of_ble_eq_true rfl) dL_law_844 (fun r1 M1 h1 => ?_)
  have qE := oe_ice x (i32_of _) (i32_of _) (i32_of _) h1
  refine g_aload_n X dL_law_847 rfl rfl ?_
  refine g_aload_n X dL_law_848 rfl rfl ?_
  refine g_iload_n X dL_law_849 rfl rfl ?_
  refine g_iconst X dL_law_850 ?_
  refine g_iadd X dL_law_851 ?_
  refine g_sld X hX hbl hbA (by omega) (by omega) hL dL_law_852 ?_
  refine g_aload_n X dL_law_853 rfl rfl ?_
  refine g_iload_n X dL_law_854 rfl rfl ?_
  refine g_iconst X dL_law_855 ?_
  refine g_iadd X dL_law_856 ?_
  refine g_sld X hX hbl hbA (by omega) (by omega) hL dL_law_857 ?_
  refine g_aload_n X dL_law_858 rfl rfl ?_
  refine g_iload_n X dL_law_859 rfl rfl ?_
  refine g_iconst X dL_law_860 ?_
  refine g_iadd X dL_law_861 ?_
  refine g_sld X hX hbl hbA (by omega) (by omega) hL dL_law_862 ?_
  refine g_callVI X (c_X10_ice l t D al _ _ _ _ (qE.WV x.w) (i32_of _) (i32_of _) (i32_of _)) kd_114 fc9 lk_RL_107 rfl rfl ⟨by decide, by decide⟩ rfl (Nat.le_of_ble_eq_true rfl) dL_law_863 (fun r2 M2 h2 => ?_)
  obtain ⟨hr, x2⟩ := op_ice x (i32_of _) (i32_of _) (i32_of _) h1 h2
  exact g_icmp_same (tgt := 1086) X dL_law_866 (by decide) hr (kk M2 x2)
theorem law_classes {p : Program} {l : Launch} {e : Env} {s : State} {m : MethodId} {args : Array Value} {below : List Frame} {meth : Method} {c : Code} {kc ks : Nat} {Q : State → Prop} {t : TT} {D : va_G} {al : Int → Nat} {A : Nat → Prop} {b L : Nat} {xs : Nat → Int32} {M : Mem} {i : Int} (X : Cx p s m args c room_1 kc ks cL_law "RedSkiesLaw" 4 t D al A) (hX : va_X b L xs s s.heap) (hbl : b < s.heap.size) (hbA : ¬ A b) (hL : L ≤ 448) (i0 : 0 ≤ i) (i1 : i + 7 ≤ L) (x : IVA M) (kk : ∀ M2, IVA M2 → Gd p l e room_1 s m args below meth c kc ks Q t D al A 1086 [some (.ref b), some (.ref (al 0)), some (.ref (al 114)), some (.int (iN i))] [] M2) : Gd p l e room_1 s m args below meth c kc ks Q t D al A 871 [some (.ref b), some (.ref (al 0)), some (.ref (al 114)), some (.int (iN i))] [] M := by
  refine g_aload_n X dL_law_871 rfl rfl ?_
  refine g_aload_n X dL_law_872 rfl rfl ?_
  refine g_iload_n X dL_law_873 rfl rfl ?_
  refine g_iconst X dL_law_874 ?_
  refine g_iadd X dL_law_875 ?_
  refine g_sld X hX hbl hbA (by omega) (by omega) hL dL_law_876 ?_
  refine g_aload_n X dL_law_877 rfl rfl ?_
  refine g_iload_n X dL_law_878 rfl rfl ?_
  refine g_iconst X dL_law_879 ?_
  refine g_iadd X dL_law_880 ?_
  refine g_sld X hX hbl hbA (by omega) (by omega) hL dL_law_881 ?_
  refine g_aload_n X dL_law_882 rfl rfl ?_
  refine g_iload_n X dL_law_883 rfl rfl ?_
  refine g_iconst X dL_law_884 ?_
  refine g_iadd X dL_law_885 ?_
  refine g_sld X hX hbl hbA (by omega) (by omega) hL dL_law_886 ?_
  refine g_callVI X (c_X9_classes l t D al _ _ _ _ x.iv (i32_of _) (i32_of _) (i32_of _)) kd_0 fc8 lk_RL_108 rfl rfl ⟨by decide, by decide⟩ rfl (Nat.le_of_ble_eq_true rfl) dL_law_887 (fun r1 M1 h1 => ?_)
  have qE := oe_classes x (i32_of _) (i32_of _) (i32_of _) h1
  refine g_aload_n X dL_law_890 rfl rfl ?_
  refine g_aload_n X dL_law_891 rfl rfl ?_
  refine g_iload_n X dL_law_892 rfl rfl ?_
  refine g_iconst X dL_law_893 ?_
  refine g_iadd X dL_law_894 ?_
  refine g_sld X hX hbl hbA (by omega) (by omega) hL dL_law_895 ?_
  refine g_aload_n X dL_law_896 rfl rfl ?_
  refine g_iload_n X dL_law_897 rfl rfl ?_
  refine g_iconst X dL_law_898 ?_
  refine g_iadd X dL_law_899 ?_
  refine g_sld X hX hbl hbA (by omega) (by omega) hL dL_law_900 ?_
  refine g_aload_n X dL_law_901 rfl rfl ?_
  refine g_iload_n X dL_law_902 rfl rfl ?_
  refine g_iconst X dL_law_903 ?_
  refine g_iadd X dL_law_904 ?_
  refine g_sld X hX hbl hbA (by omega) (by omega) hL dL_law_905 ?_
  refine g_callVI X (c_X10_classes l t D al _ _ _ _ (qE.WV x.w) (i32_of _) (i32_of _) (i32_of _)) kd_114 fc9 lk_RL_111 rfl rfl ⟨by decide, by decide⟩ rfl (Nat.le_of_ble_eq_true rfl) dL_law_906 (fun r2 M2 h2 => ?_)
  obtain ⟨hr, x2⟩ := op_classes x (i32_of _) (i32_of _) (i32_of _) h1 h2
  exact g_icmp_same (tgt := 1086) X dL_law_909 (by decide) hr (kk M2 x2)
theorem law_back {p : Program} {l : Launch} {e : Env} {s : State} {m : MethodId} {args : Array Value} {below : List Frame} {meth : Method} {c : Code} {kc ks : Nat} {Q : State → Prop} {t : TT} {D : va_G} {al : Int → Nat} {A : Nat → Prop} {b L : Nat} {xs : Nat → Int32} {M : Mem} {i : Int} (X : Cx p s m args c room_1 kc ks cL_law "RedSkiesLaw" 4 t D al A) (hX : va_X b L xs s s.heap) (hbl : b < s.heap.size) (hbA : ¬ A b) (hL : L ≤ 448) (i0 : 0 ≤ i) (i1 : i + 7 ≤ L) (x : IVA M) (kk : ∀ M2, IVA M2 → Gd p l e room_1 s m args below meth c kc ks Q t D al A 1086 [some (.ref b), some (.ref (al 0)), some (.ref (al 114)), some (.int (iN i))] [] M2) : Gd p l e room_1 s m args below meth c kc ks Q t D al A 914 [some (.ref b), some (.ref (al 0)), some (.ref (al 114)), some (.int (iN i))] [] M := by
  refine g_aload_n X dL_law_914 rfl rfl ?_
  refine g_aload_n X dL_law_915 rfl rfl ?_
  refine g_iload_n X dL_law_916 rfl rfl ?_
  refine g_iconst X dL_law_917 ?_
  refine g_iadd X dL_law_918 ?_
  refine g_sld X hX hbl hbA (by omega) (by omega) hL dL_law_919 ?_
  refine g_aload_n X dL_law_920 rfl rfl ?_
  refine g_iload_n X dL_law_921 rfl rfl ?_
  refine g_iconst X dL_law_922 ?_
  refine g_iadd X dL_law_923 ?_
  refine g_sld X hX hbl hbA (by omega) (by omega) hL dL_law_924 ?_
  refine g_aload_n X dL_law_925 rfl rfl ?_
  refine g_iload_n X dL_law_926 rfl rfl ?_
  refine g_iconst X dL_law_927 ?_
  refine g_iadd X dL_law_928 ?_
  refine g_sld X hX hbl hbA (by omega) (by omega) hL dL_law_929 ?_
  refine g_callVI X (c_X9_back l t D al _ _ _ _ x.iv (i32_of _) (i32_of _) (i32_of _)) kd_0 fc8 lk_RL_112 rfl rfl ⟨by decide, by decide⟩ rfl (Nat.le_of_ble_eq_true rfl) dL_law_930 (fun r1 M1 h1 => ?_)
  have qE := oe_back x (i32_of _) (i32_of _) (i32_of _) h1
  refine g_aload_n X dL_law_933 rfl rfl ?_
  refine g_aload_n X dL_law_934 rfl rfl ?_
  refine g_iload_n X dL_law_935 rfl rfl ?_
  refine g_iconst X dL_law_936 ?_
  refine g_iadd X dL_law_937 ?_
  refine g_sld X hX hbl hbA (by omega) (by omega) hL dL_law_938 ?_
  refine g_aload_n X dL_law_939 rfl rfl ?_
  refine g_iload_n X dL_law_940 rfl rfl ?_
  refine g_iconst X dL_law_941 ?_
  refine g_iadd X dL_law_942 ?_
  refine g_sld X hX hbl hbA (by omega) (by omega) hL dL_law_943 ?_
  refine g_aload_n X dL_law_944 rfl rfl ?_
  refine g_iload_n X dL_law_945 rfl rfl ?_
  refine g_iconst X dL_law_946 ?_
  refine g_iadd X dL_law_947 ?_
  refine g_sld X hX hbl hbA (by omega) (by omega) hL dL_law_948 ?_
  refine g_callVI X (c_X10_back l t D al _ _ _ _ (qE.WV x.w) (i32_of _) (i32_of _) (i32_of _)) kd_114 fc9 lk_RL_115 rfl rfl ⟨by decide, by decide⟩ rfl (Nat.le_of_ble_eq_true rfl) dL_law_949 (fun r2 M2 h2 => ?_)
  obtain ⟨hr, x2⟩ := op_back x (i32_of _) (i32_of _) (i32_of _) h1 h2
  exact g_icmp_same (tgt := 1086) X dL_law_952 (by decide) hr (kk M2 x2)
theorem law_dates {p : Program} {l : Launch} {e : Env} {s : State} {m : MethodId} {args : Array Value} {below : List Frame} {meth : Method} {c : Code} {kc ks : Nat} {Q : State → Prop} {t : TT} {D : va_G} {al : Int → Nat} {A : Nat → Prop} {b L : Nat} {xs : Nat → Int32} {M : Mem} {i : Int} (X : Cx p s m args c room_1 kc ks cL_law "RedSkiesLaw" 4 t D al A) (hX : va_X b L xs s s.heap) (hbl : b < s.heap.size) (hbA : ¬ A b) (hL : L ≤ 448) (i0 : 0 ≤ i) (i1 : i + 7 ≤ L) (x : IVA M) (kk : ∀ M2, IVA M2 → Gd p l e room_1 s m args below meth c kc ks Q t D al A 1086 [some (.ref b), some (.ref (al 0)), some (.ref (al 114)), some (.int (iN i))] [] M2) : Gd p l e room_1 s m args below meth c kc ks Q t D al A 957 [some (.ref b), some (.ref (al 0)), some (.ref (al 114)), some (.int (iN i))] [] M := by
  refine g_aload_n X dL_law_957 rfl rfl ?_
  refine g_aload_n X dL_law_958 rfl rfl ?_
  refine g_iload_n X dL_law_959 rfl rfl ?_
  refine g_iconst X dL_law_960 ?_
  refine g_iadd X dL_law_961 ?_
  refine g_sld X hX hbl hbA (by omega) (by omega) hL dL_law_962 ?_
  refine g_aload_n X dL_law_963 rfl rfl ?_
  refine g_iload_n X dL_law_964 rfl rfl ?_
  refine g_iconst X dL_law_965 ?_
  refine g_iadd X dL_law_966 ?_
  refine g_sld X hX hbl hbA (by omega) (by omega) hL dL_law_967 ?_
  refine g_aload_n X dL_law_968 rfl rfl ?_
  refine g_iload_n X dL_law_969 rfl rfl ?_
  refine g_iconst X dL_law_970 ?_
  refine g_iadd X dL_law_971 ?_
  refine g_sld X hX hbl hbA (by omega) (by omega) hL dL_law_972 ?_
  refine g_callVI X (c_X9_dates l t D al _ _ _ _ x.iv (i32_of _) (i32_of _) (i32_of _)) kd_0 fc8 lk_RL_116 rfl rfl ⟨by decide, by decide⟩ rfl (Nat.le_of_ble_eq_true rfl) dL_law_973 (fun r1 M1 h1 => ?_)
  have qE := oe_dates x (i32_of _) (i32_of _) (i32_of _) h1
  refine g_aload_n X dL_law_976 rfl rfl ?_
  refine g_aload_n X dL_law_977 rfl rfl ?_
  refine g_iload_n X dL_law_978 rfl rfl ?_
  refine g_iconst X dL_law_979 ?_
  refine g_iadd X dL_law_980 ?_
  refine g_sld X hX hbl hbA (by omega) (by omega) hL dL_law_981 ?_
  refine g_aload_n X dL_law_982 rfl rfl ?_
  refine g_iload_n X dL_law_983 rfl rfl ?_
  refine g_iconst X dL_law_984 ?_
  refine g_iadd X dL_law_985 ?_
  refine g_sld X hX hbl hbA (by omega) (by omega) hL dL_law_986 ?_
  refine g_aload_n X dL_law_987 rfl rfl ?_
  refine g_iload_n X dL_law_988 rfl rfl ?_
  refine g_iconst X dL_law_989 ?_
  refine g_iadd X dL_law_990 ?_
  refine g_sld X hX hbl hbA (by omega) (by omega) hL dL_law_991 ?_
  refine g_callVI X (c_X10_dates l t D al _ _ _ _ (qE.WV x.w) (i32_of _) (i32_of _) (i32_of _)) kd_114 fc9 lk_RL_119 rfl rfl ⟨by decide, by decide⟩ rfl (Nat.le_of_ble_eq_true rfl) dL_law_992 (fun r2 M2 h2 => ?_)
  obtain ⟨hr, x2⟩ := op_dates x (i32_of _) (i32_of _) (i32_of _) h1 h2
  exact g_icmp_same (tgt := 1086) X dL_law_995 (by decide) hr (kk M2 x2)
theorem law_wrong {p : Program} {l : Launch} {e : Env} {s : State} {m : MethodId} {args : Array Value} {below : List Frame} {meth : Method} {c : Code} {kc ks : Nat} {Q : State → Prop} {t : TT} {D : va_G} {al : Int → Nat} {A : Nat → Prop} {b L : Nat} {xs : Nat → Int32} {M : Mem} {i : Int} (X : Cx p s m args c room_1 kc ks cL_law "RedSkiesLaw" 4 t D al A) (hX : va_X b L xs s s.heap) (hbl : b < s.heap.size) (hbA : ¬ A b) (hL : L ≤ 448) (i0 : 0 ≤ i) (i1 : i + 7 ≤ L) (x : IVA M) (kk : ∀ M2, IVA M2 → Gd p l e room_1 s m args below meth c kc ks Q t D al A 1086 [some (.ref b), some (.ref (al 0)), some (.ref (al 114)), some (.int (iN i))] [] M2) : Gd p l e room_1 s m args below meth c kc ks Q t D al A 1000 [some (.ref b), some (.ref (al 0)), some (.ref (al 114)), some (.int (iN i))] [] M := by
  refine g_aload_n X dL_law_1000 rfl rfl ?_
  refine g_aload_n X dL_law_1001 rfl rfl ?_
  refine g_iload_n X dL_law_1002 rfl rfl ?_
  refine g_iconst X dL_law_1003 ?_
  refine g_iadd X dL_law_1004 ?_
  refine g_sld X hX hbl hbA (by omega) (by omega) hL dL_law_1005 ?_
  refine g_callVI X (c_X9_wrong l t D al _ _ x.iv (i32_of _)) kd_0 fc8 lk_RL_120 rfl rfl ⟨by decide, by decide⟩ rfl (Nat.le_of_ble_eq_true rfl) dL_law_1006 (fun r1 M1 h1 => ?_)
  have qE := oe_wrong x (i32_of _) h1
  refine g_aload_n X dL_law_1009 rfl rfl ?_
  refine g_aload_n X dL_law_1010 rfl rfl ?_
  refine g_iload_n X dL_law_1011 rfl rfl ?_
  refine g_iconst X dL_law_1012 ?_
  refine g_iadd X dL_law_1013 ?_
  refine g_sld X hX hbl hbA (by omega) (by omega) hL dL_law_1014 ?_
  refine g_callVI X (c_X10_wrong l t D al _ _ (qE.WV x.w) (i32_of _)) kd_114 fc9 lk_RL_123 rfl rfl ⟨by decide, by decide⟩ rfl (Nat.le_of_ble_eq_true rfl) dL_law_1015 (fun r2 M2 h2 => ?_)
  obtain ⟨hr, x2⟩ := op_wrong x (i32_of _) h1 h2
  exact g_icmp_same (tgt := 1086) X dL_law_1018 (by decide) hr (kk M2 x2)
theorem law_image {p : Program} {l : Launch} {e : Env} {s : State} {m : MethodId} {args : Array Value} {below : List Frame} {meth : Method} {c : Code} {kc ks : Nat} {Q : State → Prop} {t : TT} {D : va_G} {al : Int → Nat} {A : Nat → Prop} {b L : Nat} {xs : Nat → Int32} {M : Mem} {i : Int} (X : Cx p s m args c room_1 kc ks cL_law "RedSkiesLaw" 4 t D al A) (hX : va_X b L xs s s.heap) (hbl : b < s.heap.size) (hbA : ¬ A b) (hL : L ≤ 448) (i0 : 0 ≤ i) (i1 : i + 7 ≤ L) (x : IVA M) (kk : ∀ M2, IVA M2 → Gd p l e room_1 s m args below meth c kc ks Q t D al A 1086 [some (.ref b), some (.ref (al 0)), some (.ref (al 114)), some (.int (iN i))] [] M2) : Gd p l e room_1 s m args below meth c kc ks Q t D al A 1023 [some (.ref b), some (.ref (al 0)), some (.ref (al 114)), some (.int (iN i))] [] M := by
  refine g_aload_n X dL_law_1023 rfl rfl ?_
  refine g_callVI X (c_X9_image l t D al _  x.iv) kd_0 fc8 lk_RL_124 rfl rfl ⟨by decide, by decide⟩ rfl (Nat.le_of_ble_eq_true rfl) dL_law_1024 (fun r1 M1 h1 => ?_)
  have qE := oe_image x  h1
  refine g_aload_n X dL_law_1027 rfl rfl ?_
  refine g_callVI X (c_X10_image l t D al _  ) kd_114 fc9 lk_RL_127 rfl rfl ⟨by decide, by decide⟩ rfl (Nat.le_of_ble_eq_true rfl) dL_law_1028 (fun r2 M2 h2 => ?_)
  obtain ⟨hr, x2⟩ := op_image x  h1 h2
  exact g_icmp_same (tgt := 1086) X dL_law_1031 (by decide) hr (kk M2 x2)
theorem law_restore {p : Program} {l : Launch} {e : Env} {s : State} {m : MethodId} {args : Array Value} {below : List Frame} {meth : Method} {c : Code} {kc ks : Nat} {Q : State → Prop} {t : TT} {D : va_G} {al : Int → Nat} {A : Nat → Prop} {b L : Nat} {xs : Nat → Int32} {M : Mem} {i : Int} (X : Cx p s m args c room_1 kc ks cL_law "RedSkiesLaw" 4 t D al A) (hX : va_X b L xs s s.heap) (hbl : b < s.heap.size) (hbA : ¬ A b) (hL : L ≤ 448) (i0 : 0 ≤ i) (i1 : i + 7 ≤ L) (x : IVA M) (kk : ∀ M2, IVA M2 → Gd p l e room_1 s m args below meth c kc ks Q t D al A 1086 [some (.ref b), some (.ref (al 0)), some (.ref (al 114)), some (.int (iN i))] [] M2) : Gd p l e room_1 s m args below meth c kc ks Q t D al A 1036 [some (.ref b), some (.ref (al 0)), some (.ref (al 114)), some (.int (iN i))] [] M := by
  refine g_aload_n X dL_law_1036 rfl rfl ?_
  refine g_callVI X (c_X9_restore l t D al _  x.wk x.ik) kd_0 fc8 lk_RL_128 rfl rfl ⟨by decide, by decide⟩ rfl (Nat.le_of_ble_eq_true rfl) dL_law_1037 (fun r1 M1 h1 => ?_)
  have qE := oe_restore x  h1
  refine g_aload_n X dL_law_1040 rfl rfl ?_
  refine g_callVI X (c_X10_restore l t D al _  (by have h := x.wk; have e := congrFun (qE 114 (by omega)) 46; exact ⟨by rw [e]; exact h.1, by rw [e]; exact h.2.1⟩)) kd_114 fc9 lk_RL_131 rfl rfl ⟨by decide, by decide⟩ rfl (Nat.le_of_ble_eq_true rfl) dL_law_1041 (fun r2 M2 h2 => ?_)
  obtain ⟨hr, x2⟩ := op_restore x  h1 h2
  exact g_icmp_same (tgt := 1086) X dL_law_1044 (by decide) hr (kk M2 x2)
theorem law_count {p : Program} {l : Launch} {e : Env} {s : State} {m : MethodId} {args : Array Value} {below : List Frame} {meth : Method} {c : Code} {kc ks : Nat} {Q : State → Prop} {t : TT} {D : va_G} {al : Int → Nat} {A : Nat → Prop} {b L : Nat} {xs : Nat → Int32} {M : Mem} {i : Int} (X : Cx p s m args c room_1 kc ks cL_law "RedSkiesLaw" 4 t D al A) (hX : va_X b L xs s s.heap) (hbl : b < s.heap.size) (hbA : ¬ A b) (hL : L ≤ 448) (i0 : 0 ≤ i) (i1 : i + 7 ≤ L) (x : IVA M) (kk : ∀ M2, IVA M2 → Gd p l e room_1 s m args below meth c kc ks Q t D al A 1086 [some (.ref b), some (.ref (al 0)), some (.ref (al 114)), some (.int (iN i))] [] M2) : Gd p l e room_1 s m args below meth c kc ks Q t D al A 1049 [some (.ref b), some (.ref (al 0)), some (.ref (al 114)), some (.int (iN i))] [] M := by
  refine g_aload_n X dL_law_1049 rfl rfl ?_
  refine g_aload_n X dL_law_1050 rfl rfl ?_
  refine g_iload_n X dL_law_1051 rfl rfl ?_
  refine g_iconst X dL_law_1052 ?_
  refine g_iadd X dL_law_1053 ?_
  refine g_sld X hX hbl hbA (by omega) (by omega) hL dL_law_1054 ?_
  refine g_callVI X (c_X9_count l t D al _ _ x.iv x.ig x.id (i32_of _)) kd_0 fc8 lk_RL_132 rfl rfl ⟨by decide, by decide⟩ rfl (Nat.le_of_ble_eq_true rfl) dL_law_1055 (fun r1 M1 h1 => ?_)
  have qE := oe_count x (i32_of _) h1
  refine g_aload_n X dL_law_1058 rfl rfl ?_
  refine g_aload_n X dL_law_1059 rfl rfl ?_
  refine g_iload_n X dL_law_1060 rfl rfl ?_
  refine g_iconst X dL_law_1061 ?_
  refine g_iadd X dL_law_1062 ?_
  refine g_sld X hX hbl hbA (by omega) (by omega) hL dL_law_1063 ?_
  refine g_callVI X (c_X10_count l t D al _ _ (i32_of _)) kd_114 fc9 lk_RL_135 rfl rfl ⟨by decide, by decide⟩ rfl (Nat.le_of_ble_eq_true rfl) dL_law_1064 (fun r2 M2 h2 => ?_)
  obtain ⟨hr, x2⟩ := op_count x (i32_of _) h1 h2
  exact g_icmp_same (tgt := 1086) X dL_law_1067 (by decide) hr (kk M2 x2)
theorem law_digest {p : Program} {l : Launch} {e : Env} {s : State} {m : MethodId} {args : Array Value} {below : List Frame} {meth : Method} {c : Code} {kc ks : Nat} {Q : State → Prop} {t : TT} {D : va_G} {al : Int → Nat} {A : Nat → Prop} {b L : Nat} {xs : Nat → Int32} {M : Mem} {i : Int} (X : Cx p s m args c room_1 kc ks cL_law "RedSkiesLaw" 4 t D al A) (hX : va_X b L xs s s.heap) (hbl : b < s.heap.size) (hbA : ¬ A b) (hL : L ≤ 448) (i0 : 0 ≤ i) (i1 : i + 7 ≤ L) (x : IVA M) (kk : ∀ M2, IVA M2 → Gd p l e room_1 s m args below meth c kc ks Q t D al A 1086 [some (.ref b), some (.ref (al 0)), some (.ref (al 114)), some (.int (iN i))] [] M2) : Gd p l e room_1 s m args below meth c kc ks Q t D al A 1072 [some (.ref b), some (.ref (al 0)), some (.ref (al 114)), some (.int (iN i))] [] M := by
  refine g_aload_n X dL_law_1072 rfl rfl ?_
  refine g_callVJ X (c_X9_digest l t D al _  x.iv x.ig x.id x.dn x.pg) kd_0 fc8 lk_RL_136 rfl rfl ⟨by decide, by decide⟩ rfl (Nat.le_of_ble_eq_true rfl) dL_law_1073 (fun r1 M1 h1 => ?_)
  have qE := oe_digest x  h1
  refine g_aload_n X dL_law_1076 rfl rfl ?_
  refine g_callVJ X (c_X10_digest l t D al _  (qE.WV x.w) (qE.pgW x.pg) (qE.dnW x.dn)) kd_114 fc9 lk_RL_140 rfl rfl ⟨by decide, by decide⟩ rfl (Nat.le_of_ble_eq_true rfl) dL_law_1077 (fun r2 M2 h2 => ?_)
  obtain ⟨hr, x2⟩ := op_digest x  h1 h2
  exact g_lcmp_same (tgt := 1086) X dL_law_1080 dL_law_1081 (by decide) hr (kk M2 x2)

