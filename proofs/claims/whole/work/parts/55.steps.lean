/-! the law, a call of the script each -/
theorem lcmp_same (x : Int64) : lg_cmp x x = 0 := by
  simp [lg_cmp]
theorem law_write {L k : Nat} {xs : Nat → Int32} {I : HI} {J : HJ} (hk : 5 * k + 5 ≤ L) (hL : L ≤ 2560) (hr : Rel I J) (K : ∀ I2 J2, Rel I2 J2 → LW L xs k 882 I2 J2) : LW L xs k 164 I J := by
  refine q_aload_n dL_law_164 (rfl : 164 + 1 = 165) rfl ?_
  refine q_aload_n dL_law_165 (rfl : 165 + 1 = 166) rfl ?_
  refine q_iload_n dL_law_166 (rfl : 166 + 1 = 167) rfl ?_
  refine q_iconst (v := nI 1) dL_law_167 (rfl : 167 + 1 = 168) (by decide) ?_
  refine q_iadd dL_law_168 (rfl : 168 + 1 = 169) ?_
  rw [nI_add]
  refine q_sld dL_law_169 (rfl : 169 + 1 = 170) (by omega) hL ?_
  refine q_aload_n dL_law_170 (rfl : 170 + 1 = 171) rfl ?_
  refine q_iload_n dL_law_171 (rfl : 171 + 1 = 172) rfl ?_
  refine q_iconst (v := nI 2) dL_law_172 (rfl : 172 + 1 = 173) (by decide) ?_
  refine q_iadd dL_law_173 (rfl : 173 + 1 = 174) ?_
  rw [nI_add]
  refine q_sld dL_law_174 (rfl : 174 + 1 = 175) (by omega) hL ?_
  refine q_i2l dL_law_175 (rfl : 175 + 1 = 176) ?_
  refine q_bipush (v := nI 32) dL_law_176 (rfl : 176 + 2 = 178) (by decide) ?_
  refine q_lshl dL_law_178 (rfl : 178 + 1 = 179) ?_
  refine q_aload_n dL_law_179 (rfl : 179 + 1 = 180) rfl ?_
  refine q_iload_n dL_law_180 (rfl : 180 + 1 = 181) rfl ?_
  refine q_iconst (v := nI 3) dL_law_181 (rfl : 181 + 1 = 182) (by decide) ?_
  refine q_iadd dL_law_182 (rfl : 182 + 1 = 183) ?_
  rw [nI_add]
  refine q_sld dL_law_183 (rfl : 183 + 1 = 184) (by omega) hL ?_
  refine q_i2l dL_law_184 (rfl : 184 + 1 = 185) ?_
  refine q_ldc2 dL_law_185 (rfl : 185 + 3 = 188) kL_13 ?_
  refine q_land dL_law_188 (rfl : 188 + 1 = 189) ?_
  refine q_lor dL_law_189 (rfl : 189 + 1 = 190) ?_
  refine q_both (Z_write hr _ _) dL_law_190 (rfl : 190 + 3 = 193) lL_15 vX6_write rfl rfl (Nat.le_of_ble_eq_true rfl) LC ?_
  intro x I1 J1 h2
  refine q_aload_n dL_law_193 (rfl : 193 + 1 = 194) rfl ?_
  refine q_aload_n dL_law_194 (rfl : 194 + 1 = 195) rfl ?_
  refine q_iload_n dL_law_195 (rfl : 195 + 1 = 196) rfl ?_
  refine q_iconst (v := nI 1) dL_law_196 (rfl : 196 + 1 = 197) (by decide) ?_
  refine q_iadd dL_law_197 (rfl : 197 + 1 = 198) ?_
  rw [nI_add]
  refine q_sld dL_law_198 (rfl : 198 + 1 = 199) (by omega) hL ?_
  refine q_aload_n dL_law_199 (rfl : 199 + 1 = 200) rfl ?_
  refine q_iload_n dL_law_200 (rfl : 200 + 1 = 201) rfl ?_
  refine q_iconst (v := nI 2) dL_law_201 (rfl : 201 + 1 = 202) (by decide) ?_
  refine q_iadd dL_law_202 (rfl : 202 + 1 = 203) ?_
  rw [nI_add]
  refine q_sld dL_law_203 (rfl : 203 + 1 = 204) (by omega) hL ?_
  refine q_i2l dL_law_204 (rfl : 204 + 1 = 205) ?_
  refine q_bipush (v := nI 32) dL_law_205 (rfl : 205 + 2 = 207) (by decide) ?_
  refine q_lshl dL_law_207 (rfl : 207 + 1 = 208) ?_
  refine q_aload_n dL_law_208 (rfl : 208 + 1 = 209) rfl ?_
  refine q_iload_n dL_law_209 (rfl : 209 + 1 = 210) rfl ?_
  refine q_iconst (v := nI 3) dL_law_210 (rfl : 210 + 1 = 211) (by decide) ?_
  refine q_iadd dL_law_211 (rfl : 211 + 1 = 212) ?_
  rw [nI_add]
  refine q_sld dL_law_212 (rfl : 212 + 1 = 213) (by omega) hL ?_
  refine q_i2l dL_law_213 (rfl : 213 + 1 = 214) ?_
  refine q_ldc2 dL_law_214 (rfl : 214 + 3 = 217) kL_13 ?_
  refine q_land dL_law_217 (rfl : 217 + 1 = 218) ?_
  refine q_lor dL_law_218 (rfl : 218 + 1 = 219) ?_
  refine q_both2 h2 dL_law_219 (rfl : 219 + 3 = 222) lL_19 vX7_write rfl rfl (Nat.le_of_ble_eq_true rfl) LC ?_
  intro I2 J2 hr2
  refine q_icmp_eq (q := 882) dL_law_222 (by decide) (rfl : 222 + 3 = 225) (fun _ => K I2 J2 hr2) (fun e => absurd rfl e)
theorem law_wipe {L k : Nat} {xs : Nat → Int32} {I : HI} {J : HJ} (hk : 5 * k + 5 ≤ L) (hL : L ≤ 2560) (hr : Rel I J) (K : ∀ I2 J2, Rel I2 J2 → LW L xs k 882 I2 J2) : LW L xs k 227 I J := by
  refine q_aload_n dL_law_227 (rfl : 227 + 1 = 228) rfl ?_
  refine q_both (Z_wipe hr) dL_law_228 (rfl : 228 + 3 = 231) lL_20 vX6_wipe rfl rfl (Nat.le_of_ble_eq_true rfl) LC ?_
  intro x I1 J1 h2
  refine q_aload_n dL_law_231 (rfl : 231 + 1 = 232) rfl ?_
  refine q_both2 h2 dL_law_232 (rfl : 232 + 3 = 235) lL_24 vX7_wipe rfl rfl (Nat.le_of_ble_eq_true rfl) LC ?_
  intro I2 J2 hr2
  refine q_icmp_eq (q := 882) dL_law_235 (by decide) (rfl : 235 + 3 = 238) (fun _ => K I2 J2 hr2) (fun e => absurd rfl e)
theorem law_fault {L k : Nat} {xs : Nat → Int32} {I : HI} {J : HJ} (hk : 5 * k + 5 ≤ L) (hL : L ≤ 2560) (hr : Rel I J) (K : ∀ I2 J2, Rel I2 J2 → LW L xs k 882 I2 J2) : LW L xs k 240 I J := by
  refine q_aload_n dL_law_240 (rfl : 240 + 1 = 241) rfl ?_
  refine q_both (Z_fault hr) dL_law_241 (rfl : 241 + 3 = 244) lL_25 vX6_fault rfl rfl (Nat.le_of_ble_eq_true rfl) LC ?_
  intro x I1 J1 h2
  refine q_aload_n dL_law_244 (rfl : 244 + 1 = 245) rfl ?_
  refine q_both2 h2 dL_law_245 (rfl : 245 + 3 = 248) lL_28 vX7_fault rfl rfl (Nat.le_of_ble_eq_true rfl) LC ?_
  intro I2 J2 hr2
  refine q_icmp_eq (q := 882) dL_law_248 (by decide) (rfl : 248 + 3 = 251) (fun _ => K I2 J2 hr2) (fun e => absurd rfl e)
theorem law_lay {L k : Nat} {xs : Nat → Int32} {I : HI} {J : HJ} (hk : 5 * k + 5 ≤ L) (hL : L ≤ 2560) (hr : Rel I J) (K : ∀ I2 J2, Rel I2 J2 → LW L xs k 882 I2 J2) : LW L xs k 253 I J := by
  refine q_aload_n dL_law_253 (rfl : 253 + 1 = 254) rfl ?_
  rcases Z_lay hr with hB | ⟨x, I1, hM, h2⟩
  · refine q_both hB dL_law_254 (rfl : 254 + 3 = 257) lL_29 vX6_lay rfl rfl (Nat.le_of_ble_eq_true rfl) LC ?_
    intro x I1 J1 h2
    refine q_aload_n dL_law_257 (rfl : 257 + 1 = 258) rfl ?_
    refine q_both2 h2 dL_law_258 (rfl : 258 + 3 = 261) lL_32 vX7_lay rfl rfl (Nat.le_of_ble_eq_true rfl) LC ?_
    intro I2 J2 hr2
    refine q_icmp_eq (q := 882) dL_law_261 (by decide) (rfl : 261 + 3 = 264) (fun _ => K I2 J2 hr2) (fun e => absurd rfl e)
  · refine q_after2 (rfl : 254 + 3 = 257) (run_V (As := []) dL_law_254 lL_29 vX6_lay rfl rfl (Nat.le_of_ble_eq_true rfl) TL.room LC hM) (fun sh2 v I3 J3 R3 hp => ?_)
    obtain ⟨rfl, rfl, rfl, rfl, rfl⟩ := hp
    refine q_perm rfl rfl ?_
    refine q_aload_n dL_law_257 (rfl : 257 + 1 = 258) rfl ?_
    refine q_both2 h2 dL_law_258 (rfl : 258 + 3 = 261) lL_32 vX7_lay rfl rfl (Nat.le_of_ble_eq_true rfl) LC ?_
    intro I2 J2 hr2
    refine q_icmp_eq (q := 882) dL_law_261 (by decide) (rfl : 261 + 3 = 264) (fun _ => K I2 J2 hr2) (fun e => absurd rfl e)
theorem law_falls {L k : Nat} {xs : Nat → Int32} {I : HI} {J : HJ} (hk : 5 * k + 5 ≤ L) (hL : L ≤ 2560) (hr : Rel I J) (K : ∀ I2 J2, Rel I2 J2 → LW L xs k 882 I2 J2) : LW L xs k 266 I J := by
  refine q_aload_n dL_law_266 (rfl : 266 + 1 = 267) rfl ?_
  refine q_aload_n dL_law_267 (rfl : 267 + 1 = 268) rfl ?_
  refine q_iload_n dL_law_268 (rfl : 268 + 1 = 269) rfl ?_
  refine q_iconst (v := nI 1) dL_law_269 (rfl : 269 + 1 = 270) (by decide) ?_
  refine q_iadd dL_law_270 (rfl : 270 + 1 = 271) ?_
  rw [nI_add]
  refine q_sld dL_law_271 (rfl : 271 + 1 = 272) (by omega) hL ?_
  refine q_aload_n dL_law_272 (rfl : 272 + 1 = 273) rfl ?_
  refine q_iload_n dL_law_273 (rfl : 273 + 1 = 274) rfl ?_
  refine q_iconst (v := nI 2) dL_law_274 (rfl : 274 + 1 = 275) (by decide) ?_
  refine q_iadd dL_law_275 (rfl : 275 + 1 = 276) ?_
  rw [nI_add]
  refine q_sld dL_law_276 (rfl : 276 + 1 = 277) (by omega) hL ?_
  refine q_both (Z_falls hr _ _) dL_law_277 (rfl : 277 + 3 = 280) lL_33 vX6_falls rfl rfl (Nat.le_of_ble_eq_true rfl) LC ?_
  intro x I1 J1 h2
  refine q_aload_n dL_law_280 (rfl : 280 + 1 = 281) rfl ?_
  refine q_aload_n dL_law_281 (rfl : 281 + 1 = 282) rfl ?_
  refine q_iload_n dL_law_282 (rfl : 282 + 1 = 283) rfl ?_
  refine q_iconst (v := nI 1) dL_law_283 (rfl : 283 + 1 = 284) (by decide) ?_
  refine q_iadd dL_law_284 (rfl : 284 + 1 = 285) ?_
  rw [nI_add]
  refine q_sld dL_law_285 (rfl : 285 + 1 = 286) (by omega) hL ?_
  refine q_aload_n dL_law_286 (rfl : 286 + 1 = 287) rfl ?_
  refine q_iload_n dL_law_287 (rfl : 287 + 1 = 288) rfl ?_
  refine q_iconst (v := nI 2) dL_law_288 (rfl : 288 + 1 = 289) (by decide) ?_
  refine q_iadd dL_law_289 (rfl : 289 + 1 = 290) ?_
  rw [nI_add]
  refine q_sld dL_law_290 (rfl : 290 + 1 = 291) (by omega) hL ?_
  refine q_both2 h2 dL_law_291 (rfl : 291 + 3 = 294) lL_37 vX7_falls rfl rfl (Nat.le_of_ble_eq_true rfl) LC ?_
  intro I2 J2 hr2
  refine q_icmp_eq (q := 882) dL_law_294 (by decide) (rfl : 294 + 3 = 297) (fun _ => K I2 J2 hr2) (fun e => absurd rfl e)
theorem law_fall {L k : Nat} {xs : Nat → Int32} {I : HI} {J : HJ} (hk : 5 * k + 5 ≤ L) (hL : L ≤ 2560) (hr : Rel I J) (K : ∀ I2 J2, Rel I2 J2 → LW L xs k 882 I2 J2) : LW L xs k 299 I J := by
  refine q_aload_n dL_law_299 (rfl : 299 + 1 = 300) rfl ?_
  refine q_both (Z_fall hr) dL_law_300 (rfl : 300 + 3 = 303) lL_38 vX6_fall rfl rfl (Nat.le_of_ble_eq_true rfl) LC ?_
  intro x I1 J1 h2
  refine q_aload_n dL_law_303 (rfl : 303 + 1 = 304) rfl ?_
  refine q_both2 h2 dL_law_304 (rfl : 304 + 3 = 307) lL_41 vX7_fall rfl rfl (Nat.le_of_ble_eq_true rfl) LC ?_
  intro I2 J2 hr2
  refine q_icmp_eq (q := 882) dL_law_307 (by decide) (rfl : 307 + 3 = 310) (fun _ => K I2 J2 hr2) (fun e => absurd rfl e)
theorem law_layer {L k : Nat} {xs : Nat → Int32} {I : HI} {J : HJ} (hk : 5 * k + 5 ≤ L) (hL : L ≤ 2560) (hr : Rel I J) (K : ∀ I2 J2, Rel I2 J2 → LW L xs k 882 I2 J2) : LW L xs k 312 I J := by
  refine q_aload_n dL_law_312 (rfl : 312 + 1 = 313) rfl ?_
  refine q_aload_n dL_law_313 (rfl : 313 + 1 = 314) rfl ?_
  refine q_iload_n dL_law_314 (rfl : 314 + 1 = 315) rfl ?_
  refine q_iconst (v := nI 1) dL_law_315 (rfl : 315 + 1 = 316) (by decide) ?_
  refine q_iadd dL_law_316 (rfl : 316 + 1 = 317) ?_
  rw [nI_add]
  refine q_sld dL_law_317 (rfl : 317 + 1 = 318) (by omega) hL ?_
  refine q_aload_n dL_law_318 (rfl : 318 + 1 = 319) rfl ?_
  refine q_iload_n dL_law_319 (rfl : 319 + 1 = 320) rfl ?_
  refine q_iconst (v := nI 2) dL_law_320 (rfl : 320 + 1 = 321) (by decide) ?_
  refine q_iadd dL_law_321 (rfl : 321 + 1 = 322) ?_
  rw [nI_add]
  refine q_sld dL_law_322 (rfl : 322 + 1 = 323) (by omega) hL ?_
  refine q_both (Z_layer hr _ _) dL_law_323 (rfl : 323 + 3 = 326) lL_42 vX6_layer rfl rfl (Nat.le_of_ble_eq_true rfl) LC ?_
  intro x I1 J1 h2
  refine q_aload_n dL_law_326 (rfl : 326 + 1 = 327) rfl ?_
  refine q_aload_n dL_law_327 (rfl : 327 + 1 = 328) rfl ?_
  refine q_iload_n dL_law_328 (rfl : 328 + 1 = 329) rfl ?_
  refine q_iconst (v := nI 1) dL_law_329 (rfl : 329 + 1 = 330) (by decide) ?_
  refine q_iadd dL_law_330 (rfl : 330 + 1 = 331) ?_
  rw [nI_add]
  refine q_sld dL_law_331 (rfl : 331 + 1 = 332) (by omega) hL ?_
  refine q_aload_n dL_law_332 (rfl : 332 + 1 = 333) rfl ?_
  refine q_iload_n dL_law_333 (rfl : 333 + 1 = 334) rfl ?_
  refine q_iconst (v := nI 2) dL_law_334 (rfl : 334 + 1 = 335) (by decide) ?_
  refine q_iadd dL_law_335 (rfl : 335 + 1 = 336) ?_
  rw [nI_add]
  refine q_sld dL_law_336 (rfl : 336 + 1 = 337) (by omega) hL ?_
  refine q_both2 h2 dL_law_337 (rfl : 337 + 3 = 340) lL_45 vX7_layer rfl rfl (Nat.le_of_ble_eq_true rfl) LC ?_
  intro I2 J2 hr2
  refine q_icmp_eq (q := 882) dL_law_340 (by decide) (rfl : 340 + 3 = 343) (fun _ => K I2 J2 hr2) (fun e => absurd rfl e)
theorem law_firstOut {L k : Nat} {xs : Nat → Int32} {I : HI} {J : HJ} (hk : 5 * k + 5 ≤ L) (hL : L ≤ 2560) (hr : Rel I J) (K : ∀ I2 J2, Rel I2 J2 → LW L xs k 882 I2 J2) : LW L xs k 345 I J := by
  refine q_aload_n dL_law_345 (rfl : 345 + 1 = 346) rfl ?_
  refine q_both (Z_firstOut hr) dL_law_346 (rfl : 346 + 3 = 349) lL_46 vX6_firstOut rfl rfl (Nat.le_of_ble_eq_true rfl) LC ?_
  intro x I1 J1 h2
  refine q_aload_n dL_law_349 (rfl : 349 + 1 = 350) rfl ?_
  refine q_both2 h2 dL_law_350 (rfl : 350 + 3 = 353) lL_49 vX7_firstOut rfl rfl (Nat.le_of_ble_eq_true rfl) LC ?_
  intro I2 J2 hr2
  refine q_icmp_eq (q := 882) dL_law_353 (by decide) (rfl : 353 + 3 = 356) (fun _ => K I2 J2 hr2) (fun e => absurd rfl e)
theorem law_thaw {L k : Nat} {xs : Nat → Int32} {I : HI} {J : HJ} (hk : 5 * k + 5 ≤ L) (hL : L ≤ 2560) (hr : Rel I J) (K : ∀ I2 J2, Rel I2 J2 → LW L xs k 882 I2 J2) : LW L xs k 358 I J := by
  refine q_aload_n dL_law_358 (rfl : 358 + 1 = 359) rfl ?_
  refine q_aload_n dL_law_359 (rfl : 359 + 1 = 360) rfl ?_
  refine q_iload_n dL_law_360 (rfl : 360 + 1 = 361) rfl ?_
  refine q_iconst (v := nI 1) dL_law_361 (rfl : 361 + 1 = 362) (by decide) ?_
  refine q_iadd dL_law_362 (rfl : 362 + 1 = 363) ?_
  rw [nI_add]
  refine q_sld dL_law_363 (rfl : 363 + 1 = 364) (by omega) hL ?_
  refine q_both (Z_thaw hr _) dL_law_364 (rfl : 364 + 3 = 367) lL_50 vX6_thaw rfl rfl (Nat.le_of_ble_eq_true rfl) LC ?_
  intro x I1 J1 h2
  refine q_aload_n dL_law_367 (rfl : 367 + 1 = 368) rfl ?_
  refine q_aload_n dL_law_368 (rfl : 368 + 1 = 369) rfl ?_
  refine q_iload_n dL_law_369 (rfl : 369 + 1 = 370) rfl ?_
  refine q_iconst (v := nI 1) dL_law_370 (rfl : 370 + 1 = 371) (by decide) ?_
  refine q_iadd dL_law_371 (rfl : 371 + 1 = 372) ?_
  rw [nI_add]
  refine q_sld dL_law_372 (rfl : 372 + 1 = 373) (by omega) hL ?_
  refine q_both2 h2 dL_law_373 (rfl : 373 + 3 = 376) lL_54 vX7_thaw rfl rfl (Nat.le_of_ble_eq_true rfl) LC ?_
  intro I2 J2 hr2
  refine q_icmp_eq (q := 882) dL_law_376 (by decide) (rfl : 376 + 3 = 379) (fun _ => K I2 J2 hr2) (fun e => absurd rfl e)
theorem law_doors {L k : Nat} {xs : Nat → Int32} {I : HI} {J : HJ} (hk : 5 * k + 5 ≤ L) (hL : L ≤ 2560) (hr : Rel I J) (K : ∀ I2 J2, Rel I2 J2 → LW L xs k 882 I2 J2) : LW L xs k 381 I J := by
  refine q_aload_n dL_law_381 (rfl : 381 + 1 = 382) rfl ?_
  refine q_aload_n dL_law_382 (rfl : 382 + 1 = 383) rfl ?_
  refine q_iload_n dL_law_383 (rfl : 383 + 1 = 384) rfl ?_
  refine q_iconst (v := nI 1) dL_law_384 (rfl : 384 + 1 = 385) (by decide) ?_
  refine q_iadd dL_law_385 (rfl : 385 + 1 = 386) ?_
  rw [nI_add]
  refine q_sld dL_law_386 (rfl : 386 + 1 = 387) (by omega) hL ?_
  refine q_aload_n dL_law_387 (rfl : 387 + 1 = 388) rfl ?_
  refine q_iload_n dL_law_388 (rfl : 388 + 1 = 389) rfl ?_
  refine q_iconst (v := nI 2) dL_law_389 (rfl : 389 + 1 = 390) (by decide) ?_
  refine q_iadd dL_law_390 (rfl : 390 + 1 = 391) ?_
  rw [nI_add]
  refine q_sld dL_law_391 (rfl : 391 + 1 = 392) (by omega) hL ?_
  refine q_both (Z_doors hr _ _) dL_law_392 (rfl : 392 + 3 = 395) lL_55 vX6_doors rfl rfl (Nat.le_of_ble_eq_true rfl) LC ?_
  intro x I1 J1 h2
  refine q_aload_n dL_law_395 (rfl : 395 + 1 = 396) rfl ?_
  refine q_aload_n dL_law_396 (rfl : 396 + 1 = 397) rfl ?_
  refine q_iload_n dL_law_397 (rfl : 397 + 1 = 398) rfl ?_
  refine q_iconst (v := nI 1) dL_law_398 (rfl : 398 + 1 = 399) (by decide) ?_
  refine q_iadd dL_law_399 (rfl : 399 + 1 = 400) ?_
  rw [nI_add]
  refine q_sld dL_law_400 (rfl : 400 + 1 = 401) (by omega) hL ?_
  refine q_aload_n dL_law_401 (rfl : 401 + 1 = 402) rfl ?_
  refine q_iload_n dL_law_402 (rfl : 402 + 1 = 403) rfl ?_
  refine q_iconst (v := nI 2) dL_law_403 (rfl : 403 + 1 = 404) (by decide) ?_
  refine q_iadd dL_law_404 (rfl : 404 + 1 = 405) ?_
  rw [nI_add]
  refine q_sld dL_law_405 (rfl : 405 + 1 = 406) (by omega) hL ?_
  refine q_both2 h2 dL_law_406 (rfl : 406 + 3 = 409) lL_58 vX7_doors rfl rfl (Nat.le_of_ble_eq_true rfl) LC ?_
  intro I2 J2 hr2
  refine q_icmp_eq (q := 882) dL_law_409 (by decide) (rfl : 409 + 3 = 412) (fun _ => K I2 J2 hr2) (fun e => absurd rfl e)
theorem law_sell {L k : Nat} {xs : Nat → Int32} {I : HI} {J : HJ} (hk : 5 * k + 5 ≤ L) (hL : L ≤ 2560) (hr : Rel I J) (K : ∀ I2 J2, Rel I2 J2 → LW L xs k 882 I2 J2) : LW L xs k 414 I J := by
  refine q_aload_n dL_law_414 (rfl : 414 + 1 = 415) rfl ?_
  refine q_aload_n dL_law_415 (rfl : 415 + 1 = 416) rfl ?_
  refine q_iload_n dL_law_416 (rfl : 416 + 1 = 417) rfl ?_
  refine q_iconst (v := nI 1) dL_law_417 (rfl : 417 + 1 = 418) (by decide) ?_
  refine q_iadd dL_law_418 (rfl : 418 + 1 = 419) ?_
  rw [nI_add]
  refine q_sld dL_law_419 (rfl : 419 + 1 = 420) (by omega) hL ?_
  refine q_aload_n dL_law_420 (rfl : 420 + 1 = 421) rfl ?_
  refine q_iload_n dL_law_421 (rfl : 421 + 1 = 422) rfl ?_
  refine q_iconst (v := nI 2) dL_law_422 (rfl : 422 + 1 = 423) (by decide) ?_
  refine q_iadd dL_law_423 (rfl : 423 + 1 = 424) ?_
  rw [nI_add]
  refine q_sld dL_law_424 (rfl : 424 + 1 = 425) (by omega) hL ?_
  refine q_both (Z_sell hr _ _) dL_law_425 (rfl : 425 + 3 = 428) lL_59 vX6_sell rfl rfl (Nat.le_of_ble_eq_true rfl) LC ?_
  intro x I1 J1 h2
  refine q_aload_n dL_law_428 (rfl : 428 + 1 = 429) rfl ?_
  refine q_aload_n dL_law_429 (rfl : 429 + 1 = 430) rfl ?_
  refine q_iload_n dL_law_430 (rfl : 430 + 1 = 431) rfl ?_
  refine q_iconst (v := nI 1) dL_law_431 (rfl : 431 + 1 = 432) (by decide) ?_
  refine q_iadd dL_law_432 (rfl : 432 + 1 = 433) ?_
  rw [nI_add]
  refine q_sld dL_law_433 (rfl : 433 + 1 = 434) (by omega) hL ?_
  refine q_aload_n dL_law_434 (rfl : 434 + 1 = 435) rfl ?_
  refine q_iload_n dL_law_435 (rfl : 435 + 1 = 436) rfl ?_
  refine q_iconst (v := nI 2) dL_law_436 (rfl : 436 + 1 = 437) (by decide) ?_
  refine q_iadd dL_law_437 (rfl : 437 + 1 = 438) ?_
  rw [nI_add]
  refine q_sld dL_law_438 (rfl : 438 + 1 = 439) (by omega) hL ?_
  refine q_both2 h2 dL_law_439 (rfl : 439 + 3 = 442) lL_62 vX7_sell rfl rfl (Nat.le_of_ble_eq_true rfl) LC ?_
  intro I2 J2 hr2
  refine q_icmp_eq (q := 882) dL_law_442 (by decide) (rfl : 442 + 3 = 445) (fun _ => K I2 J2 hr2) (fun e => absurd rfl e)
theorem law_undo {L k : Nat} {xs : Nat → Int32} {I : HI} {J : HJ} (hk : 5 * k + 5 ≤ L) (hL : L ≤ 2560) (hr : Rel I J) (K : ∀ I2 J2, Rel I2 J2 → LW L xs k 882 I2 J2) : LW L xs k 447 I J := by
  refine q_aload_n dL_law_447 (rfl : 447 + 1 = 448) rfl ?_
  refine q_both (Z_undo hr) dL_law_448 (rfl : 448 + 3 = 451) lL_63 vX6_undo rfl rfl (Nat.le_of_ble_eq_true rfl) LC ?_
  intro x I1 J1 h2
  refine q_aload_n dL_law_451 (rfl : 451 + 1 = 452) rfl ?_
  refine q_both2 h2 dL_law_452 (rfl : 452 + 3 = 455) lL_66 vX7_undo rfl rfl (Nat.le_of_ble_eq_true rfl) LC ?_
  intro I2 J2 hr2
  refine q_icmp_eq (q := 882) dL_law_455 (by decide) (rfl : 455 + 3 = 458) (fun _ => K I2 J2 hr2) (fun e => absurd rfl e)
theorem law_swap {L k : Nat} {xs : Nat → Int32} {I : HI} {J : HJ} (hk : 5 * k + 5 ≤ L) (hL : L ≤ 2560) (hr : Rel I J) (K : ∀ I2 J2, Rel I2 J2 → LW L xs k 882 I2 J2) : LW L xs k 460 I J := by
  refine q_aload_n dL_law_460 (rfl : 460 + 1 = 461) rfl ?_
  refine q_aload_n dL_law_461 (rfl : 461 + 1 = 462) rfl ?_
  refine q_iload_n dL_law_462 (rfl : 462 + 1 = 463) rfl ?_
  refine q_iconst (v := nI 1) dL_law_463 (rfl : 463 + 1 = 464) (by decide) ?_
  refine q_iadd dL_law_464 (rfl : 464 + 1 = 465) ?_
  rw [nI_add]
  refine q_sld dL_law_465 (rfl : 465 + 1 = 466) (by omega) hL ?_
  refine q_aload_n dL_law_466 (rfl : 466 + 1 = 467) rfl ?_
  refine q_iload_n dL_law_467 (rfl : 467 + 1 = 468) rfl ?_
  refine q_iconst (v := nI 2) dL_law_468 (rfl : 468 + 1 = 469) (by decide) ?_
  refine q_iadd dL_law_469 (rfl : 469 + 1 = 470) ?_
  rw [nI_add]
  refine q_sld dL_law_470 (rfl : 470 + 1 = 471) (by omega) hL ?_
  refine q_both (Z_swap hr _ _) dL_law_471 (rfl : 471 + 3 = 474) lL_67 vX6_swap rfl rfl (Nat.le_of_ble_eq_true rfl) LC ?_
  intro x I1 J1 h2
  refine q_aload_n dL_law_474 (rfl : 474 + 1 = 475) rfl ?_
  refine q_aload_n dL_law_475 (rfl : 475 + 1 = 476) rfl ?_
  refine q_iload_n dL_law_476 (rfl : 476 + 1 = 477) rfl ?_
  refine q_iconst (v := nI 1) dL_law_477 (rfl : 477 + 1 = 478) (by decide) ?_
  refine q_iadd dL_law_478 (rfl : 478 + 1 = 479) ?_
  rw [nI_add]
  refine q_sld dL_law_479 (rfl : 479 + 1 = 480) (by omega) hL ?_
  refine q_aload_n dL_law_480 (rfl : 480 + 1 = 481) rfl ?_
  refine q_iload_n dL_law_481 (rfl : 481 + 1 = 482) rfl ?_
  refine q_iconst (v := nI 2) dL_law_482 (rfl : 482 + 1 = 483) (by decide) ?_
  refine q_iadd dL_law_483 (rfl : 483 + 1 = 484) ?_
  rw [nI_add]
  refine q_sld dL_law_484 (rfl : 484 + 1 = 485) (by omega) hL ?_
  refine q_both2 h2 dL_law_485 (rfl : 485 + 3 = 488) lL_70 vX7_swap rfl rfl (Nat.le_of_ble_eq_true rfl) LC ?_
  intro I2 J2 hr2
  refine q_icmp_eq (q := 882) dL_law_488 (by decide) (rfl : 488 + 3 = 491) (fun _ => K I2 J2 hr2) (fun e => absurd rfl e)
theorem law_letGo {L k : Nat} {xs : Nat → Int32} {I : HI} {J : HJ} (hk : 5 * k + 5 ≤ L) (hL : L ≤ 2560) (hr : Rel I J) (K : ∀ I2 J2, Rel I2 J2 → LW L xs k 882 I2 J2) : LW L xs k 493 I J := by
  refine q_aload_n dL_law_493 (rfl : 493 + 1 = 494) rfl ?_
  refine q_aload_n dL_law_494 (rfl : 494 + 1 = 495) rfl ?_
  refine q_iload_n dL_law_495 (rfl : 495 + 1 = 496) rfl ?_
  refine q_iconst (v := nI 1) dL_law_496 (rfl : 496 + 1 = 497) (by decide) ?_
  refine q_iadd dL_law_497 (rfl : 497 + 1 = 498) ?_
  rw [nI_add]
  refine q_sld dL_law_498 (rfl : 498 + 1 = 499) (by omega) hL ?_
  refine q_aload_n dL_law_499 (rfl : 499 + 1 = 500) rfl ?_
  refine q_iload_n dL_law_500 (rfl : 500 + 1 = 501) rfl ?_
  refine q_iconst (v := nI 2) dL_law_501 (rfl : 501 + 1 = 502) (by decide) ?_
  refine q_iadd dL_law_502 (rfl : 502 + 1 = 503) ?_
  rw [nI_add]
  refine q_sld dL_law_503 (rfl : 503 + 1 = 504) (by omega) hL ?_
  refine q_aload_n dL_law_504 (rfl : 504 + 1 = 505) rfl ?_
  refine q_iload_n dL_law_505 (rfl : 505 + 1 = 506) rfl ?_
  refine q_iconst (v := nI 3) dL_law_506 (rfl : 506 + 1 = 507) (by decide) ?_
  refine q_iadd dL_law_507 (rfl : 507 + 1 = 508) ?_
  rw [nI_add]
  refine q_sld dL_law_508 (rfl : 508 + 1 = 509) (by omega) hL ?_
  refine q_both (Z_letGo hr _ _ _) dL_law_509 (rfl : 509 + 3 = 512) lL_71 vX6_letGo rfl rfl (Nat.le_of_ble_eq_true rfl) LC ?_
  intro x I1 J1 h2
  refine q_aload_n dL_law_512 (rfl : 512 + 1 = 513) rfl ?_
  refine q_aload_n dL_law_513 (rfl : 513 + 1 = 514) rfl ?_
  refine q_iload_n dL_law_514 (rfl : 514 + 1 = 515) rfl ?_
  refine q_iconst (v := nI 1) dL_law_515 (rfl : 515 + 1 = 516) (by decide) ?_
  refine q_iadd dL_law_516 (rfl : 516 + 1 = 517) ?_
  rw [nI_add]
  refine q_sld dL_law_517 (rfl : 517 + 1 = 518) (by omega) hL ?_
  refine q_aload_n dL_law_518 (rfl : 518 + 1 = 519) rfl ?_
  refine q_iload_n dL_law_519 (rfl : 519 + 1 = 520) rfl ?_
  refine q_iconst (v := nI 2) dL_law_520 (rfl : 520 + 1 = 521) (by decide) ?_
  refine q_iadd dL_law_521 (rfl : 521 + 1 = 522) ?_
  rw [nI_add]
  refine q_sld dL_law_522 (rfl : 522 + 1 = 523) (by omega) hL ?_
  refine q_aload_n dL_law_523 (rfl : 523 + 1 = 524) rfl ?_
  refine q_iload_n dL_law_524 (rfl : 524 + 1 = 525) rfl ?_
  refine q_iconst (v := nI 3) dL_law_525 (rfl : 525 + 1 = 526) (by decide) ?_
  refine q_iadd dL_law_526 (rfl : 526 + 1 = 527) ?_
  rw [nI_add]
  refine q_sld dL_law_527 (rfl : 527 + 1 = 528) (by omega) hL ?_
  refine q_both2 h2 dL_law_528 (rfl : 528 + 3 = 531) lL_75 vX7_letGo rfl rfl (Nat.le_of_ble_eq_true rfl) LC ?_
  intro I2 J2 hr2
  refine q_icmp_eq (q := 882) dL_law_531 (by decide) (rfl : 531 + 3 = 534) (fun _ => K I2 J2 hr2) (fun e => absurd rfl e)
theorem law_odds {L k : Nat} {xs : Nat → Int32} {I : HI} {J : HJ} (hk : 5 * k + 5 ≤ L) (hL : L ≤ 2560) (hr : Rel I J) (K : ∀ I2 J2, Rel I2 J2 → LW L xs k 882 I2 J2) : LW L xs k 536 I J := by
  refine q_aload_n dL_law_536 (rfl : 536 + 1 = 537) rfl ?_
  refine q_aload_n dL_law_537 (rfl : 537 + 1 = 538) rfl ?_
  refine q_iload_n dL_law_538 (rfl : 538 + 1 = 539) rfl ?_
  refine q_iconst (v := nI 1) dL_law_539 (rfl : 539 + 1 = 540) (by decide) ?_
  refine q_iadd dL_law_540 (rfl : 540 + 1 = 541) ?_
  rw [nI_add]
  refine q_sld dL_law_541 (rfl : 541 + 1 = 542) (by omega) hL ?_
  refine q_aload_n dL_law_542 (rfl : 542 + 1 = 543) rfl ?_
  refine q_iload_n dL_law_543 (rfl : 543 + 1 = 544) rfl ?_
  refine q_iconst (v := nI 2) dL_law_544 (rfl : 544 + 1 = 545) (by decide) ?_
  refine q_iadd dL_law_545 (rfl : 545 + 1 = 546) ?_
  rw [nI_add]
  refine q_sld dL_law_546 (rfl : 546 + 1 = 547) (by omega) hL ?_
  refine q_aload_n dL_law_547 (rfl : 547 + 1 = 548) rfl ?_
  refine q_iload_n dL_law_548 (rfl : 548 + 1 = 549) rfl ?_
  refine q_iconst (v := nI 3) dL_law_549 (rfl : 549 + 1 = 550) (by decide) ?_
  refine q_iadd dL_law_550 (rfl : 550 + 1 = 551) ?_
  rw [nI_add]
  refine q_sld dL_law_551 (rfl : 551 + 1 = 552) (by omega) hL ?_
  refine q_aload_n dL_law_552 (rfl : 552 + 1 = 553) rfl ?_
  refine q_iload_n dL_law_553 (rfl : 553 + 1 = 554) rfl ?_
  refine q_iconst (v := nI 4) dL_law_554 (rfl : 554 + 1 = 555) (by decide) ?_
  refine q_iadd dL_law_555 (rfl : 555 + 1 = 556) ?_
  rw [nI_add]
  refine q_sld dL_law_556 (rfl : 556 + 1 = 557) (by omega) hL ?_
  refine q_both (Z_odds hr _ _ _ _) dL_law_557 (rfl : 557 + 3 = 560) lL_76 vX6_odds rfl rfl (Nat.le_of_ble_eq_true rfl) LC ?_
  intro x I1 J1 h2
  refine q_aload_n dL_law_560 (rfl : 560 + 1 = 561) rfl ?_
  refine q_aload_n dL_law_561 (rfl : 561 + 1 = 562) rfl ?_
  refine q_iload_n dL_law_562 (rfl : 562 + 1 = 563) rfl ?_
  refine q_iconst (v := nI 1) dL_law_563 (rfl : 563 + 1 = 564) (by decide) ?_
  refine q_iadd dL_law_564 (rfl : 564 + 1 = 565) ?_
  rw [nI_add]
  refine q_sld dL_law_565 (rfl : 565 + 1 = 566) (by omega) hL ?_
  refine q_aload_n dL_law_566 (rfl : 566 + 1 = 567) rfl ?_
  refine q_iload_n dL_law_567 (rfl : 567 + 1 = 568) rfl ?_
  refine q_iconst (v := nI 2) dL_law_568 (rfl : 568 + 1 = 569) (by decide) ?_
  refine q_iadd dL_law_569 (rfl : 569 + 1 = 570) ?_
  rw [nI_add]
  refine q_sld dL_law_570 (rfl : 570 + 1 = 571) (by omega) hL ?_
  refine q_aload_n dL_law_571 (rfl : 571 + 1 = 572) rfl ?_
  refine q_iload_n dL_law_572 (rfl : 572 + 1 = 573) rfl ?_
  refine q_iconst (v := nI 3) dL_law_573 (rfl : 573 + 1 = 574) (by decide) ?_
  refine q_iadd dL_law_574 (rfl : 574 + 1 = 575) ?_
  rw [nI_add]
  refine q_sld dL_law_575 (rfl : 575 + 1 = 576) (by omega) hL ?_
  refine q_aload_n dL_law_576 (rfl : 576 + 1 = 577) rfl ?_
  refine q_iload_n dL_law_577 (rfl : 577 + 1 = 578) rfl ?_
  refine q_iconst (v := nI 4) dL_law_578 (rfl : 578 + 1 = 579) (by decide) ?_
  refine q_iadd dL_law_579 (rfl : 579 + 1 = 580) ?_
  rw [nI_add]
  refine q_sld dL_law_580 (rfl : 580 + 1 = 581) (by omega) hL ?_
  refine q_both2 h2 dL_law_581 (rfl : 581 + 3 = 584) lL_80 vX7_odds rfl rfl (Nat.le_of_ble_eq_true rfl) LC ?_
  intro I2 J2 hr2
  refine q_icmp_eq (q := 882) dL_law_584 (by decide) (rfl : 584 + 3 = 587) (fun _ => K I2 J2 hr2) (fun e => absurd rfl e)
theorem law_likeliest {L k : Nat} {xs : Nat → Int32} {I : HI} {J : HJ} (hk : 5 * k + 5 ≤ L) (hL : L ≤ 2560) (hr : Rel I J) (K : ∀ I2 J2, Rel I2 J2 → LW L xs k 882 I2 J2) : LW L xs k 589 I J := by
  refine q_aload_n dL_law_589 (rfl : 589 + 1 = 590) rfl ?_
  refine q_aload_n dL_law_590 (rfl : 590 + 1 = 591) rfl ?_
  refine q_iload_n dL_law_591 (rfl : 591 + 1 = 592) rfl ?_
  refine q_iconst (v := nI 1) dL_law_592 (rfl : 592 + 1 = 593) (by decide) ?_
  refine q_iadd dL_law_593 (rfl : 593 + 1 = 594) ?_
  rw [nI_add]
  refine q_sld dL_law_594 (rfl : 594 + 1 = 595) (by omega) hL ?_
  refine q_aload_n dL_law_595 (rfl : 595 + 1 = 596) rfl ?_
  refine q_iload_n dL_law_596 (rfl : 596 + 1 = 597) rfl ?_
  refine q_iconst (v := nI 2) dL_law_597 (rfl : 597 + 1 = 598) (by decide) ?_
  refine q_iadd dL_law_598 (rfl : 598 + 1 = 599) ?_
  rw [nI_add]
  refine q_sld dL_law_599 (rfl : 599 + 1 = 600) (by omega) hL ?_
  refine q_both (Z_likeliest hr _ _) dL_law_600 (rfl : 600 + 3 = 603) lL_81 vX6_likeliest rfl rfl (Nat.le_of_ble_eq_true rfl) LC ?_
  intro x I1 J1 h2
  refine q_aload_n dL_law_603 (rfl : 603 + 1 = 604) rfl ?_
  refine q_aload_n dL_law_604 (rfl : 604 + 1 = 605) rfl ?_
  refine q_iload_n dL_law_605 (rfl : 605 + 1 = 606) rfl ?_
  refine q_iconst (v := nI 1) dL_law_606 (rfl : 606 + 1 = 607) (by decide) ?_
  refine q_iadd dL_law_607 (rfl : 607 + 1 = 608) ?_
  rw [nI_add]
  refine q_sld dL_law_608 (rfl : 608 + 1 = 609) (by omega) hL ?_
  refine q_aload_n dL_law_609 (rfl : 609 + 1 = 610) rfl ?_
  refine q_iload_n dL_law_610 (rfl : 610 + 1 = 611) rfl ?_
  refine q_iconst (v := nI 2) dL_law_611 (rfl : 611 + 1 = 612) (by decide) ?_
  refine q_iadd dL_law_612 (rfl : 612 + 1 = 613) ?_
  rw [nI_add]
  refine q_sld dL_law_613 (rfl : 613 + 1 = 614) (by omega) hL ?_
  refine q_both2 h2 dL_law_614 (rfl : 614 + 3 = 617) lL_84 vX7_likeliest rfl rfl (Nat.le_of_ble_eq_true rfl) LC ?_
  intro I2 J2 hr2
  refine q_icmp_eq (q := 882) dL_law_617 (by decide) (rfl : 617 + 3 = 620) (fun _ => K I2 J2 hr2) (fun e => absurd rfl e)
theorem law_mark {L k : Nat} {xs : Nat → Int32} {I : HI} {J : HJ} (hk : 5 * k + 5 ≤ L) (hL : L ≤ 2560) (hr : Rel I J) (K : ∀ I2 J2, Rel I2 J2 → LW L xs k 882 I2 J2) : LW L xs k 622 I J := by
  refine q_aload_n dL_law_622 (rfl : 622 + 1 = 623) rfl ?_
  refine q_aload_n dL_law_623 (rfl : 623 + 1 = 624) rfl ?_
  refine q_iload_n dL_law_624 (rfl : 624 + 1 = 625) rfl ?_
  refine q_iconst (v := nI 1) dL_law_625 (rfl : 625 + 1 = 626) (by decide) ?_
  refine q_iadd dL_law_626 (rfl : 626 + 1 = 627) ?_
  rw [nI_add]
  refine q_sld dL_law_627 (rfl : 627 + 1 = 628) (by omega) hL ?_
  refine q_both (Z_mark hr _) dL_law_628 (rfl : 628 + 3 = 631) lL_85 vX6_mark rfl rfl (Nat.le_of_ble_eq_true rfl) LC ?_
  intro x I1 J1 h2
  refine q_aload_n dL_law_631 (rfl : 631 + 1 = 632) rfl ?_
  refine q_aload_n dL_law_632 (rfl : 632 + 1 = 633) rfl ?_
  refine q_iload_n dL_law_633 (rfl : 633 + 1 = 634) rfl ?_
  refine q_iconst (v := nI 1) dL_law_634 (rfl : 634 + 1 = 635) (by decide) ?_
  refine q_iadd dL_law_635 (rfl : 635 + 1 = 636) ?_
  rw [nI_add]
  refine q_sld dL_law_636 (rfl : 636 + 1 = 637) (by omega) hL ?_
  refine q_both2 h2 dL_law_637 (rfl : 637 + 3 = 640) lL_88 vX7_mark rfl rfl (Nat.le_of_ble_eq_true rfl) LC ?_
  intro I2 J2 hr2
  refine q_icmp_eq (q := 882) dL_law_640 (by decide) (rfl : 640 + 3 = 643) (fun _ => K I2 J2 hr2) (fun e => absurd rfl e)
theorem law_noMarks {L k : Nat} {xs : Nat → Int32} {I : HI} {J : HJ} (hk : 5 * k + 5 ≤ L) (hL : L ≤ 2560) (hr : Rel I J) (K : ∀ I2 J2, Rel I2 J2 → LW L xs k 882 I2 J2) : LW L xs k 645 I J := by
  refine q_aload_n dL_law_645 (rfl : 645 + 1 = 646) rfl ?_
  refine q_both (Z_noMarks hr) dL_law_646 (rfl : 646 + 3 = 649) lL_89 vX6_noMarks rfl rfl (Nat.le_of_ble_eq_true rfl) LC ?_
  intro x I1 J1 h2
  refine q_aload_n dL_law_649 (rfl : 649 + 1 = 650) rfl ?_
  refine q_both2 h2 dL_law_650 (rfl : 650 + 3 = 653) lL_92 vX7_noMarks rfl rfl (Nat.le_of_ble_eq_true rfl) LC ?_
  intro I2 J2 hr2
  refine q_icmp_eq (q := 882) dL_law_653 (by decide) (rfl : 653 + 3 = 656) (fun _ => K I2 J2 hr2) (fun e => absurd rfl e)
theorem law_far {L k : Nat} {xs : Nat → Int32} {I : HI} {J : HJ} (hk : 5 * k + 5 ≤ L) (hL : L ≤ 2560) (hr : Rel I J) (K : ∀ I2 J2, Rel I2 J2 → LW L xs k 882 I2 J2) : LW L xs k 658 I J := by
  refine q_aload_n dL_law_658 (rfl : 658 + 1 = 659) rfl ?_
  refine q_both (Z_far hr) dL_law_659 (rfl : 659 + 3 = 662) lL_93 vX6_far rfl rfl (Nat.le_of_ble_eq_true rfl) LC ?_
  intro x I1 J1 h2
  refine q_aload_n dL_law_662 (rfl : 662 + 1 = 663) rfl ?_
  refine q_both2 h2 dL_law_663 (rfl : 663 + 3 = 666) lL_96 vX7_far rfl rfl (Nat.le_of_ble_eq_true rfl) LC ?_
  intro I2 J2 hr2
  refine q_icmp_eq (q := 882) dL_law_666 (by decide) (rfl : 666 + 3 = 669) (fun _ => K I2 J2 hr2) (fun e => absurd rfl e)
theorem law_odd {L k : Nat} {xs : Nat → Int32} {I : HI} {J : HJ} (hk : 5 * k + 5 ≤ L) (hL : L ≤ 2560) (hr : Rel I J) (K : ∀ I2 J2, Rel I2 J2 → LW L xs k 882 I2 J2) : LW L xs k 671 I J := by
  refine q_aload_n dL_law_671 (rfl : 671 + 1 = 672) rfl ?_
  refine q_both (Z_odd hr) dL_law_672 (rfl : 672 + 3 = 675) lL_97 vX6_odd rfl rfl (Nat.le_of_ble_eq_true rfl) LC ?_
  intro x I1 J1 h2
  refine q_aload_n dL_law_675 (rfl : 675 + 1 = 676) rfl ?_
  refine q_both2 h2 dL_law_676 (rfl : 676 + 3 = 679) lL_100 vX7_odd rfl rfl (Nat.le_of_ble_eq_true rfl) LC ?_
  intro I2 J2 hr2
  refine q_icmp_eq (q := 882) dL_law_679 (by decide) (rfl : 679 + 3 = 682) (fun _ => K I2 J2 hr2) (fun e => absurd rfl e)
theorem law_wish {L k : Nat} {xs : Nat → Int32} {I : HI} {J : HJ} (hk : 5 * k + 5 ≤ L) (hL : L ≤ 2560) (hr : Rel I J) (K : ∀ I2 J2, Rel I2 J2 → LW L xs k 882 I2 J2) : LW L xs k 684 I J := by
  refine q_aload_n dL_law_684 (rfl : 684 + 1 = 685) rfl ?_
  refine q_aload_n dL_law_685 (rfl : 685 + 1 = 686) rfl ?_
  refine q_iload_n dL_law_686 (rfl : 686 + 1 = 687) rfl ?_
  refine q_iconst (v := nI 1) dL_law_687 (rfl : 687 + 1 = 688) (by decide) ?_
  refine q_iadd dL_law_688 (rfl : 688 + 1 = 689) ?_
  rw [nI_add]
  refine q_sld dL_law_689 (rfl : 689 + 1 = 690) (by omega) hL ?_
  refine q_both (Z_wish hr _) dL_law_690 (rfl : 690 + 3 = 693) lL_101 vX6_wish rfl rfl (Nat.le_of_ble_eq_true rfl) LC ?_
  intro x I1 J1 h2
  refine q_aload_n dL_law_693 (rfl : 693 + 1 = 694) rfl ?_
  refine q_aload_n dL_law_694 (rfl : 694 + 1 = 695) rfl ?_
  refine q_iload_n dL_law_695 (rfl : 695 + 1 = 696) rfl ?_
  refine q_iconst (v := nI 1) dL_law_696 (rfl : 696 + 1 = 697) (by decide) ?_
  refine q_iadd dL_law_697 (rfl : 697 + 1 = 698) ?_
  rw [nI_add]
  refine q_sld dL_law_698 (rfl : 698 + 1 = 699) (by omega) hL ?_
  refine q_both2 h2 dL_law_699 (rfl : 699 + 3 = 702) lL_104 vX7_wish rfl rfl (Nat.le_of_ble_eq_true rfl) LC ?_
  intro I2 J2 hr2
  refine q_icmp_eq (q := 882) dL_law_702 (by decide) (rfl : 702 + 3 = 705) (fun _ => K I2 J2 hr2) (fun e => absurd rfl e)
theorem law_nearest {L k : Nat} {xs : Nat → Int32} {I : HI} {J : HJ} (hk : 5 * k + 5 ≤ L) (hL : L ≤ 2560) (hr : Rel I J) (K : ∀ I2 J2, Rel I2 J2 → LW L xs k 882 I2 J2) : LW L xs k 707 I J := by
  refine q_aload_n dL_law_707 (rfl : 707 + 1 = 708) rfl ?_
  refine q_aload_n dL_law_708 (rfl : 708 + 1 = 709) rfl ?_
  refine q_iload_n dL_law_709 (rfl : 709 + 1 = 710) rfl ?_
  refine q_iconst (v := nI 1) dL_law_710 (rfl : 710 + 1 = 711) (by decide) ?_
  refine q_iadd dL_law_711 (rfl : 711 + 1 = 712) ?_
  rw [nI_add]
  refine q_sld dL_law_712 (rfl : 712 + 1 = 713) (by omega) hL ?_
  refine q_aload_n dL_law_713 (rfl : 713 + 1 = 714) rfl ?_
  refine q_iload_n dL_law_714 (rfl : 714 + 1 = 715) rfl ?_
  refine q_iconst (v := nI 2) dL_law_715 (rfl : 715 + 1 = 716) (by decide) ?_
  refine q_iadd dL_law_716 (rfl : 716 + 1 = 717) ?_
  rw [nI_add]
  refine q_sld dL_law_717 (rfl : 717 + 1 = 718) (by omega) hL ?_
  refine q_both (Z_nearest hr _ _) dL_law_718 (rfl : 718 + 3 = 721) lL_105 vX6_nearest rfl rfl (Nat.le_of_ble_eq_true rfl) LC ?_
  intro x I1 J1 h2
  refine q_aload_n dL_law_721 (rfl : 721 + 1 = 722) rfl ?_
  refine q_aload_n dL_law_722 (rfl : 722 + 1 = 723) rfl ?_
  refine q_iload_n dL_law_723 (rfl : 723 + 1 = 724) rfl ?_
  refine q_iconst (v := nI 1) dL_law_724 (rfl : 724 + 1 = 725) (by decide) ?_
  refine q_iadd dL_law_725 (rfl : 725 + 1 = 726) ?_
  rw [nI_add]
  refine q_sld dL_law_726 (rfl : 726 + 1 = 727) (by omega) hL ?_
  refine q_aload_n dL_law_727 (rfl : 727 + 1 = 728) rfl ?_
  refine q_iload_n dL_law_728 (rfl : 728 + 1 = 729) rfl ?_
  refine q_iconst (v := nI 2) dL_law_729 (rfl : 729 + 1 = 730) (by decide) ?_
  refine q_iadd dL_law_730 (rfl : 730 + 1 = 731) ?_
  rw [nI_add]
  refine q_sld dL_law_731 (rfl : 731 + 1 = 732) (by omega) hL ?_
  refine q_both2 h2 dL_law_732 (rfl : 732 + 3 = 735) lL_108 vX7_nearest rfl rfl (Nat.le_of_ble_eq_true rfl) LC ?_
  intro I2 J2 hr2
  refine q_icmp_eq (q := 882) dL_law_735 (by decide) (rfl : 735 + 3 = 738) (fun _ => K I2 J2 hr2) (fun e => absurd rfl e)
theorem law_moved {L k : Nat} {xs : Nat → Int32} {I : HI} {J : HJ} (hk : 5 * k + 5 ≤ L) (hL : L ≤ 2560) (hr : Rel I J) (K : ∀ I2 J2, Rel I2 J2 → LW L xs k 882 I2 J2) : LW L xs k 740 I J := by
  refine q_aload_n dL_law_740 (rfl : 740 + 1 = 741) rfl ?_
  refine q_aload_n dL_law_741 (rfl : 741 + 1 = 742) rfl ?_
  refine q_iload_n dL_law_742 (rfl : 742 + 1 = 743) rfl ?_
  refine q_iconst (v := nI 1) dL_law_743 (rfl : 743 + 1 = 744) (by decide) ?_
  refine q_iadd dL_law_744 (rfl : 744 + 1 = 745) ?_
  rw [nI_add]
  refine q_sld dL_law_745 (rfl : 745 + 1 = 746) (by omega) hL ?_
  refine q_both (Z_moved hr _) dL_law_746 (rfl : 746 + 3 = 749) lL_109 vX6_moved rfl rfl (Nat.le_of_ble_eq_true rfl) LC ?_
  intro x I1 J1 h2
  refine q_aload_n dL_law_749 (rfl : 749 + 1 = 750) rfl ?_
  refine q_aload_n dL_law_750 (rfl : 750 + 1 = 751) rfl ?_
  refine q_iload_n dL_law_751 (rfl : 751 + 1 = 752) rfl ?_
  refine q_iconst (v := nI 1) dL_law_752 (rfl : 752 + 1 = 753) (by decide) ?_
  refine q_iadd dL_law_753 (rfl : 753 + 1 = 754) ?_
  rw [nI_add]
  refine q_sld dL_law_754 (rfl : 754 + 1 = 755) (by omega) hL ?_
  refine q_both2 h2 dL_law_755 (rfl : 755 + 3 = 758) lL_112 vX7_moved rfl rfl (Nat.le_of_ble_eq_true rfl) LC ?_
  intro I2 J2 hr2
  refine q_icmp_eq (q := 882) dL_law_758 (by decide) (rfl : 758 + 3 = 761) (fun _ => K I2 J2 hr2) (fun e => absurd rfl e)
theorem law_rent {L k : Nat} {xs : Nat → Int32} {I : HI} {J : HJ} (hk : 5 * k + 5 ≤ L) (hL : L ≤ 2560) (hr : Rel I J) (K : ∀ I2 J2, Rel I2 J2 → LW L xs k 882 I2 J2) : LW L xs k 763 I J := by
  refine q_aload_n dL_law_763 (rfl : 763 + 1 = 764) rfl ?_
  refine q_aload_n dL_law_764 (rfl : 764 + 1 = 765) rfl ?_
  refine q_iload_n dL_law_765 (rfl : 765 + 1 = 766) rfl ?_
  refine q_iconst (v := nI 1) dL_law_766 (rfl : 766 + 1 = 767) (by decide) ?_
  refine q_iadd dL_law_767 (rfl : 767 + 1 = 768) ?_
  rw [nI_add]
  refine q_sld dL_law_768 (rfl : 768 + 1 = 769) (by omega) hL ?_
  refine q_bothG (Z_rent hr _) dL_law_769 (rfl : 769 + 3 = 772) lL_113 vX6_rent rfl rfl (Nat.le_of_ble_eq_true rfl) LC ?_
  intro x I1 J1 h2
  refine q_aload_n dL_law_772 (rfl : 772 + 1 = 773) rfl ?_
  refine q_aload_n dL_law_773 (rfl : 773 + 1 = 774) rfl ?_
  refine q_iload_n dL_law_774 (rfl : 774 + 1 = 775) rfl ?_
  refine q_iconst (v := nI 1) dL_law_775 (rfl : 775 + 1 = 776) (by decide) ?_
  refine q_iadd dL_law_776 (rfl : 776 + 1 = 777) ?_
  rw [nI_add]
  refine q_sld dL_law_777 (rfl : 777 + 1 = 778) (by omega) hL ?_
  refine q_bothG2 h2 dL_law_778 (rfl : 778 + 3 = 781) lL_117 vX7_rent rfl rfl (Nat.le_of_ble_eq_true rfl) LC ?_
  intro I2 J2 hr2
  refine q_lcmp dL_law_781 (rfl : 781 + 1 = 782) ?_
  refine q_if_eq (q := 882) dL_law_782 (by decide) (rfl : 782 + 3 = 785) (fun _ => K I2 J2 hr2) (fun e => absurd (lcmp_same _) e)
theorem law_winter {L k : Nat} {xs : Nat → Int32} {I : HI} {J : HJ} (hk : 5 * k + 5 ≤ L) (hL : L ≤ 2560) (hr : Rel I J) (K : ∀ I2 J2, Rel I2 J2 → LW L xs k 882 I2 J2) : LW L xs k 787 I J := by
  refine q_aload_n dL_law_787 (rfl : 787 + 1 = 788) rfl ?_
  refine q_aload_n dL_law_788 (rfl : 788 + 1 = 789) rfl ?_
  refine q_iload_n dL_law_789 (rfl : 789 + 1 = 790) rfl ?_
  refine q_iconst (v := nI 1) dL_law_790 (rfl : 790 + 1 = 791) (by decide) ?_
  refine q_iadd dL_law_791 (rfl : 791 + 1 = 792) ?_
  rw [nI_add]
  refine q_sld dL_law_792 (rfl : 792 + 1 = 793) (by omega) hL ?_
  refine q_both (Z_winter hr _) dL_law_793 (rfl : 793 + 3 = 796) lL_118 vX6_winter rfl rfl (Nat.le_of_ble_eq_true rfl) LC ?_
  intro x I1 J1 h2
  refine q_aload_n dL_law_796 (rfl : 796 + 1 = 797) rfl ?_
  refine q_aload_n dL_law_797 (rfl : 797 + 1 = 798) rfl ?_
  refine q_iload_n dL_law_798 (rfl : 798 + 1 = 799) rfl ?_
  refine q_iconst (v := nI 1) dL_law_799 (rfl : 799 + 1 = 800) (by decide) ?_
  refine q_iadd dL_law_800 (rfl : 800 + 1 = 801) ?_
  rw [nI_add]
  refine q_sld dL_law_801 (rfl : 801 + 1 = 802) (by omega) hL ?_
  refine q_both2 h2 dL_law_802 (rfl : 802 + 3 = 805) lL_121 vX7_winter rfl rfl (Nat.le_of_ble_eq_true rfl) LC ?_
  intro I2 J2 hr2
  refine q_icmp_eq (q := 882) dL_law_805 (by decide) (rfl : 805 + 3 = 808) (fun _ => K I2 J2 hr2) (fun e => absurd rfl e)
theorem law_ten {L k : Nat} {xs : Nat → Int32} {I : HI} {J : HJ} (hk : 5 * k + 5 ≤ L) (hL : L ≤ 2560) (hr : Rel I J) (K : ∀ I2 J2, Rel I2 J2 → LW L xs k 882 I2 J2) : LW L xs k 810 I J := by
  refine q_aload_n dL_law_810 (rfl : 810 + 1 = 811) rfl ?_
  refine q_aload_n dL_law_811 (rfl : 811 + 1 = 812) rfl ?_
  refine q_iload_n dL_law_812 (rfl : 812 + 1 = 813) rfl ?_
  refine q_iconst (v := nI 1) dL_law_813 (rfl : 813 + 1 = 814) (by decide) ?_
  refine q_iadd dL_law_814 (rfl : 814 + 1 = 815) ?_
  rw [nI_add]
  refine q_sld dL_law_815 (rfl : 815 + 1 = 816) (by omega) hL ?_
  refine q_both (Z_ten hr _) dL_law_816 (rfl : 816 + 3 = 819) lL_122 vX6_ten rfl rfl (Nat.le_of_ble_eq_true rfl) LC ?_
  intro x I1 J1 h2
  refine q_aload_n dL_law_819 (rfl : 819 + 1 = 820) rfl ?_
  refine q_aload_n dL_law_820 (rfl : 820 + 1 = 821) rfl ?_
  refine q_iload_n dL_law_821 (rfl : 821 + 1 = 822) rfl ?_
  refine q_iconst (v := nI 1) dL_law_822 (rfl : 822 + 1 = 823) (by decide) ?_
  refine q_iadd dL_law_823 (rfl : 823 + 1 = 824) ?_
  rw [nI_add]
  refine q_sld dL_law_824 (rfl : 824 + 1 = 825) (by omega) hL ?_
  refine q_both2 h2 dL_law_825 (rfl : 825 + 3 = 828) lL_125 vX7_ten rfl rfl (Nat.le_of_ble_eq_true rfl) LC ?_
  intro I2 J2 hr2
  refine q_icmp_eq (q := 882) dL_law_828 (by decide) (rfl : 828 + 3 = 831) (fun _ => K I2 J2 hr2) (fun e => absurd rfl e)
theorem law_keep {L k : Nat} {xs : Nat → Int32} {I : HI} {J : HJ} (hk : 5 * k + 5 ≤ L) (hL : L ≤ 2560) (hr : Rel I J) (K : ∀ I2 J2, Rel I2 J2 → LW L xs k 882 I2 J2) : LW L xs k 833 I J := by
  refine q_aload_n dL_law_833 (rfl : 833 + 1 = 834) rfl ?_
  refine q_both (Z_keep hr) dL_law_834 (rfl : 834 + 3 = 837) lL_126 vX6_keep rfl rfl (Nat.le_of_ble_eq_true rfl) LC ?_
  intro x I1 J1 h2
  refine q_aload_n dL_law_837 (rfl : 837 + 1 = 838) rfl ?_
  refine q_both2 h2 dL_law_838 (rfl : 838 + 3 = 841) lL_129 vX7_keep rfl rfl (Nat.le_of_ble_eq_true rfl) LC ?_
  intro I2 J2 hr2
  refine q_icmp_eq (q := 882) dL_law_841 (by decide) (rfl : 841 + 3 = 844) (fun _ => K I2 J2 hr2) (fun e => absurd rfl e)
theorem law_back {L k : Nat} {xs : Nat → Int32} {I : HI} {J : HJ} (hk : 5 * k + 5 ≤ L) (hL : L ≤ 2560) (hr : Rel I J) (K : ∀ I2 J2, Rel I2 J2 → LW L xs k 882 I2 J2) : LW L xs k 846 I J := by
  refine q_aload_n dL_law_846 (rfl : 846 + 1 = 847) rfl ?_
  refine q_both (Z_back hr) dL_law_847 (rfl : 847 + 3 = 850) lL_130 vX6_back rfl rfl (Nat.le_of_ble_eq_true rfl) LC ?_
  intro x I1 J1 h2
  refine q_aload_n dL_law_850 (rfl : 850 + 1 = 851) rfl ?_
  refine q_both2 h2 dL_law_851 (rfl : 851 + 3 = 854) lL_133 vX7_back rfl rfl (Nat.le_of_ble_eq_true rfl) LC ?_
  intro I2 J2 hr2
  refine q_icmp_eq (q := 882) dL_law_854 (by decide) (rfl : 854 + 3 = 857) (fun _ => K I2 J2 hr2) (fun e => absurd rfl e)
theorem law_count {L k : Nat} {xs : Nat → Int32} {I : HI} {J : HJ} (hk : 5 * k + 5 ≤ L) (hL : L ≤ 2560) (hr : Rel I J) (K : ∀ I2 J2, Rel I2 J2 → LW L xs k 882 I2 J2) : LW L xs k 859 I J := by
  refine q_aload_n dL_law_859 (rfl : 859 + 1 = 860) rfl ?_
  refine q_aload_n dL_law_860 (rfl : 860 + 1 = 861) rfl ?_
  refine q_iload_n dL_law_861 (rfl : 861 + 1 = 862) rfl ?_
  refine q_iconst (v := nI 1) dL_law_862 (rfl : 862 + 1 = 863) (by decide) ?_
  refine q_iadd dL_law_863 (rfl : 863 + 1 = 864) ?_
  rw [nI_add]
  refine q_sld dL_law_864 (rfl : 864 + 1 = 865) (by omega) hL ?_
  refine q_both (Z_count hr _) dL_law_865 (rfl : 865 + 3 = 868) lL_134 vX6_count rfl rfl (Nat.le_of_ble_eq_true rfl) LC ?_
  intro x I1 J1 h2
  refine q_aload_n dL_law_868 (rfl : 868 + 1 = 869) rfl ?_
  refine q_aload_n dL_law_869 (rfl : 869 + 1 = 870) rfl ?_
  refine q_iload_n dL_law_870 (rfl : 870 + 1 = 871) rfl ?_
  refine q_iconst (v := nI 1) dL_law_871 (rfl : 871 + 1 = 872) (by decide) ?_
  refine q_iadd dL_law_872 (rfl : 872 + 1 = 873) ?_
  rw [nI_add]
  refine q_sld dL_law_873 (rfl : 873 + 1 = 874) (by omega) hL ?_
  refine q_both2 h2 dL_law_874 (rfl : 874 + 3 = 877) lL_137 vX7_count rfl rfl (Nat.le_of_ble_eq_true rfl) LC ?_
  intro I2 J2 hr2
  refine q_icmp_eq (q := 882) dL_law_877 (by decide) (rfl : 877 + 3 = 880) (fun _ => K I2 J2 hr2) (fun e => absurd rfl e)
