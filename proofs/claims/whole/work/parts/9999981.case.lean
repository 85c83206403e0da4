/-! the law: the cases of its switch, 1 of 4 -/
theorem k9_steps {a : Int → Int} {kd s t n : Int} : kSteps a kd s t n ≤ 9 := by
  have h := k9_size (a := a) (kd := kd) (s := s) (t := t) (n := n)
  unfold kSteps
  repeat' (first | omega | split)
section LAWK
variable {g : GT} {nm : String} {hh : List (Nat × Nat × Nat × Nat)} {S : PS} {kc ks : Nat} {Q : PO → PS → Prop} {x b n : Nat} {xs : Nat → Int32} {i : Int}
theorem K_feed (hS : SJ g b n xs) (h0 : 0 ≤ i) (hi : i + 6 ≤ n) (hW : WJ S x) (kk : ∀ S' : PS, WJ S' x → PW g cL_law (iL_law nm hh) 2986 (lL b x i) [] S' kc ks Q) : PW g cL_law (iL_law nm hh) 216 (lL b x i) [] S (kc + 12) (ks + 60) Q := by
  obtain ⟨a, H, nx, ct, fd, ea, th, tx, kp, bf, hX, hI, hf, hJ, hK, hB, hF⟩ := hW
  refine r_aload_n dL_law_216 (i := 1) rfl rfl ?_
  refine r_arg dL_law_217 dL_law_218 dL_law_220 dL_law_221 dL_law_222 hS rfl rfl h0 (by omega) hi ?_
  refine r_arg dL_law_223 dL_law_224 dL_law_226 dL_law_227 dL_law_228 hS rfl rfl h0 (by omega) hi ?_
  refine r_arg dL_law_229 dL_law_230 dL_law_232 dL_law_233 dL_law_234 hS rfl rfl h0 (by omega) hi ?_
  refine r_arg dL_law_235 dL_law_236 dL_law_238 dL_law_239 dL_law_240 hS rfl rfl h0 (by omega) hi ?_
  refine r_arg dL_law_241 dL_law_242 dL_law_244 dL_law_245 dL_law_246 hS rfl rfl h0 (by omega) hi ?_
  refine r_aload_n dL_law_247 (i := 3) rfl rfl ?_
  have c1 := L1_feed (g := g) (mc := 1) (ms := 6) (v0 := sA xs (i + 1)) (v1 := sA xs (i + 2)) (v2 := sA xs (i + 3)) (v3 := sA xs (i + 4)) (v4 := sA xs (i + 5)) hX hI hJ hF hf sA_ri sA_ri sA_ri sA_ri sA_ri (Nat.le_refl _) (Nat.le_refl _) (k9_feed (v0 := sA xs (i + 1)) (v1 := sA xs (i + 2)) (v2 := sA xs (i + 3)) (v3 := sA xs (i + 4)) (v4 := sA xs (i + 5)))
  refine r_invW dL_law_248 c1 (fun E S' h => by cases h.1) mq_L_feed ml_L_145 ⟨Nat.le_of_ble_eq_true rfl, Nat.le_of_ble_eq_true rfl⟩ rfl rfl (Nat.le_of_ble_eq_true rfl) (kc' := kc) (ks' := ks) (by show 1 + kc ≤ kc + 12; omega) (by show 6 + ks ≤ ks + 60; omega) (fun o S1 hc => ?_)
  obtain ⟨e1, hk9, hJ1, hF1, -, -⟩ := id hc
  cases e1
  refine r_istore (x := _) dL_law_251 rfl (Nat.le_of_ble_eq_true rfl) ?_
  refine r_aload_n dL_law_253 (i := 2) rfl rfl ?_
  refine r_arg dL_law_254 dL_law_255 dL_law_257 dL_law_258 dL_law_259 hS rfl rfl h0 (by omega) hi ?_
  refine r_arg dL_law_260 dL_law_261 dL_law_263 dL_law_264 dL_law_265 hS rfl rfl h0 (by omega) hi ?_
  refine r_arg dL_law_266 dL_law_267 dL_law_269 dL_law_270 dL_law_271 hS rfl rfl h0 (by omega) hi ?_
  refine r_arg dL_law_272 dL_law_273 dL_law_275 dL_law_276 dL_law_277 hS rfl rfl h0 (by omega) hi ?_
  refine r_arg dL_law_278 dL_law_279 dL_law_281 dL_law_282 dL_law_283 hS rfl rfl h0 (by omega) hi ?_
  have c2 := M1_feed (g := g) (mc := 0) (ms := 0) (v0 := sA xs (i + 1)) (v1 := sA xs (i + 2)) (v2 := sA xs (i + 3)) (v3 := sA xs (i + 4)) (v4 := sA xs (i + 5)) hJ1 hf sA_ri sA_ri sA_ri sA_ri sA_ri
  obtain ⟨sz, at', be, ki, wr, wa, nu, bs, bw, bt', hm⟩ := hJ1.1
  refine r_invV dL_law_284 c2 mq_X10_feed ml_L_150 ⟨Nat.le_of_ble_eq_true rfl, Nat.le_of_ble_eq_true rfl⟩ hm rfl rfl rfl (Nat.le_of_ble_eq_true rfl) (kc' := kc) (ks' := ks) (by show 0 + kc ≤ kc; omega) (by show 0 + ks ≤ ks; omega) (fun E S2 h => by obtain ⟨r, h1, h2⟩ := h; cases h1) (fun o2 S2 hq => ?_)
  obtain ⟨r, h1, m3, m4, hm2⟩ := hq
  cases h1
  have hE := e_feed hI hf hK hB hc m3 m4 hm2
  exact t_I dL_law_287 dL_law_289 dL_law_290 dL_law_293 dL_law_295 dL_law_300 dL_law_302 dL_law_305 dL_law_306 dL_law_307 dL_law_308 dL_law_310 dL_law_311 dL_law_312 dL_law_317 (by decide) hE (kk _ hE.1)
theorem K_addPrime (hS : SJ g b n xs) (h0 : 0 ≤ i) (hi : i + 6 ≤ n) (hW : WJ S x) (kk : ∀ S' : PS, WJ S' x → PW g cL_law (iL_law nm hh) 2986 (lL b x i) [] S' kc ks Q) : PW g cL_law (iL_law nm hh) 402 (lL b x i) [] S (kc + 12) (ks + 60) Q := by
  obtain ⟨a, H, nx, ct, fd, ea, th, tx, kp, bf, hX, hI, hf, hJ, hK, hB, hF⟩ := hW
  refine r_aload_n dL_law_402 (i := 1) rfl rfl ?_
  refine r_arg dL_law_403 dL_law_404 dL_law_406 dL_law_407 dL_law_408 hS rfl rfl h0 (by omega) hi ?_
  refine r_aload_n dL_law_409 (i := 3) rfl rfl ?_
  have c1 := L1_addPrime (g := g) (mc := 2) (ms := 10) (p := sA xs (i + 1)) hX hI hJ hF hf sA_ri (Nat.le_refl _) (Nat.le_refl _) (k9_addPrime (p := sA xs (i + 1)))
  refine r_invW dL_law_410 c1 (fun E S' h => by cases h.1) mq_L_addPrime ml_L_166 ⟨Nat.le_of_ble_eq_true rfl, Nat.le_of_ble_eq_true rfl⟩ rfl rfl (Nat.le_of_ble_eq_true rfl) (kc' := kc) (ks' := ks) (by show 2 + kc ≤ kc + 12; omega) (by show 10 + ks ≤ ks + 60; omega) (fun o S1 hc => ?_)
  obtain ⟨e1, hk9, hJ1, hF1, -, -⟩ := id hc
  cases e1
  refine r_istore (x := _) dL_law_413 rfl (Nat.le_of_ble_eq_true rfl) ?_
  refine r_aload_n dL_law_415 (i := 2) rfl rfl ?_
  refine r_arg dL_law_416 dL_law_417 dL_law_419 dL_law_420 dL_law_421 hS rfl rfl h0 (by omega) hi ?_
  have c2 := M1_addPrime (g := g) (mc := 0) (ms := 0) (p := sA xs (i + 1)) hI hX.2.2.2.1.2.2 hJ1 sA_ri
  obtain ⟨sz, at', be, ki, wr, wa, nu, bs, bw, bt', hm⟩ := hJ1.1
  refine r_invV dL_law_422 c2 mq_X10_addPrime ml_L_168 ⟨Nat.le_of_ble_eq_true rfl, Nat.le_of_ble_eq_true rfl⟩ hm rfl rfl rfl (Nat.le_of_ble_eq_true rfl) (kc' := kc) (ks' := ks) (by show 0 + kc ≤ kc; omega) (by show 0 + ks ≤ ks; omega) (fun E S2 h => by obtain ⟨r, h1, h2⟩ := h; cases h1) (fun o2 S2 hq => ?_)
  obtain ⟨r, h1, h2⟩ := id hq
  cases h1
  have hE := e_C hX.2.2.2.1.2.1 hX.2.2.2.1.2.2 hI (fun h => ia_add hI h) hf hK hB hc hq
  exact t_I dL_law_425 dL_law_427 dL_law_428 dL_law_431 dL_law_433 dL_law_438 dL_law_440 dL_law_443 dL_law_444 dL_law_445 dL_law_446 dL_law_448 dL_law_449 dL_law_450 dL_law_455 (by decide) hE (kk _ hE.1)
end LAWK
