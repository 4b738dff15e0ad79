/-! the law from its loop on: each case, then the loop -/
theorem z_s0 {k L : Nat} (h : k + 7 ≤ L) (hl : L < 2 ^ 31) : vp_in (nI k) L := z_in (t := k) (by omega) hl
theorem z_s1 {k L : Nat} (h : k + 7 ≤ L) (hl : L < 2 ^ 31) : vp_in (nI k + 1) L := (show vp_in (nI k + nI 1) L by rw [z_nIadd]; exact z_in (by omega) hl)
theorem z_s2 {k L : Nat} (h : k + 7 ≤ L) (hl : L < 2 ^ 31) : vp_in (nI k + 2) L := (show vp_in (nI k + nI 2) L by rw [z_nIadd]; exact z_in (by omega) hl)
theorem z_s3 {k L : Nat} (h : k + 7 ≤ L) (hl : L < 2 ^ 31) : vp_in (nI k + 3) L := (show vp_in (nI k + nI 3) L by rw [z_nIadd]; exact z_in (by omega) hl)
theorem z_s4 {k L : Nat} (h : k + 7 ≤ L) (hl : L < 2 ^ 31) : vp_in (nI k + 4) L := (show vp_in (nI k + nI 4) L by rw [z_nIadd]; exact z_in (by omega) hl)
theorem z_s5 {k L : Nat} (h : k + 7 ≤ L) (hl : L < 2 ^ 31) : vp_in (nI k + 5) L := (show vp_in (nI k + nI 5) L by rw [z_nIadd]; exact z_in (by omega) hl)
theorem z_s6 {k L : Nat} (h : k + 7 ≤ L) (hl : L < 2 ^ 31) : vp_in (nI k + 6) L := (show vp_in (nI k + nI 6) L by rw [z_nIadd]; exact z_in (by omega) hl)
theorem lg_self (x : Int64) : lg_cmp x x = 0 := by
  unfold lg_cmp
  simp
theorem iS.len {σ τ : zS} (h : iS σ τ) : z_len τ = z_len σ := by unfold z_len; rw [h.2]
theorem lw_portage {k : Nat} {σ : zS} {Q : Option Value → zS → Prop} (hI : iN σ) (hL : k + 7 ≤ z_len σ) (hl : z_len σ < 2 ^ 31) (hk : ∀ τ, iN τ → iS σ τ → z_At mL_law 8 1238 [.ref 63, .ref 0, .ref 43, .int (nI k)] [] τ Q) : z_At mL_law 8 168 [.ref 63, .ref 0, .ref 43, .int (nI k)] [] σ Q := by
  refine x_aload1 (pc2 := 169) dL_law_168 rfl ?_
  refine x_aload0 (pc2 := 170) dL_law_169 rfl ?_
  refine x_iload3 (pc2 := 171) dL_law_170 rfl ?_
  refine x_iconst (v := 1) (pc2 := 172) dL_law_171 rfl (by decide) ?_
  refine x_iadd (pc2 := 173) dL_law_172 rfl ?_
  refine x_sld (pc2 := 174) (by exact z_s1 hL hl) dL_law_173 rfl ?_
  refine x_aload0 (pc2 := 175) dL_law_174 rfl ?_
  refine x_iload3 (pc2 := 176) dL_law_175 rfl ?_
  refine x_iconst (v := 2) (pc2 := 177) dL_law_176 rfl (by decide) ?_
  refine x_iadd (pc2 := 178) dL_law_177 rfl ?_
  refine x_sld (pc2 := 179) (by exact z_s2 hL hl) dL_law_178 rfl ?_
  refine x_aload0 (pc2 := 180) dL_law_179 rfl ?_
  refine x_iload3 (pc2 := 181) dL_law_180 rfl ?_
  refine x_iconst (v := 3) (pc2 := 182) dL_law_181 rfl (by decide) ?_
  refine x_iadd (pc2 := 183) dL_law_182 rfl ?_
  refine x_sld (pc2 := 184) (by exact z_s3 hL hl) dL_law_183 rfl ?_
  refine x_aload0 (pc2 := 185) dL_law_184 rfl ?_
  refine x_iload3 (pc2 := 186) dL_law_185 rfl ?_
  refine x_iconst (v := 4) (pc2 := 187) dL_law_186 rfl (by decide) ?_
  refine x_iadd (pc2 := 188) dL_law_187 rfl ?_
  refine x_sld (pc2 := 189) (by exact z_s4 hL hl) dL_law_188 rfl ?_
  refine x_cV4 eX5_portage kL_13 sh_0 rfl (Nat.le_of_ble_eq_true rfl) dL_law_189 ?_
  refine (i_portage hI _ _ _ _).mono ?_
  rintro rv τ ⟨v, rfl, ⟨w, rfl⟩, hs, hm⟩
  show z_At _ _ 192 _ [.int w] _ _
  have hL : k + 7 ≤ z_len τ := by rw [hs.len]; exact hL
  have hl : z_len τ < 2 ^ 31 := by rw [hs.len]; exact hl
  refine x_aload2 (pc2 := 193) dL_law_192 rfl ?_
  refine x_aload0 (pc2 := 194) dL_law_193 rfl ?_
  refine x_iload3 (pc2 := 195) dL_law_194 rfl ?_
  refine x_iconst (v := 1) (pc2 := 196) dL_law_195 rfl (by decide) ?_
  refine x_iadd (pc2 := 197) dL_law_196 rfl ?_
  refine x_sld (pc2 := 198) (by exact z_s1 hL hl) dL_law_197 rfl ?_
  refine x_aload0 (pc2 := 199) dL_law_198 rfl ?_
  refine x_iload3 (pc2 := 200) dL_law_199 rfl ?_
  refine x_iconst (v := 2) (pc2 := 201) dL_law_200 rfl (by decide) ?_
  refine x_iadd (pc2 := 202) dL_law_201 rfl ?_
  refine x_sld (pc2 := 203) (by exact z_s2 hL hl) dL_law_202 rfl ?_
  refine x_aload0 (pc2 := 204) dL_law_203 rfl ?_
  refine x_iload3 (pc2 := 205) dL_law_204 rfl ?_
  refine x_iconst (v := 3) (pc2 := 206) dL_law_205 rfl (by decide) ?_
  refine x_iadd (pc2 := 207) dL_law_206 rfl ?_
  refine x_sld (pc2 := 208) (by exact z_s3 hL hl) dL_law_207 rfl ?_
  refine x_aload0 (pc2 := 209) dL_law_208 rfl ?_
  refine x_iload3 (pc2 := 210) dL_law_209 rfl ?_
  refine x_iconst (v := 4) (pc2 := 211) dL_law_210 rfl (by decide) ?_
  refine x_iadd (pc2 := 212) dL_law_211 rfl ?_
  refine x_sld (pc2 := 213) (by exact z_s4 hL hl) dL_law_212 rfl ?_
  rw [hs.1]
  refine x_cV4 eX6_portage kL_17 sh_43 rfl (Nat.le_of_ble_eq_true rfl) dL_law_213 ?_
  refine hm.mono ?_
  rintro rv υ ⟨rfl, hI', hs'⟩
  show z_At _ _ 216 _ [.int w, .int w] _ _
  refine x_icmp_eq (pc2 := 219) (pc3 := 1238) dL_law_216 rfl rfl (fun h216 => ?_) (fun h216 => ?_)
  · exact hk υ hI' hs'
  · exact absurd rfl h216
theorem lw_ofStage {k : Nat} {σ : zS} {Q : Option Value → zS → Prop} (hI : iN σ) (hL : k + 7 ≤ z_len σ) (hl : z_len σ < 2 ^ 31) (hk : ∀ τ, iN τ → iS σ τ → z_At mL_law 8 1238 [.ref 63, .ref 0, .ref 43, .int (nI k)] [] τ Q) : z_At mL_law 8 221 [.ref 63, .ref 0, .ref 43, .int (nI k)] [] σ Q := by
  refine x_aload1 (pc2 := 222) dL_law_221 rfl ?_
  refine x_aload0 (pc2 := 223) dL_law_222 rfl ?_
  refine x_iload3 (pc2 := 224) dL_law_223 rfl ?_
  refine x_iconst (v := 1) (pc2 := 225) dL_law_224 rfl (by decide) ?_
  refine x_iadd (pc2 := 226) dL_law_225 rfl ?_
  refine x_sld (pc2 := 227) (by exact z_s1 hL hl) dL_law_226 rfl ?_
  refine x_aload0 (pc2 := 228) dL_law_227 rfl ?_
  refine x_iload3 (pc2 := 229) dL_law_228 rfl ?_
  refine x_iconst (v := 2) (pc2 := 230) dL_law_229 rfl (by decide) ?_
  refine x_iadd (pc2 := 231) dL_law_230 rfl ?_
  refine x_sld (pc2 := 232) (by exact z_s2 hL hl) dL_law_231 rfl ?_
  refine x_cV2 eX5_ofStage kL_18 sh_0 rfl (Nat.le_of_ble_eq_true rfl) dL_law_232 ?_
  refine (i_ofStage hI _ _).mono ?_
  rintro rv τ ⟨v, rfl, ⟨w, rfl⟩, hs, hm⟩
  show z_At _ _ 235 _ [.int w] _ _
  have hL : k + 7 ≤ z_len τ := by rw [hs.len]; exact hL
  have hl : z_len τ < 2 ^ 31 := by rw [hs.len]; exact hl
  refine x_aload2 (pc2 := 236) dL_law_235 rfl ?_
  refine x_aload0 (pc2 := 237) dL_law_236 rfl ?_
  refine x_iload3 (pc2 := 238) dL_law_237 rfl ?_
  refine x_iconst (v := 1) (pc2 := 239) dL_law_238 rfl (by decide) ?_
  refine x_iadd (pc2 := 240) dL_law_239 rfl ?_
  refine x_sld (pc2 := 241) (by exact z_s1 hL hl) dL_law_240 rfl ?_
  refine x_aload0 (pc2 := 242) dL_law_241 rfl ?_
  refine x_iload3 (pc2 := 243) dL_law_242 rfl ?_
  refine x_iconst (v := 2) (pc2 := 244) dL_law_243 rfl (by decide) ?_
  refine x_iadd (pc2 := 245) dL_law_244 rfl ?_
  refine x_sld (pc2 := 246) (by exact z_s2 hL hl) dL_law_245 rfl ?_
  rw [hs.1]
  refine x_cV2 eX6_ofStage kL_22 sh_43 rfl (Nat.le_of_ble_eq_true rfl) dL_law_246 ?_
  refine hm.mono ?_
  rintro rv υ ⟨rfl, hI', hs'⟩
  show z_At _ _ 249 _ [.int w, .int w] _ _
  refine x_icmp_eq (pc2 := 252) (pc3 := 1238) dL_law_249 rfl rfl (fun h249 => ?_) (fun h249 => ?_)
  · exact hk υ hI' hs'
  · exact absurd rfl h249
theorem lw_ofThing {k : Nat} {σ : zS} {Q : Option Value → zS → Prop} (hI : iN σ) (hL : k + 7 ≤ z_len σ) (hl : z_len σ < 2 ^ 31) (hk : ∀ τ, iN τ → iS σ τ → z_At mL_law 8 1238 [.ref 63, .ref 0, .ref 43, .int (nI k)] [] τ Q) : z_At mL_law 8 254 [.ref 63, .ref 0, .ref 43, .int (nI k)] [] σ Q := by
  refine x_aload1 (pc2 := 255) dL_law_254 rfl ?_
  refine x_aload0 (pc2 := 256) dL_law_255 rfl ?_
  refine x_iload3 (pc2 := 257) dL_law_256 rfl ?_
  refine x_iconst (v := 1) (pc2 := 258) dL_law_257 rfl (by decide) ?_
  refine x_iadd (pc2 := 259) dL_law_258 rfl ?_
  refine x_sld (pc2 := 260) (by exact z_s1 hL hl) dL_law_259 rfl ?_
  refine x_aload0 (pc2 := 261) dL_law_260 rfl ?_
  refine x_iload3 (pc2 := 262) dL_law_261 rfl ?_
  refine x_iconst (v := 2) (pc2 := 263) dL_law_262 rfl (by decide) ?_
  refine x_iadd (pc2 := 264) dL_law_263 rfl ?_
  refine x_sld (pc2 := 265) (by exact z_s2 hL hl) dL_law_264 rfl ?_
  refine x_cV2 eX5_ofThing kL_23 sh_0 rfl (Nat.le_of_ble_eq_true rfl) dL_law_265 ?_
  refine (i_ofThing hI _ _).mono ?_
  rintro rv τ ⟨v, rfl, ⟨w, rfl⟩, hs, hm⟩
  show z_At _ _ 268 _ [.int w] _ _
  have hL : k + 7 ≤ z_len τ := by rw [hs.len]; exact hL
  have hl : z_len τ < 2 ^ 31 := by rw [hs.len]; exact hl
  refine x_aload2 (pc2 := 269) dL_law_268 rfl ?_
  refine x_aload0 (pc2 := 270) dL_law_269 rfl ?_
  refine x_iload3 (pc2 := 271) dL_law_270 rfl ?_
  refine x_iconst (v := 1) (pc2 := 272) dL_law_271 rfl (by decide) ?_
  refine x_iadd (pc2 := 273) dL_law_272 rfl ?_
  refine x_sld (pc2 := 274) (by exact z_s1 hL hl) dL_law_273 rfl ?_
  refine x_aload0 (pc2 := 275) dL_law_274 rfl ?_
  refine x_iload3 (pc2 := 276) dL_law_275 rfl ?_
  refine x_iconst (v := 2) (pc2 := 277) dL_law_276 rfl (by decide) ?_
  refine x_iadd (pc2 := 278) dL_law_277 rfl ?_
  refine x_sld (pc2 := 279) (by exact z_s2 hL hl) dL_law_278 rfl ?_
  rw [hs.1]
  refine x_cV2 eX6_ofThing kL_26 sh_43 rfl (Nat.le_of_ble_eq_true rfl) dL_law_279 ?_
  refine hm.mono ?_
  rintro rv υ ⟨rfl, hI', hs'⟩
  show z_At _ _ 282 _ [.int w, .int w] _ _
  refine x_icmp_eq (pc2 := 285) (pc3 := 1238) dL_law_282 rfl rfl (fun h282 => ?_) (fun h282 => ?_)
  · exact hk υ hI' hs'
  · exact absurd rfl h282
theorem lw_bears {k : Nat} {σ : zS} {Q : Option Value → zS → Prop} (hI : iN σ) (hL : k + 7 ≤ z_len σ) (hl : z_len σ < 2 ^ 31) (hk : ∀ τ, iN τ → iS σ τ → z_At mL_law 8 1238 [.ref 63, .ref 0, .ref 43, .int (nI k)] [] τ Q) : z_At mL_law 8 287 [.ref 63, .ref 0, .ref 43, .int (nI k)] [] σ Q := by
  refine x_aload1 (pc2 := 288) dL_law_287 rfl ?_
  refine x_aload0 (pc2 := 289) dL_law_288 rfl ?_
  refine x_iload3 (pc2 := 290) dL_law_289 rfl ?_
  refine x_iconst (v := 1) (pc2 := 291) dL_law_290 rfl (by decide) ?_
  refine x_iadd (pc2 := 292) dL_law_291 rfl ?_
  refine x_sld (pc2 := 293) (by exact z_s1 hL hl) dL_law_292 rfl ?_
  refine x_cV1 eX5_bears kL_27 sh_0 rfl (Nat.le_of_ble_eq_true rfl) dL_law_293 ?_
  refine (i_bears hI _).mono ?_
  rintro rv τ ⟨v, rfl, ⟨w, rfl⟩, hs, hm⟩
  show z_At _ _ 296 _ [.int w] _ _
  have hL : k + 7 ≤ z_len τ := by rw [hs.len]; exact hL
  have hl : z_len τ < 2 ^ 31 := by rw [hs.len]; exact hl
  refine x_aload2 (pc2 := 297) dL_law_296 rfl ?_
  refine x_aload0 (pc2 := 298) dL_law_297 rfl ?_
  refine x_iload3 (pc2 := 299) dL_law_298 rfl ?_
  refine x_iconst (v := 1) (pc2 := 300) dL_law_299 rfl (by decide) ?_
  refine x_iadd (pc2 := 301) dL_law_300 rfl ?_
  refine x_sld (pc2 := 302) (by exact z_s1 hL hl) dL_law_301 rfl ?_
  rw [hs.1]
  refine x_cV1 eX6_bears kL_31 sh_43 rfl (Nat.le_of_ble_eq_true rfl) dL_law_302 ?_
  refine hm.mono ?_
  rintro rv υ ⟨rfl, hI', hs'⟩
  show z_At _ _ 305 _ [.int w, .int w] _ _
  refine x_icmp_eq (pc2 := 308) (pc3 := 1238) dL_law_305 rfl rfl (fun h305 => ?_) (fun h305 => ?_)
  · exact hk υ hI' hs'
  · exact absurd rfl h305
theorem lw_rain {k : Nat} {σ : zS} {Q : Option Value → zS → Prop} (hI : iN σ) (hL : k + 7 ≤ z_len σ) (hl : z_len σ < 2 ^ 31) (hk : ∀ τ, iN τ → iS σ τ → z_At mL_law 8 1238 [.ref 63, .ref 0, .ref 43, .int (nI k)] [] τ Q) : z_At mL_law 8 310 [.ref 63, .ref 0, .ref 43, .int (nI k)] [] σ Q := by
  refine x_aload1 (pc2 := 311) dL_law_310 rfl ?_
  refine x_aload0 (pc2 := 312) dL_law_311 rfl ?_
  refine x_iload3 (pc2 := 313) dL_law_312 rfl ?_
  refine x_iconst (v := 1) (pc2 := 314) dL_law_313 rfl (by decide) ?_
  refine x_iadd (pc2 := 315) dL_law_314 rfl ?_
  refine x_sld (pc2 := 316) (by exact z_s1 hL hl) dL_law_315 rfl ?_
  refine x_cV1 eX5_rain kL_32 sh_0 rfl (Nat.le_of_ble_eq_true rfl) dL_law_316 ?_
  refine (i_rain hI _).mono ?_
  rintro rv τ ⟨v, rfl, ⟨w, rfl⟩, hs, hm⟩
  show z_At _ _ 319 _ [.int w] _ _
  have hL : k + 7 ≤ z_len τ := by rw [hs.len]; exact hL
  have hl : z_len τ < 2 ^ 31 := by rw [hs.len]; exact hl
  refine x_aload2 (pc2 := 320) dL_law_319 rfl ?_
  refine x_aload0 (pc2 := 321) dL_law_320 rfl ?_
  refine x_iload3 (pc2 := 322) dL_law_321 rfl ?_
  refine x_iconst (v := 1) (pc2 := 323) dL_law_322 rfl (by decide) ?_
  refine x_iadd (pc2 := 324) dL_law_323 rfl ?_
  refine x_sld (pc2 := 325) (by exact z_s1 hL hl) dL_law_324 rfl ?_
  rw [hs.1]
  refine x_cV1 eX6_rain kL_35 sh_43 rfl (Nat.le_of_ble_eq_true rfl) dL_law_325 ?_
  refine hm.mono ?_
  rintro rv υ ⟨rfl, hI', hs'⟩
  show z_At _ _ 328 _ [.int w, .int w] _ _
  refine x_icmp_eq (pc2 := 331) (pc3 := 1238) dL_law_328 rfl rfl (fun h328 => ?_) (fun h328 => ?_)
  · exact hk υ hI' hs'
  · exact absurd rfl h328
theorem lw_boards {k : Nat} {σ : zS} {Q : Option Value → zS → Prop} (hI : iN σ) (hL : k + 7 ≤ z_len σ) (hl : z_len σ < 2 ^ 31) (hk : ∀ τ, iN τ → iS σ τ → z_At mL_law 8 1238 [.ref 63, .ref 0, .ref 43, .int (nI k)] [] τ Q) : z_At mL_law 8 333 [.ref 63, .ref 0, .ref 43, .int (nI k)] [] σ Q := by
  have hgo : ∀ a : Int32, (a = 0 ∨ a = 1) → a = (if σ.1 63 (nI k + 2).toNatClampNeg = 0 then 0 else 1) → z_At mL_law 8 352 [.ref 63, .ref 0, .ref 43, .int (nI k)] [.int a, .int (σ.1 63 (nI k + 1).toNatClampNeg), .ref 0] σ Q := by
    intro a ha ea
    refine x_cV2 eX5_boards kL_36 sh_0 rfl (Nat.le_of_ble_eq_true rfl) dL_law_352 ?_
    refine (i_boards hI _ _ ha).mono ?_
    rintro rv τ ⟨v, rfl, ⟨w, rfl⟩, hs, hm⟩
    show z_At _ _ 355 _ [.int w] _ _
    have hL : k + 7 ≤ z_len τ := by rw [hs.len]; exact hL
    have hl : z_len τ < 2 ^ 31 := by rw [hs.len]; exact hl
    suffices h2 : z_At mL_law 8 374 [.ref 63, .ref 0, .ref 43, .int (nI k)] [.int a, .int (σ.1 63 (nI k + 1).toNatClampNeg), .ref 43, .int w] τ Q by
      refine x_aload2 (pc2 := 356) dL_law_355 rfl ?_
      refine x_aload0 (pc2 := 357) dL_law_356 rfl ?_
      refine x_iload3 (pc2 := 358) dL_law_357 rfl ?_
      refine x_iconst (v := 1) (pc2 := 359) dL_law_358 rfl (by decide) ?_
      refine x_iadd (pc2 := 360) dL_law_359 rfl ?_
      refine x_sld (pc2 := 361) (by exact z_s1 hL hl) dL_law_360 rfl ?_
      refine x_aload0 (pc2 := 362) dL_law_361 rfl ?_
      refine x_iload3 (pc2 := 363) dL_law_362 rfl ?_
      refine x_iconst (v := 2) (pc2 := 364) dL_law_363 rfl (by decide) ?_
      refine x_iadd (pc2 := 365) dL_law_364 rfl ?_
      refine x_sld (pc2 := 366) (by exact z_s2 hL hl) dL_law_365 rfl ?_
      rw [hs.1]
      refine x_if_eq (pc2 := 369) (pc3 := 373) dL_law_366 rfl rfl (fun h366 => ?_) (fun h366 => ?_)
      · skip
        refine x_iconst (v := 0) (pc2 := 374) dL_law_373 rfl (by decide) ?_
        rw [if_pos h366] at ea; rw [ea] at h2; exact h2
      · skip
        refine x_iconst (v := 1) (pc2 := 370) dL_law_369 rfl (by decide) ?_
        refine x_goto (pc2 := 374) dL_law_370 rfl ?_
        rw [if_neg h366] at ea; rw [ea] at h2; exact h2
    refine x_cV2 eX6_boards kL_40 sh_43 rfl (Nat.le_of_ble_eq_true rfl) dL_law_374 ?_
    refine hm.mono ?_
    rintro rv υ ⟨rfl, hI', hs'⟩
    show z_At _ _ 377 _ [.int w, .int w] _ _
    refine x_icmp_eq (pc2 := 380) (pc3 := 1238) dL_law_377 rfl rfl (fun h377 => ?_) (fun h377 => ?_)
    · exact hk υ hI' hs'
    · exact absurd rfl h377
  refine x_aload1 (pc2 := 334) dL_law_333 rfl ?_
  refine x_aload0 (pc2 := 335) dL_law_334 rfl ?_
  refine x_iload3 (pc2 := 336) dL_law_335 rfl ?_
  refine x_iconst (v := 1) (pc2 := 337) dL_law_336 rfl (by decide) ?_
  refine x_iadd (pc2 := 338) dL_law_337 rfl ?_
  refine x_sld (pc2 := 339) (by exact z_s1 hL hl) dL_law_338 rfl ?_
  refine x_aload0 (pc2 := 340) dL_law_339 rfl ?_
  refine x_iload3 (pc2 := 341) dL_law_340 rfl ?_
  refine x_iconst (v := 2) (pc2 := 342) dL_law_341 rfl (by decide) ?_
  refine x_iadd (pc2 := 343) dL_law_342 rfl ?_
  refine x_sld (pc2 := 344) (by exact z_s2 hL hl) dL_law_343 rfl ?_
  refine x_if_eq (pc2 := 347) (pc3 := 351) dL_law_344 rfl rfl (fun h344 => ?_) (fun h344 => ?_)
  · skip
    refine x_iconst (v := 0) (pc2 := 352) dL_law_351 rfl (by decide) ?_
    exact hgo 0 (Or.inl rfl) (by rw [if_pos h344])
  · skip
    refine x_iconst (v := 1) (pc2 := 348) dL_law_347 rfl (by decide) ?_
    refine x_goto (pc2 := 352) dL_law_348 rfl ?_
    exact hgo 1 (Or.inr rfl) (by rw [if_neg h344])
theorem lw_well {k : Nat} {σ : zS} {Q : Option Value → zS → Prop} (hI : iN σ) (hL : k + 7 ≤ z_len σ) (hl : z_len σ < 2 ^ 31) (hk : ∀ τ, iN τ → iS σ τ → z_At mL_law 8 1238 [.ref 63, .ref 0, .ref 43, .int (nI k)] [] τ Q) : z_At mL_law 8 382 [.ref 63, .ref 0, .ref 43, .int (nI k)] [] σ Q := by
  refine x_aload1 (pc2 := 383) dL_law_382 rfl ?_
  refine x_aload0 (pc2 := 384) dL_law_383 rfl ?_
  refine x_iload3 (pc2 := 385) dL_law_384 rfl ?_
  refine x_iconst (v := 1) (pc2 := 386) dL_law_385 rfl (by decide) ?_
  refine x_iadd (pc2 := 387) dL_law_386 rfl ?_
  refine x_sld (pc2 := 388) (by exact z_s1 hL hl) dL_law_387 rfl ?_
  refine x_cV1 eX5_well kL_41 sh_0 rfl (Nat.le_of_ble_eq_true rfl) dL_law_388 ?_
  refine (i_well hI _).mono ?_
  rintro rv τ ⟨v, rfl, ⟨w, rfl⟩, hs, hm⟩
  show z_At _ _ 391 _ [.int w] _ _
  have hL : k + 7 ≤ z_len τ := by rw [hs.len]; exact hL
  have hl : z_len τ < 2 ^ 31 := by rw [hs.len]; exact hl
  refine x_aload2 (pc2 := 392) dL_law_391 rfl ?_
  refine x_aload0 (pc2 := 393) dL_law_392 rfl ?_
  refine x_iload3 (pc2 := 394) dL_law_393 rfl ?_
  refine x_iconst (v := 1) (pc2 := 395) dL_law_394 rfl (by decide) ?_
  refine x_iadd (pc2 := 396) dL_law_395 rfl ?_
  refine x_sld (pc2 := 397) (by exact z_s1 hL hl) dL_law_396 rfl ?_
  rw [hs.1]
  refine x_cV1 eX6_well kL_44 sh_43 rfl (Nat.le_of_ble_eq_true rfl) dL_law_397 ?_
  refine hm.mono ?_
  rintro rv υ ⟨rfl, hI', hs'⟩
  show z_At _ _ 400 _ [.int w, .int w] _ _
  refine x_icmp_eq (pc2 := 403) (pc3 := 1238) dL_law_400 rfl rfl (fun h400 => ?_) (fun h400 => ?_)
  · exact hk υ hI' hs'
  · exact absurd rfl h400
theorem lw_trips {k : Nat} {σ : zS} {Q : Option Value → zS → Prop} (hI : iN σ) (hL : k + 7 ≤ z_len σ) (hl : z_len σ < 2 ^ 31) (hk : ∀ τ, iN τ → iS σ τ → z_At mL_law 8 1238 [.ref 63, .ref 0, .ref 43, .int (nI k)] [] τ Q) : z_At mL_law 8 405 [.ref 63, .ref 0, .ref 43, .int (nI k)] [] σ Q := by
  refine x_aload1 (pc2 := 406) dL_law_405 rfl ?_
  refine x_aload0 (pc2 := 407) dL_law_406 rfl ?_
  refine x_iload3 (pc2 := 408) dL_law_407 rfl ?_
  refine x_iconst (v := 1) (pc2 := 409) dL_law_408 rfl (by decide) ?_
  refine x_iadd (pc2 := 410) dL_law_409 rfl ?_
  refine x_sld (pc2 := 411) (by exact z_s1 hL hl) dL_law_410 rfl ?_
  refine x_aload0 (pc2 := 412) dL_law_411 rfl ?_
  refine x_iload3 (pc2 := 413) dL_law_412 rfl ?_
  refine x_iconst (v := 2) (pc2 := 414) dL_law_413 rfl (by decide) ?_
  refine x_iadd (pc2 := 415) dL_law_414 rfl ?_
  refine x_sld (pc2 := 416) (by exact z_s2 hL hl) dL_law_415 rfl ?_
  refine x_aload0 (pc2 := 417) dL_law_416 rfl ?_
  refine x_iload3 (pc2 := 418) dL_law_417 rfl ?_
  refine x_iconst (v := 3) (pc2 := 419) dL_law_418 rfl (by decide) ?_
  refine x_iadd (pc2 := 420) dL_law_419 rfl ?_
  refine x_sld (pc2 := 421) (by exact z_s3 hL hl) dL_law_420 rfl ?_
  refine x_aload0 (pc2 := 422) dL_law_421 rfl ?_
  refine x_iload3 (pc2 := 423) dL_law_422 rfl ?_
  refine x_iconst (v := 4) (pc2 := 424) dL_law_423 rfl (by decide) ?_
  refine x_iadd (pc2 := 425) dL_law_424 rfl ?_
  refine x_sld (pc2 := 426) (by exact z_s4 hL hl) dL_law_425 rfl ?_
  refine x_aload0 (pc2 := 427) dL_law_426 rfl ?_
  refine x_iload3 (pc2 := 428) dL_law_427 rfl ?_
  refine x_iconst (v := 5) (pc2 := 429) dL_law_428 rfl (by decide) ?_
  refine x_iadd (pc2 := 430) dL_law_429 rfl ?_
  refine x_sld (pc2 := 431) (by exact z_s5 hL hl) dL_law_430 rfl ?_
  refine x_cV5 eX5_trips kL_45 sh_0 rfl (Nat.le_of_ble_eq_true rfl) dL_law_431 ?_
  refine (i_trips hI _ _ _ _ _).mono ?_
  rintro rv τ ⟨v, rfl, ⟨w, rfl⟩, hs, hm⟩
  show z_At _ _ 434 _ [.int w] _ _
  have hL : k + 7 ≤ z_len τ := by rw [hs.len]; exact hL
  have hl : z_len τ < 2 ^ 31 := by rw [hs.len]; exact hl
  refine x_aload2 (pc2 := 435) dL_law_434 rfl ?_
  refine x_aload0 (pc2 := 436) dL_law_435 rfl ?_
  refine x_iload3 (pc2 := 437) dL_law_436 rfl ?_
  refine x_iconst (v := 1) (pc2 := 438) dL_law_437 rfl (by decide) ?_
  refine x_iadd (pc2 := 439) dL_law_438 rfl ?_
  refine x_sld (pc2 := 440) (by exact z_s1 hL hl) dL_law_439 rfl ?_
  refine x_aload0 (pc2 := 441) dL_law_440 rfl ?_
  refine x_iload3 (pc2 := 442) dL_law_441 rfl ?_
  refine x_iconst (v := 2) (pc2 := 443) dL_law_442 rfl (by decide) ?_
  refine x_iadd (pc2 := 444) dL_law_443 rfl ?_
  refine x_sld (pc2 := 445) (by exact z_s2 hL hl) dL_law_444 rfl ?_
  refine x_aload0 (pc2 := 446) dL_law_445 rfl ?_
  refine x_iload3 (pc2 := 447) dL_law_446 rfl ?_
  refine x_iconst (v := 3) (pc2 := 448) dL_law_447 rfl (by decide) ?_
  refine x_iadd (pc2 := 449) dL_law_448 rfl ?_
  refine x_sld (pc2 := 450) (by exact z_s3 hL hl) dL_law_449 rfl ?_
  refine x_aload0 (pc2 := 451) dL_law_450 rfl ?_
  refine x_iload3 (pc2 := 452) dL_law_451 rfl ?_
  refine x_iconst (v := 4) (pc2 := 453) dL_law_452 rfl (by decide) ?_
  refine x_iadd (pc2 := 454) dL_law_453 rfl ?_
  refine x_sld (pc2 := 455) (by exact z_s4 hL hl) dL_law_454 rfl ?_
  refine x_aload0 (pc2 := 456) dL_law_455 rfl ?_
  refine x_iload3 (pc2 := 457) dL_law_456 rfl ?_
  refine x_iconst (v := 5) (pc2 := 458) dL_law_457 rfl (by decide) ?_
  refine x_iadd (pc2 := 459) dL_law_458 rfl ?_
  refine x_sld (pc2 := 460) (by exact z_s5 hL hl) dL_law_459 rfl ?_
  rw [hs.1]
  refine x_cV5 eX6_trips kL_49 sh_43 rfl (Nat.le_of_ble_eq_true rfl) dL_law_460 ?_
  refine hm.mono ?_
  rintro rv υ ⟨rfl, hI', hs'⟩
  show z_At _ _ 463 _ [.int w, .int w] _ _
  refine x_icmp_eq (pc2 := 466) (pc3 := 1238) dL_law_463 rfl rfl (fun h463 => ?_) (fun h463 => ?_)
  · exact hk υ hI' hs'
  · exact absurd rfl h463
theorem lw_at {k : Nat} {σ : zS} {Q : Option Value → zS → Prop} (hI : iN σ) (hL : k + 7 ≤ z_len σ) (hl : z_len σ < 2 ^ 31) (hk : ∀ τ, iN τ → iS σ τ → z_At mL_law 8 1238 [.ref 63, .ref 0, .ref 43, .int (nI k)] [] τ Q) : z_At mL_law 8 468 [.ref 63, .ref 0, .ref 43, .int (nI k)] [] σ Q := by
  refine x_aload1 (pc2 := 469) dL_law_468 rfl ?_
  refine x_aload0 (pc2 := 470) dL_law_469 rfl ?_
  refine x_iload3 (pc2 := 471) dL_law_470 rfl ?_
  refine x_iconst (v := 1) (pc2 := 472) dL_law_471 rfl (by decide) ?_
  refine x_iadd (pc2 := 473) dL_law_472 rfl ?_
  refine x_sld (pc2 := 474) (by exact z_s1 hL hl) dL_law_473 rfl ?_
  refine x_aload0 (pc2 := 475) dL_law_474 rfl ?_
  refine x_iload3 (pc2 := 476) dL_law_475 rfl ?_
  refine x_iconst (v := 2) (pc2 := 477) dL_law_476 rfl (by decide) ?_
  refine x_iadd (pc2 := 478) dL_law_477 rfl ?_
  refine x_sld (pc2 := 479) (by exact z_s2 hL hl) dL_law_478 rfl ?_
  refine x_aload0 (pc2 := 480) dL_law_479 rfl ?_
  refine x_iload3 (pc2 := 481) dL_law_480 rfl ?_
  refine x_iconst (v := 3) (pc2 := 482) dL_law_481 rfl (by decide) ?_
  refine x_iadd (pc2 := 483) dL_law_482 rfl ?_
  refine x_sld (pc2 := 484) (by exact z_s3 hL hl) dL_law_483 rfl ?_
  refine x_aload0 (pc2 := 485) dL_law_484 rfl ?_
  refine x_iload3 (pc2 := 486) dL_law_485 rfl ?_
  refine x_iconst (v := 4) (pc2 := 487) dL_law_486 rfl (by decide) ?_
  refine x_iadd (pc2 := 488) dL_law_487 rfl ?_
  refine x_sld (pc2 := 489) (by exact z_s4 hL hl) dL_law_488 rfl ?_
  refine x_aload0 (pc2 := 490) dL_law_489 rfl ?_
  refine x_iload3 (pc2 := 491) dL_law_490 rfl ?_
  refine x_iconst (v := 5) (pc2 := 492) dL_law_491 rfl (by decide) ?_
  refine x_iadd (pc2 := 493) dL_law_492 rfl ?_
  refine x_sld (pc2 := 494) (by exact z_s5 hL hl) dL_law_493 rfl ?_
  refine x_aload0 (pc2 := 495) dL_law_494 rfl ?_
  refine x_iload3 (pc2 := 496) dL_law_495 rfl ?_
  refine x_bipush (v := 6) (pc2 := 498) dL_law_496 rfl (by decide) ?_
  refine x_iadd (pc2 := 499) dL_law_498 rfl ?_
  refine x_sld (pc2 := 500) (by exact z_s6 hL hl) dL_law_499 rfl ?_
  refine x_cV6 eX5_at kL_50 sh_0 rfl (Nat.le_of_ble_eq_true rfl) dL_law_500 ?_
  refine (i_at hI _ _ _ _ _ _).mono ?_
  rintro rv τ ⟨v, rfl, ⟨w, rfl⟩, hs, hm⟩
  show z_At _ _ 503 _ [.int w] _ _
  have hL : k + 7 ≤ z_len τ := by rw [hs.len]; exact hL
  have hl : z_len τ < 2 ^ 31 := by rw [hs.len]; exact hl
  refine x_aload2 (pc2 := 504) dL_law_503 rfl ?_
  refine x_aload0 (pc2 := 505) dL_law_504 rfl ?_
  refine x_iload3 (pc2 := 506) dL_law_505 rfl ?_
  refine x_iconst (v := 1) (pc2 := 507) dL_law_506 rfl (by decide) ?_
  refine x_iadd (pc2 := 508) dL_law_507 rfl ?_
  refine x_sld (pc2 := 509) (by exact z_s1 hL hl) dL_law_508 rfl ?_
  refine x_aload0 (pc2 := 510) dL_law_509 rfl ?_
  refine x_iload3 (pc2 := 511) dL_law_510 rfl ?_
  refine x_iconst (v := 2) (pc2 := 512) dL_law_511 rfl (by decide) ?_
  refine x_iadd (pc2 := 513) dL_law_512 rfl ?_
  refine x_sld (pc2 := 514) (by exact z_s2 hL hl) dL_law_513 rfl ?_
  refine x_aload0 (pc2 := 515) dL_law_514 rfl ?_
  refine x_iload3 (pc2 := 516) dL_law_515 rfl ?_
  refine x_iconst (v := 3) (pc2 := 517) dL_law_516 rfl (by decide) ?_
  refine x_iadd (pc2 := 518) dL_law_517 rfl ?_
  refine x_sld (pc2 := 519) (by exact z_s3 hL hl) dL_law_518 rfl ?_
  refine x_aload0 (pc2 := 520) dL_law_519 rfl ?_
  refine x_iload3 (pc2 := 521) dL_law_520 rfl ?_
  refine x_iconst (v := 4) (pc2 := 522) dL_law_521 rfl (by decide) ?_
  refine x_iadd (pc2 := 523) dL_law_522 rfl ?_
  refine x_sld (pc2 := 524) (by exact z_s4 hL hl) dL_law_523 rfl ?_
  refine x_aload0 (pc2 := 525) dL_law_524 rfl ?_
  refine x_iload3 (pc2 := 526) dL_law_525 rfl ?_
  refine x_iconst (v := 5) (pc2 := 527) dL_law_526 rfl (by decide) ?_
  refine x_iadd (pc2 := 528) dL_law_527 rfl ?_
  refine x_sld (pc2 := 529) (by exact z_s5 hL hl) dL_law_528 rfl ?_
  refine x_aload0 (pc2 := 530) dL_law_529 rfl ?_
  refine x_iload3 (pc2 := 531) dL_law_530 rfl ?_
  refine x_bipush (v := 6) (pc2 := 533) dL_law_531 rfl (by decide) ?_
  refine x_iadd (pc2 := 534) dL_law_533 rfl ?_
  refine x_sld (pc2 := 535) (by exact z_s6 hL hl) dL_law_534 rfl ?_
  rw [hs.1]
  refine x_cV6 eX6_at kL_54 sh_43 rfl (Nat.le_of_ble_eq_true rfl) dL_law_535 ?_
  refine hm.mono ?_
  rintro rv υ ⟨rfl, hI', hs'⟩
  show z_At _ _ 538 _ [.int w, .int w] _ _
  refine x_icmp_eq (pc2 := 541) (pc3 := 1238) dL_law_538 rfl rfl (fun h538 => ?_) (fun h538 => ?_)
  · exact hk υ hI' hs'
  · exact absurd rfl h538
theorem lw_dry {k : Nat} {σ : zS} {Q : Option Value → zS → Prop} (hI : iN σ) (hL : k + 7 ≤ z_len σ) (hl : z_len σ < 2 ^ 31) (hk : ∀ τ, iN τ → iS σ τ → z_At mL_law 8 1238 [.ref 63, .ref 0, .ref 43, .int (nI k)] [] τ Q) : z_At mL_law 8 543 [.ref 63, .ref 0, .ref 43, .int (nI k)] [] σ Q := by
  refine x_aload1 (pc2 := 544) dL_law_543 rfl ?_
  refine x_aload0 (pc2 := 545) dL_law_544 rfl ?_
  refine x_iload3 (pc2 := 546) dL_law_545 rfl ?_
  refine x_iconst (v := 1) (pc2 := 547) dL_law_546 rfl (by decide) ?_
  refine x_iadd (pc2 := 548) dL_law_547 rfl ?_
  refine x_sld (pc2 := 549) (by exact z_s1 hL hl) dL_law_548 rfl ?_
  refine x_aload0 (pc2 := 550) dL_law_549 rfl ?_
  refine x_iload3 (pc2 := 551) dL_law_550 rfl ?_
  refine x_iconst (v := 2) (pc2 := 552) dL_law_551 rfl (by decide) ?_
  refine x_iadd (pc2 := 553) dL_law_552 rfl ?_
  refine x_sld (pc2 := 554) (by exact z_s2 hL hl) dL_law_553 rfl ?_
  refine x_aload0 (pc2 := 555) dL_law_554 rfl ?_
  refine x_iload3 (pc2 := 556) dL_law_555 rfl ?_
  refine x_iconst (v := 3) (pc2 := 557) dL_law_556 rfl (by decide) ?_
  refine x_iadd (pc2 := 558) dL_law_557 rfl ?_
  refine x_sld (pc2 := 559) (by exact z_s3 hL hl) dL_law_558 rfl ?_
  refine x_aload0 (pc2 := 560) dL_law_559 rfl ?_
  refine x_iload3 (pc2 := 561) dL_law_560 rfl ?_
  refine x_iconst (v := 4) (pc2 := 562) dL_law_561 rfl (by decide) ?_
  refine x_iadd (pc2 := 563) dL_law_562 rfl ?_
  refine x_sld (pc2 := 564) (by exact z_s4 hL hl) dL_law_563 rfl ?_
  refine x_aload0 (pc2 := 565) dL_law_564 rfl ?_
  refine x_iload3 (pc2 := 566) dL_law_565 rfl ?_
  refine x_iconst (v := 5) (pc2 := 567) dL_law_566 rfl (by decide) ?_
  refine x_iadd (pc2 := 568) dL_law_567 rfl ?_
  refine x_sld (pc2 := 569) (by exact z_s5 hL hl) dL_law_568 rfl ?_
  refine x_cV5 eX5_dry kL_55 sh_0 rfl (Nat.le_of_ble_eq_true rfl) dL_law_569 ?_
  refine (i_dry hI _ _ _ _ _).mono ?_
  rintro rv τ ⟨v, rfl, ⟨w, rfl⟩, hs, hm⟩
  show z_At _ _ 572 _ [.long w] _ _
  have hL : k + 7 ≤ z_len τ := by rw [hs.len]; exact hL
  have hl : z_len τ < 2 ^ 31 := by rw [hs.len]; exact hl
  refine x_aload2 (pc2 := 573) dL_law_572 rfl ?_
  refine x_aload0 (pc2 := 574) dL_law_573 rfl ?_
  refine x_iload3 (pc2 := 575) dL_law_574 rfl ?_
  refine x_iconst (v := 1) (pc2 := 576) dL_law_575 rfl (by decide) ?_
  refine x_iadd (pc2 := 577) dL_law_576 rfl ?_
  refine x_sld (pc2 := 578) (by exact z_s1 hL hl) dL_law_577 rfl ?_
  refine x_aload0 (pc2 := 579) dL_law_578 rfl ?_
  refine x_iload3 (pc2 := 580) dL_law_579 rfl ?_
  refine x_iconst (v := 2) (pc2 := 581) dL_law_580 rfl (by decide) ?_
  refine x_iadd (pc2 := 582) dL_law_581 rfl ?_
  refine x_sld (pc2 := 583) (by exact z_s2 hL hl) dL_law_582 rfl ?_
  refine x_aload0 (pc2 := 584) dL_law_583 rfl ?_
  refine x_iload3 (pc2 := 585) dL_law_584 rfl ?_
  refine x_iconst (v := 3) (pc2 := 586) dL_law_585 rfl (by decide) ?_
  refine x_iadd (pc2 := 587) dL_law_586 rfl ?_
  refine x_sld (pc2 := 588) (by exact z_s3 hL hl) dL_law_587 rfl ?_
  refine x_aload0 (pc2 := 589) dL_law_588 rfl ?_
  refine x_iload3 (pc2 := 590) dL_law_589 rfl ?_
  refine x_iconst (v := 4) (pc2 := 591) dL_law_590 rfl (by decide) ?_
  refine x_iadd (pc2 := 592) dL_law_591 rfl ?_
  refine x_sld (pc2 := 593) (by exact z_s4 hL hl) dL_law_592 rfl ?_
  refine x_aload0 (pc2 := 594) dL_law_593 rfl ?_
  refine x_iload3 (pc2 := 595) dL_law_594 rfl ?_
  refine x_iconst (v := 5) (pc2 := 596) dL_law_595 rfl (by decide) ?_
  refine x_iadd (pc2 := 597) dL_law_596 rfl ?_
  refine x_sld (pc2 := 598) (by exact z_s5 hL hl) dL_law_597 rfl ?_
  rw [hs.1]
  refine x_cV5 eX6_dry kL_59 sh_43 rfl (Nat.le_of_ble_eq_true rfl) dL_law_598 ?_
  refine hm.mono ?_
  rintro rv υ ⟨rfl, hI', hs'⟩
  show z_At _ _ 601 _ [.long w, .long w] _ _
  refine x_lcmp (pc2 := 602) dL_law_601 rfl ?_
  refine x_if_eq (pc2 := 605) (pc3 := 1238) dL_law_602 rfl rfl (fun h602 => ?_) (fun h602 => ?_)
  · exact hk υ hI' hs'
  · exact absurd (lg_self w) h602
theorem lw_soonest {k : Nat} {σ : zS} {Q : Option Value → zS → Prop} (hI : iN σ) (hL : k + 7 ≤ z_len σ) (hl : z_len σ < 2 ^ 31) (hk : ∀ τ, iN τ → iS σ τ → z_At mL_law 8 1238 [.ref 63, .ref 0, .ref 43, .int (nI k)] [] τ Q) : z_At mL_law 8 607 [.ref 63, .ref 0, .ref 43, .int (nI k)] [] σ Q := by
  refine x_aload1 (pc2 := 608) dL_law_607 rfl ?_
  refine x_cV0 eX5_soonest kL_60 sh_0 rfl (Nat.le_of_ble_eq_true rfl) dL_law_608 ?_
  refine (i_soonest hI).mono ?_
  rintro rv τ ⟨v, rfl, ⟨w, rfl⟩, hs, hm⟩
  show z_At _ _ 611 _ [.int w] _ _
  refine x_aload2 (pc2 := 612) dL_law_611 rfl ?_
  refine x_cV0 eX6_soonest kL_64 sh_43 rfl (Nat.le_of_ble_eq_true rfl) dL_law_612 ?_
  refine hm.mono ?_
  rintro rv υ ⟨rfl, hI', hs'⟩
  show z_At _ _ 615 _ [.int w, .int w] _ _
  refine x_icmp_eq (pc2 := 618) (pc3 := 1238) dL_law_615 rfl rfl (fun h615 => ?_) (fun h615 => ?_)
  · exact hk υ hI' hs'
  · exact absurd rfl h615
theorem lw_trip {k : Nat} {σ : zS} {Q : Option Value → zS → Prop} (hI : iN σ) (hL : k + 7 ≤ z_len σ) (hl : z_len σ < 2 ^ 31) (hk : ∀ τ, iN τ → iS σ τ → z_At mL_law 8 1238 [.ref 63, .ref 0, .ref 43, .int (nI k)] [] τ Q) : z_At mL_law 8 620 [.ref 63, .ref 0, .ref 43, .int (nI k)] [] σ Q := by
  refine x_aload1 (pc2 := 621) dL_law_620 rfl ?_
  refine x_aload0 (pc2 := 622) dL_law_621 rfl ?_
  refine x_iload3 (pc2 := 623) dL_law_622 rfl ?_
  refine x_iconst (v := 1) (pc2 := 624) dL_law_623 rfl (by decide) ?_
  refine x_iadd (pc2 := 625) dL_law_624 rfl ?_
  refine x_sld (pc2 := 626) (by exact z_s1 hL hl) dL_law_625 rfl ?_
  refine x_aload0 (pc2 := 627) dL_law_626 rfl ?_
  refine x_iload3 (pc2 := 628) dL_law_627 rfl ?_
  refine x_iconst (v := 2) (pc2 := 629) dL_law_628 rfl (by decide) ?_
  refine x_iadd (pc2 := 630) dL_law_629 rfl ?_
  refine x_sld (pc2 := 631) (by exact z_s2 hL hl) dL_law_630 rfl ?_
  refine x_cV2 eX5_trip kL_65 sh_0 rfl (Nat.le_of_ble_eq_true rfl) dL_law_631 ?_
  refine (i_trip hI _ _).mono ?_
  rintro rv τ ⟨v, rfl, ⟨w, rfl⟩, hs, hm⟩
  show z_At _ _ 634 _ [.int w] _ _
  have hL : k + 7 ≤ z_len τ := by rw [hs.len]; exact hL
  have hl : z_len τ < 2 ^ 31 := by rw [hs.len]; exact hl
  refine x_aload2 (pc2 := 635) dL_law_634 rfl ?_
  refine x_aload0 (pc2 := 636) dL_law_635 rfl ?_
  refine x_iload3 (pc2 := 637) dL_law_636 rfl ?_
  refine x_iconst (v := 1) (pc2 := 638) dL_law_637 rfl (by decide) ?_
  refine x_iadd (pc2 := 639) dL_law_638 rfl ?_
  refine x_sld (pc2 := 640) (by exact z_s1 hL hl) dL_law_639 rfl ?_
  refine x_aload0 (pc2 := 641) dL_law_640 rfl ?_
  refine x_iload3 (pc2 := 642) dL_law_641 rfl ?_
  refine x_iconst (v := 2) (pc2 := 643) dL_law_642 rfl (by decide) ?_
  refine x_iadd (pc2 := 644) dL_law_643 rfl ?_
  refine x_sld (pc2 := 645) (by exact z_s2 hL hl) dL_law_644 rfl ?_
  rw [hs.1]
  refine x_cV2 eX6_trip kL_68 sh_43 rfl (Nat.le_of_ble_eq_true rfl) dL_law_645 ?_
  refine hm.mono ?_
  rintro rv υ ⟨rfl, hI', hs'⟩
  show z_At _ _ 648 _ [.int w, .int w] _ _
  refine x_icmp_eq (pc2 := 651) (pc3 := 1238) dL_law_648 rfl rfl (fun h648 => ?_) (fun h648 => ?_)
  · exact hk υ hI' hs'
  · exact absurd rfl h648
theorem lw_fewest {k : Nat} {σ : zS} {Q : Option Value → zS → Prop} (hI : iN σ) (hL : k + 7 ≤ z_len σ) (hl : z_len σ < 2 ^ 31) (hk : ∀ τ, iN τ → iS σ τ → z_At mL_law 8 1238 [.ref 63, .ref 0, .ref 43, .int (nI k)] [] τ Q) : z_At mL_law 8 653 [.ref 63, .ref 0, .ref 43, .int (nI k)] [] σ Q := by
  refine x_aload1 (pc2 := 654) dL_law_653 rfl ?_
  refine x_cV0 eX5_fewest kL_69 sh_0 rfl (Nat.le_of_ble_eq_true rfl) dL_law_654 ?_
  refine (i_fewest hI).mono ?_
  rintro rv τ ⟨v, rfl, ⟨w, rfl⟩, hs, hm⟩
  show z_At _ _ 657 _ [.int w] _ _
  refine x_aload2 (pc2 := 658) dL_law_657 rfl ?_
  refine x_cV0 eX6_fewest kL_72 sh_43 rfl (Nat.le_of_ble_eq_true rfl) dL_law_658 ?_
  refine hm.mono ?_
  rintro rv υ ⟨rfl, hI', hs'⟩
  show z_At _ _ 661 _ [.int w, .int w] _ _
  refine x_icmp_eq (pc2 := 664) (pc3 := 1238) dL_law_661 rfl rfl (fun h661 => ?_) (fun h661 => ?_)
  · exact hk υ hI' hs'
  · exact absurd rfl h661
theorem lw_cost {k : Nat} {σ : zS} {Q : Option Value → zS → Prop} (hI : iN σ) (hL : k + 7 ≤ z_len σ) (hl : z_len σ < 2 ^ 31) (hk : ∀ τ, iN τ → iS σ τ → z_At mL_law 8 1238 [.ref 63, .ref 0, .ref 43, .int (nI k)] [] τ Q) : z_At mL_law 8 666 [.ref 63, .ref 0, .ref 43, .int (nI k)] [] σ Q := by
  refine x_aload1 (pc2 := 667) dL_law_666 rfl ?_
  refine x_aload0 (pc2 := 668) dL_law_667 rfl ?_
  refine x_iload3 (pc2 := 669) dL_law_668 rfl ?_
  refine x_iconst (v := 1) (pc2 := 670) dL_law_669 rfl (by decide) ?_
  refine x_iadd (pc2 := 671) dL_law_670 rfl ?_
  refine x_sld (pc2 := 672) (by exact z_s1 hL hl) dL_law_671 rfl ?_
  refine x_cV1 eX5_cost kL_73 sh_0 rfl (Nat.le_of_ble_eq_true rfl) dL_law_672 ?_
  refine (i_cost hI _).mono ?_
  rintro rv τ ⟨v, rfl, ⟨w, rfl⟩, hs, hm⟩
  show z_At _ _ 675 _ [.int w] _ _
  have hL : k + 7 ≤ z_len τ := by rw [hs.len]; exact hL
  have hl : z_len τ < 2 ^ 31 := by rw [hs.len]; exact hl
  refine x_aload2 (pc2 := 676) dL_law_675 rfl ?_
  refine x_aload0 (pc2 := 677) dL_law_676 rfl ?_
  refine x_iload3 (pc2 := 678) dL_law_677 rfl ?_
  refine x_iconst (v := 1) (pc2 := 679) dL_law_678 rfl (by decide) ?_
  refine x_iadd (pc2 := 680) dL_law_679 rfl ?_
  refine x_sld (pc2 := 681) (by exact z_s1 hL hl) dL_law_680 rfl ?_
  rw [hs.1]
  refine x_cV1 eX6_cost kL_76 sh_43 rfl (Nat.le_of_ble_eq_true rfl) dL_law_681 ?_
  refine hm.mono ?_
  rintro rv υ ⟨rfl, hI', hs'⟩
  show z_At _ _ 684 _ [.int w, .int w] _ _
  refine x_icmp_eq (pc2 := 687) (pc3 := 1238) dL_law_684 rfl rfl (fun h684 => ?_) (fun h684 => ?_)
  · exact hk υ hI' hs'
  · exact absurd rfl h684
theorem lw_help {k : Nat} {σ : zS} {Q : Option Value → zS → Prop} (hI : iN σ) (hL : k + 7 ≤ z_len σ) (hl : z_len σ < 2 ^ 31) (hk : ∀ τ, iN τ → iS σ τ → z_At mL_law 8 1238 [.ref 63, .ref 0, .ref 43, .int (nI k)] [] τ Q) : z_At mL_law 8 689 [.ref 63, .ref 0, .ref 43, .int (nI k)] [] σ Q := by
  refine x_aload1 (pc2 := 690) dL_law_689 rfl ?_
  refine x_aload0 (pc2 := 691) dL_law_690 rfl ?_
  refine x_iload3 (pc2 := 692) dL_law_691 rfl ?_
  refine x_iconst (v := 1) (pc2 := 693) dL_law_692 rfl (by decide) ?_
  refine x_iadd (pc2 := 694) dL_law_693 rfl ?_
  refine x_sld (pc2 := 695) (by exact z_s1 hL hl) dL_law_694 rfl ?_
  refine x_cV1 eX5_help kL_77 sh_0 rfl (Nat.le_of_ble_eq_true rfl) dL_law_695 ?_
  refine (i_help hI _).mono ?_
  rintro rv τ ⟨v, rfl, ⟨w, rfl⟩, hs, hm⟩
  show z_At _ _ 698 _ [.int w] _ _
  have hL : k + 7 ≤ z_len τ := by rw [hs.len]; exact hL
  have hl : z_len τ < 2 ^ 31 := by rw [hs.len]; exact hl
  refine x_aload2 (pc2 := 699) dL_law_698 rfl ?_
  refine x_aload0 (pc2 := 700) dL_law_699 rfl ?_
  refine x_iload3 (pc2 := 701) dL_law_700 rfl ?_
  refine x_iconst (v := 1) (pc2 := 702) dL_law_701 rfl (by decide) ?_
  refine x_iadd (pc2 := 703) dL_law_702 rfl ?_
  refine x_sld (pc2 := 704) (by exact z_s1 hL hl) dL_law_703 rfl ?_
  rw [hs.1]
  refine x_cV1 eX6_help kL_80 sh_43 rfl (Nat.le_of_ble_eq_true rfl) dL_law_704 ?_
  refine hm.mono ?_
  rintro rv υ ⟨rfl, hI', hs'⟩
  show z_At _ _ 707 _ [.int w, .int w] _ _
  refine x_icmp_eq (pc2 := 710) (pc3 := 1238) dL_law_707 rfl rfl (fun h707 => ?_) (fun h707 => ?_)
  · exact hk υ hI' hs'
  · exact absurd rfl h707
theorem lw_reading {k : Nat} {σ : zS} {Q : Option Value → zS → Prop} (hI : iN σ) (hL : k + 7 ≤ z_len σ) (hl : z_len σ < 2 ^ 31) (hk : ∀ τ, iN τ → iS σ τ → z_At mL_law 8 1238 [.ref 63, .ref 0, .ref 43, .int (nI k)] [] τ Q) : z_At mL_law 8 712 [.ref 63, .ref 0, .ref 43, .int (nI k)] [] σ Q := by
  refine x_aload1 (pc2 := 713) dL_law_712 rfl ?_
  refine x_aload0 (pc2 := 714) dL_law_713 rfl ?_
  refine x_iload3 (pc2 := 715) dL_law_714 rfl ?_
  refine x_iconst (v := 1) (pc2 := 716) dL_law_715 rfl (by decide) ?_
  refine x_iadd (pc2 := 717) dL_law_716 rfl ?_
  refine x_sld (pc2 := 718) (by exact z_s1 hL hl) dL_law_717 rfl ?_
  refine x_aload0 (pc2 := 719) dL_law_718 rfl ?_
  refine x_iload3 (pc2 := 720) dL_law_719 rfl ?_
  refine x_iconst (v := 2) (pc2 := 721) dL_law_720 rfl (by decide) ?_
  refine x_iadd (pc2 := 722) dL_law_721 rfl ?_
  refine x_sld (pc2 := 723) (by exact z_s2 hL hl) dL_law_722 rfl ?_
  refine x_aload0 (pc2 := 724) dL_law_723 rfl ?_
  refine x_iload3 (pc2 := 725) dL_law_724 rfl ?_
  refine x_iconst (v := 3) (pc2 := 726) dL_law_725 rfl (by decide) ?_
  refine x_iadd (pc2 := 727) dL_law_726 rfl ?_
  refine x_sld (pc2 := 728) (by exact z_s3 hL hl) dL_law_727 rfl ?_
  refine x_cV3 eX5_reading kL_81 sh_0 rfl (Nat.le_of_ble_eq_true rfl) dL_law_728 ?_
  refine (i_reading hI _ _ _).mono ?_
  rintro rv τ ⟨v, rfl, ⟨w, rfl⟩, hs, hm⟩
  show z_At _ _ 731 _ [.int w] _ _
  have hL : k + 7 ≤ z_len τ := by rw [hs.len]; exact hL
  have hl : z_len τ < 2 ^ 31 := by rw [hs.len]; exact hl
  refine x_aload2 (pc2 := 732) dL_law_731 rfl ?_
  refine x_aload0 (pc2 := 733) dL_law_732 rfl ?_
  refine x_iload3 (pc2 := 734) dL_law_733 rfl ?_
  refine x_iconst (v := 1) (pc2 := 735) dL_law_734 rfl (by decide) ?_
  refine x_iadd (pc2 := 736) dL_law_735 rfl ?_
  refine x_sld (pc2 := 737) (by exact z_s1 hL hl) dL_law_736 rfl ?_
  refine x_aload0 (pc2 := 738) dL_law_737 rfl ?_
  refine x_iload3 (pc2 := 739) dL_law_738 rfl ?_
  refine x_iconst (v := 2) (pc2 := 740) dL_law_739 rfl (by decide) ?_
  refine x_iadd (pc2 := 741) dL_law_740 rfl ?_
  refine x_sld (pc2 := 742) (by exact z_s2 hL hl) dL_law_741 rfl ?_
  refine x_aload0 (pc2 := 743) dL_law_742 rfl ?_
  refine x_iload3 (pc2 := 744) dL_law_743 rfl ?_
  refine x_iconst (v := 3) (pc2 := 745) dL_law_744 rfl (by decide) ?_
  refine x_iadd (pc2 := 746) dL_law_745 rfl ?_
  refine x_sld (pc2 := 747) (by exact z_s3 hL hl) dL_law_746 rfl ?_
  rw [hs.1]
  refine x_cV3 eX6_reading kL_85 sh_43 rfl (Nat.le_of_ble_eq_true rfl) dL_law_747 ?_
  refine hm.mono ?_
  rintro rv υ ⟨rfl, hI', hs'⟩
  show z_At _ _ 750 _ [.int w, .int w] _ _
  refine x_icmp_eq (pc2 := 753) (pc3 := 1238) dL_law_750 rfl rfl (fun h750 => ?_) (fun h750 => ?_)
  · exact hk υ hI' hs'
  · exact absurd rfl h750
theorem lw_back {k : Nat} {σ : zS} {Q : Option Value → zS → Prop} (hI : iN σ) (hL : k + 7 ≤ z_len σ) (hl : z_len σ < 2 ^ 31) (hk : ∀ τ, iN τ → iS σ τ → z_At mL_law 8 1238 [.ref 63, .ref 0, .ref 43, .int (nI k)] [] τ Q) : z_At mL_law 8 755 [.ref 63, .ref 0, .ref 43, .int (nI k)] [] σ Q := by
  refine x_aload1 (pc2 := 756) dL_law_755 rfl ?_
  refine x_aload0 (pc2 := 757) dL_law_756 rfl ?_
  refine x_iload3 (pc2 := 758) dL_law_757 rfl ?_
  refine x_iconst (v := 1) (pc2 := 759) dL_law_758 rfl (by decide) ?_
  refine x_iadd (pc2 := 760) dL_law_759 rfl ?_
  refine x_sld (pc2 := 761) (by exact z_s1 hL hl) dL_law_760 rfl ?_
  refine x_cV1 eX5_back kL_86 sh_0 rfl (Nat.le_of_ble_eq_true rfl) dL_law_761 ?_
  refine (i_back hI _).mono ?_
  rintro rv τ ⟨v, rfl, ⟨w, rfl⟩, hs, hm⟩
  show z_At _ _ 764 _ [.int w] _ _
  have hL : k + 7 ≤ z_len τ := by rw [hs.len]; exact hL
  have hl : z_len τ < 2 ^ 31 := by rw [hs.len]; exact hl
  refine x_aload2 (pc2 := 765) dL_law_764 rfl ?_
  refine x_aload0 (pc2 := 766) dL_law_765 rfl ?_
  refine x_iload3 (pc2 := 767) dL_law_766 rfl ?_
  refine x_iconst (v := 1) (pc2 := 768) dL_law_767 rfl (by decide) ?_
  refine x_iadd (pc2 := 769) dL_law_768 rfl ?_
  refine x_sld (pc2 := 770) (by exact z_s1 hL hl) dL_law_769 rfl ?_
  rw [hs.1]
  refine x_cV1 eX6_back kL_89 sh_43 rfl (Nat.le_of_ble_eq_true rfl) dL_law_770 ?_
  refine hm.mono ?_
  rintro rv υ ⟨rfl, hI', hs'⟩
  show z_At _ _ 773 _ [.int w, .int w] _ _
  refine x_icmp_eq (pc2 := 776) (pc3 := 1238) dL_law_773 rfl rfl (fun h773 => ?_) (fun h773 => ?_)
  · exact hk υ hI' hs'
  · exact absurd rfl h773
theorem lw_since {k : Nat} {σ : zS} {Q : Option Value → zS → Prop} (hI : iN σ) (hL : k + 7 ≤ z_len σ) (hl : z_len σ < 2 ^ 31) (hk : ∀ τ, iN τ → iS σ τ → z_At mL_law 8 1238 [.ref 63, .ref 0, .ref 43, .int (nI k)] [] τ Q) : z_At mL_law 8 778 [.ref 63, .ref 0, .ref 43, .int (nI k)] [] σ Q := by
  refine x_aload1 (pc2 := 779) dL_law_778 rfl ?_
  refine x_aload0 (pc2 := 780) dL_law_779 rfl ?_
  refine x_iload3 (pc2 := 781) dL_law_780 rfl ?_
  refine x_iconst (v := 1) (pc2 := 782) dL_law_781 rfl (by decide) ?_
  refine x_iadd (pc2 := 783) dL_law_782 rfl ?_
  refine x_sld (pc2 := 784) (by exact z_s1 hL hl) dL_law_783 rfl ?_
  refine x_aload0 (pc2 := 785) dL_law_784 rfl ?_
  refine x_iload3 (pc2 := 786) dL_law_785 rfl ?_
  refine x_iconst (v := 2) (pc2 := 787) dL_law_786 rfl (by decide) ?_
  refine x_iadd (pc2 := 788) dL_law_787 rfl ?_
  refine x_sld (pc2 := 789) (by exact z_s2 hL hl) dL_law_788 rfl ?_
  refine x_aload0 (pc2 := 790) dL_law_789 rfl ?_
  refine x_iload3 (pc2 := 791) dL_law_790 rfl ?_
  refine x_iconst (v := 3) (pc2 := 792) dL_law_791 rfl (by decide) ?_
  refine x_iadd (pc2 := 793) dL_law_792 rfl ?_
  refine x_sld (pc2 := 794) (by exact z_s3 hL hl) dL_law_793 rfl ?_
  refine x_aload0 (pc2 := 795) dL_law_794 rfl ?_
  refine x_iload3 (pc2 := 796) dL_law_795 rfl ?_
  refine x_iconst (v := 4) (pc2 := 797) dL_law_796 rfl (by decide) ?_
  refine x_iadd (pc2 := 798) dL_law_797 rfl ?_
  refine x_sld (pc2 := 799) (by exact z_s4 hL hl) dL_law_798 rfl ?_
  refine x_cV4 eX5_since kL_90 sh_0 rfl (Nat.le_of_ble_eq_true rfl) dL_law_799 ?_
  refine (i_since hI _ _ _ _).mono ?_
  rintro rv τ ⟨v, rfl, ⟨w, rfl⟩, hs, hm⟩
  show z_At _ _ 802 _ [.int w] _ _
  have hL : k + 7 ≤ z_len τ := by rw [hs.len]; exact hL
  have hl : z_len τ < 2 ^ 31 := by rw [hs.len]; exact hl
  refine x_aload2 (pc2 := 803) dL_law_802 rfl ?_
  refine x_aload0 (pc2 := 804) dL_law_803 rfl ?_
  refine x_iload3 (pc2 := 805) dL_law_804 rfl ?_
  refine x_iconst (v := 1) (pc2 := 806) dL_law_805 rfl (by decide) ?_
  refine x_iadd (pc2 := 807) dL_law_806 rfl ?_
  refine x_sld (pc2 := 808) (by exact z_s1 hL hl) dL_law_807 rfl ?_
  refine x_aload0 (pc2 := 809) dL_law_808 rfl ?_
  refine x_iload3 (pc2 := 810) dL_law_809 rfl ?_
  refine x_iconst (v := 2) (pc2 := 811) dL_law_810 rfl (by decide) ?_
  refine x_iadd (pc2 := 812) dL_law_811 rfl ?_
  refine x_sld (pc2 := 813) (by exact z_s2 hL hl) dL_law_812 rfl ?_
  refine x_aload0 (pc2 := 814) dL_law_813 rfl ?_
  refine x_iload3 (pc2 := 815) dL_law_814 rfl ?_
  refine x_iconst (v := 3) (pc2 := 816) dL_law_815 rfl (by decide) ?_
  refine x_iadd (pc2 := 817) dL_law_816 rfl ?_
  refine x_sld (pc2 := 818) (by exact z_s3 hL hl) dL_law_817 rfl ?_
  refine x_aload0 (pc2 := 819) dL_law_818 rfl ?_
  refine x_iload3 (pc2 := 820) dL_law_819 rfl ?_
  refine x_iconst (v := 4) (pc2 := 821) dL_law_820 rfl (by decide) ?_
  refine x_iadd (pc2 := 822) dL_law_821 rfl ?_
  refine x_sld (pc2 := 823) (by exact z_s4 hL hl) dL_law_822 rfl ?_
  rw [hs.1]
  refine x_cV4 eX6_since kL_93 sh_43 rfl (Nat.le_of_ble_eq_true rfl) dL_law_823 ?_
  refine hm.mono ?_
  rintro rv υ ⟨rfl, hI', hs'⟩
  show z_At _ _ 826 _ [.int w, .int w] _ _
  refine x_icmp_eq (pc2 := 829) (pc3 := 1238) dL_law_826 rfl rfl (fun h826 => ?_) (fun h826 => ?_)
  · exact hk υ hI' hs'
  · exact absurd rfl h826
theorem lw_kinds {k : Nat} {σ : zS} {Q : Option Value → zS → Prop} (hI : iN σ) (hL : k + 7 ≤ z_len σ) (hl : z_len σ < 2 ^ 31) (hk : ∀ τ, iN τ → iS σ τ → z_At mL_law 8 1238 [.ref 63, .ref 0, .ref 43, .int (nI k)] [] τ Q) : z_At mL_law 8 831 [.ref 63, .ref 0, .ref 43, .int (nI k)] [] σ Q := by
  refine x_aload1 (pc2 := 832) dL_law_831 rfl ?_
  refine x_aload0 (pc2 := 833) dL_law_832 rfl ?_
  refine x_iload3 (pc2 := 834) dL_law_833 rfl ?_
  refine x_iconst (v := 1) (pc2 := 835) dL_law_834 rfl (by decide) ?_
  refine x_iadd (pc2 := 836) dL_law_835 rfl ?_
  refine x_sld (pc2 := 837) (by exact z_s1 hL hl) dL_law_836 rfl ?_
  refine x_aload0 (pc2 := 838) dL_law_837 rfl ?_
  refine x_iload3 (pc2 := 839) dL_law_838 rfl ?_
  refine x_iconst (v := 2) (pc2 := 840) dL_law_839 rfl (by decide) ?_
  refine x_iadd (pc2 := 841) dL_law_840 rfl ?_
  refine x_sld (pc2 := 842) (by exact z_s2 hL hl) dL_law_841 rfl ?_
  refine x_aload0 (pc2 := 843) dL_law_842 rfl ?_
  refine x_iload3 (pc2 := 844) dL_law_843 rfl ?_
  refine x_iconst (v := 3) (pc2 := 845) dL_law_844 rfl (by decide) ?_
  refine x_iadd (pc2 := 846) dL_law_845 rfl ?_
  refine x_sld (pc2 := 847) (by exact z_s3 hL hl) dL_law_846 rfl ?_
  refine x_aload0 (pc2 := 848) dL_law_847 rfl ?_
  refine x_iload3 (pc2 := 849) dL_law_848 rfl ?_
  refine x_iconst (v := 4) (pc2 := 850) dL_law_849 rfl (by decide) ?_
  refine x_iadd (pc2 := 851) dL_law_850 rfl ?_
  refine x_sld (pc2 := 852) (by exact z_s4 hL hl) dL_law_851 rfl ?_
  refine x_aload0 (pc2 := 853) dL_law_852 rfl ?_
  refine x_iload3 (pc2 := 854) dL_law_853 rfl ?_
  refine x_iconst (v := 5) (pc2 := 855) dL_law_854 rfl (by decide) ?_
  refine x_iadd (pc2 := 856) dL_law_855 rfl ?_
  refine x_sld (pc2 := 857) (by exact z_s5 hL hl) dL_law_856 rfl ?_
  refine x_cV5 eX5_kinds kL_94 sh_0 rfl (Nat.le_of_ble_eq_true rfl) dL_law_857 ?_
  refine (i_kinds hI _ _ _ _ _).mono ?_
  rintro rv τ ⟨v, rfl, ⟨w, rfl⟩, hs, hm⟩
  show z_At _ _ 860 _ [.int w] _ _
  have hL : k + 7 ≤ z_len τ := by rw [hs.len]; exact hL
  have hl : z_len τ < 2 ^ 31 := by rw [hs.len]; exact hl
  refine x_aload2 (pc2 := 861) dL_law_860 rfl ?_
  refine x_aload0 (pc2 := 862) dL_law_861 rfl ?_
  refine x_iload3 (pc2 := 863) dL_law_862 rfl ?_
  refine x_iconst (v := 1) (pc2 := 864) dL_law_863 rfl (by decide) ?_
  refine x_iadd (pc2 := 865) dL_law_864 rfl ?_
  refine x_sld (pc2 := 866) (by exact z_s1 hL hl) dL_law_865 rfl ?_
  refine x_aload0 (pc2 := 867) dL_law_866 rfl ?_
  refine x_iload3 (pc2 := 868) dL_law_867 rfl ?_
  refine x_iconst (v := 2) (pc2 := 869) dL_law_868 rfl (by decide) ?_
  refine x_iadd (pc2 := 870) dL_law_869 rfl ?_
  refine x_sld (pc2 := 871) (by exact z_s2 hL hl) dL_law_870 rfl ?_
  refine x_aload0 (pc2 := 872) dL_law_871 rfl ?_
  refine x_iload3 (pc2 := 873) dL_law_872 rfl ?_
  refine x_iconst (v := 3) (pc2 := 874) dL_law_873 rfl (by decide) ?_
  refine x_iadd (pc2 := 875) dL_law_874 rfl ?_
  refine x_sld (pc2 := 876) (by exact z_s3 hL hl) dL_law_875 rfl ?_
  refine x_aload0 (pc2 := 877) dL_law_876 rfl ?_
  refine x_iload3 (pc2 := 878) dL_law_877 rfl ?_
  refine x_iconst (v := 4) (pc2 := 879) dL_law_878 rfl (by decide) ?_
  refine x_iadd (pc2 := 880) dL_law_879 rfl ?_
  refine x_sld (pc2 := 881) (by exact z_s4 hL hl) dL_law_880 rfl ?_
  refine x_aload0 (pc2 := 882) dL_law_881 rfl ?_
  refine x_iload3 (pc2 := 883) dL_law_882 rfl ?_
  refine x_iconst (v := 5) (pc2 := 884) dL_law_883 rfl (by decide) ?_
  refine x_iadd (pc2 := 885) dL_law_884 rfl ?_
  refine x_sld (pc2 := 886) (by exact z_s5 hL hl) dL_law_885 rfl ?_
  rw [hs.1]
  refine x_cV5 eX6_kinds kL_97 sh_43 rfl (Nat.le_of_ble_eq_true rfl) dL_law_886 ?_
  refine hm.mono ?_
  rintro rv υ ⟨rfl, hI', hs'⟩
  show z_At _ _ 889 _ [.int w, .int w] _ _
  refine x_icmp_eq (pc2 := 892) (pc3 := 1238) dL_law_889 rfl rfl (fun h889 => ?_) (fun h889 => ?_)
  · exact hk υ hI' hs'
  · exact absurd rfl h889
theorem lw_sheet {k : Nat} {σ : zS} {Q : Option Value → zS → Prop} (hI : iN σ) (hL : k + 7 ≤ z_len σ) (hl : z_len σ < 2 ^ 31) (hk : ∀ τ, iN τ → iS σ τ → z_At mL_law 8 1238 [.ref 63, .ref 0, .ref 43, .int (nI k)] [] τ Q) : z_At mL_law 8 894 [.ref 63, .ref 0, .ref 43, .int (nI k)] [] σ Q := by
  refine x_aload1 (pc2 := 895) dL_law_894 rfl ?_
  refine x_aload0 (pc2 := 896) dL_law_895 rfl ?_
  refine x_iload3 (pc2 := 897) dL_law_896 rfl ?_
  refine x_iconst (v := 1) (pc2 := 898) dL_law_897 rfl (by decide) ?_
  refine x_iadd (pc2 := 899) dL_law_898 rfl ?_
  refine x_sld (pc2 := 900) (by exact z_s1 hL hl) dL_law_899 rfl ?_
  refine x_aload0 (pc2 := 901) dL_law_900 rfl ?_
  refine x_iload3 (pc2 := 902) dL_law_901 rfl ?_
  refine x_iconst (v := 2) (pc2 := 903) dL_law_902 rfl (by decide) ?_
  refine x_iadd (pc2 := 904) dL_law_903 rfl ?_
  refine x_sld (pc2 := 905) (by exact z_s2 hL hl) dL_law_904 rfl ?_
  refine x_aload0 (pc2 := 906) dL_law_905 rfl ?_
  refine x_iload3 (pc2 := 907) dL_law_906 rfl ?_
  refine x_iconst (v := 3) (pc2 := 908) dL_law_907 rfl (by decide) ?_
  refine x_iadd (pc2 := 909) dL_law_908 rfl ?_
  refine x_sld (pc2 := 910) (by exact z_s3 hL hl) dL_law_909 rfl ?_
  refine x_cV3 eX5_sheet kL_98 sh_0 rfl (Nat.le_of_ble_eq_true rfl) dL_law_910 ?_
  refine (i_sheet hI _ _ _).mono ?_
  rintro rv τ ⟨v, rfl, ⟨w, rfl⟩, hs, hm⟩
  show z_At _ _ 913 _ [.int w] _ _
  have hL : k + 7 ≤ z_len τ := by rw [hs.len]; exact hL
  have hl : z_len τ < 2 ^ 31 := by rw [hs.len]; exact hl
  refine x_aload2 (pc2 := 914) dL_law_913 rfl ?_
  refine x_aload0 (pc2 := 915) dL_law_914 rfl ?_
  refine x_iload3 (pc2 := 916) dL_law_915 rfl ?_
  refine x_iconst (v := 1) (pc2 := 917) dL_law_916 rfl (by decide) ?_
  refine x_iadd (pc2 := 918) dL_law_917 rfl ?_
  refine x_sld (pc2 := 919) (by exact z_s1 hL hl) dL_law_918 rfl ?_
  refine x_aload0 (pc2 := 920) dL_law_919 rfl ?_
  refine x_iload3 (pc2 := 921) dL_law_920 rfl ?_
  refine x_iconst (v := 2) (pc2 := 922) dL_law_921 rfl (by decide) ?_
  refine x_iadd (pc2 := 923) dL_law_922 rfl ?_
  refine x_sld (pc2 := 924) (by exact z_s2 hL hl) dL_law_923 rfl ?_
  refine x_aload0 (pc2 := 925) dL_law_924 rfl ?_
  refine x_iload3 (pc2 := 926) dL_law_925 rfl ?_
  refine x_iconst (v := 3) (pc2 := 927) dL_law_926 rfl (by decide) ?_
  refine x_iadd (pc2 := 928) dL_law_927 rfl ?_
  refine x_sld (pc2 := 929) (by exact z_s3 hL hl) dL_law_928 rfl ?_
  rw [hs.1]
  refine x_cV3 eX6_sheet kL_101 sh_43 rfl (Nat.le_of_ble_eq_true rfl) dL_law_929 ?_
  refine hm.mono ?_
  rintro rv υ ⟨rfl, hI', hs'⟩
  show z_At _ _ 932 _ [.int w, .int w] _ _
  refine x_icmp_eq (pc2 := 935) (pc3 := 1238) dL_law_932 rfl rfl (fun h932 => ?_) (fun h932 => ?_)
  · exact hk υ hI' hs'
  · exact absurd rfl h932
theorem lw_lose {k : Nat} {σ : zS} {Q : Option Value → zS → Prop} (hI : iN σ) (hL : k + 7 ≤ z_len σ) (hl : z_len σ < 2 ^ 31) (hk : ∀ τ, iN τ → iS σ τ → z_At mL_law 8 1238 [.ref 63, .ref 0, .ref 43, .int (nI k)] [] τ Q) : z_At mL_law 8 937 [.ref 63, .ref 0, .ref 43, .int (nI k)] [] σ Q := by
  refine x_aload1 (pc2 := 938) dL_law_937 rfl ?_
  refine x_aload0 (pc2 := 939) dL_law_938 rfl ?_
  refine x_iload3 (pc2 := 940) dL_law_939 rfl ?_
  refine x_iconst (v := 1) (pc2 := 941) dL_law_940 rfl (by decide) ?_
  refine x_iadd (pc2 := 942) dL_law_941 rfl ?_
  refine x_sld (pc2 := 943) (by exact z_s1 hL hl) dL_law_942 rfl ?_
  refine x_cV1 eX5_lose kL_102 sh_0 rfl (Nat.le_of_ble_eq_true rfl) dL_law_943 ?_
  refine (i_lose hI _).mono ?_
  rintro rv τ ⟨v, rfl, ⟨w, rfl⟩, hs, hm⟩
  show z_At _ _ 946 _ [.int w] _ _
  have hL : k + 7 ≤ z_len τ := by rw [hs.len]; exact hL
  have hl : z_len τ < 2 ^ 31 := by rw [hs.len]; exact hl
  refine x_aload2 (pc2 := 947) dL_law_946 rfl ?_
  refine x_aload0 (pc2 := 948) dL_law_947 rfl ?_
  refine x_iload3 (pc2 := 949) dL_law_948 rfl ?_
  refine x_iconst (v := 1) (pc2 := 950) dL_law_949 rfl (by decide) ?_
  refine x_iadd (pc2 := 951) dL_law_950 rfl ?_
  refine x_sld (pc2 := 952) (by exact z_s1 hL hl) dL_law_951 rfl ?_
  rw [hs.1]
  refine x_cV1 eX6_lose kL_105 sh_43 rfl (Nat.le_of_ble_eq_true rfl) dL_law_952 ?_
  refine hm.mono ?_
  rintro rv υ ⟨rfl, hI', hs'⟩
  show z_At _ _ 955 _ [.int w, .int w] _ _
  refine x_icmp_eq (pc2 := 958) (pc3 := 1238) dL_law_955 rfl rfl (fun h955 => ?_) (fun h955 => ?_)
  · exact hk υ hI' hs'
  · exact absurd rfl h955
theorem lw_put {k : Nat} {σ : zS} {Q : Option Value → zS → Prop} (hI : iN σ) (hL : k + 7 ≤ z_len σ) (hl : z_len σ < 2 ^ 31) (hk : ∀ τ, iN τ → iS σ τ → z_At mL_law 8 1238 [.ref 63, .ref 0, .ref 43, .int (nI k)] [] τ Q) : z_At mL_law 8 960 [.ref 63, .ref 0, .ref 43, .int (nI k)] [] σ Q := by
  refine x_aload1 (pc2 := 961) dL_law_960 rfl ?_
  refine x_aload0 (pc2 := 962) dL_law_961 rfl ?_
  refine x_iload3 (pc2 := 963) dL_law_962 rfl ?_
  refine x_iconst (v := 1) (pc2 := 964) dL_law_963 rfl (by decide) ?_
  refine x_iadd (pc2 := 965) dL_law_964 rfl ?_
  refine x_sld (pc2 := 966) (by exact z_s1 hL hl) dL_law_965 rfl ?_
  refine x_aload0 (pc2 := 967) dL_law_966 rfl ?_
  refine x_iload3 (pc2 := 968) dL_law_967 rfl ?_
  refine x_iconst (v := 2) (pc2 := 969) dL_law_968 rfl (by decide) ?_
  refine x_iadd (pc2 := 970) dL_law_969 rfl ?_
  refine x_sld (pc2 := 971) (by exact z_s2 hL hl) dL_law_970 rfl ?_
  refine x_aload0 (pc2 := 972) dL_law_971 rfl ?_
  refine x_iload3 (pc2 := 973) dL_law_972 rfl ?_
  refine x_iconst (v := 3) (pc2 := 974) dL_law_973 rfl (by decide) ?_
  refine x_iadd (pc2 := 975) dL_law_974 rfl ?_
  refine x_sld (pc2 := 976) (by exact z_s3 hL hl) dL_law_975 rfl ?_
  refine x_cV3 eX5_put kL_106 sh_0 rfl (Nat.le_of_ble_eq_true rfl) dL_law_976 ?_
  refine (i_put hI _ _ _).mono ?_
  rintro rv τ ⟨v, rfl, ⟨w, rfl⟩, hs, hm⟩
  show z_At _ _ 979 _ [.int w] _ _
  have hL : k + 7 ≤ z_len τ := by rw [hs.len]; exact hL
  have hl : z_len τ < 2 ^ 31 := by rw [hs.len]; exact hl
  refine x_aload2 (pc2 := 980) dL_law_979 rfl ?_
  refine x_aload0 (pc2 := 981) dL_law_980 rfl ?_
  refine x_iload3 (pc2 := 982) dL_law_981 rfl ?_
  refine x_iconst (v := 1) (pc2 := 983) dL_law_982 rfl (by decide) ?_
  refine x_iadd (pc2 := 984) dL_law_983 rfl ?_
  refine x_sld (pc2 := 985) (by exact z_s1 hL hl) dL_law_984 rfl ?_
  refine x_aload0 (pc2 := 986) dL_law_985 rfl ?_
  refine x_iload3 (pc2 := 987) dL_law_986 rfl ?_
  refine x_iconst (v := 2) (pc2 := 988) dL_law_987 rfl (by decide) ?_
  refine x_iadd (pc2 := 989) dL_law_988 rfl ?_
  refine x_sld (pc2 := 990) (by exact z_s2 hL hl) dL_law_989 rfl ?_
  refine x_aload0 (pc2 := 991) dL_law_990 rfl ?_
  refine x_iload3 (pc2 := 992) dL_law_991 rfl ?_
  refine x_iconst (v := 3) (pc2 := 993) dL_law_992 rfl (by decide) ?_
  refine x_iadd (pc2 := 994) dL_law_993 rfl ?_
  refine x_sld (pc2 := 995) (by exact z_s3 hL hl) dL_law_994 rfl ?_
  rw [hs.1]
  refine x_cV3 eX6_put kL_109 sh_43 rfl (Nat.le_of_ble_eq_true rfl) dL_law_995 ?_
  refine hm.mono ?_
  rintro rv υ ⟨rfl, hI', hs'⟩
  show z_At _ _ 998 _ [.int w, .int w] _ _
  refine x_icmp_eq (pc2 := 1001) (pc3 := 1238) dL_law_998 rfl rfl (fun h998 => ?_) (fun h998 => ?_)
  · exact hk υ hI' hs'
  · exact absurd rfl h998
theorem lw_cell {k : Nat} {σ : zS} {Q : Option Value → zS → Prop} (hI : iN σ) (hL : k + 7 ≤ z_len σ) (hl : z_len σ < 2 ^ 31) (hk : ∀ τ, iN τ → iS σ τ → z_At mL_law 8 1238 [.ref 63, .ref 0, .ref 43, .int (nI k)] [] τ Q) : z_At mL_law 8 1003 [.ref 63, .ref 0, .ref 43, .int (nI k)] [] σ Q := by
  refine x_aload1 (pc2 := 1004) dL_law_1003 rfl ?_
  refine x_aload0 (pc2 := 1005) dL_law_1004 rfl ?_
  refine x_iload3 (pc2 := 1006) dL_law_1005 rfl ?_
  refine x_iconst (v := 1) (pc2 := 1007) dL_law_1006 rfl (by decide) ?_
  refine x_iadd (pc2 := 1008) dL_law_1007 rfl ?_
  refine x_sld (pc2 := 1009) (by exact z_s1 hL hl) dL_law_1008 rfl ?_
  refine x_aload0 (pc2 := 1010) dL_law_1009 rfl ?_
  refine x_iload3 (pc2 := 1011) dL_law_1010 rfl ?_
  refine x_iconst (v := 2) (pc2 := 1012) dL_law_1011 rfl (by decide) ?_
  refine x_iadd (pc2 := 1013) dL_law_1012 rfl ?_
  refine x_sld (pc2 := 1014) (by exact z_s2 hL hl) dL_law_1013 rfl ?_
  refine x_aload0 (pc2 := 1015) dL_law_1014 rfl ?_
  refine x_iload3 (pc2 := 1016) dL_law_1015 rfl ?_
  refine x_iconst (v := 3) (pc2 := 1017) dL_law_1016 rfl (by decide) ?_
  refine x_iadd (pc2 := 1018) dL_law_1017 rfl ?_
  refine x_sld (pc2 := 1019) (by exact z_s3 hL hl) dL_law_1018 rfl ?_
  refine x_cV3 eX5_cell kL_110 sh_0 rfl (Nat.le_of_ble_eq_true rfl) dL_law_1019 ?_
  refine (i_cell hI _ _ _).mono ?_
  rintro rv τ ⟨v, rfl, ⟨w, rfl⟩, hs, hm⟩
  show z_At _ _ 1022 _ [.long w] _ _
  have hL : k + 7 ≤ z_len τ := by rw [hs.len]; exact hL
  have hl : z_len τ < 2 ^ 31 := by rw [hs.len]; exact hl
  refine x_aload2 (pc2 := 1023) dL_law_1022 rfl ?_
  refine x_aload0 (pc2 := 1024) dL_law_1023 rfl ?_
  refine x_iload3 (pc2 := 1025) dL_law_1024 rfl ?_
  refine x_iconst (v := 1) (pc2 := 1026) dL_law_1025 rfl (by decide) ?_
  refine x_iadd (pc2 := 1027) dL_law_1026 rfl ?_
  refine x_sld (pc2 := 1028) (by exact z_s1 hL hl) dL_law_1027 rfl ?_
  refine x_aload0 (pc2 := 1029) dL_law_1028 rfl ?_
  refine x_iload3 (pc2 := 1030) dL_law_1029 rfl ?_
  refine x_iconst (v := 2) (pc2 := 1031) dL_law_1030 rfl (by decide) ?_
  refine x_iadd (pc2 := 1032) dL_law_1031 rfl ?_
  refine x_sld (pc2 := 1033) (by exact z_s2 hL hl) dL_law_1032 rfl ?_
  refine x_aload0 (pc2 := 1034) dL_law_1033 rfl ?_
  refine x_iload3 (pc2 := 1035) dL_law_1034 rfl ?_
  refine x_iconst (v := 3) (pc2 := 1036) dL_law_1035 rfl (by decide) ?_
  refine x_iadd (pc2 := 1037) dL_law_1036 rfl ?_
  refine x_sld (pc2 := 1038) (by exact z_s3 hL hl) dL_law_1037 rfl ?_
  rw [hs.1]
  refine x_cV3 eX6_cell kL_114 sh_43 rfl (Nat.le_of_ble_eq_true rfl) dL_law_1038 ?_
  refine hm.mono ?_
  rintro rv υ ⟨rfl, hI', hs'⟩
  show z_At _ _ 1041 _ [.long w, .long w] _ _
  refine x_lcmp (pc2 := 1042) dL_law_1041 rfl ?_
  refine x_if_eq (pc2 := 1045) (pc3 := 1238) dL_law_1042 rfl rfl (fun h1042 => ?_) (fun h1042 => ?_)
  · exact hk υ hI' hs'
  · exact absurd (lg_self w) h1042
theorem lw_copy {k : Nat} {σ : zS} {Q : Option Value → zS → Prop} (hI : iN σ) (hL : k + 7 ≤ z_len σ) (hl : z_len σ < 2 ^ 31) (hk : ∀ τ, iN τ → iS σ τ → z_At mL_law 8 1238 [.ref 63, .ref 0, .ref 43, .int (nI k)] [] τ Q) : z_At mL_law 8 1047 [.ref 63, .ref 0, .ref 43, .int (nI k)] [] σ Q := by
  refine x_aload1 (pc2 := 1048) dL_law_1047 rfl ?_
  refine x_aload0 (pc2 := 1049) dL_law_1048 rfl ?_
  refine x_iload3 (pc2 := 1050) dL_law_1049 rfl ?_
  refine x_iconst (v := 1) (pc2 := 1051) dL_law_1050 rfl (by decide) ?_
  refine x_iadd (pc2 := 1052) dL_law_1051 rfl ?_
  refine x_sld (pc2 := 1053) (by exact z_s1 hL hl) dL_law_1052 rfl ?_
  refine x_aload0 (pc2 := 1054) dL_law_1053 rfl ?_
  refine x_iload3 (pc2 := 1055) dL_law_1054 rfl ?_
  refine x_iconst (v := 2) (pc2 := 1056) dL_law_1055 rfl (by decide) ?_
  refine x_iadd (pc2 := 1057) dL_law_1056 rfl ?_
  refine x_sld (pc2 := 1058) (by exact z_s2 hL hl) dL_law_1057 rfl ?_
  refine x_aload0 (pc2 := 1059) dL_law_1058 rfl ?_
  refine x_iload3 (pc2 := 1060) dL_law_1059 rfl ?_
  refine x_iconst (v := 3) (pc2 := 1061) dL_law_1060 rfl (by decide) ?_
  refine x_iadd (pc2 := 1062) dL_law_1061 rfl ?_
  refine x_sld (pc2 := 1063) (by exact z_s3 hL hl) dL_law_1062 rfl ?_
  refine x_aload0 (pc2 := 1064) dL_law_1063 rfl ?_
  refine x_iload3 (pc2 := 1065) dL_law_1064 rfl ?_
  refine x_iconst (v := 4) (pc2 := 1066) dL_law_1065 rfl (by decide) ?_
  refine x_iadd (pc2 := 1067) dL_law_1066 rfl ?_
  refine x_sld (pc2 := 1068) (by exact z_s4 hL hl) dL_law_1067 rfl ?_
  refine x_aload0 (pc2 := 1069) dL_law_1068 rfl ?_
  refine x_iload3 (pc2 := 1070) dL_law_1069 rfl ?_
  refine x_iconst (v := 5) (pc2 := 1071) dL_law_1070 rfl (by decide) ?_
  refine x_iadd (pc2 := 1072) dL_law_1071 rfl ?_
  refine x_sld (pc2 := 1073) (by exact z_s5 hL hl) dL_law_1072 rfl ?_
  refine x_cV5 eX5_copy kL_115 sh_0 rfl (Nat.le_of_ble_eq_true rfl) dL_law_1073 ?_
  refine (i_copy hI _ _ _ _ _).mono ?_
  rintro rv τ ⟨v, rfl, ⟨w, rfl⟩, hs, hm⟩
  show z_At _ _ 1076 _ [.int w] _ _
  have hL : k + 7 ≤ z_len τ := by rw [hs.len]; exact hL
  have hl : z_len τ < 2 ^ 31 := by rw [hs.len]; exact hl
  refine x_aload2 (pc2 := 1077) dL_law_1076 rfl ?_
  refine x_aload0 (pc2 := 1078) dL_law_1077 rfl ?_
  refine x_iload3 (pc2 := 1079) dL_law_1078 rfl ?_
  refine x_iconst (v := 1) (pc2 := 1080) dL_law_1079 rfl (by decide) ?_
  refine x_iadd (pc2 := 1081) dL_law_1080 rfl ?_
  refine x_sld (pc2 := 1082) (by exact z_s1 hL hl) dL_law_1081 rfl ?_
  refine x_aload0 (pc2 := 1083) dL_law_1082 rfl ?_
  refine x_iload3 (pc2 := 1084) dL_law_1083 rfl ?_
  refine x_iconst (v := 2) (pc2 := 1085) dL_law_1084 rfl (by decide) ?_
  refine x_iadd (pc2 := 1086) dL_law_1085 rfl ?_
  refine x_sld (pc2 := 1087) (by exact z_s2 hL hl) dL_law_1086 rfl ?_
  refine x_aload0 (pc2 := 1088) dL_law_1087 rfl ?_
  refine x_iload3 (pc2 := 1089) dL_law_1088 rfl ?_
  refine x_iconst (v := 3) (pc2 := 1090) dL_law_1089 rfl (by decide) ?_
  refine x_iadd (pc2 := 1091) dL_law_1090 rfl ?_
  refine x_sld (pc2 := 1092) (by exact z_s3 hL hl) dL_law_1091 rfl ?_
  refine x_aload0 (pc2 := 1093) dL_law_1092 rfl ?_
  refine x_iload3 (pc2 := 1094) dL_law_1093 rfl ?_
  refine x_iconst (v := 4) (pc2 := 1095) dL_law_1094 rfl (by decide) ?_
  refine x_iadd (pc2 := 1096) dL_law_1095 rfl ?_
  refine x_sld (pc2 := 1097) (by exact z_s4 hL hl) dL_law_1096 rfl ?_
  refine x_aload0 (pc2 := 1098) dL_law_1097 rfl ?_
  refine x_iload3 (pc2 := 1099) dL_law_1098 rfl ?_
  refine x_iconst (v := 5) (pc2 := 1100) dL_law_1099 rfl (by decide) ?_
  refine x_iadd (pc2 := 1101) dL_law_1100 rfl ?_
  refine x_sld (pc2 := 1102) (by exact z_s5 hL hl) dL_law_1101 rfl ?_
  rw [hs.1]
  refine x_cV5 eX6_copy kL_118 sh_43 rfl (Nat.le_of_ble_eq_true rfl) dL_law_1102 ?_
  refine hm.mono ?_
  rintro rv υ ⟨rfl, hI', hs'⟩
  show z_At _ _ 1105 _ [.int w, .int w] _ _
  refine x_icmp_eq (pc2 := 1108) (pc3 := 1238) dL_law_1105 rfl rfl (fun h1105 => ?_) (fun h1105 => ?_)
  · exact hk υ hI' hs'
  · exact absurd rfl h1105
theorem lw_tell {k : Nat} {σ : zS} {Q : Option Value → zS → Prop} (hI : iN σ) (hL : k + 7 ≤ z_len σ) (hl : z_len σ < 2 ^ 31) (hk : ∀ τ, iN τ → iS σ τ → z_At mL_law 8 1238 [.ref 63, .ref 0, .ref 43, .int (nI k)] [] τ Q) : z_At mL_law 8 1110 [.ref 63, .ref 0, .ref 43, .int (nI k)] [] σ Q := by
  refine x_aload1 (pc2 := 1111) dL_law_1110 rfl ?_
  refine x_aload0 (pc2 := 1112) dL_law_1111 rfl ?_
  refine x_iload3 (pc2 := 1113) dL_law_1112 rfl ?_
  refine x_iconst (v := 1) (pc2 := 1114) dL_law_1113 rfl (by decide) ?_
  refine x_iadd (pc2 := 1115) dL_law_1114 rfl ?_
  refine x_sld (pc2 := 1116) (by exact z_s1 hL hl) dL_law_1115 rfl ?_
  refine x_cV1 eX5_tell kL_119 sh_0 rfl (Nat.le_of_ble_eq_true rfl) dL_law_1116 ?_
  refine (i_tell hI _).mono ?_
  rintro rv τ ⟨v, rfl, ⟨w, rfl⟩, hs, hm⟩
  show z_At _ _ 1119 _ [.int w] _ _
  have hL : k + 7 ≤ z_len τ := by rw [hs.len]; exact hL
  have hl : z_len τ < 2 ^ 31 := by rw [hs.len]; exact hl
  refine x_aload2 (pc2 := 1120) dL_law_1119 rfl ?_
  refine x_aload0 (pc2 := 1121) dL_law_1120 rfl ?_
  refine x_iload3 (pc2 := 1122) dL_law_1121 rfl ?_
  refine x_iconst (v := 1) (pc2 := 1123) dL_law_1122 rfl (by decide) ?_
  refine x_iadd (pc2 := 1124) dL_law_1123 rfl ?_
  refine x_sld (pc2 := 1125) (by exact z_s1 hL hl) dL_law_1124 rfl ?_
  rw [hs.1]
  refine x_cV1 eX6_tell kL_122 sh_43 rfl (Nat.le_of_ble_eq_true rfl) dL_law_1125 ?_
  refine hm.mono ?_
  rintro rv υ ⟨rfl, hI', hs'⟩
  show z_At _ _ 1128 _ [.int w, .int w] _ _
  refine x_icmp_eq (pc2 := 1131) (pc3 := 1238) dL_law_1128 rfl rfl (fun h1128 => ?_) (fun h1128 => ?_)
  · exact hk υ hI' hs'
  · exact absurd rfl h1128
theorem lw_hail {k : Nat} {σ : zS} {Q : Option Value → zS → Prop} (hI : iN σ) (hL : k + 7 ≤ z_len σ) (hl : z_len σ < 2 ^ 31) (hk : ∀ τ, iN τ → iS σ τ → z_At mL_law 8 1238 [.ref 63, .ref 0, .ref 43, .int (nI k)] [] τ Q) : z_At mL_law 8 1133 [.ref 63, .ref 0, .ref 43, .int (nI k)] [] σ Q := by
  refine x_aload1 (pc2 := 1134) dL_law_1133 rfl ?_
  refine x_aload0 (pc2 := 1135) dL_law_1134 rfl ?_
  refine x_iload3 (pc2 := 1136) dL_law_1135 rfl ?_
  refine x_iconst (v := 1) (pc2 := 1137) dL_law_1136 rfl (by decide) ?_
  refine x_iadd (pc2 := 1138) dL_law_1137 rfl ?_
  refine x_sld (pc2 := 1139) (by exact z_s1 hL hl) dL_law_1138 rfl ?_
  refine x_cV1 eX5_hail kL_123 sh_0 rfl (Nat.le_of_ble_eq_true rfl) dL_law_1139 ?_
  refine (i_hail hI _).mono ?_
  rintro rv τ ⟨v, rfl, ⟨w, rfl⟩, hs, hm⟩
  show z_At _ _ 1142 _ [.int w] _ _
  have hL : k + 7 ≤ z_len τ := by rw [hs.len]; exact hL
  have hl : z_len τ < 2 ^ 31 := by rw [hs.len]; exact hl
  refine x_aload2 (pc2 := 1143) dL_law_1142 rfl ?_
  refine x_aload0 (pc2 := 1144) dL_law_1143 rfl ?_
  refine x_iload3 (pc2 := 1145) dL_law_1144 rfl ?_
  refine x_iconst (v := 1) (pc2 := 1146) dL_law_1145 rfl (by decide) ?_
  refine x_iadd (pc2 := 1147) dL_law_1146 rfl ?_
  refine x_sld (pc2 := 1148) (by exact z_s1 hL hl) dL_law_1147 rfl ?_
  rw [hs.1]
  refine x_cV1 eX6_hail kL_126 sh_43 rfl (Nat.le_of_ble_eq_true rfl) dL_law_1148 ?_
  refine hm.mono ?_
  rintro rv υ ⟨rfl, hI', hs'⟩
  show z_At _ _ 1151 _ [.int w, .int w] _ _
  refine x_icmp_eq (pc2 := 1154) (pc3 := 1238) dL_law_1151 rfl rfl (fun h1151 => ?_) (fun h1151 => ?_)
  · exact hk υ hI' hs'
  · exact absurd rfl h1151
theorem lw_as {k : Nat} {σ : zS} {Q : Option Value → zS → Prop} (hI : iN σ) (hL : k + 7 ≤ z_len σ) (hl : z_len σ < 2 ^ 31) (hk : ∀ τ, iN τ → iS σ τ → z_At mL_law 8 1238 [.ref 63, .ref 0, .ref 43, .int (nI k)] [] τ Q) : z_At mL_law 8 1156 [.ref 63, .ref 0, .ref 43, .int (nI k)] [] σ Q := by
  refine x_aload1 (pc2 := 1157) dL_law_1156 rfl ?_
  refine x_aload0 (pc2 := 1158) dL_law_1157 rfl ?_
  refine x_iload3 (pc2 := 1159) dL_law_1158 rfl ?_
  refine x_iconst (v := 1) (pc2 := 1160) dL_law_1159 rfl (by decide) ?_
  refine x_iadd (pc2 := 1161) dL_law_1160 rfl ?_
  refine x_sld (pc2 := 1162) (by exact z_s1 hL hl) dL_law_1161 rfl ?_
  refine x_aload0 (pc2 := 1163) dL_law_1162 rfl ?_
  refine x_iload3 (pc2 := 1164) dL_law_1163 rfl ?_
  refine x_iconst (v := 2) (pc2 := 1165) dL_law_1164 rfl (by decide) ?_
  refine x_iadd (pc2 := 1166) dL_law_1165 rfl ?_
  refine x_sld (pc2 := 1167) (by exact z_s2 hL hl) dL_law_1166 rfl ?_
  refine x_cV2 eX5_as kL_127 sh_0 rfl (Nat.le_of_ble_eq_true rfl) dL_law_1167 ?_
  refine (i_as hI _ _).mono ?_
  rintro rv τ ⟨v, rfl, ⟨w, rfl⟩, hs, hm⟩
  show z_At _ _ 1170 _ [.int w] _ _
  have hL : k + 7 ≤ z_len τ := by rw [hs.len]; exact hL
  have hl : z_len τ < 2 ^ 31 := by rw [hs.len]; exact hl
  refine x_aload2 (pc2 := 1171) dL_law_1170 rfl ?_
  refine x_aload0 (pc2 := 1172) dL_law_1171 rfl ?_
  refine x_iload3 (pc2 := 1173) dL_law_1172 rfl ?_
  refine x_iconst (v := 1) (pc2 := 1174) dL_law_1173 rfl (by decide) ?_
  refine x_iadd (pc2 := 1175) dL_law_1174 rfl ?_
  refine x_sld (pc2 := 1176) (by exact z_s1 hL hl) dL_law_1175 rfl ?_
  refine x_aload0 (pc2 := 1177) dL_law_1176 rfl ?_
  refine x_iload3 (pc2 := 1178) dL_law_1177 rfl ?_
  refine x_iconst (v := 2) (pc2 := 1179) dL_law_1178 rfl (by decide) ?_
  refine x_iadd (pc2 := 1180) dL_law_1179 rfl ?_
  refine x_sld (pc2 := 1181) (by exact z_s2 hL hl) dL_law_1180 rfl ?_
  rw [hs.1]
  refine x_cV2 eX6_as kL_130 sh_43 rfl (Nat.le_of_ble_eq_true rfl) dL_law_1181 ?_
  refine hm.mono ?_
  rintro rv υ ⟨rfl, hI', hs'⟩
  show z_At _ _ 1184 _ [.int w, .int w] _ _
  refine x_icmp_eq (pc2 := 1187) (pc3 := 1238) dL_law_1184 rfl rfl (fun h1184 => ?_) (fun h1184 => ?_)
  · exact hk υ hI' hs'
  · exact absurd rfl h1184
theorem lw_trace {k : Nat} {σ : zS} {Q : Option Value → zS → Prop} (hI : iN σ) (hL : k + 7 ≤ z_len σ) (hl : z_len σ < 2 ^ 31) (hk : ∀ τ, iN τ → iS σ τ → z_At mL_law 8 1238 [.ref 63, .ref 0, .ref 43, .int (nI k)] [] τ Q) : z_At mL_law 8 1189 [.ref 63, .ref 0, .ref 43, .int (nI k)] [] σ Q := by
  refine x_aload1 (pc2 := 1190) dL_law_1189 rfl ?_
  refine x_cV0 eX5_trace kL_131 sh_0 rfl (Nat.le_of_ble_eq_true rfl) dL_law_1190 ?_
  refine (i_trace hI).mono ?_
  rintro rv τ ⟨v, rfl, ⟨w, rfl⟩, hs, hm⟩
  show z_At _ _ 1193 _ [.int w] _ _
  refine x_aload2 (pc2 := 1194) dL_law_1193 rfl ?_
  refine x_cV0 eX6_trace kL_134 sh_43 rfl (Nat.le_of_ble_eq_true rfl) dL_law_1194 ?_
  refine hm.mono ?_
  rintro rv υ ⟨rfl, hI', hs'⟩
  show z_At _ _ 1197 _ [.int w, .int w] _ _
  refine x_icmp_eq (pc2 := 1200) (pc3 := 1238) dL_law_1197 rfl rfl (fun h1197 => ?_) (fun h1197 => ?_)
  · exact hk υ hI' hs'
  · exact absurd rfl h1197
theorem lw_fault {k : Nat} {σ : zS} {Q : Option Value → zS → Prop} (hI : iN σ) (hL : k + 7 ≤ z_len σ) (hl : z_len σ < 2 ^ 31) (hk : ∀ τ, iN τ → iS σ τ → z_At mL_law 8 1238 [.ref 63, .ref 0, .ref 43, .int (nI k)] [] τ Q) : z_At mL_law 8 1202 [.ref 63, .ref 0, .ref 43, .int (nI k)] [] σ Q := by
  refine x_aload1 (pc2 := 1203) dL_law_1202 rfl ?_
  refine x_cV0 eX5_fault kL_135 sh_0 rfl (Nat.le_of_ble_eq_true rfl) dL_law_1203 ?_
  refine (i_fault hI).mono ?_
  rintro rv τ ⟨v, rfl, ⟨w, rfl⟩, hs, hm⟩
  show z_At _ _ 1206 _ [.int w] _ _
  refine x_aload2 (pc2 := 1207) dL_law_1206 rfl ?_
  refine x_cV0 eX6_fault kL_138 sh_43 rfl (Nat.le_of_ble_eq_true rfl) dL_law_1207 ?_
  refine hm.mono ?_
  rintro rv υ ⟨rfl, hI', hs'⟩
  show z_At _ _ 1210 _ [.int w, .int w] _ _
  refine x_icmp_eq (pc2 := 1213) (pc3 := 1238) dL_law_1210 rfl rfl (fun h1210 => ?_) (fun h1210 => ?_)
  · exact hk υ hI' hs'
  · exact absurd rfl h1210
theorem lw_many {k : Nat} {σ : zS} {Q : Option Value → zS → Prop} (hI : iN σ) (hL : k + 7 ≤ z_len σ) (hl : z_len σ < 2 ^ 31) (hk : ∀ τ, iN τ → iS σ τ → z_At mL_law 8 1238 [.ref 63, .ref 0, .ref 43, .int (nI k)] [] τ Q) : z_At mL_law 8 1215 [.ref 63, .ref 0, .ref 43, .int (nI k)] [] σ Q := by
  refine x_aload1 (pc2 := 1216) dL_law_1215 rfl ?_
  refine x_aload0 (pc2 := 1217) dL_law_1216 rfl ?_
  refine x_iload3 (pc2 := 1218) dL_law_1217 rfl ?_
  refine x_iconst (v := 1) (pc2 := 1219) dL_law_1218 rfl (by decide) ?_
  refine x_iadd (pc2 := 1220) dL_law_1219 rfl ?_
  refine x_sld (pc2 := 1221) (by exact z_s1 hL hl) dL_law_1220 rfl ?_
  refine x_cV1 eX5_many kL_139 sh_0 rfl (Nat.le_of_ble_eq_true rfl) dL_law_1221 ?_
  refine (i_many hI _).mono ?_
  rintro rv τ ⟨v, rfl, ⟨w, rfl⟩, hs, hm⟩
  show z_At _ _ 1224 _ [.int w] _ _
  have hL : k + 7 ≤ z_len τ := by rw [hs.len]; exact hL
  have hl : z_len τ < 2 ^ 31 := by rw [hs.len]; exact hl
  refine x_aload2 (pc2 := 1225) dL_law_1224 rfl ?_
  refine x_aload0 (pc2 := 1226) dL_law_1225 rfl ?_
  refine x_iload3 (pc2 := 1227) dL_law_1226 rfl ?_
  refine x_iconst (v := 1) (pc2 := 1228) dL_law_1227 rfl (by decide) ?_
  refine x_iadd (pc2 := 1229) dL_law_1228 rfl ?_
  refine x_sld (pc2 := 1230) (by exact z_s1 hL hl) dL_law_1229 rfl ?_
  rw [hs.1]
  refine x_cV1 eX6_many kL_142 sh_43 rfl (Nat.le_of_ble_eq_true rfl) dL_law_1230 ?_
  refine hm.mono ?_
  rintro rv υ ⟨rfl, hI', hs'⟩
  show z_At _ _ 1233 _ [.int w, .int w] _ _
  refine x_icmp_eq (pc2 := 1236) (pc3 := 1238) dL_law_1233 rfl rfl (fun h1233 => ?_) (fun h1233 => ?_)
  · exact hk υ hI' hs'
  · exact absurd rfl h1233
