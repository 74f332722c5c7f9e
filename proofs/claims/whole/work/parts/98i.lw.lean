/-! ===== the law's own body: its regions ===== -/
theorem cw_addTrade : hC1 Y_L_addTrade hh_addTrade ∈ WS := ws_in (List.mem_of_getElem? (i := 868) (by decide +kernel)) rfl
theorem cw_addMentor : hC1 Y_L_addMentor hh_addMentor ∈ WS := ws_in (List.mem_of_getElem? (i := 980) (by decide +kernel)) rfl
theorem cw_addApprentice : hC1 Y_L_addApprentice hh_addApprentice ∈ WS := ws_in (List.mem_of_getElem? (i := 987) (by decide +kernel)) rfl
theorem cw_release : hC1 Y_L_release hh_release ∈ WS := ws_in (List.mem_of_getElem? (i := 995) (by decide +kernel)) rfl
theorem cw_log : hC1 Y_L_log hh_log ∈ WS := ws_in (List.mem_of_getElem? (i := 1002) (by decide +kernel)) rfl
theorem cw_confirm : hC1 Y_L_confirm hh_confirm ∈ WS := ws_in (List.mem_of_getElem? (i := 1009) (by decide +kernel)) rfl
theorem cw_doubt : hC1 Y_L_doubt hh_doubt ∈ WS := ws_in (List.mem_of_getElem? (i := 1016) (by decide +kernel)) rfl
theorem cw_settle : hC1 Y_L_settle hh_settle ∈ WS := ws_in (List.mem_of_getElem? (i := 1023) (by decide +kernel)) rfl
theorem cw_credit : hC1 Y_L_credit hh_credit ∈ WS := ws_in (List.mem_of_getElem? (i := 1030) (by decide +kernel)) rfl
theorem cw_endDay : hC1 Y_L_endDay hh_endDay ∈ WS := ws_in (List.mem_of_getElem? (i := 1049) (by decide +kernel)) rfl
theorem cw_move : hC1 Y_L_move hh_move ∈ WS := ws_in (List.mem_of_getElem? (i := 1056) (by decide +kernel)) rfl
theorem cw_leave : hC1 Y_L_leave hh_leave ∈ WS := ws_in (List.mem_of_getElem? (i := 1063) (by decide +kernel)) rfl
theorem cw_exchange : hC1 Y_L_exchange hh_exchange ∈ WS := ws_in (List.mem_of_getElem? (i := 1078) (by decide +kernel)) rfl
theorem cw_reason : hC1 Y_L_reason hh_reason ∈ WS := ws_in (List.mem_of_getElem? (i := 1085) (by decide +kernel)) rfl
theorem cw_mentor : hC1 Y_L_mentor hh_mentor ∈ WS := ws_in (List.mem_of_getElem? (i := 1092) (by decide +kernel)) rfl
theorem cw_apprentice : hC1 Y_L_apprentice hh_apprentice ∈ WS := ws_in (List.mem_of_getElem? (i := 1099) (by decide +kernel)) rfl
theorem cw_part : hC1 Y_L_part hh_part ∈ WS := ws_in (List.mem_of_getElem? (i := 1106) (by decide +kernel)) rfl
theorem cw_entry : hC1 Y_L_entry hh_entry ∈ WS := ws_in (List.mem_of_getElem? (i := 1113) (by decide +kernel)) rfl
theorem cw_whole : hC1 Y_L_whole hh_whole ∈ WS := ws_in (List.mem_of_getElem? (i := 1120) (by decide +kernel)) rfl
theorem cw_completeOn : hC1 Y_L_completeOn hh_completeOn ∈ WS := ws_in (List.mem_of_getElem? (i := 1127) (by decide +kernel)) rfl
theorem cw_bestMentor : hC1 Y_L_bestMentor hh_bestMentor ∈ WS := ws_in (List.mem_of_getElem? (i := 1138) (by decide +kernel)) rfl
theorem cw_doubtsBy : hC1 Y_L_doubtsBy hh_doubtsBy ∈ WS := ws_in (List.mem_of_getElem? (i := 1145) (by decide +kernel)) rfl
theorem cw_nextRelease : hC1 Y_L_nextRelease hh_nextRelease ∈ WS := ws_in (List.mem_of_getElem? (i := 1161) (by decide +kernel)) rfl
theorem cw_type : hC1 Y_L_type hh_type ∈ WS := ws_in (List.mem_of_getElem? (i := 1168) (by decide +kernel)) rfl
theorem cw_undo : hC1 Y_L_undo hh_undo ∈ WS := ws_in (List.mem_of_getElem? (i := 1179) (by decide +kernel)) rfl
abbrev Y_L_law : YT := (yL_law, cL_law, 7, (some .boolean), 13, 486, 601024, 7293034)
section LAW
variable {l : Launch} {G : GT} {F : FX} {Q : PQ} {QX : PX} {k n : Nat} {Ln : Nat} {xs : Nat → Int32}
def R_L_0 (l : Launch) (G : GT) (F : FX) (Q : PQ) (QX : PX) (k n Ln : Nat) (xs : Nat → Int32) : KT := (I_al 1 (I_al 0 (I_il 4 (I_ic 1 (I_iadd (I_scv Ln xs (I_al 0 (I_il 4 (I_ic 2 (I_iadd (I_scv Ln xs (I_al 0 (I_il 4 (I_ic 3 (I_iadd (I_scv Ln xs (I_al 3 (I_csH (fun As M Q => TrH l G Y_L_addTrade hh_addTrade As M Q) 5 (I_is 5 (I_al 2 (I_al 0 (I_il 4 (I_ic 1 (I_iadd (I_scv Ln xs (I_al 0 (I_il 4 (I_ic 2 (I_iadd (I_scv Ln xs (I_al 0 (I_il 4 (I_ic 3 (I_iadd (I_scv Ln xs (I_cv (Tr true l G Y_X10_addTrade) 8 13 3 QX (I_is 6 (I_al 2 (I_cv (Tr true l G Y_X10_thrown) 8 13 0 QX (I_il 5 (I_iceq (I_il 5 (I_ifne (Wj true l G F Y_L_law Q QX (k + 1) (n + 6) 1900) (I_al 3 (I_ic 0 (I_lal (I_il 6 (I_i2l (I_lcmp (I_ifeq (Wj true l G F Y_L_law Q QX (k + 1) (n + 6) 1900) (I_ic 0 (I_zr Q))))))))))) (I_ic 0 (I_zr Q)))))))))))))))))))))))))))))))))))))))))))
set_option maxRecDepth 100000 in
theorem g_L_0 (hs : SCR G F Ln xs) (hk : k + 2 ≤ 601024 ∧ n + 12 ≤ 7293034) : Le (R_L_0 l G F Q QX k n Ln xs) (Wj true l G F Y_L_law Q QX k n 164) := by
  unfold R_L_0
  refine r_aload_n (pc := 164) ?_ dL_law_164 rfl
  refine r_aload_n (pc := 165) ?_ dL_law_165 rfl
  refine r_iload (pc := 166) ?_ dL_law_166
  refine r_iconst (pc := 168) ?_ dL_law_168 (by decide)
  refine r_iadd (pc := 169) ?_ dL_law_169
  refine r_scv (pc := 170) hs ?_ dL_law_170
  refine r_aload_n (pc := 171) ?_ dL_law_171 rfl
  refine r_iload (pc := 172) ?_ dL_law_172
  refine r_iconst (pc := 174) ?_ dL_law_174 (by decide)
  refine r_iadd (pc := 175) ?_ dL_law_175
  refine r_scv (pc := 176) hs ?_ dL_law_176
  refine r_aload_n (pc := 177) ?_ dL_law_177 rfl
  refine r_iload (pc := 178) ?_ dL_law_178
  refine r_iconst (pc := 180) ?_ dL_law_180 (by decide)
  refine r_iadd (pc := 181) ?_ dL_law_181
  refine r_scv (pc := 182) hs ?_ dL_law_182
  refine r_aload_n (pc := 183) ?_ dL_law_183 rfl
  refine r_csH (pc := 184) (k := k) (n := n) (Yc := Y_L_addTrade) ?_ dL_law_184 cw_addTrade wd_1_0 wd_4_50 wd_4_49 ⟨by decide, by decide⟩ (by decide +kernel) ⟨Nat.le_of_ble_eq_true rfl, Nat.le_of_ble_eq_true rfl⟩ ⟨(show k + 1 ≤ 601024 by omega), (show n + 6 ≤ 7293034 by omega)⟩
  refine r_istore (pc := 187) ?_ dL_law_187 (Nat.le_of_ble_eq_true rfl)
  refine r_aload_n (pc := 189) ?_ dL_law_189 rfl
  refine r_aload_n (pc := 190) ?_ dL_law_190 rfl
  refine r_iload (pc := 191) ?_ dL_law_191
  refine r_iconst (pc := 193) ?_ dL_law_193 (by decide)
  refine r_iadd (pc := 194) ?_ dL_law_194
  refine r_scv (pc := 195) hs ?_ dL_law_195
  refine r_aload_n (pc := 196) ?_ dL_law_196 rfl
  refine r_iload (pc := 197) ?_ dL_law_197
  refine r_iconst (pc := 199) ?_ dL_law_199 (by decide)
  refine r_iadd (pc := 200) ?_ dL_law_200
  refine r_scv (pc := 201) hs ?_ dL_law_201
  refine r_aload_n (pc := 202) ?_ dL_law_202 rfl
  refine r_iload (pc := 203) ?_ dL_law_203
  refine r_iconst (pc := 205) ?_ dL_law_205 (by decide)
  refine r_iadd (pc := 206) ?_ dL_law_206
  refine r_scv (pc := 207) hs ?_ dL_law_207
  refine r_cv0 (pc := 208) ?_ dL_law_208 cl_X10 ok_X10_addTrade rfl wd_5_181 ⟨Nat.le_of_ble_eq_true rfl, Nat.le_of_ble_eq_true rfl⟩ ⟨(show (k + 1) ≤ 601024 by omega), (show (n + 6) ≤ 7293034 by omega)⟩ rfl rfl
  refine r_istore (pc := 211) ?_ dL_law_211 (Nat.le_of_ble_eq_true rfl)
  refine r_aload_n (pc := 213) ?_ dL_law_213 rfl
  refine r_cv0 (pc := 214) ?_ dL_law_214 cl_X10 ok_X10_thrown rfl wd_5_177 ⟨Nat.le_of_ble_eq_true rfl, Nat.le_of_ble_eq_true rfl⟩ ⟨(show (k + 1) ≤ 601024 by omega), (show (n + 6) ≤ 7293034 by omega)⟩ rfl rfl
  refine r_iload (pc := 217) ?_ dL_law_217
  refine r_iceq (pc := 219) (t := 224) ?_ ?_ dL_law_219 (by decide)
  · refine r_iload (pc := 224) ?_ dL_law_224
    refine r_ifne (pc := 226) (t := 241) ?_ ?_ dL_law_226 (by decide)
    · refine r_goto (pc := 241) (t := 1900) ?_ dL_law_241 (by decide)
      exact Le.rf
    · refine r_aload_n (pc := 229) ?_ dL_law_229 rfl
      refine r_iconst (pc := 230) ?_ dL_law_230 (by decide)
      refine r_lal (pc := 231) ?_ dL_law_231
      refine r_iload (pc := 232) ?_ dL_law_232
      refine r_i2l (pc := 234) ?_ dL_law_234
      refine r_lcmp (pc := 235) ?_ dL_law_235
      refine r_ifeq (pc := 236) (t := 241) ?_ ?_ dL_law_236 (by decide)
      · refine r_goto (pc := 241) (t := 1900) ?_ dL_law_241 (by decide)
        exact Le.rf
      · refine r_iconst (pc := 239) ?_ dL_law_239 (by decide)
        exact r_zr dL_law_240 rfl (show (k + 1) ≤ 601024 by omega) (show (n + 6) ≤ 7293034 by omega)
  · refine r_iconst (pc := 222) ?_ dL_law_222 (by decide)
    exact r_zr dL_law_223 rfl (show (k + 1) ≤ 601024 by omega) (show (n + 6) ≤ 7293034 by omega)
def R_L_1 (l : Launch) (G : GT) (F : FX) (Q : PQ) (QX : PX) (k n Ln : Nat) (xs : Nat → Int32) : KT := (I_al 1 (I_al 0 (I_il 4 (I_ic 1 (I_iadd (I_scv Ln xs (I_al 0 (I_il 4 (I_ic 2 (I_iadd (I_scv Ln xs (I_al 3 (I_csH (fun As M Q => TrH l G Y_L_addMentor hh_addMentor As M Q) 4 (I_is 5 (I_al 2 (I_al 0 (I_il 4 (I_ic 1 (I_iadd (I_scv Ln xs (I_al 0 (I_il 4 (I_ic 2 (I_iadd (I_scv Ln xs (I_cv (Tr true l G Y_X10_addMentor) 8 13 2 QX (I_is 6 (I_al 2 (I_cv (Tr true l G Y_X10_thrown) 8 13 0 QX (I_il 5 (I_iceq (I_il 5 (I_ifne (Wj true l G F Y_L_law Q QX (k + 1) (n + 6) 1900) (I_al 3 (I_ic 0 (I_lal (I_il 6 (I_i2l (I_lcmp (I_ifeq (Wj true l G F Y_L_law Q QX (k + 1) (n + 6) 1900) (I_ic 0 (I_zr Q))))))))))) (I_ic 0 (I_zr Q)))))))))))))))))))))))))))))))))
set_option maxRecDepth 100000 in
theorem g_L_1 (hs : SCR G F Ln xs) (hk : k + 2 ≤ 601024 ∧ n + 12 ≤ 7293034) : Le (R_L_1 l G F Q QX k n Ln xs) (Wj true l G F Y_L_law Q QX k n 244) := by
  unfold R_L_1
  refine r_aload_n (pc := 244) ?_ dL_law_244 rfl
  refine r_aload_n (pc := 245) ?_ dL_law_245 rfl
  refine r_iload (pc := 246) ?_ dL_law_246
  refine r_iconst (pc := 248) ?_ dL_law_248 (by decide)
  refine r_iadd (pc := 249) ?_ dL_law_249
  refine r_scv (pc := 250) hs ?_ dL_law_250
  refine r_aload_n (pc := 251) ?_ dL_law_251 rfl
  refine r_iload (pc := 252) ?_ dL_law_252
  refine r_iconst (pc := 254) ?_ dL_law_254 (by decide)
  refine r_iadd (pc := 255) ?_ dL_law_255
  refine r_scv (pc := 256) hs ?_ dL_law_256
  refine r_aload_n (pc := 257) ?_ dL_law_257 rfl
  refine r_csH (pc := 258) (k := k) (n := n) (Yc := Y_L_addMentor) ?_ dL_law_258 cw_addMentor wd_1_0 wd_4_162 wd_4_161 ⟨by decide, by decide⟩ (by decide +kernel) ⟨Nat.le_of_ble_eq_true rfl, Nat.le_of_ble_eq_true rfl⟩ ⟨(show k + 1 ≤ 601024 by omega), (show n + 6 ≤ 7293034 by omega)⟩
  refine r_istore (pc := 261) ?_ dL_law_261 (Nat.le_of_ble_eq_true rfl)
  refine r_aload_n (pc := 263) ?_ dL_law_263 rfl
  refine r_aload_n (pc := 264) ?_ dL_law_264 rfl
  refine r_iload (pc := 265) ?_ dL_law_265
  refine r_iconst (pc := 267) ?_ dL_law_267 (by decide)
  refine r_iadd (pc := 268) ?_ dL_law_268
  refine r_scv (pc := 269) hs ?_ dL_law_269
  refine r_aload_n (pc := 270) ?_ dL_law_270 rfl
  refine r_iload (pc := 271) ?_ dL_law_271
  refine r_iconst (pc := 273) ?_ dL_law_273 (by decide)
  refine r_iadd (pc := 274) ?_ dL_law_274
  refine r_scv (pc := 275) hs ?_ dL_law_275
  refine r_cv0 (pc := 276) ?_ dL_law_276 cl_X10 ok_X10_addMentor rfl wd_5_218 ⟨Nat.le_of_ble_eq_true rfl, Nat.le_of_ble_eq_true rfl⟩ ⟨(show (k + 1) ≤ 601024 by omega), (show (n + 6) ≤ 7293034 by omega)⟩ rfl rfl
  refine r_istore (pc := 279) ?_ dL_law_279 (Nat.le_of_ble_eq_true rfl)
  refine r_aload_n (pc := 281) ?_ dL_law_281 rfl
  refine r_cv0 (pc := 282) ?_ dL_law_282 cl_X10 ok_X10_thrown rfl wd_5_177 ⟨Nat.le_of_ble_eq_true rfl, Nat.le_of_ble_eq_true rfl⟩ ⟨(show (k + 1) ≤ 601024 by omega), (show (n + 6) ≤ 7293034 by omega)⟩ rfl rfl
  refine r_iload (pc := 285) ?_ dL_law_285
  refine r_iceq (pc := 287) (t := 292) ?_ ?_ dL_law_287 (by decide)
  · refine r_iload (pc := 292) ?_ dL_law_292
    refine r_ifne (pc := 294) (t := 309) ?_ ?_ dL_law_294 (by decide)
    · refine r_goto (pc := 309) (t := 1900) ?_ dL_law_309 (by decide)
      exact Le.rf
    · refine r_aload_n (pc := 297) ?_ dL_law_297 rfl
      refine r_iconst (pc := 298) ?_ dL_law_298 (by decide)
      refine r_lal (pc := 299) ?_ dL_law_299
      refine r_iload (pc := 300) ?_ dL_law_300
      refine r_i2l (pc := 302) ?_ dL_law_302
      refine r_lcmp (pc := 303) ?_ dL_law_303
      refine r_ifeq (pc := 304) (t := 309) ?_ ?_ dL_law_304 (by decide)
      · refine r_goto (pc := 309) (t := 1900) ?_ dL_law_309 (by decide)
        exact Le.rf
      · refine r_iconst (pc := 307) ?_ dL_law_307 (by decide)
        exact r_zr dL_law_308 rfl (show (k + 1) ≤ 601024 by omega) (show (n + 6) ≤ 7293034 by omega)
  · refine r_iconst (pc := 290) ?_ dL_law_290 (by decide)
    exact r_zr dL_law_291 rfl (show (k + 1) ≤ 601024 by omega) (show (n + 6) ≤ 7293034 by omega)
def R_L_2 (l : Launch) (G : GT) (F : FX) (Q : PQ) (QX : PX) (k n Ln : Nat) (xs : Nat → Int32) : KT := (I_al 1 (I_al 0 (I_il 4 (I_ic 1 (I_iadd (I_scv Ln xs (I_al 0 (I_il 4 (I_ic 2 (I_iadd (I_scv Ln xs (I_al 3 (I_csH (fun As M Q => TrH l G Y_L_addApprentice hh_addApprentice As M Q) 4 (I_is 5 (I_al 2 (I_al 0 (I_il 4 (I_ic 1 (I_iadd (I_scv Ln xs (I_al 0 (I_il 4 (I_ic 2 (I_iadd (I_scv Ln xs (I_cv (Tr true l G Y_X10_addApprentice) 8 13 2 QX (I_is 6 (I_al 2 (I_cv (Tr true l G Y_X10_thrown) 8 13 0 QX (I_il 5 (I_iceq (I_il 5 (I_ifne (Wj true l G F Y_L_law Q QX (k + 1) (n + 6) 1900) (I_al 3 (I_ic 0 (I_lal (I_il 6 (I_i2l (I_lcmp (I_ifeq (Wj true l G F Y_L_law Q QX (k + 1) (n + 6) 1900) (I_ic 0 (I_zr Q))))))))))) (I_ic 0 (I_zr Q)))))))))))))))))))))))))))))))))
set_option maxRecDepth 100000 in
theorem g_L_2 (hs : SCR G F Ln xs) (hk : k + 2 ≤ 601024 ∧ n + 12 ≤ 7293034) : Le (R_L_2 l G F Q QX k n Ln xs) (Wj true l G F Y_L_law Q QX k n 312) := by
  unfold R_L_2
  refine r_aload_n (pc := 312) ?_ dL_law_312 rfl
  refine r_aload_n (pc := 313) ?_ dL_law_313 rfl
  refine r_iload (pc := 314) ?_ dL_law_314
  refine r_iconst (pc := 316) ?_ dL_law_316 (by decide)
  refine r_iadd (pc := 317) ?_ dL_law_317
  refine r_scv (pc := 318) hs ?_ dL_law_318
  refine r_aload_n (pc := 319) ?_ dL_law_319 rfl
  refine r_iload (pc := 320) ?_ dL_law_320
  refine r_iconst (pc := 322) ?_ dL_law_322 (by decide)
  refine r_iadd (pc := 323) ?_ dL_law_323
  refine r_scv (pc := 324) hs ?_ dL_law_324
  refine r_aload_n (pc := 325) ?_ dL_law_325 rfl
  refine r_csH (pc := 326) (k := k) (n := n) (Yc := Y_L_addApprentice) ?_ dL_law_326 cw_addApprentice wd_1_0 wd_4_169 wd_4_168 ⟨by decide, by decide⟩ (by decide +kernel) ⟨Nat.le_of_ble_eq_true rfl, Nat.le_of_ble_eq_true rfl⟩ ⟨(show k + 1 ≤ 601024 by omega), (show n + 6 ≤ 7293034 by omega)⟩
  refine r_istore (pc := 329) ?_ dL_law_329 (Nat.le_of_ble_eq_true rfl)
  refine r_aload_n (pc := 331) ?_ dL_law_331 rfl
  refine r_aload_n (pc := 332) ?_ dL_law_332 rfl
  refine r_iload (pc := 333) ?_ dL_law_333
  refine r_iconst (pc := 335) ?_ dL_law_335 (by decide)
  refine r_iadd (pc := 336) ?_ dL_law_336
  refine r_scv (pc := 337) hs ?_ dL_law_337
  refine r_aload_n (pc := 338) ?_ dL_law_338 rfl
  refine r_iload (pc := 339) ?_ dL_law_339
  refine r_iconst (pc := 341) ?_ dL_law_341 (by decide)
  refine r_iadd (pc := 342) ?_ dL_law_342
  refine r_scv (pc := 343) hs ?_ dL_law_343
  refine r_cv0 (pc := 344) ?_ dL_law_344 cl_X10 ok_X10_addApprentice rfl wd_5_228 ⟨Nat.le_of_ble_eq_true rfl, Nat.le_of_ble_eq_true rfl⟩ ⟨(show (k + 1) ≤ 601024 by omega), (show (n + 6) ≤ 7293034 by omega)⟩ rfl rfl
  refine r_istore (pc := 347) ?_ dL_law_347 (Nat.le_of_ble_eq_true rfl)
  refine r_aload_n (pc := 349) ?_ dL_law_349 rfl
  refine r_cv0 (pc := 350) ?_ dL_law_350 cl_X10 ok_X10_thrown rfl wd_5_177 ⟨Nat.le_of_ble_eq_true rfl, Nat.le_of_ble_eq_true rfl⟩ ⟨(show (k + 1) ≤ 601024 by omega), (show (n + 6) ≤ 7293034 by omega)⟩ rfl rfl
  refine r_iload (pc := 353) ?_ dL_law_353
  refine r_iceq (pc := 355) (t := 360) ?_ ?_ dL_law_355 (by decide)
  · refine r_iload (pc := 360) ?_ dL_law_360
    refine r_ifne (pc := 362) (t := 377) ?_ ?_ dL_law_362 (by decide)
    · refine r_goto (pc := 377) (t := 1900) ?_ dL_law_377 (by decide)
      exact Le.rf
    · refine r_aload_n (pc := 365) ?_ dL_law_365 rfl
      refine r_iconst (pc := 366) ?_ dL_law_366 (by decide)
      refine r_lal (pc := 367) ?_ dL_law_367
      refine r_iload (pc := 368) ?_ dL_law_368
      refine r_i2l (pc := 370) ?_ dL_law_370
      refine r_lcmp (pc := 371) ?_ dL_law_371
      refine r_ifeq (pc := 372) (t := 377) ?_ ?_ dL_law_372 (by decide)
      · refine r_goto (pc := 377) (t := 1900) ?_ dL_law_377 (by decide)
        exact Le.rf
      · refine r_iconst (pc := 375) ?_ dL_law_375 (by decide)
        exact r_zr dL_law_376 rfl (show (k + 1) ≤ 601024 by omega) (show (n + 6) ≤ 7293034 by omega)
  · refine r_iconst (pc := 358) ?_ dL_law_358 (by decide)
    exact r_zr dL_law_359 rfl (show (k + 1) ≤ 601024 by omega) (show (n + 6) ≤ 7293034 by omega)
def R_L_3 (l : Launch) (G : GT) (F : FX) (Q : PQ) (QX : PX) (k n Ln : Nat) (xs : Nat → Int32) : KT := (I_al 1 (I_al 0 (I_il 4 (I_ic 1 (I_iadd (I_scv Ln xs (I_al 0 (I_il 4 (I_ic 2 (I_iadd (I_scv Ln xs (I_al 3 (I_csH (fun As M Q => TrH l G Y_L_release hh_release As M Q) 4 (I_is 5 (I_al 2 (I_al 0 (I_il 4 (I_ic 1 (I_iadd (I_scv Ln xs (I_al 0 (I_il 4 (I_ic 2 (I_iadd (I_scv Ln xs (I_cv (Tr true l G Y_X10_release) 8 13 2 QX (I_is 6 (I_al 2 (I_cv (Tr true l G Y_X10_thrown) 8 13 0 QX (I_il 5 (I_iceq (I_il 5 (I_ifne (Wj true l G F Y_L_law Q QX (k + 1) (n + 6) 1900) (I_al 3 (I_ic 0 (I_lal (I_il 6 (I_i2l (I_lcmp (I_ifeq (Wj true l G F Y_L_law Q QX (k + 1) (n + 6) 1900) (I_ic 0 (I_zr Q))))))))))) (I_ic 0 (I_zr Q)))))))))))))))))))))))))))))))))
set_option maxRecDepth 100000 in
theorem g_L_3 (hs : SCR G F Ln xs) (hk : k + 2 ≤ 601024 ∧ n + 12 ≤ 7293034) : Le (R_L_3 l G F Q QX k n Ln xs) (Wj true l G F Y_L_law Q QX k n 380) := by
  unfold R_L_3
  refine r_aload_n (pc := 380) ?_ dL_law_380 rfl
  refine r_aload_n (pc := 381) ?_ dL_law_381 rfl
  refine r_iload (pc := 382) ?_ dL_law_382
  refine r_iconst (pc := 384) ?_ dL_law_384 (by decide)
  refine r_iadd (pc := 385) ?_ dL_law_385
  refine r_scv (pc := 386) hs ?_ dL_law_386
  refine r_aload_n (pc := 387) ?_ dL_law_387 rfl
  refine r_iload (pc := 388) ?_ dL_law_388
  refine r_iconst (pc := 390) ?_ dL_law_390 (by decide)
  refine r_iadd (pc := 391) ?_ dL_law_391
  refine r_scv (pc := 392) hs ?_ dL_law_392
  refine r_aload_n (pc := 393) ?_ dL_law_393 rfl
  refine r_csH (pc := 394) (k := k) (n := n) (Yc := Y_L_release) ?_ dL_law_394 cw_release wd_1_0 wd_4_177 wd_4_176 ⟨by decide, by decide⟩ (by decide +kernel) ⟨Nat.le_of_ble_eq_true rfl, Nat.le_of_ble_eq_true rfl⟩ ⟨(show k + 1 ≤ 601024 by omega), (show n + 6 ≤ 7293034 by omega)⟩
  refine r_istore (pc := 397) ?_ dL_law_397 (Nat.le_of_ble_eq_true rfl)
  refine r_aload_n (pc := 399) ?_ dL_law_399 rfl
  refine r_aload_n (pc := 400) ?_ dL_law_400 rfl
  refine r_iload (pc := 401) ?_ dL_law_401
  refine r_iconst (pc := 403) ?_ dL_law_403 (by decide)
  refine r_iadd (pc := 404) ?_ dL_law_404
  refine r_scv (pc := 405) hs ?_ dL_law_405
  refine r_aload_n (pc := 406) ?_ dL_law_406 rfl
  refine r_iload (pc := 407) ?_ dL_law_407
  refine r_iconst (pc := 409) ?_ dL_law_409 (by decide)
  refine r_iadd (pc := 410) ?_ dL_law_410
  refine r_scv (pc := 411) hs ?_ dL_law_411
  refine r_cv0 (pc := 412) ?_ dL_law_412 cl_X10 ok_X10_release rfl wd_6_33 ⟨Nat.le_of_ble_eq_true rfl, Nat.le_of_ble_eq_true rfl⟩ ⟨(show (k + 1) ≤ 601024 by omega), (show (n + 6) ≤ 7293034 by omega)⟩ rfl rfl
  refine r_istore (pc := 415) ?_ dL_law_415 (Nat.le_of_ble_eq_true rfl)
  refine r_aload_n (pc := 417) ?_ dL_law_417 rfl
  refine r_cv0 (pc := 418) ?_ dL_law_418 cl_X10 ok_X10_thrown rfl wd_5_177 ⟨Nat.le_of_ble_eq_true rfl, Nat.le_of_ble_eq_true rfl⟩ ⟨(show (k + 1) ≤ 601024 by omega), (show (n + 6) ≤ 7293034 by omega)⟩ rfl rfl
  refine r_iload (pc := 421) ?_ dL_law_421
  refine r_iceq (pc := 423) (t := 428) ?_ ?_ dL_law_423 (by decide)
  · refine r_iload (pc := 428) ?_ dL_law_428
    refine r_ifne (pc := 430) (t := 445) ?_ ?_ dL_law_430 (by decide)
    · refine r_goto (pc := 445) (t := 1900) ?_ dL_law_445 (by decide)
      exact Le.rf
    · refine r_aload_n (pc := 433) ?_ dL_law_433 rfl
      refine r_iconst (pc := 434) ?_ dL_law_434 (by decide)
      refine r_lal (pc := 435) ?_ dL_law_435
      refine r_iload (pc := 436) ?_ dL_law_436
      refine r_i2l (pc := 438) ?_ dL_law_438
      refine r_lcmp (pc := 439) ?_ dL_law_439
      refine r_ifeq (pc := 440) (t := 445) ?_ ?_ dL_law_440 (by decide)
      · refine r_goto (pc := 445) (t := 1900) ?_ dL_law_445 (by decide)
        exact Le.rf
      · refine r_iconst (pc := 443) ?_ dL_law_443 (by decide)
        exact r_zr dL_law_444 rfl (show (k + 1) ≤ 601024 by omega) (show (n + 6) ≤ 7293034 by omega)
  · refine r_iconst (pc := 426) ?_ dL_law_426 (by decide)
    exact r_zr dL_law_427 rfl (show (k + 1) ≤ 601024 by omega) (show (n + 6) ≤ 7293034 by omega)
def R_L_4 (l : Launch) (G : GT) (F : FX) (Q : PQ) (QX : PX) (k n Ln : Nat) (xs : Nat → Int32) : KT := (I_al 1 (I_al 0 (I_il 4 (I_ic 1 (I_iadd (I_scv Ln xs (I_al 0 (I_il 4 (I_ic 2 (I_iadd (I_scv Ln xs (I_al 0 (I_il 4 (I_ic 3 (I_iadd (I_scv Ln xs (I_al 3 (I_csH (fun As M Q => TrH l G Y_L_log hh_log As M Q) 5 (I_is 5 (I_al 2 (I_al 0 (I_il 4 (I_ic 1 (I_iadd (I_scv Ln xs (I_al 0 (I_il 4 (I_ic 2 (I_iadd (I_scv Ln xs (I_al 0 (I_il 4 (I_ic 3 (I_iadd (I_scv Ln xs (I_cv (Tr true l G Y_X10_log) 8 13 3 QX (I_is 6 (I_al 2 (I_cv (Tr true l G Y_X10_thrown) 8 13 0 QX (I_il 5 (I_iceq (I_il 5 (I_ifne (Wj true l G F Y_L_law Q QX (k + 1) (n + 6) 1900) (I_al 3 (I_ic 0 (I_lal (I_il 6 (I_i2l (I_lcmp (I_ifeq (Wj true l G F Y_L_law Q QX (k + 1) (n + 6) 1900) (I_ic 0 (I_zr Q))))))))))) (I_ic 0 (I_zr Q)))))))))))))))))))))))))))))))))))))))))))
set_option maxRecDepth 100000 in
theorem g_L_4 (hs : SCR G F Ln xs) (hk : k + 2 ≤ 601024 ∧ n + 12 ≤ 7293034) : Le (R_L_4 l G F Q QX k n Ln xs) (Wj true l G F Y_L_law Q QX k n 448) := by
  unfold R_L_4
  refine r_aload_n (pc := 448) ?_ dL_law_448 rfl
  refine r_aload_n (pc := 449) ?_ dL_law_449 rfl
  refine r_iload (pc := 450) ?_ dL_law_450
  refine r_iconst (pc := 452) ?_ dL_law_452 (by decide)
  refine r_iadd (pc := 453) ?_ dL_law_453
  refine r_scv (pc := 454) hs ?_ dL_law_454
  refine r_aload_n (pc := 455) ?_ dL_law_455 rfl
  refine r_iload (pc := 456) ?_ dL_law_456
  refine r_iconst (pc := 458) ?_ dL_law_458 (by decide)
  refine r_iadd (pc := 459) ?_ dL_law_459
  refine r_scv (pc := 460) hs ?_ dL_law_460
  refine r_aload_n (pc := 461) ?_ dL_law_461 rfl
  refine r_iload (pc := 462) ?_ dL_law_462
  refine r_iconst (pc := 464) ?_ dL_law_464 (by decide)
  refine r_iadd (pc := 465) ?_ dL_law_465
  refine r_scv (pc := 466) hs ?_ dL_law_466
  refine r_aload_n (pc := 467) ?_ dL_law_467 rfl
  refine r_csH (pc := 468) (k := k) (n := n) (Yc := Y_L_log) ?_ dL_law_468 cw_log wd_1_0 wd_4_184 wd_4_183 ⟨by decide, by decide⟩ (by decide +kernel) ⟨Nat.le_of_ble_eq_true rfl, Nat.le_of_ble_eq_true rfl⟩ ⟨(show k + 1 ≤ 601024 by omega), (show n + 6 ≤ 7293034 by omega)⟩
  refine r_istore (pc := 471) ?_ dL_law_471 (Nat.le_of_ble_eq_true rfl)
  refine r_aload_n (pc := 473) ?_ dL_law_473 rfl
  refine r_aload_n (pc := 474) ?_ dL_law_474 rfl
  refine r_iload (pc := 475) ?_ dL_law_475
  refine r_iconst (pc := 477) ?_ dL_law_477 (by decide)
  refine r_iadd (pc := 478) ?_ dL_law_478
  refine r_scv (pc := 479) hs ?_ dL_law_479
  refine r_aload_n (pc := 480) ?_ dL_law_480 rfl
  refine r_iload (pc := 481) ?_ dL_law_481
  refine r_iconst (pc := 483) ?_ dL_law_483 (by decide)
  refine r_iadd (pc := 484) ?_ dL_law_484
  refine r_scv (pc := 485) hs ?_ dL_law_485
  refine r_aload_n (pc := 486) ?_ dL_law_486 rfl
  refine r_iload (pc := 487) ?_ dL_law_487
  refine r_iconst (pc := 489) ?_ dL_law_489 (by decide)
  refine r_iadd (pc := 490) ?_ dL_law_490
  refine r_scv (pc := 491) hs ?_ dL_law_491
  refine r_cv0 (pc := 492) ?_ dL_law_492 cl_X10 ok_X10_log rfl wd_6_58 ⟨Nat.le_of_ble_eq_true rfl, Nat.le_of_ble_eq_true rfl⟩ ⟨(show (k + 1) ≤ 601024 by omega), (show (n + 6) ≤ 7293034 by omega)⟩ rfl rfl
  refine r_istore (pc := 495) ?_ dL_law_495 (Nat.le_of_ble_eq_true rfl)
  refine r_aload_n (pc := 497) ?_ dL_law_497 rfl
  refine r_cv0 (pc := 498) ?_ dL_law_498 cl_X10 ok_X10_thrown rfl wd_5_177 ⟨Nat.le_of_ble_eq_true rfl, Nat.le_of_ble_eq_true rfl⟩ ⟨(show (k + 1) ≤ 601024 by omega), (show (n + 6) ≤ 7293034 by omega)⟩ rfl rfl
  refine r_iload (pc := 501) ?_ dL_law_501
  refine r_iceq (pc := 503) (t := 508) ?_ ?_ dL_law_503 (by decide)
  · refine r_iload (pc := 508) ?_ dL_law_508
    refine r_ifne (pc := 510) (t := 525) ?_ ?_ dL_law_510 (by decide)
    · refine r_goto (pc := 525) (t := 1900) ?_ dL_law_525 (by decide)
      exact Le.rf
    · refine r_aload_n (pc := 513) ?_ dL_law_513 rfl
      refine r_iconst (pc := 514) ?_ dL_law_514 (by decide)
      refine r_lal (pc := 515) ?_ dL_law_515
      refine r_iload (pc := 516) ?_ dL_law_516
      refine r_i2l (pc := 518) ?_ dL_law_518
      refine r_lcmp (pc := 519) ?_ dL_law_519
      refine r_ifeq (pc := 520) (t := 525) ?_ ?_ dL_law_520 (by decide)
      · refine r_goto (pc := 525) (t := 1900) ?_ dL_law_525 (by decide)
        exact Le.rf
      · refine r_iconst (pc := 523) ?_ dL_law_523 (by decide)
        exact r_zr dL_law_524 rfl (show (k + 1) ≤ 601024 by omega) (show (n + 6) ≤ 7293034 by omega)
  · refine r_iconst (pc := 506) ?_ dL_law_506 (by decide)
    exact r_zr dL_law_507 rfl (show (k + 1) ≤ 601024 by omega) (show (n + 6) ≤ 7293034 by omega)
def R_L_5 (l : Launch) (G : GT) (F : FX) (Q : PQ) (QX : PX) (k n Ln : Nat) (xs : Nat → Int32) : KT := (I_al 1 (I_al 0 (I_il 4 (I_ic 1 (I_iadd (I_scv Ln xs (I_al 0 (I_il 4 (I_ic 2 (I_iadd (I_scv Ln xs (I_al 3 (I_csH (fun As M Q => TrH l G Y_L_confirm hh_confirm As M Q) 4 (I_is 5 (I_al 2 (I_al 0 (I_il 4 (I_ic 1 (I_iadd (I_scv Ln xs (I_al 0 (I_il 4 (I_ic 2 (I_iadd (I_scv Ln xs (I_cv (Tr true l G Y_X10_confirm) 8 13 2 QX (I_is 6 (I_al 2 (I_cv (Tr true l G Y_X10_thrown) 8 13 0 QX (I_il 5 (I_iceq (I_il 5 (I_ifne (Wj true l G F Y_L_law Q QX (k + 1) (n + 6) 1900) (I_al 3 (I_ic 0 (I_lal (I_il 6 (I_i2l (I_lcmp (I_ifeq (Wj true l G F Y_L_law Q QX (k + 1) (n + 6) 1900) (I_ic 0 (I_zr Q))))))))))) (I_ic 0 (I_zr Q)))))))))))))))))))))))))))))))))
set_option maxRecDepth 100000 in
theorem g_L_5 (hs : SCR G F Ln xs) (hk : k + 2 ≤ 601024 ∧ n + 12 ≤ 7293034) : Le (R_L_5 l G F Q QX k n Ln xs) (Wj true l G F Y_L_law Q QX k n 528) := by
  unfold R_L_5
  refine r_aload_n (pc := 528) ?_ dL_law_528 rfl
  refine r_aload_n (pc := 529) ?_ dL_law_529 rfl
  refine r_iload (pc := 530) ?_ dL_law_530
  refine r_iconst (pc := 532) ?_ dL_law_532 (by decide)
  refine r_iadd (pc := 533) ?_ dL_law_533
  refine r_scv (pc := 534) hs ?_ dL_law_534
  refine r_aload_n (pc := 535) ?_ dL_law_535 rfl
  refine r_iload (pc := 536) ?_ dL_law_536
  refine r_iconst (pc := 538) ?_ dL_law_538 (by decide)
  refine r_iadd (pc := 539) ?_ dL_law_539
  refine r_scv (pc := 540) hs ?_ dL_law_540
  refine r_aload_n (pc := 541) ?_ dL_law_541 rfl
  refine r_csH (pc := 542) (k := k) (n := n) (Yc := Y_L_confirm) ?_ dL_law_542 cw_confirm wd_1_0 wd_4_191 wd_4_190 ⟨by decide, by decide⟩ (by decide +kernel) ⟨Nat.le_of_ble_eq_true rfl, Nat.le_of_ble_eq_true rfl⟩ ⟨(show k + 1 ≤ 601024 by omega), (show n + 6 ≤ 7293034 by omega)⟩
  refine r_istore (pc := 545) ?_ dL_law_545 (Nat.le_of_ble_eq_true rfl)
  refine r_aload_n (pc := 547) ?_ dL_law_547 rfl
  refine r_aload_n (pc := 548) ?_ dL_law_548 rfl
  refine r_iload (pc := 549) ?_ dL_law_549
  refine r_iconst (pc := 551) ?_ dL_law_551 (by decide)
  refine r_iadd (pc := 552) ?_ dL_law_552
  refine r_scv (pc := 553) hs ?_ dL_law_553
  refine r_aload_n (pc := 554) ?_ dL_law_554 rfl
  refine r_iload (pc := 555) ?_ dL_law_555
  refine r_iconst (pc := 557) ?_ dL_law_557 (by decide)
  refine r_iadd (pc := 558) ?_ dL_law_558
  refine r_scv (pc := 559) hs ?_ dL_law_559
  refine r_cv0 (pc := 560) ?_ dL_law_560 cl_X10 ok_X10_confirm rfl wd_6_82 ⟨Nat.le_of_ble_eq_true rfl, Nat.le_of_ble_eq_true rfl⟩ ⟨(show (k + 1) ≤ 601024 by omega), (show (n + 6) ≤ 7293034 by omega)⟩ rfl rfl
  refine r_istore (pc := 563) ?_ dL_law_563 (Nat.le_of_ble_eq_true rfl)
  refine r_aload_n (pc := 565) ?_ dL_law_565 rfl
  refine r_cv0 (pc := 566) ?_ dL_law_566 cl_X10 ok_X10_thrown rfl wd_5_177 ⟨Nat.le_of_ble_eq_true rfl, Nat.le_of_ble_eq_true rfl⟩ ⟨(show (k + 1) ≤ 601024 by omega), (show (n + 6) ≤ 7293034 by omega)⟩ rfl rfl
  refine r_iload (pc := 569) ?_ dL_law_569
  refine r_iceq (pc := 571) (t := 576) ?_ ?_ dL_law_571 (by decide)
  · refine r_iload (pc := 576) ?_ dL_law_576
    refine r_ifne (pc := 578) (t := 593) ?_ ?_ dL_law_578 (by decide)
    · refine r_goto (pc := 593) (t := 1900) ?_ dL_law_593 (by decide)
      exact Le.rf
    · refine r_aload_n (pc := 581) ?_ dL_law_581 rfl
      refine r_iconst (pc := 582) ?_ dL_law_582 (by decide)
      refine r_lal (pc := 583) ?_ dL_law_583
      refine r_iload (pc := 584) ?_ dL_law_584
      refine r_i2l (pc := 586) ?_ dL_law_586
      refine r_lcmp (pc := 587) ?_ dL_law_587
      refine r_ifeq (pc := 588) (t := 593) ?_ ?_ dL_law_588 (by decide)
      · refine r_goto (pc := 593) (t := 1900) ?_ dL_law_593 (by decide)
        exact Le.rf
      · refine r_iconst (pc := 591) ?_ dL_law_591 (by decide)
        exact r_zr dL_law_592 rfl (show (k + 1) ≤ 601024 by omega) (show (n + 6) ≤ 7293034 by omega)
  · refine r_iconst (pc := 574) ?_ dL_law_574 (by decide)
    exact r_zr dL_law_575 rfl (show (k + 1) ≤ 601024 by omega) (show (n + 6) ≤ 7293034 by omega)
def R_L_6 (l : Launch) (G : GT) (F : FX) (Q : PQ) (QX : PX) (k n Ln : Nat) (xs : Nat → Int32) : KT := (I_al 1 (I_al 0 (I_il 4 (I_ic 1 (I_iadd (I_scv Ln xs (I_al 3 (I_csH (fun As M Q => TrH l G Y_L_doubt hh_doubt As M Q) 3 (I_is 5 (I_al 2 (I_al 0 (I_il 4 (I_ic 1 (I_iadd (I_scv Ln xs (I_cv (Tr true l G Y_X10_doubt) 8 13 1 QX (I_is 6 (I_al 2 (I_cv (Tr true l G Y_X10_thrown) 8 13 0 QX (I_il 5 (I_iceq (I_il 5 (I_ifne (Wj true l G F Y_L_law Q QX (k + 1) (n + 6) 1900) (I_al 3 (I_ic 0 (I_lal (I_il 6 (I_i2l (I_lcmp (I_ifeq (Wj true l G F Y_L_law Q QX (k + 1) (n + 6) 1900) (I_ic 0 (I_zr Q))))))))))) (I_ic 0 (I_zr Q)))))))))))))))))))))))
set_option maxRecDepth 100000 in
theorem g_L_6 (hs : SCR G F Ln xs) (hk : k + 2 ≤ 601024 ∧ n + 12 ≤ 7293034) : Le (R_L_6 l G F Q QX k n Ln xs) (Wj true l G F Y_L_law Q QX k n 596) := by
  unfold R_L_6
  refine r_aload_n (pc := 596) ?_ dL_law_596 rfl
  refine r_aload_n (pc := 597) ?_ dL_law_597 rfl
  refine r_iload (pc := 598) ?_ dL_law_598
  refine r_iconst (pc := 600) ?_ dL_law_600 (by decide)
  refine r_iadd (pc := 601) ?_ dL_law_601
  refine r_scv (pc := 602) hs ?_ dL_law_602
  refine r_aload_n (pc := 603) ?_ dL_law_603 rfl
  refine r_csH (pc := 604) (k := k) (n := n) (Yc := Y_L_doubt) ?_ dL_law_604 cw_doubt wd_1_0 wd_4_198 wd_4_197 ⟨by decide, by decide⟩ (by decide +kernel) ⟨Nat.le_of_ble_eq_true rfl, Nat.le_of_ble_eq_true rfl⟩ ⟨(show k + 1 ≤ 601024 by omega), (show n + 6 ≤ 7293034 by omega)⟩
  refine r_istore (pc := 607) ?_ dL_law_607 (Nat.le_of_ble_eq_true rfl)
  refine r_aload_n (pc := 609) ?_ dL_law_609 rfl
  refine r_aload_n (pc := 610) ?_ dL_law_610 rfl
  refine r_iload (pc := 611) ?_ dL_law_611
  refine r_iconst (pc := 613) ?_ dL_law_613 (by decide)
  refine r_iadd (pc := 614) ?_ dL_law_614
  refine r_scv (pc := 615) hs ?_ dL_law_615
  refine r_cv0 (pc := 616) ?_ dL_law_616 cl_X10 ok_X10_doubt rfl wd_6_101 ⟨Nat.le_of_ble_eq_true rfl, Nat.le_of_ble_eq_true rfl⟩ ⟨(show (k + 1) ≤ 601024 by omega), (show (n + 6) ≤ 7293034 by omega)⟩ rfl rfl
  refine r_istore (pc := 619) ?_ dL_law_619 (Nat.le_of_ble_eq_true rfl)
  refine r_aload_n (pc := 621) ?_ dL_law_621 rfl
  refine r_cv0 (pc := 622) ?_ dL_law_622 cl_X10 ok_X10_thrown rfl wd_5_177 ⟨Nat.le_of_ble_eq_true rfl, Nat.le_of_ble_eq_true rfl⟩ ⟨(show (k + 1) ≤ 601024 by omega), (show (n + 6) ≤ 7293034 by omega)⟩ rfl rfl
  refine r_iload (pc := 625) ?_ dL_law_625
  refine r_iceq (pc := 627) (t := 632) ?_ ?_ dL_law_627 (by decide)
  · refine r_iload (pc := 632) ?_ dL_law_632
    refine r_ifne (pc := 634) (t := 649) ?_ ?_ dL_law_634 (by decide)
    · refine r_goto (pc := 649) (t := 1900) ?_ dL_law_649 (by decide)
      exact Le.rf
    · refine r_aload_n (pc := 637) ?_ dL_law_637 rfl
      refine r_iconst (pc := 638) ?_ dL_law_638 (by decide)
      refine r_lal (pc := 639) ?_ dL_law_639
      refine r_iload (pc := 640) ?_ dL_law_640
      refine r_i2l (pc := 642) ?_ dL_law_642
      refine r_lcmp (pc := 643) ?_ dL_law_643
      refine r_ifeq (pc := 644) (t := 649) ?_ ?_ dL_law_644 (by decide)
      · refine r_goto (pc := 649) (t := 1900) ?_ dL_law_649 (by decide)
        exact Le.rf
      · refine r_iconst (pc := 647) ?_ dL_law_647 (by decide)
        exact r_zr dL_law_648 rfl (show (k + 1) ≤ 601024 by omega) (show (n + 6) ≤ 7293034 by omega)
  · refine r_iconst (pc := 630) ?_ dL_law_630 (by decide)
    exact r_zr dL_law_631 rfl (show (k + 1) ≤ 601024 by omega) (show (n + 6) ≤ 7293034 by omega)
def R_L_7 (l : Launch) (G : GT) (F : FX) (Q : PQ) (QX : PX) (k n Ln : Nat) (xs : Nat → Int32) : KT := (I_al 1 (I_al 0 (I_il 4 (I_ic 1 (I_iadd (I_scv Ln xs (I_al 0 (I_il 4 (I_ic 2 (I_iadd (I_scv Ln xs (I_ifeq (I_ic 0 (I_al 3 (I_csH (fun As M Q => TrH l G Y_L_settle hh_settle As M Q) 4 (I_is 5 (I_al 2 (I_al 0 (I_il 4 (I_ic 1 (I_iadd (I_scv Ln xs (I_al 0 (I_il 4 (I_ic 2 (I_iadd (I_scv Ln xs (I_ifeq (I_ic 0 (I_cv (Tr true l G Y_X10_settle) 8 13 2 QX (I_is 6 (I_al 2 (I_cv (Tr true l G Y_X10_thrown) 8 13 0 QX (I_il 5 (I_iceq (I_il 5 (I_ifne (Wj true l G F Y_L_law Q QX (k + 1) (n + 6) 1900) (I_al 3 (I_ic 0 (I_lal (I_il 6 (I_i2l (I_lcmp (I_ifeq (Wj true l G F Y_L_law Q QX (k + 1) (n + 6) 1900) (I_ic 0 (I_zr Q))))))))))) (I_ic 0 (I_zr Q))))))))) (I_ic 1 (I_cv (Tr true l G Y_X10_settle) 8 13 2 QX (I_is 6 (I_al 2 (I_cv (Tr true l G Y_X10_thrown) 8 13 0 QX (I_il 5 (I_iceq (I_il 5 (I_ifne (Wj true l G F Y_L_law Q QX (k + 1) (n + 6) 1900) (I_al 3 (I_ic 0 (I_lal (I_il 6 (I_i2l (I_lcmp (I_ifeq (Wj true l G F Y_L_law Q QX (k + 1) (n + 6) 1900) (I_ic 0 (I_zr Q))))))))))) (I_ic 0 (I_zr Q))))))))))))))))))))))))) (I_ic 1 (I_al 3 (I_csH (fun As M Q => TrH l G Y_L_settle hh_settle As M Q) 4 (I_is 5 (I_al 2 (I_al 0 (I_il 4 (I_ic 1 (I_iadd (I_scv Ln xs (I_al 0 (I_il 4 (I_ic 2 (I_iadd (I_scv Ln xs (I_ifeq (I_ic 0 (I_cv (Tr true l G Y_X10_settle) 8 13 2 QX (I_is 6 (I_al 2 (I_cv (Tr true l G Y_X10_thrown) 8 13 0 QX (I_il 5 (I_iceq (I_il 5 (I_ifne (Wj true l G F Y_L_law Q QX (k + 1) (n + 6) 1900) (I_al 3 (I_ic 0 (I_lal (I_il 6 (I_i2l (I_lcmp (I_ifeq (Wj true l G F Y_L_law Q QX (k + 1) (n + 6) 1900) (I_ic 0 (I_zr Q))))))))))) (I_ic 0 (I_zr Q))))))))) (I_ic 1 (I_cv (Tr true l G Y_X10_settle) 8 13 2 QX (I_is 6 (I_al 2 (I_cv (Tr true l G Y_X10_thrown) 8 13 0 QX (I_il 5 (I_iceq (I_il 5 (I_ifne (Wj true l G F Y_L_law Q QX (k + 1) (n + 6) 1900) (I_al 3 (I_ic 0 (I_lal (I_il 6 (I_i2l (I_lcmp (I_ifeq (Wj true l G F Y_L_law Q QX (k + 1) (n + 6) 1900) (I_ic 0 (I_zr Q))))))))))) (I_ic 0 (I_zr Q)))))))))))))))))))))))))))))))))))))
set_option maxRecDepth 100000 in
theorem g_L_7 (hs : SCR G F Ln xs) (hk : k + 2 ≤ 601024 ∧ n + 12 ≤ 7293034) : Le (R_L_7 l G F Q QX k n Ln xs) (Wj true l G F Y_L_law Q QX k n 652) := by
  unfold R_L_7
  refine r_aload_n (pc := 652) ?_ dL_law_652 rfl
  refine r_aload_n (pc := 653) ?_ dL_law_653 rfl
  refine r_iload (pc := 654) ?_ dL_law_654
  refine r_iconst (pc := 656) ?_ dL_law_656 (by decide)
  refine r_iadd (pc := 657) ?_ dL_law_657
  refine r_scv (pc := 658) hs ?_ dL_law_658
  refine r_aload_n (pc := 659) ?_ dL_law_659 rfl
  refine r_iload (pc := 660) ?_ dL_law_660
  refine r_iconst (pc := 662) ?_ dL_law_662 (by decide)
  refine r_iadd (pc := 663) ?_ dL_law_663
  refine r_scv (pc := 664) hs ?_ dL_law_664
  refine r_ifeq (pc := 665) (t := 672) ?_ ?_ dL_law_665 (by decide)
  · refine r_iconst (pc := 672) ?_ dL_law_672 (by decide)
    refine r_aload_n (pc := 673) ?_ dL_law_673 rfl
    refine r_csH (pc := 674) (k := k) (n := n) (Yc := Y_L_settle) ?_ dL_law_674 cw_settle wd_1_0 wd_4_205 wd_4_204 ⟨by decide, by decide⟩ (by decide +kernel) ⟨Nat.le_of_ble_eq_true rfl, Nat.le_of_ble_eq_true rfl⟩ ⟨(show k + 1 ≤ 601024 by omega), (show n + 6 ≤ 7293034 by omega)⟩
    refine r_istore (pc := 677) ?_ dL_law_677 (Nat.le_of_ble_eq_true rfl)
    refine r_aload_n (pc := 679) ?_ dL_law_679 rfl
    refine r_aload_n (pc := 680) ?_ dL_law_680 rfl
    refine r_iload (pc := 681) ?_ dL_law_681
    refine r_iconst (pc := 683) ?_ dL_law_683 (by decide)
    refine r_iadd (pc := 684) ?_ dL_law_684
    refine r_scv (pc := 685) hs ?_ dL_law_685
    refine r_aload_n (pc := 686) ?_ dL_law_686 rfl
    refine r_iload (pc := 687) ?_ dL_law_687
    refine r_iconst (pc := 689) ?_ dL_law_689 (by decide)
    refine r_iadd (pc := 690) ?_ dL_law_690
    refine r_scv (pc := 691) hs ?_ dL_law_691
    refine r_ifeq (pc := 692) (t := 699) ?_ ?_ dL_law_692 (by decide)
    · refine r_iconst (pc := 699) ?_ dL_law_699 (by decide)
      refine r_cv0 (pc := 700) ?_ dL_law_700 cl_X10 ok_X10_settle rfl wd_6_113 ⟨Nat.le_of_ble_eq_true rfl, Nat.le_of_ble_eq_true rfl⟩ ⟨(show (k + 1) ≤ 601024 by omega), (show (n + 6) ≤ 7293034 by omega)⟩ rfl rfl
      refine r_istore (pc := 703) ?_ dL_law_703 (Nat.le_of_ble_eq_true rfl)
      refine r_aload_n (pc := 705) ?_ dL_law_705 rfl
      refine r_cv0 (pc := 706) ?_ dL_law_706 cl_X10 ok_X10_thrown rfl wd_5_177 ⟨Nat.le_of_ble_eq_true rfl, Nat.le_of_ble_eq_true rfl⟩ ⟨(show (k + 1) ≤ 601024 by omega), (show (n + 6) ≤ 7293034 by omega)⟩ rfl rfl
      refine r_iload (pc := 709) ?_ dL_law_709
      refine r_iceq (pc := 711) (t := 716) ?_ ?_ dL_law_711 (by decide)
      · refine r_iload (pc := 716) ?_ dL_law_716
        refine r_ifne (pc := 718) (t := 733) ?_ ?_ dL_law_718 (by decide)
        · refine r_goto (pc := 733) (t := 1900) ?_ dL_law_733 (by decide)
          exact Le.rf
        · refine r_aload_n (pc := 721) ?_ dL_law_721 rfl
          refine r_iconst (pc := 722) ?_ dL_law_722 (by decide)
          refine r_lal (pc := 723) ?_ dL_law_723
          refine r_iload (pc := 724) ?_ dL_law_724
          refine r_i2l (pc := 726) ?_ dL_law_726
          refine r_lcmp (pc := 727) ?_ dL_law_727
          refine r_ifeq (pc := 728) (t := 733) ?_ ?_ dL_law_728 (by decide)
          · refine r_goto (pc := 733) (t := 1900) ?_ dL_law_733 (by decide)
            exact Le.rf
          · refine r_iconst (pc := 731) ?_ dL_law_731 (by decide)
            exact r_zr dL_law_732 rfl (show (k + 1) ≤ 601024 by omega) (show (n + 6) ≤ 7293034 by omega)
      · refine r_iconst (pc := 714) ?_ dL_law_714 (by decide)
        exact r_zr dL_law_715 rfl (show (k + 1) ≤ 601024 by omega) (show (n + 6) ≤ 7293034 by omega)
    · refine r_iconst (pc := 695) ?_ dL_law_695 (by decide)
      refine r_goto (pc := 696) (t := 700) ?_ dL_law_696 (by decide)
      refine r_cv0 (pc := 700) ?_ dL_law_700 cl_X10 ok_X10_settle rfl wd_6_113 ⟨Nat.le_of_ble_eq_true rfl, Nat.le_of_ble_eq_true rfl⟩ ⟨(show (k + 1) ≤ 601024 by omega), (show (n + 6) ≤ 7293034 by omega)⟩ rfl rfl
      refine r_istore (pc := 703) ?_ dL_law_703 (Nat.le_of_ble_eq_true rfl)
      refine r_aload_n (pc := 705) ?_ dL_law_705 rfl
      refine r_cv0 (pc := 706) ?_ dL_law_706 cl_X10 ok_X10_thrown rfl wd_5_177 ⟨Nat.le_of_ble_eq_true rfl, Nat.le_of_ble_eq_true rfl⟩ ⟨(show (k + 1) ≤ 601024 by omega), (show (n + 6) ≤ 7293034 by omega)⟩ rfl rfl
      refine r_iload (pc := 709) ?_ dL_law_709
      refine r_iceq (pc := 711) (t := 716) ?_ ?_ dL_law_711 (by decide)
      · refine r_iload (pc := 716) ?_ dL_law_716
        refine r_ifne (pc := 718) (t := 733) ?_ ?_ dL_law_718 (by decide)
        · refine r_goto (pc := 733) (t := 1900) ?_ dL_law_733 (by decide)
          exact Le.rf
        · refine r_aload_n (pc := 721) ?_ dL_law_721 rfl
          refine r_iconst (pc := 722) ?_ dL_law_722 (by decide)
          refine r_lal (pc := 723) ?_ dL_law_723
          refine r_iload (pc := 724) ?_ dL_law_724
          refine r_i2l (pc := 726) ?_ dL_law_726
          refine r_lcmp (pc := 727) ?_ dL_law_727
          refine r_ifeq (pc := 728) (t := 733) ?_ ?_ dL_law_728 (by decide)
          · refine r_goto (pc := 733) (t := 1900) ?_ dL_law_733 (by decide)
            exact Le.rf
          · refine r_iconst (pc := 731) ?_ dL_law_731 (by decide)
            exact r_zr dL_law_732 rfl (show (k + 1) ≤ 601024 by omega) (show (n + 6) ≤ 7293034 by omega)
      · refine r_iconst (pc := 714) ?_ dL_law_714 (by decide)
        exact r_zr dL_law_715 rfl (show (k + 1) ≤ 601024 by omega) (show (n + 6) ≤ 7293034 by omega)
  · refine r_iconst (pc := 668) ?_ dL_law_668 (by decide)
    refine r_goto (pc := 669) (t := 673) ?_ dL_law_669 (by decide)
    refine r_aload_n (pc := 673) ?_ dL_law_673 rfl
    refine r_csH (pc := 674) (k := k) (n := n) (Yc := Y_L_settle) ?_ dL_law_674 cw_settle wd_1_0 wd_4_205 wd_4_204 ⟨by decide, by decide⟩ (by decide +kernel) ⟨Nat.le_of_ble_eq_true rfl, Nat.le_of_ble_eq_true rfl⟩ ⟨(show k + 1 ≤ 601024 by omega), (show n + 6 ≤ 7293034 by omega)⟩
    refine r_istore (pc := 677) ?_ dL_law_677 (Nat.le_of_ble_eq_true rfl)
    refine r_aload_n (pc := 679) ?_ dL_law_679 rfl
    refine r_aload_n (pc := 680) ?_ dL_law_680 rfl
    refine r_iload (pc := 681) ?_ dL_law_681
    refine r_iconst (pc := 683) ?_ dL_law_683 (by decide)
    refine r_iadd (pc := 684) ?_ dL_law_684
    refine r_scv (pc := 685) hs ?_ dL_law_685
    refine r_aload_n (pc := 686) ?_ dL_law_686 rfl
    refine r_iload (pc := 687) ?_ dL_law_687
    refine r_iconst (pc := 689) ?_ dL_law_689 (by decide)
    refine r_iadd (pc := 690) ?_ dL_law_690
    refine r_scv (pc := 691) hs ?_ dL_law_691
    refine r_ifeq (pc := 692) (t := 699) ?_ ?_ dL_law_692 (by decide)
    · refine r_iconst (pc := 699) ?_ dL_law_699 (by decide)
      refine r_cv0 (pc := 700) ?_ dL_law_700 cl_X10 ok_X10_settle rfl wd_6_113 ⟨Nat.le_of_ble_eq_true rfl, Nat.le_of_ble_eq_true rfl⟩ ⟨(show (k + 1) ≤ 601024 by omega), (show (n + 6) ≤ 7293034 by omega)⟩ rfl rfl
      refine r_istore (pc := 703) ?_ dL_law_703 (Nat.le_of_ble_eq_true rfl)
      refine r_aload_n (pc := 705) ?_ dL_law_705 rfl
      refine r_cv0 (pc := 706) ?_ dL_law_706 cl_X10 ok_X10_thrown rfl wd_5_177 ⟨Nat.le_of_ble_eq_true rfl, Nat.le_of_ble_eq_true rfl⟩ ⟨(show (k + 1) ≤ 601024 by omega), (show (n + 6) ≤ 7293034 by omega)⟩ rfl rfl
      refine r_iload (pc := 709) ?_ dL_law_709
      refine r_iceq (pc := 711) (t := 716) ?_ ?_ dL_law_711 (by decide)
      · refine r_iload (pc := 716) ?_ dL_law_716
        refine r_ifne (pc := 718) (t := 733) ?_ ?_ dL_law_718 (by decide)
        · refine r_goto (pc := 733) (t := 1900) ?_ dL_law_733 (by decide)
          exact Le.rf
        · refine r_aload_n (pc := 721) ?_ dL_law_721 rfl
          refine r_iconst (pc := 722) ?_ dL_law_722 (by decide)
          refine r_lal (pc := 723) ?_ dL_law_723
          refine r_iload (pc := 724) ?_ dL_law_724
          refine r_i2l (pc := 726) ?_ dL_law_726
          refine r_lcmp (pc := 727) ?_ dL_law_727
          refine r_ifeq (pc := 728) (t := 733) ?_ ?_ dL_law_728 (by decide)
          · refine r_goto (pc := 733) (t := 1900) ?_ dL_law_733 (by decide)
            exact Le.rf
          · refine r_iconst (pc := 731) ?_ dL_law_731 (by decide)
            exact r_zr dL_law_732 rfl (show (k + 1) ≤ 601024 by omega) (show (n + 6) ≤ 7293034 by omega)
      · refine r_iconst (pc := 714) ?_ dL_law_714 (by decide)
        exact r_zr dL_law_715 rfl (show (k + 1) ≤ 601024 by omega) (show (n + 6) ≤ 7293034 by omega)
    · refine r_iconst (pc := 695) ?_ dL_law_695 (by decide)
      refine r_goto (pc := 696) (t := 700) ?_ dL_law_696 (by decide)
      refine r_cv0 (pc := 700) ?_ dL_law_700 cl_X10 ok_X10_settle rfl wd_6_113 ⟨Nat.le_of_ble_eq_true rfl, Nat.le_of_ble_eq_true rfl⟩ ⟨(show (k + 1) ≤ 601024 by omega), (show (n + 6) ≤ 7293034 by omega)⟩ rfl rfl
      refine r_istore (pc := 703) ?_ dL_law_703 (Nat.le_of_ble_eq_true rfl)
      refine r_aload_n (pc := 705) ?_ dL_law_705 rfl
      refine r_cv0 (pc := 706) ?_ dL_law_706 cl_X10 ok_X10_thrown rfl wd_5_177 ⟨Nat.le_of_ble_eq_true rfl, Nat.le_of_ble_eq_true rfl⟩ ⟨(show (k + 1) ≤ 601024 by omega), (show (n + 6) ≤ 7293034 by omega)⟩ rfl rfl
      refine r_iload (pc := 709) ?_ dL_law_709
      refine r_iceq (pc := 711) (t := 716) ?_ ?_ dL_law_711 (by decide)
      · refine r_iload (pc := 716) ?_ dL_law_716
        refine r_ifne (pc := 718) (t := 733) ?_ ?_ dL_law_718 (by decide)
        · refine r_goto (pc := 733) (t := 1900) ?_ dL_law_733 (by decide)
          exact Le.rf
        · refine r_aload_n (pc := 721) ?_ dL_law_721 rfl
          refine r_iconst (pc := 722) ?_ dL_law_722 (by decide)
          refine r_lal (pc := 723) ?_ dL_law_723
          refine r_iload (pc := 724) ?_ dL_law_724
          refine r_i2l (pc := 726) ?_ dL_law_726
          refine r_lcmp (pc := 727) ?_ dL_law_727
          refine r_ifeq (pc := 728) (t := 733) ?_ ?_ dL_law_728 (by decide)
          · refine r_goto (pc := 733) (t := 1900) ?_ dL_law_733 (by decide)
            exact Le.rf
          · refine r_iconst (pc := 731) ?_ dL_law_731 (by decide)
            exact r_zr dL_law_732 rfl (show (k + 1) ≤ 601024 by omega) (show (n + 6) ≤ 7293034 by omega)
      · refine r_iconst (pc := 714) ?_ dL_law_714 (by decide)
        exact r_zr dL_law_715 rfl (show (k + 1) ≤ 601024 by omega) (show (n + 6) ≤ 7293034 by omega)
def R_L_8 (l : Launch) (G : GT) (F : FX) (Q : PQ) (QX : PX) (k n Ln : Nat) (xs : Nat → Int32) : KT := (I_al 1 (I_al 0 (I_il 4 (I_ic 1 (I_iadd (I_scv Ln xs (I_al 0 (I_il 4 (I_ic 2 (I_iadd (I_scv Ln xs (I_al 0 (I_il 4 (I_ic 3 (I_iadd (I_scv Ln xs (I_al 3 (I_csH (fun As M Q => TrH l G Y_L_credit hh_credit As M Q) 5 (I_is 5 (I_al 2 (I_al 0 (I_il 4 (I_ic 1 (I_iadd (I_scv Ln xs (I_al 0 (I_il 4 (I_ic 2 (I_iadd (I_scv Ln xs (I_al 0 (I_il 4 (I_ic 3 (I_iadd (I_scv Ln xs (I_cv (Tr true l G Y_X10_credit) 8 13 3 QX (I_is 6 (I_al 2 (I_cv (Tr true l G Y_X10_thrown) 8 13 0 QX (I_il 5 (I_iceq (I_il 5 (I_ifne (Wj true l G F Y_L_law Q QX (k + 1) (n + 6) 1900) (I_al 3 (I_ic 0 (I_lal (I_il 6 (I_i2l (I_lcmp (I_ifeq (Wj true l G F Y_L_law Q QX (k + 1) (n + 6) 1900) (I_ic 0 (I_zr Q))))))))))) (I_ic 0 (I_zr Q)))))))))))))))))))))))))))))))))))))))))))
set_option maxRecDepth 100000 in
theorem g_L_8 (hs : SCR G F Ln xs) (hk : k + 2 ≤ 601024 ∧ n + 12 ≤ 7293034) : Le (R_L_8 l G F Q QX k n Ln xs) (Wj true l G F Y_L_law Q QX k n 736) := by
  unfold R_L_8
  refine r_aload_n (pc := 736) ?_ dL_law_736 rfl
  refine r_aload_n (pc := 737) ?_ dL_law_737 rfl
  refine r_iload (pc := 738) ?_ dL_law_738
  refine r_iconst (pc := 740) ?_ dL_law_740 (by decide)
  refine r_iadd (pc := 741) ?_ dL_law_741
  refine r_scv (pc := 742) hs ?_ dL_law_742
  refine r_aload_n (pc := 743) ?_ dL_law_743 rfl
  refine r_iload (pc := 744) ?_ dL_law_744
  refine r_iconst (pc := 746) ?_ dL_law_746 (by decide)
  refine r_iadd (pc := 747) ?_ dL_law_747
  refine r_scv (pc := 748) hs ?_ dL_law_748
  refine r_aload_n (pc := 749) ?_ dL_law_749 rfl
  refine r_iload (pc := 750) ?_ dL_law_750
  refine r_iconst (pc := 752) ?_ dL_law_752 (by decide)
  refine r_iadd (pc := 753) ?_ dL_law_753
  refine r_scv (pc := 754) hs ?_ dL_law_754
  refine r_aload_n (pc := 755) ?_ dL_law_755 rfl
  refine r_csH (pc := 756) (k := k) (n := n) (Yc := Y_L_credit) ?_ dL_law_756 cw_credit wd_1_0 wd_4_212 wd_4_211 ⟨by decide, by decide⟩ (by decide +kernel) ⟨Nat.le_of_ble_eq_true rfl, Nat.le_of_ble_eq_true rfl⟩ ⟨(show k + 1 ≤ 601024 by omega), (show n + 6 ≤ 7293034 by omega)⟩
  refine r_istore (pc := 759) ?_ dL_law_759 (Nat.le_of_ble_eq_true rfl)
  refine r_aload_n (pc := 761) ?_ dL_law_761 rfl
  refine r_aload_n (pc := 762) ?_ dL_law_762 rfl
  refine r_iload (pc := 763) ?_ dL_law_763
  refine r_iconst (pc := 765) ?_ dL_law_765 (by decide)
  refine r_iadd (pc := 766) ?_ dL_law_766
  refine r_scv (pc := 767) hs ?_ dL_law_767
  refine r_aload_n (pc := 768) ?_ dL_law_768 rfl
  refine r_iload (pc := 769) ?_ dL_law_769
  refine r_iconst (pc := 771) ?_ dL_law_771 (by decide)
  refine r_iadd (pc := 772) ?_ dL_law_772
  refine r_scv (pc := 773) hs ?_ dL_law_773
  refine r_aload_n (pc := 774) ?_ dL_law_774 rfl
  refine r_iload (pc := 775) ?_ dL_law_775
  refine r_iconst (pc := 777) ?_ dL_law_777 (by decide)
  refine r_iadd (pc := 778) ?_ dL_law_778
  refine r_scv (pc := 779) hs ?_ dL_law_779
  refine r_cv0 (pc := 780) ?_ dL_law_780 cl_X10 ok_X10_credit rfl wd_6_121 ⟨Nat.le_of_ble_eq_true rfl, Nat.le_of_ble_eq_true rfl⟩ ⟨(show (k + 1) ≤ 601024 by omega), (show (n + 6) ≤ 7293034 by omega)⟩ rfl rfl
  refine r_istore (pc := 783) ?_ dL_law_783 (Nat.le_of_ble_eq_true rfl)
  refine r_aload_n (pc := 785) ?_ dL_law_785 rfl
  refine r_cv0 (pc := 786) ?_ dL_law_786 cl_X10 ok_X10_thrown rfl wd_5_177 ⟨Nat.le_of_ble_eq_true rfl, Nat.le_of_ble_eq_true rfl⟩ ⟨(show (k + 1) ≤ 601024 by omega), (show (n + 6) ≤ 7293034 by omega)⟩ rfl rfl
  refine r_iload (pc := 789) ?_ dL_law_789
  refine r_iceq (pc := 791) (t := 796) ?_ ?_ dL_law_791 (by decide)
  · refine r_iload (pc := 796) ?_ dL_law_796
    refine r_ifne (pc := 798) (t := 813) ?_ ?_ dL_law_798 (by decide)
    · refine r_goto (pc := 813) (t := 1900) ?_ dL_law_813 (by decide)
      exact Le.rf
    · refine r_aload_n (pc := 801) ?_ dL_law_801 rfl
      refine r_iconst (pc := 802) ?_ dL_law_802 (by decide)
      refine r_lal (pc := 803) ?_ dL_law_803
      refine r_iload (pc := 804) ?_ dL_law_804
      refine r_i2l (pc := 806) ?_ dL_law_806
      refine r_lcmp (pc := 807) ?_ dL_law_807
      refine r_ifeq (pc := 808) (t := 813) ?_ ?_ dL_law_808 (by decide)
      · refine r_goto (pc := 813) (t := 1900) ?_ dL_law_813 (by decide)
        exact Le.rf
      · refine r_iconst (pc := 811) ?_ dL_law_811 (by decide)
        exact r_zr dL_law_812 rfl (show (k + 1) ≤ 601024 by omega) (show (n + 6) ≤ 7293034 by omega)
  · refine r_iconst (pc := 794) ?_ dL_law_794 (by decide)
    exact r_zr dL_law_795 rfl (show (k + 1) ≤ 601024 by omega) (show (n + 6) ≤ 7293034 by omega)
def R_L_9 (l : Launch) (G : GT) (F : FX) (Q : PQ) (QX : PX) (k n Ln : Nat) (xs : Nat → Int32) : KT := (I_al 1 (I_al 3 (I_csH (fun As M Q => TrH l G Y_L_endDay hh_endDay As M Q) 2 (I_is 5 (I_al 2 (I_cv (Tr true l G Y_X10_endDay) 8 13 0 QX (I_is 6 (I_al 2 (I_cv (Tr true l G Y_X10_thrown) 8 13 0 QX (I_il 5 (I_iceq (I_il 5 (I_ifne (Wj true l G F Y_L_law Q QX (k + 1) (n + 6) 1900) (I_al 3 (I_ic 0 (I_lal (I_il 6 (I_i2l (I_lcmp (I_ifeq (Wj true l G F Y_L_law Q QX (k + 1) (n + 6) 1900) (I_ic 0 (I_zr Q))))))))))) (I_ic 0 (I_zr Q)))))))))))))
set_option maxRecDepth 100000 in
theorem g_L_9 (hs : SCR G F Ln xs) (hk : k + 2 ≤ 601024 ∧ n + 12 ≤ 7293034) : Le (R_L_9 l G F Q QX k n Ln xs) (Wj true l G F Y_L_law Q QX k n 816) := by
  unfold R_L_9
  refine r_aload_n (pc := 816) ?_ dL_law_816 rfl
  refine r_aload_n (pc := 817) ?_ dL_law_817 rfl
  refine r_csH (pc := 818) (k := k) (n := n) (Yc := Y_L_endDay) ?_ dL_law_818 cw_endDay wd_1_0 wd_4_231 wd_4_230 ⟨by decide, by decide⟩ (by decide +kernel) ⟨Nat.le_of_ble_eq_true rfl, Nat.le_of_ble_eq_true rfl⟩ ⟨(show k + 1 ≤ 601024 by omega), (show n + 6 ≤ 7293034 by omega)⟩
  refine r_istore (pc := 821) ?_ dL_law_821 (Nat.le_of_ble_eq_true rfl)
  refine r_aload_n (pc := 823) ?_ dL_law_823 rfl
  refine r_cv0 (pc := 824) ?_ dL_law_824 cl_X10 ok_X10_endDay rfl wd_6_125 ⟨Nat.le_of_ble_eq_true rfl, Nat.le_of_ble_eq_true rfl⟩ ⟨(show (k + 1) ≤ 601024 by omega), (show (n + 6) ≤ 7293034 by omega)⟩ rfl rfl
  refine r_istore (pc := 827) ?_ dL_law_827 (Nat.le_of_ble_eq_true rfl)
  refine r_aload_n (pc := 829) ?_ dL_law_829 rfl
  refine r_cv0 (pc := 830) ?_ dL_law_830 cl_X10 ok_X10_thrown rfl wd_5_177 ⟨Nat.le_of_ble_eq_true rfl, Nat.le_of_ble_eq_true rfl⟩ ⟨(show (k + 1) ≤ 601024 by omega), (show (n + 6) ≤ 7293034 by omega)⟩ rfl rfl
  refine r_iload (pc := 833) ?_ dL_law_833
  refine r_iceq (pc := 835) (t := 840) ?_ ?_ dL_law_835 (by decide)
  · refine r_iload (pc := 840) ?_ dL_law_840
    refine r_ifne (pc := 842) (t := 857) ?_ ?_ dL_law_842 (by decide)
    · refine r_goto (pc := 857) (t := 1900) ?_ dL_law_857 (by decide)
      exact Le.rf
    · refine r_aload_n (pc := 845) ?_ dL_law_845 rfl
      refine r_iconst (pc := 846) ?_ dL_law_846 (by decide)
      refine r_lal (pc := 847) ?_ dL_law_847
      refine r_iload (pc := 848) ?_ dL_law_848
      refine r_i2l (pc := 850) ?_ dL_law_850
      refine r_lcmp (pc := 851) ?_ dL_law_851
      refine r_ifeq (pc := 852) (t := 857) ?_ ?_ dL_law_852 (by decide)
      · refine r_goto (pc := 857) (t := 1900) ?_ dL_law_857 (by decide)
        exact Le.rf
      · refine r_iconst (pc := 855) ?_ dL_law_855 (by decide)
        exact r_zr dL_law_856 rfl (show (k + 1) ≤ 601024 by omega) (show (n + 6) ≤ 7293034 by omega)
  · refine r_iconst (pc := 838) ?_ dL_law_838 (by decide)
    exact r_zr dL_law_839 rfl (show (k + 1) ≤ 601024 by omega) (show (n + 6) ≤ 7293034 by omega)
def R_L_10 (l : Launch) (G : GT) (F : FX) (Q : PQ) (QX : PX) (k n Ln : Nat) (xs : Nat → Int32) : KT := (I_al 1 (I_al 0 (I_il 4 (I_ic 1 (I_iadd (I_scv Ln xs (I_al 0 (I_il 4 (I_ic 2 (I_iadd (I_scv Ln xs (I_al 3 (I_csH (fun As M Q => TrH l G Y_L_move hh_move As M Q) 4 (I_is 5 (I_al 2 (I_al 0 (I_il 4 (I_ic 1 (I_iadd (I_scv Ln xs (I_al 0 (I_il 4 (I_ic 2 (I_iadd (I_scv Ln xs (I_cv (Tr true l G Y_X10_move) 8 13 2 QX (I_is 6 (I_al 2 (I_cv (Tr true l G Y_X10_thrown) 8 13 0 QX (I_il 5 (I_iceq (I_il 5 (I_ifne (Wj true l G F Y_L_law Q QX (k + 1) (n + 6) 1900) (I_al 3 (I_ic 0 (I_lal (I_il 6 (I_i2l (I_lcmp (I_ifeq (Wj true l G F Y_L_law Q QX (k + 1) (n + 6) 1900) (I_ic 0 (I_zr Q))))))))))) (I_ic 0 (I_zr Q)))))))))))))))))))))))))))))))))
set_option maxRecDepth 100000 in
theorem g_L_10 (hs : SCR G F Ln xs) (hk : k + 2 ≤ 601024 ∧ n + 12 ≤ 7293034) : Le (R_L_10 l G F Q QX k n Ln xs) (Wj true l G F Y_L_law Q QX k n 860) := by
  unfold R_L_10
  refine r_aload_n (pc := 860) ?_ dL_law_860 rfl
  refine r_aload_n (pc := 861) ?_ dL_law_861 rfl
  refine r_iload (pc := 862) ?_ dL_law_862
  refine r_iconst (pc := 864) ?_ dL_law_864 (by decide)
  refine r_iadd (pc := 865) ?_ dL_law_865
  refine r_scv (pc := 866) hs ?_ dL_law_866
  refine r_aload_n (pc := 867) ?_ dL_law_867 rfl
  refine r_iload (pc := 868) ?_ dL_law_868
  refine r_iconst (pc := 870) ?_ dL_law_870 (by decide)
  refine r_iadd (pc := 871) ?_ dL_law_871
  refine r_scv (pc := 872) hs ?_ dL_law_872
  refine r_aload_n (pc := 873) ?_ dL_law_873 rfl
  refine r_csH (pc := 874) (k := k) (n := n) (Yc := Y_L_move) ?_ dL_law_874 cw_move wd_1_0 wd_4_238 wd_4_237 ⟨by decide, by decide⟩ (by decide +kernel) ⟨Nat.le_of_ble_eq_true rfl, Nat.le_of_ble_eq_true rfl⟩ ⟨(show k + 1 ≤ 601024 by omega), (show n + 6 ≤ 7293034 by omega)⟩
  refine r_istore (pc := 877) ?_ dL_law_877 (Nat.le_of_ble_eq_true rfl)
  refine r_aload_n (pc := 879) ?_ dL_law_879 rfl
  refine r_aload_n (pc := 880) ?_ dL_law_880 rfl
  refine r_iload (pc := 881) ?_ dL_law_881
  refine r_iconst (pc := 883) ?_ dL_law_883 (by decide)
  refine r_iadd (pc := 884) ?_ dL_law_884
  refine r_scv (pc := 885) hs ?_ dL_law_885
  refine r_aload_n (pc := 886) ?_ dL_law_886 rfl
  refine r_iload (pc := 887) ?_ dL_law_887
  refine r_iconst (pc := 889) ?_ dL_law_889 (by decide)
  refine r_iadd (pc := 890) ?_ dL_law_890
  refine r_scv (pc := 891) hs ?_ dL_law_891
  refine r_cv0 (pc := 892) ?_ dL_law_892 cl_X10 ok_X10_move rfl wd_6_134 ⟨Nat.le_of_ble_eq_true rfl, Nat.le_of_ble_eq_true rfl⟩ ⟨(show (k + 1) ≤ 601024 by omega), (show (n + 6) ≤ 7293034 by omega)⟩ rfl rfl
  refine r_istore (pc := 895) ?_ dL_law_895 (Nat.le_of_ble_eq_true rfl)
  refine r_aload_n (pc := 897) ?_ dL_law_897 rfl
  refine r_cv0 (pc := 898) ?_ dL_law_898 cl_X10 ok_X10_thrown rfl wd_5_177 ⟨Nat.le_of_ble_eq_true rfl, Nat.le_of_ble_eq_true rfl⟩ ⟨(show (k + 1) ≤ 601024 by omega), (show (n + 6) ≤ 7293034 by omega)⟩ rfl rfl
  refine r_iload (pc := 901) ?_ dL_law_901
  refine r_iceq (pc := 903) (t := 908) ?_ ?_ dL_law_903 (by decide)
  · refine r_iload (pc := 908) ?_ dL_law_908
    refine r_ifne (pc := 910) (t := 925) ?_ ?_ dL_law_910 (by decide)
    · refine r_goto (pc := 925) (t := 1900) ?_ dL_law_925 (by decide)
      exact Le.rf
    · refine r_aload_n (pc := 913) ?_ dL_law_913 rfl
      refine r_iconst (pc := 914) ?_ dL_law_914 (by decide)
      refine r_lal (pc := 915) ?_ dL_law_915
      refine r_iload (pc := 916) ?_ dL_law_916
      refine r_i2l (pc := 918) ?_ dL_law_918
      refine r_lcmp (pc := 919) ?_ dL_law_919
      refine r_ifeq (pc := 920) (t := 925) ?_ ?_ dL_law_920 (by decide)
      · refine r_goto (pc := 925) (t := 1900) ?_ dL_law_925 (by decide)
        exact Le.rf
      · refine r_iconst (pc := 923) ?_ dL_law_923 (by decide)
        exact r_zr dL_law_924 rfl (show (k + 1) ≤ 601024 by omega) (show (n + 6) ≤ 7293034 by omega)
  · refine r_iconst (pc := 906) ?_ dL_law_906 (by decide)
    exact r_zr dL_law_907 rfl (show (k + 1) ≤ 601024 by omega) (show (n + 6) ≤ 7293034 by omega)
def R_L_11 (l : Launch) (G : GT) (F : FX) (Q : PQ) (QX : PX) (k n Ln : Nat) (xs : Nat → Int32) : KT := (I_al 1 (I_al 0 (I_il 4 (I_ic 1 (I_iadd (I_scv Ln xs (I_al 3 (I_csH (fun As M Q => TrH l G Y_L_leave hh_leave As M Q) 3 (I_is 5 (I_al 2 (I_al 0 (I_il 4 (I_ic 1 (I_iadd (I_scv Ln xs (I_cv (Tr true l G Y_X10_leave) 8 13 1 QX (I_is 6 (I_al 2 (I_cv (Tr true l G Y_X10_thrown) 8 13 0 QX (I_il 5 (I_iceq (I_il 5 (I_ifne (Wj true l G F Y_L_law Q QX (k + 1) (n + 6) 1900) (I_al 3 (I_ic 0 (I_lal (I_il 6 (I_i2l (I_lcmp (I_ifeq (Wj true l G F Y_L_law Q QX (k + 1) (n + 6) 1900) (I_ic 0 (I_zr Q))))))))))) (I_ic 0 (I_zr Q)))))))))))))))))))))))
set_option maxRecDepth 100000 in
theorem g_L_11 (hs : SCR G F Ln xs) (hk : k + 2 ≤ 601024 ∧ n + 12 ≤ 7293034) : Le (R_L_11 l G F Q QX k n Ln xs) (Wj true l G F Y_L_law Q QX k n 928) := by
  unfold R_L_11
  refine r_aload_n (pc := 928) ?_ dL_law_928 rfl
  refine r_aload_n (pc := 929) ?_ dL_law_929 rfl
  refine r_iload (pc := 930) ?_ dL_law_930
  refine r_iconst (pc := 932) ?_ dL_law_932 (by decide)
  refine r_iadd (pc := 933) ?_ dL_law_933
  refine r_scv (pc := 934) hs ?_ dL_law_934
  refine r_aload_n (pc := 935) ?_ dL_law_935 rfl
  refine r_csH (pc := 936) (k := k) (n := n) (Yc := Y_L_leave) ?_ dL_law_936 cw_leave wd_1_0 wd_5_5 wd_5_4 ⟨by decide, by decide⟩ (by decide +kernel) ⟨Nat.le_of_ble_eq_true rfl, Nat.le_of_ble_eq_true rfl⟩ ⟨(show k + 1 ≤ 601024 by omega), (show n + 6 ≤ 7293034 by omega)⟩
  refine r_istore (pc := 939) ?_ dL_law_939 (Nat.le_of_ble_eq_true rfl)
  refine r_aload_n (pc := 941) ?_ dL_law_941 rfl
  refine r_aload_n (pc := 942) ?_ dL_law_942 rfl
  refine r_iload (pc := 943) ?_ dL_law_943
  refine r_iconst (pc := 945) ?_ dL_law_945 (by decide)
  refine r_iadd (pc := 946) ?_ dL_law_946
  refine r_scv (pc := 947) hs ?_ dL_law_947
  refine r_cv0 (pc := 948) ?_ dL_law_948 cl_X10 ok_X10_leave rfl wd_6_154 ⟨Nat.le_of_ble_eq_true rfl, Nat.le_of_ble_eq_true rfl⟩ ⟨(show (k + 1) ≤ 601024 by omega), (show (n + 6) ≤ 7293034 by omega)⟩ rfl rfl
  refine r_istore (pc := 951) ?_ dL_law_951 (Nat.le_of_ble_eq_true rfl)
  refine r_aload_n (pc := 953) ?_ dL_law_953 rfl
  refine r_cv0 (pc := 954) ?_ dL_law_954 cl_X10 ok_X10_thrown rfl wd_5_177 ⟨Nat.le_of_ble_eq_true rfl, Nat.le_of_ble_eq_true rfl⟩ ⟨(show (k + 1) ≤ 601024 by omega), (show (n + 6) ≤ 7293034 by omega)⟩ rfl rfl
  refine r_iload (pc := 957) ?_ dL_law_957
  refine r_iceq (pc := 959) (t := 964) ?_ ?_ dL_law_959 (by decide)
  · refine r_iload (pc := 964) ?_ dL_law_964
    refine r_ifne (pc := 966) (t := 981) ?_ ?_ dL_law_966 (by decide)
    · refine r_goto (pc := 981) (t := 1900) ?_ dL_law_981 (by decide)
      exact Le.rf
    · refine r_aload_n (pc := 969) ?_ dL_law_969 rfl
      refine r_iconst (pc := 970) ?_ dL_law_970 (by decide)
      refine r_lal (pc := 971) ?_ dL_law_971
      refine r_iload (pc := 972) ?_ dL_law_972
      refine r_i2l (pc := 974) ?_ dL_law_974
      refine r_lcmp (pc := 975) ?_ dL_law_975
      refine r_ifeq (pc := 976) (t := 981) ?_ ?_ dL_law_976 (by decide)
      · refine r_goto (pc := 981) (t := 1900) ?_ dL_law_981 (by decide)
        exact Le.rf
      · refine r_iconst (pc := 979) ?_ dL_law_979 (by decide)
        exact r_zr dL_law_980 rfl (show (k + 1) ≤ 601024 by omega) (show (n + 6) ≤ 7293034 by omega)
  · refine r_iconst (pc := 962) ?_ dL_law_962 (by decide)
    exact r_zr dL_law_963 rfl (show (k + 1) ≤ 601024 by omega) (show (n + 6) ≤ 7293034 by omega)
def R_L_12 (l : Launch) (G : GT) (F : FX) (Q : PQ) (QX : PX) (k n Ln : Nat) (xs : Nat → Int32) : KT := (I_al 1 (I_al 0 (I_il 4 (I_ic 1 (I_iadd (I_scv Ln xs (I_al 0 (I_il 4 (I_ic 2 (I_iadd (I_scv Ln xs (I_al 3 (I_csH (fun As M Q => TrH l G Y_L_exchange hh_exchange As M Q) 4 (I_is 5 (I_al 2 (I_al 0 (I_il 4 (I_ic 1 (I_iadd (I_scv Ln xs (I_al 0 (I_il 4 (I_ic 2 (I_iadd (I_scv Ln xs (I_cv (Tr true l G Y_X10_exchange) 8 13 2 QX (I_is 6 (I_al 2 (I_cv (Tr true l G Y_X10_thrown) 8 13 0 QX (I_il 5 (I_iceq (I_il 5 (I_ifne (Wj true l G F Y_L_law Q QX (k + 1) (n + 6) 1900) (I_al 3 (I_ic 0 (I_lal (I_il 6 (I_i2l (I_lcmp (I_ifeq (Wj true l G F Y_L_law Q QX (k + 1) (n + 6) 1900) (I_ic 0 (I_zr Q))))))))))) (I_ic 0 (I_zr Q)))))))))))))))))))))))))))))))))
set_option maxRecDepth 100000 in
theorem g_L_12 (hs : SCR G F Ln xs) (hk : k + 2 ≤ 601024 ∧ n + 12 ≤ 7293034) : Le (R_L_12 l G F Q QX k n Ln xs) (Wj true l G F Y_L_law Q QX k n 984) := by
  unfold R_L_12
  refine r_aload_n (pc := 984) ?_ dL_law_984 rfl
  refine r_aload_n (pc := 985) ?_ dL_law_985 rfl
  refine r_iload (pc := 986) ?_ dL_law_986
  refine r_iconst (pc := 988) ?_ dL_law_988 (by decide)
  refine r_iadd (pc := 989) ?_ dL_law_989
  refine r_scv (pc := 990) hs ?_ dL_law_990
  refine r_aload_n (pc := 991) ?_ dL_law_991 rfl
  refine r_iload (pc := 992) ?_ dL_law_992
  refine r_iconst (pc := 994) ?_ dL_law_994 (by decide)
  refine r_iadd (pc := 995) ?_ dL_law_995
  refine r_scv (pc := 996) hs ?_ dL_law_996
  refine r_aload_n (pc := 997) ?_ dL_law_997 rfl
  refine r_csH (pc := 998) (k := k) (n := n) (Yc := Y_L_exchange) ?_ dL_law_998 cw_exchange wd_1_0 wd_5_20 wd_5_19 ⟨by decide, by decide⟩ (by decide +kernel) ⟨Nat.le_of_ble_eq_true rfl, Nat.le_of_ble_eq_true rfl⟩ ⟨(show k + 1 ≤ 601024 by omega), (show n + 6 ≤ 7293034 by omega)⟩
  refine r_istore (pc := 1001) ?_ dL_law_1001 (Nat.le_of_ble_eq_true rfl)
  refine r_aload_n (pc := 1003) ?_ dL_law_1003 rfl
  refine r_aload_n (pc := 1004) ?_ dL_law_1004 rfl
  refine r_iload (pc := 1005) ?_ dL_law_1005
  refine r_iconst (pc := 1007) ?_ dL_law_1007 (by decide)
  refine r_iadd (pc := 1008) ?_ dL_law_1008
  refine r_scv (pc := 1009) hs ?_ dL_law_1009
  refine r_aload_n (pc := 1010) ?_ dL_law_1010 rfl
  refine r_iload (pc := 1011) ?_ dL_law_1011
  refine r_iconst (pc := 1013) ?_ dL_law_1013 (by decide)
  refine r_iadd (pc := 1014) ?_ dL_law_1014
  refine r_scv (pc := 1015) hs ?_ dL_law_1015
  refine r_cv0 (pc := 1016) ?_ dL_law_1016 cl_X10 ok_X10_exchange rfl wd_6_158 ⟨Nat.le_of_ble_eq_true rfl, Nat.le_of_ble_eq_true rfl⟩ ⟨(show (k + 1) ≤ 601024 by omega), (show (n + 6) ≤ 7293034 by omega)⟩ rfl rfl
  refine r_istore (pc := 1019) ?_ dL_law_1019 (Nat.le_of_ble_eq_true rfl)
  refine r_aload_n (pc := 1021) ?_ dL_law_1021 rfl
  refine r_cv0 (pc := 1022) ?_ dL_law_1022 cl_X10 ok_X10_thrown rfl wd_5_177 ⟨Nat.le_of_ble_eq_true rfl, Nat.le_of_ble_eq_true rfl⟩ ⟨(show (k + 1) ≤ 601024 by omega), (show (n + 6) ≤ 7293034 by omega)⟩ rfl rfl
  refine r_iload (pc := 1025) ?_ dL_law_1025
  refine r_iceq (pc := 1027) (t := 1032) ?_ ?_ dL_law_1027 (by decide)
  · refine r_iload (pc := 1032) ?_ dL_law_1032
    refine r_ifne (pc := 1034) (t := 1049) ?_ ?_ dL_law_1034 (by decide)
    · refine r_goto (pc := 1049) (t := 1900) ?_ dL_law_1049 (by decide)
      exact Le.rf
    · refine r_aload_n (pc := 1037) ?_ dL_law_1037 rfl
      refine r_iconst (pc := 1038) ?_ dL_law_1038 (by decide)
      refine r_lal (pc := 1039) ?_ dL_law_1039
      refine r_iload (pc := 1040) ?_ dL_law_1040
      refine r_i2l (pc := 1042) ?_ dL_law_1042
      refine r_lcmp (pc := 1043) ?_ dL_law_1043
      refine r_ifeq (pc := 1044) (t := 1049) ?_ ?_ dL_law_1044 (by decide)
      · refine r_goto (pc := 1049) (t := 1900) ?_ dL_law_1049 (by decide)
        exact Le.rf
      · refine r_iconst (pc := 1047) ?_ dL_law_1047 (by decide)
        exact r_zr dL_law_1048 rfl (show (k + 1) ≤ 601024 by omega) (show (n + 6) ≤ 7293034 by omega)
  · refine r_iconst (pc := 1030) ?_ dL_law_1030 (by decide)
    exact r_zr dL_law_1031 rfl (show (k + 1) ≤ 601024 by omega) (show (n + 6) ≤ 7293034 by omega)
def R_L_13 (l : Launch) (G : GT) (F : FX) (Q : PQ) (QX : PX) (k n Ln : Nat) (xs : Nat → Int32) : KT := (I_al 1 (I_al 0 (I_il 4 (I_ic 1 (I_iadd (I_scv Ln xs (I_al 0 (I_il 4 (I_ic 2 (I_iadd (I_scv Ln xs (I_al 3 (I_csH (fun As M Q => TrH l G Y_L_reason hh_reason As M Q) 4 (I_is 5 (I_al 2 (I_al 0 (I_il 4 (I_ic 1 (I_iadd (I_scv Ln xs (I_al 0 (I_il 4 (I_ic 2 (I_iadd (I_scv Ln xs (I_cv (Tr true l G Y_X10_reason) 8 13 2 QX (I_is 6 (I_al 2 (I_cv (Tr true l G Y_X10_thrown) 8 13 0 QX (I_il 5 (I_iceq (I_il 5 (I_ifne (Wj true l G F Y_L_law Q QX (k + 1) (n + 6) 1900) (I_al 3 (I_ic 0 (I_lal (I_il 6 (I_i2l (I_lcmp (I_ifeq (Wj true l G F Y_L_law Q QX (k + 1) (n + 6) 1900) (I_ic 0 (I_zr Q))))))))))) (I_ic 0 (I_zr Q)))))))))))))))))))))))))))))))))
set_option maxRecDepth 100000 in
theorem g_L_13 (hs : SCR G F Ln xs) (hk : k + 2 ≤ 601024 ∧ n + 12 ≤ 7293034) : Le (R_L_13 l G F Q QX k n Ln xs) (Wj true l G F Y_L_law Q QX k n 1052) := by
  unfold R_L_13
  refine r_aload_n (pc := 1052) ?_ dL_law_1052 rfl
  refine r_aload_n (pc := 1053) ?_ dL_law_1053 rfl
  refine r_iload (pc := 1054) ?_ dL_law_1054
  refine r_iconst (pc := 1056) ?_ dL_law_1056 (by decide)
  refine r_iadd (pc := 1057) ?_ dL_law_1057
  refine r_scv (pc := 1058) hs ?_ dL_law_1058
  refine r_aload_n (pc := 1059) ?_ dL_law_1059 rfl
  refine r_iload (pc := 1060) ?_ dL_law_1060
  refine r_iconst (pc := 1062) ?_ dL_law_1062 (by decide)
  refine r_iadd (pc := 1063) ?_ dL_law_1063
  refine r_scv (pc := 1064) hs ?_ dL_law_1064
  refine r_aload_n (pc := 1065) ?_ dL_law_1065 rfl
  refine r_csH (pc := 1066) (k := k) (n := n) (Yc := Y_L_reason) ?_ dL_law_1066 cw_reason wd_1_0 wd_5_27 wd_5_26 ⟨by decide, by decide⟩ (by decide +kernel) ⟨Nat.le_of_ble_eq_true rfl, Nat.le_of_ble_eq_true rfl⟩ ⟨(show k + 1 ≤ 601024 by omega), (show n + 6 ≤ 7293034 by omega)⟩
  refine r_istore (pc := 1069) ?_ dL_law_1069 (Nat.le_of_ble_eq_true rfl)
  refine r_aload_n (pc := 1071) ?_ dL_law_1071 rfl
  refine r_aload_n (pc := 1072) ?_ dL_law_1072 rfl
  refine r_iload (pc := 1073) ?_ dL_law_1073
  refine r_iconst (pc := 1075) ?_ dL_law_1075 (by decide)
  refine r_iadd (pc := 1076) ?_ dL_law_1076
  refine r_scv (pc := 1077) hs ?_ dL_law_1077
  refine r_aload_n (pc := 1078) ?_ dL_law_1078 rfl
  refine r_iload (pc := 1079) ?_ dL_law_1079
  refine r_iconst (pc := 1081) ?_ dL_law_1081 (by decide)
  refine r_iadd (pc := 1082) ?_ dL_law_1082
  refine r_scv (pc := 1083) hs ?_ dL_law_1083
  refine r_cv0 (pc := 1084) ?_ dL_law_1084 cl_X10 ok_X10_reason rfl wd_6_170 ⟨Nat.le_of_ble_eq_true rfl, Nat.le_of_ble_eq_true rfl⟩ ⟨(show (k + 1) ≤ 601024 by omega), (show (n + 6) ≤ 7293034 by omega)⟩ rfl rfl
  refine r_istore (pc := 1087) ?_ dL_law_1087 (Nat.le_of_ble_eq_true rfl)
  refine r_aload_n (pc := 1089) ?_ dL_law_1089 rfl
  refine r_cv0 (pc := 1090) ?_ dL_law_1090 cl_X10 ok_X10_thrown rfl wd_5_177 ⟨Nat.le_of_ble_eq_true rfl, Nat.le_of_ble_eq_true rfl⟩ ⟨(show (k + 1) ≤ 601024 by omega), (show (n + 6) ≤ 7293034 by omega)⟩ rfl rfl
  refine r_iload (pc := 1093) ?_ dL_law_1093
  refine r_iceq (pc := 1095) (t := 1100) ?_ ?_ dL_law_1095 (by decide)
  · refine r_iload (pc := 1100) ?_ dL_law_1100
    refine r_ifne (pc := 1102) (t := 1117) ?_ ?_ dL_law_1102 (by decide)
    · refine r_goto (pc := 1117) (t := 1900) ?_ dL_law_1117 (by decide)
      exact Le.rf
    · refine r_aload_n (pc := 1105) ?_ dL_law_1105 rfl
      refine r_iconst (pc := 1106) ?_ dL_law_1106 (by decide)
      refine r_lal (pc := 1107) ?_ dL_law_1107
      refine r_iload (pc := 1108) ?_ dL_law_1108
      refine r_i2l (pc := 1110) ?_ dL_law_1110
      refine r_lcmp (pc := 1111) ?_ dL_law_1111
      refine r_ifeq (pc := 1112) (t := 1117) ?_ ?_ dL_law_1112 (by decide)
      · refine r_goto (pc := 1117) (t := 1900) ?_ dL_law_1117 (by decide)
        exact Le.rf
      · refine r_iconst (pc := 1115) ?_ dL_law_1115 (by decide)
        exact r_zr dL_law_1116 rfl (show (k + 1) ≤ 601024 by omega) (show (n + 6) ≤ 7293034 by omega)
  · refine r_iconst (pc := 1098) ?_ dL_law_1098 (by decide)
    exact r_zr dL_law_1099 rfl (show (k + 1) ≤ 601024 by omega) (show (n + 6) ≤ 7293034 by omega)
def R_L_14 (l : Launch) (G : GT) (F : FX) (Q : PQ) (QX : PX) (k n Ln : Nat) (xs : Nat → Int32) : KT := (I_al 1 (I_al 0 (I_il 4 (I_ic 1 (I_iadd (I_scv Ln xs (I_al 0 (I_il 4 (I_ic 2 (I_iadd (I_scv Ln xs (I_al 3 (I_csH (fun As M Q => TrH l G Y_L_mentor hh_mentor As M Q) 4 (I_is 5 (I_al 2 (I_al 0 (I_il 4 (I_ic 1 (I_iadd (I_scv Ln xs (I_al 0 (I_il 4 (I_ic 2 (I_iadd (I_scv Ln xs (I_cv (Tr true l G Y_X10_mentor) 8 13 2 QX (I_is 6 (I_al 2 (I_cv (Tr true l G Y_X10_thrown) 8 13 0 QX (I_il 5 (I_iceq (I_il 5 (I_ifne (Wj true l G F Y_L_law Q QX (k + 2) (n + 12) 1900) (I_al 3 (I_ic 0 (I_lal (I_il 6 (I_i2l (I_lcmp (I_ifeq (Wj true l G F Y_L_law Q QX (k + 2) (n + 12) 1900) (I_ic 0 (I_zr Q))))))))))) (I_ic 0 (I_zr Q)))))))))))))))))))))))))))))))))
set_option maxRecDepth 100000 in
theorem g_L_14 (hs : SCR G F Ln xs) (hk : k + 2 ≤ 601024 ∧ n + 12 ≤ 7293034) : Le (R_L_14 l G F Q QX k n Ln xs) (Wj true l G F Y_L_law Q QX k n 1120) := by
  unfold R_L_14
  refine r_aload_n (pc := 1120) ?_ dL_law_1120 rfl
  refine r_aload_n (pc := 1121) ?_ dL_law_1121 rfl
  refine r_iload (pc := 1122) ?_ dL_law_1122
  refine r_iconst (pc := 1124) ?_ dL_law_1124 (by decide)
  refine r_iadd (pc := 1125) ?_ dL_law_1125
  refine r_scv (pc := 1126) hs ?_ dL_law_1126
  refine r_aload_n (pc := 1127) ?_ dL_law_1127 rfl
  refine r_iload (pc := 1128) ?_ dL_law_1128
  refine r_iconst (pc := 1130) ?_ dL_law_1130 (by decide)
  refine r_iadd (pc := 1131) ?_ dL_law_1131
  refine r_scv (pc := 1132) hs ?_ dL_law_1132
  refine r_aload_n (pc := 1133) ?_ dL_law_1133 rfl
  refine r_csH (pc := 1134) (k := k) (n := n) (Yc := Y_L_mentor) ?_ dL_law_1134 cw_mentor wd_1_0 wd_5_34 wd_5_33 ⟨by decide, by decide⟩ (by decide +kernel) ⟨Nat.le_of_ble_eq_true rfl, Nat.le_of_ble_eq_true rfl⟩ ⟨(show k + 2 ≤ 601024 by omega), (show n + 12 ≤ 7293034 by omega)⟩
  refine r_istore (pc := 1137) ?_ dL_law_1137 (Nat.le_of_ble_eq_true rfl)
  refine r_aload_n (pc := 1139) ?_ dL_law_1139 rfl
  refine r_aload_n (pc := 1140) ?_ dL_law_1140 rfl
  refine r_iload (pc := 1141) ?_ dL_law_1141
  refine r_iconst (pc := 1143) ?_ dL_law_1143 (by decide)
  refine r_iadd (pc := 1144) ?_ dL_law_1144
  refine r_scv (pc := 1145) hs ?_ dL_law_1145
  refine r_aload_n (pc := 1146) ?_ dL_law_1146 rfl
  refine r_iload (pc := 1147) ?_ dL_law_1147
  refine r_iconst (pc := 1149) ?_ dL_law_1149 (by decide)
  refine r_iadd (pc := 1150) ?_ dL_law_1150
  refine r_scv (pc := 1151) hs ?_ dL_law_1151
  refine r_cv0 (pc := 1152) ?_ dL_law_1152 cl_X10 ok_X10_mentor rfl wd_6_174 ⟨Nat.le_of_ble_eq_true rfl, Nat.le_of_ble_eq_true rfl⟩ ⟨(show (k + 2) ≤ 601024 by omega), (show (n + 12) ≤ 7293034 by omega)⟩ rfl rfl
  refine r_istore (pc := 1155) ?_ dL_law_1155 (Nat.le_of_ble_eq_true rfl)
  refine r_aload_n (pc := 1157) ?_ dL_law_1157 rfl
  refine r_cv0 (pc := 1158) ?_ dL_law_1158 cl_X10 ok_X10_thrown rfl wd_5_177 ⟨Nat.le_of_ble_eq_true rfl, Nat.le_of_ble_eq_true rfl⟩ ⟨(show (k + 2) ≤ 601024 by omega), (show (n + 12) ≤ 7293034 by omega)⟩ rfl rfl
  refine r_iload (pc := 1161) ?_ dL_law_1161
  refine r_iceq (pc := 1163) (t := 1168) ?_ ?_ dL_law_1163 (by decide)
  · refine r_iload (pc := 1168) ?_ dL_law_1168
    refine r_ifne (pc := 1170) (t := 1185) ?_ ?_ dL_law_1170 (by decide)
    · refine r_goto (pc := 1185) (t := 1900) ?_ dL_law_1185 (by decide)
      exact Le.rf
    · refine r_aload_n (pc := 1173) ?_ dL_law_1173 rfl
      refine r_iconst (pc := 1174) ?_ dL_law_1174 (by decide)
      refine r_lal (pc := 1175) ?_ dL_law_1175
      refine r_iload (pc := 1176) ?_ dL_law_1176
      refine r_i2l (pc := 1178) ?_ dL_law_1178
      refine r_lcmp (pc := 1179) ?_ dL_law_1179
      refine r_ifeq (pc := 1180) (t := 1185) ?_ ?_ dL_law_1180 (by decide)
      · refine r_goto (pc := 1185) (t := 1900) ?_ dL_law_1185 (by decide)
        exact Le.rf
      · refine r_iconst (pc := 1183) ?_ dL_law_1183 (by decide)
        exact r_zr dL_law_1184 rfl (show (k + 2) ≤ 601024 by omega) (show (n + 12) ≤ 7293034 by omega)
  · refine r_iconst (pc := 1166) ?_ dL_law_1166 (by decide)
    exact r_zr dL_law_1167 rfl (show (k + 2) ≤ 601024 by omega) (show (n + 12) ≤ 7293034 by omega)
def R_L_15 (l : Launch) (G : GT) (F : FX) (Q : PQ) (QX : PX) (k n Ln : Nat) (xs : Nat → Int32) : KT := (I_al 1 (I_al 0 (I_il 4 (I_ic 1 (I_iadd (I_scv Ln xs (I_al 0 (I_il 4 (I_ic 2 (I_iadd (I_scv Ln xs (I_al 3 (I_csH (fun As M Q => TrH l G Y_L_apprentice hh_apprentice As M Q) 4 (I_is 5 (I_al 2 (I_al 0 (I_il 4 (I_ic 1 (I_iadd (I_scv Ln xs (I_al 0 (I_il 4 (I_ic 2 (I_iadd (I_scv Ln xs (I_cv (Tr true l G Y_X10_apprentice) 8 13 2 QX (I_is 6 (I_al 2 (I_cv (Tr true l G Y_X10_thrown) 8 13 0 QX (I_il 5 (I_iceq (I_il 5 (I_ifne (Wj true l G F Y_L_law Q QX (k + 2) (n + 12) 1900) (I_al 3 (I_ic 0 (I_lal (I_il 6 (I_i2l (I_lcmp (I_ifeq (Wj true l G F Y_L_law Q QX (k + 2) (n + 12) 1900) (I_ic 0 (I_zr Q))))))))))) (I_ic 0 (I_zr Q)))))))))))))))))))))))))))))))))
set_option maxRecDepth 100000 in
theorem g_L_15 (hs : SCR G F Ln xs) (hk : k + 2 ≤ 601024 ∧ n + 12 ≤ 7293034) : Le (R_L_15 l G F Q QX k n Ln xs) (Wj true l G F Y_L_law Q QX k n 1188) := by
  unfold R_L_15
  refine r_aload_n (pc := 1188) ?_ dL_law_1188 rfl
  refine r_aload_n (pc := 1189) ?_ dL_law_1189 rfl
  refine r_iload (pc := 1190) ?_ dL_law_1190
  refine r_iconst (pc := 1192) ?_ dL_law_1192 (by decide)
  refine r_iadd (pc := 1193) ?_ dL_law_1193
  refine r_scv (pc := 1194) hs ?_ dL_law_1194
  refine r_aload_n (pc := 1195) ?_ dL_law_1195 rfl
  refine r_iload (pc := 1196) ?_ dL_law_1196
  refine r_iconst (pc := 1198) ?_ dL_law_1198 (by decide)
  refine r_iadd (pc := 1199) ?_ dL_law_1199
  refine r_scv (pc := 1200) hs ?_ dL_law_1200
  refine r_aload_n (pc := 1201) ?_ dL_law_1201 rfl
  refine r_csH (pc := 1202) (k := k) (n := n) (Yc := Y_L_apprentice) ?_ dL_law_1202 cw_apprentice wd_1_0 wd_5_41 wd_5_40 ⟨by decide, by decide⟩ (by decide +kernel) ⟨Nat.le_of_ble_eq_true rfl, Nat.le_of_ble_eq_true rfl⟩ ⟨(show k + 2 ≤ 601024 by omega), (show n + 12 ≤ 7293034 by omega)⟩
  refine r_istore (pc := 1205) ?_ dL_law_1205 (Nat.le_of_ble_eq_true rfl)
  refine r_aload_n (pc := 1207) ?_ dL_law_1207 rfl
  refine r_aload_n (pc := 1208) ?_ dL_law_1208 rfl
  refine r_iload (pc := 1209) ?_ dL_law_1209
  refine r_iconst (pc := 1211) ?_ dL_law_1211 (by decide)
  refine r_iadd (pc := 1212) ?_ dL_law_1212
  refine r_scv (pc := 1213) hs ?_ dL_law_1213
  refine r_aload_n (pc := 1214) ?_ dL_law_1214 rfl
  refine r_iload (pc := 1215) ?_ dL_law_1215
  refine r_iconst (pc := 1217) ?_ dL_law_1217 (by decide)
  refine r_iadd (pc := 1218) ?_ dL_law_1218
  refine r_scv (pc := 1219) hs ?_ dL_law_1219
  refine r_cv0 (pc := 1220) ?_ dL_law_1220 cl_X10 ok_X10_apprentice rfl wd_6_182 ⟨Nat.le_of_ble_eq_true rfl, Nat.le_of_ble_eq_true rfl⟩ ⟨(show (k + 2) ≤ 601024 by omega), (show (n + 12) ≤ 7293034 by omega)⟩ rfl rfl
  refine r_istore (pc := 1223) ?_ dL_law_1223 (Nat.le_of_ble_eq_true rfl)
  refine r_aload_n (pc := 1225) ?_ dL_law_1225 rfl
  refine r_cv0 (pc := 1226) ?_ dL_law_1226 cl_X10 ok_X10_thrown rfl wd_5_177 ⟨Nat.le_of_ble_eq_true rfl, Nat.le_of_ble_eq_true rfl⟩ ⟨(show (k + 2) ≤ 601024 by omega), (show (n + 12) ≤ 7293034 by omega)⟩ rfl rfl
  refine r_iload (pc := 1229) ?_ dL_law_1229
  refine r_iceq (pc := 1231) (t := 1236) ?_ ?_ dL_law_1231 (by decide)
  · refine r_iload (pc := 1236) ?_ dL_law_1236
    refine r_ifne (pc := 1238) (t := 1253) ?_ ?_ dL_law_1238 (by decide)
    · refine r_goto (pc := 1253) (t := 1900) ?_ dL_law_1253 (by decide)
      exact Le.rf
    · refine r_aload_n (pc := 1241) ?_ dL_law_1241 rfl
      refine r_iconst (pc := 1242) ?_ dL_law_1242 (by decide)
      refine r_lal (pc := 1243) ?_ dL_law_1243
      refine r_iload (pc := 1244) ?_ dL_law_1244
      refine r_i2l (pc := 1246) ?_ dL_law_1246
      refine r_lcmp (pc := 1247) ?_ dL_law_1247
      refine r_ifeq (pc := 1248) (t := 1253) ?_ ?_ dL_law_1248 (by decide)
      · refine r_goto (pc := 1253) (t := 1900) ?_ dL_law_1253 (by decide)
        exact Le.rf
      · refine r_iconst (pc := 1251) ?_ dL_law_1251 (by decide)
        exact r_zr dL_law_1252 rfl (show (k + 2) ≤ 601024 by omega) (show (n + 12) ≤ 7293034 by omega)
  · refine r_iconst (pc := 1234) ?_ dL_law_1234 (by decide)
    exact r_zr dL_law_1235 rfl (show (k + 2) ≤ 601024 by omega) (show (n + 12) ≤ 7293034 by omega)
def R_L_16 (l : Launch) (G : GT) (F : FX) (Q : PQ) (QX : PX) (k n Ln : Nat) (xs : Nat → Int32) : KT := (I_al 1 (I_al 0 (I_il 4 (I_ic 1 (I_iadd (I_scv Ln xs (I_al 0 (I_il 4 (I_ic 2 (I_iadd (I_scv Ln xs (I_al 0 (I_il 4 (I_ic 3 (I_iadd (I_scv Ln xs (I_al 3 (I_csH (fun As M Q => TrH l G Y_L_part hh_part As M Q) 5 (I_is 5 (I_al 2 (I_al 0 (I_il 4 (I_ic 1 (I_iadd (I_scv Ln xs (I_al 0 (I_il 4 (I_ic 2 (I_iadd (I_scv Ln xs (I_al 0 (I_il 4 (I_ic 3 (I_iadd (I_scv Ln xs (I_cv (Tr true l G Y_X10_part) 8 13 3 QX (I_is 6 (I_al 2 (I_cv (Tr true l G Y_X10_thrown) 8 13 0 QX (I_il 5 (I_iceq (I_il 5 (I_ifne (Wj true l G F Y_L_law Q QX (k + 2) (n + 12) 1900) (I_al 3 (I_ic 0 (I_lal (I_il 6 (I_i2l (I_lcmp (I_ifeq (Wj true l G F Y_L_law Q QX (k + 2) (n + 12) 1900) (I_ic 0 (I_zr Q))))))))))) (I_ic 0 (I_zr Q)))))))))))))))))))))))))))))))))))))))))))
set_option maxRecDepth 100000 in
theorem g_L_16 (hs : SCR G F Ln xs) (hk : k + 2 ≤ 601024 ∧ n + 12 ≤ 7293034) : Le (R_L_16 l G F Q QX k n Ln xs) (Wj true l G F Y_L_law Q QX k n 1256) := by
  unfold R_L_16
  refine r_aload_n (pc := 1256) ?_ dL_law_1256 rfl
  refine r_aload_n (pc := 1257) ?_ dL_law_1257 rfl
  refine r_iload (pc := 1258) ?_ dL_law_1258
  refine r_iconst (pc := 1260) ?_ dL_law_1260 (by decide)
  refine r_iadd (pc := 1261) ?_ dL_law_1261
  refine r_scv (pc := 1262) hs ?_ dL_law_1262
  refine r_aload_n (pc := 1263) ?_ dL_law_1263 rfl
  refine r_iload (pc := 1264) ?_ dL_law_1264
  refine r_iconst (pc := 1266) ?_ dL_law_1266 (by decide)
  refine r_iadd (pc := 1267) ?_ dL_law_1267
  refine r_scv (pc := 1268) hs ?_ dL_law_1268
  refine r_aload_n (pc := 1269) ?_ dL_law_1269 rfl
  refine r_iload (pc := 1270) ?_ dL_law_1270
  refine r_iconst (pc := 1272) ?_ dL_law_1272 (by decide)
  refine r_iadd (pc := 1273) ?_ dL_law_1273
  refine r_scv (pc := 1274) hs ?_ dL_law_1274
  refine r_aload_n (pc := 1275) ?_ dL_law_1275 rfl
  refine r_csH (pc := 1276) (k := k) (n := n) (Yc := Y_L_part) ?_ dL_law_1276 cw_part wd_1_0 wd_5_48 wd_5_47 ⟨by decide, by decide⟩ (by decide +kernel) ⟨Nat.le_of_ble_eq_true rfl, Nat.le_of_ble_eq_true rfl⟩ ⟨(show k + 2 ≤ 601024 by omega), (show n + 12 ≤ 7293034 by omega)⟩
  refine r_istore (pc := 1279) ?_ dL_law_1279 (Nat.le_of_ble_eq_true rfl)
  refine r_aload_n (pc := 1281) ?_ dL_law_1281 rfl
  refine r_aload_n (pc := 1282) ?_ dL_law_1282 rfl
  refine r_iload (pc := 1283) ?_ dL_law_1283
  refine r_iconst (pc := 1285) ?_ dL_law_1285 (by decide)
  refine r_iadd (pc := 1286) ?_ dL_law_1286
  refine r_scv (pc := 1287) hs ?_ dL_law_1287
  refine r_aload_n (pc := 1288) ?_ dL_law_1288 rfl
  refine r_iload (pc := 1289) ?_ dL_law_1289
  refine r_iconst (pc := 1291) ?_ dL_law_1291 (by decide)
  refine r_iadd (pc := 1292) ?_ dL_law_1292
  refine r_scv (pc := 1293) hs ?_ dL_law_1293
  refine r_aload_n (pc := 1294) ?_ dL_law_1294 rfl
  refine r_iload (pc := 1295) ?_ dL_law_1295
  refine r_iconst (pc := 1297) ?_ dL_law_1297 (by decide)
  refine r_iadd (pc := 1298) ?_ dL_law_1298
  refine r_scv (pc := 1299) hs ?_ dL_law_1299
  refine r_cv0 (pc := 1300) ?_ dL_law_1300 cl_X10 ok_X10_part rfl wd_6_207 ⟨Nat.le_of_ble_eq_true rfl, Nat.le_of_ble_eq_true rfl⟩ ⟨(show (k + 2) ≤ 601024 by omega), (show (n + 12) ≤ 7293034 by omega)⟩ rfl rfl
  refine r_istore (pc := 1303) ?_ dL_law_1303 (Nat.le_of_ble_eq_true rfl)
  refine r_aload_n (pc := 1305) ?_ dL_law_1305 rfl
  refine r_cv0 (pc := 1306) ?_ dL_law_1306 cl_X10 ok_X10_thrown rfl wd_5_177 ⟨Nat.le_of_ble_eq_true rfl, Nat.le_of_ble_eq_true rfl⟩ ⟨(show (k + 2) ≤ 601024 by omega), (show (n + 12) ≤ 7293034 by omega)⟩ rfl rfl
  refine r_iload (pc := 1309) ?_ dL_law_1309
  refine r_iceq (pc := 1311) (t := 1316) ?_ ?_ dL_law_1311 (by decide)
  · refine r_iload (pc := 1316) ?_ dL_law_1316
    refine r_ifne (pc := 1318) (t := 1333) ?_ ?_ dL_law_1318 (by decide)
    · refine r_goto (pc := 1333) (t := 1900) ?_ dL_law_1333 (by decide)
      exact Le.rf
    · refine r_aload_n (pc := 1321) ?_ dL_law_1321 rfl
      refine r_iconst (pc := 1322) ?_ dL_law_1322 (by decide)
      refine r_lal (pc := 1323) ?_ dL_law_1323
      refine r_iload (pc := 1324) ?_ dL_law_1324
      refine r_i2l (pc := 1326) ?_ dL_law_1326
      refine r_lcmp (pc := 1327) ?_ dL_law_1327
      refine r_ifeq (pc := 1328) (t := 1333) ?_ ?_ dL_law_1328 (by decide)
      · refine r_goto (pc := 1333) (t := 1900) ?_ dL_law_1333 (by decide)
        exact Le.rf
      · refine r_iconst (pc := 1331) ?_ dL_law_1331 (by decide)
        exact r_zr dL_law_1332 rfl (show (k + 2) ≤ 601024 by omega) (show (n + 12) ≤ 7293034 by omega)
  · refine r_iconst (pc := 1314) ?_ dL_law_1314 (by decide)
    exact r_zr dL_law_1315 rfl (show (k + 2) ≤ 601024 by omega) (show (n + 12) ≤ 7293034 by omega)
def R_L_17 (l : Launch) (G : GT) (F : FX) (Q : PQ) (QX : PX) (k n Ln : Nat) (xs : Nat → Int32) : KT := (I_al 1 (I_al 0 (I_il 4 (I_ic 1 (I_iadd (I_scv Ln xs (I_al 0 (I_il 4 (I_ic 2 (I_iadd (I_scv Ln xs (I_ifeq (I_ic 0 (I_al 0 (I_il 4 (I_ic 3 (I_iadd (I_scv Ln xs (I_al 0 (I_il 4 (I_ic 4 (I_iadd (I_scv Ln xs (I_al 3 (I_csH (fun As M Q => TrH l G Y_L_entry hh_entry As M Q) 6 (I_is 5 (I_al 2 (I_al 0 (I_il 4 (I_ic 1 (I_iadd (I_scv Ln xs (I_al 0 (I_il 4 (I_ic 2 (I_iadd (I_scv Ln xs (I_ifeq (I_ic 0 (I_al 0 (I_il 4 (I_ic 3 (I_iadd (I_scv Ln xs (I_al 0 (I_il 4 (I_ic 4 (I_iadd (I_scv Ln xs (I_cv (Tr true l G Y_X10_entry) 8 13 4 QX (I_is 6 (I_al 2 (I_cv (Tr true l G Y_X10_thrown) 8 13 0 QX (I_il 5 (I_iceq (I_il 5 (I_ifne (Wj true l G F Y_L_law Q QX (k + 2) (n + 12) 1900) (I_al 3 (I_ic 0 (I_lal (I_il 6 (I_i2l (I_lcmp (I_ifeq (Wj true l G F Y_L_law Q QX (k + 2) (n + 12) 1900) (I_ic 0 (I_zr Q))))))))))) (I_ic 0 (I_zr Q))))))))))))))))))) (I_ic 1 (I_al 0 (I_il 4 (I_ic 3 (I_iadd (I_scv Ln xs (I_al 0 (I_il 4 (I_ic 4 (I_iadd (I_scv Ln xs (I_cv (Tr true l G Y_X10_entry) 8 13 4 QX (I_is 6 (I_al 2 (I_cv (Tr true l G Y_X10_thrown) 8 13 0 QX (I_il 5 (I_iceq (I_il 5 (I_ifne (Wj true l G F Y_L_law Q QX (k + 2) (n + 12) 1900) (I_al 3 (I_ic 0 (I_lal (I_il 6 (I_i2l (I_lcmp (I_ifeq (Wj true l G F Y_L_law Q QX (k + 2) (n + 12) 1900) (I_ic 0 (I_zr Q))))))))))) (I_ic 0 (I_zr Q))))))))))))))))))))))))))))))))))))))))))))) (I_ic 1 (I_al 0 (I_il 4 (I_ic 3 (I_iadd (I_scv Ln xs (I_al 0 (I_il 4 (I_ic 4 (I_iadd (I_scv Ln xs (I_al 3 (I_csH (fun As M Q => TrH l G Y_L_entry hh_entry As M Q) 6 (I_is 5 (I_al 2 (I_al 0 (I_il 4 (I_ic 1 (I_iadd (I_scv Ln xs (I_al 0 (I_il 4 (I_ic 2 (I_iadd (I_scv Ln xs (I_ifeq (I_ic 0 (I_al 0 (I_il 4 (I_ic 3 (I_iadd (I_scv Ln xs (I_al 0 (I_il 4 (I_ic 4 (I_iadd (I_scv Ln xs (I_cv (Tr true l G Y_X10_entry) 8 13 4 QX (I_is 6 (I_al 2 (I_cv (Tr true l G Y_X10_thrown) 8 13 0 QX (I_il 5 (I_iceq (I_il 5 (I_ifne (Wj true l G F Y_L_law Q QX (k + 2) (n + 12) 1900) (I_al 3 (I_ic 0 (I_lal (I_il 6 (I_i2l (I_lcmp (I_ifeq (Wj true l G F Y_L_law Q QX (k + 2) (n + 12) 1900) (I_ic 0 (I_zr Q))))))))))) (I_ic 0 (I_zr Q))))))))))))))))))) (I_ic 1 (I_al 0 (I_il 4 (I_ic 3 (I_iadd (I_scv Ln xs (I_al 0 (I_il 4 (I_ic 4 (I_iadd (I_scv Ln xs (I_cv (Tr true l G Y_X10_entry) 8 13 4 QX (I_is 6 (I_al 2 (I_cv (Tr true l G Y_X10_thrown) 8 13 0 QX (I_il 5 (I_iceq (I_il 5 (I_ifne (Wj true l G F Y_L_law Q QX (k + 2) (n + 12) 1900) (I_al 3 (I_ic 0 (I_lal (I_il 6 (I_i2l (I_lcmp (I_ifeq (Wj true l G F Y_L_law Q QX (k + 2) (n + 12) 1900) (I_ic 0 (I_zr Q))))))))))) (I_ic 0 (I_zr Q)))))))))))))))))))))))))))))))))))))))))))))))))))))))))
set_option maxRecDepth 100000 in
theorem g_L_17 (hs : SCR G F Ln xs) (hk : k + 2 ≤ 601024 ∧ n + 12 ≤ 7293034) : Le (R_L_17 l G F Q QX k n Ln xs) (Wj true l G F Y_L_law Q QX k n 1336) := by
  unfold R_L_17
  refine r_aload_n (pc := 1336) ?_ dL_law_1336 rfl
  refine r_aload_n (pc := 1337) ?_ dL_law_1337 rfl
  refine r_iload (pc := 1338) ?_ dL_law_1338
  refine r_iconst (pc := 1340) ?_ dL_law_1340 (by decide)
  refine r_iadd (pc := 1341) ?_ dL_law_1341
  refine r_scv (pc := 1342) hs ?_ dL_law_1342
  refine r_aload_n (pc := 1343) ?_ dL_law_1343 rfl
  refine r_iload (pc := 1344) ?_ dL_law_1344
  refine r_iconst (pc := 1346) ?_ dL_law_1346 (by decide)
  refine r_iadd (pc := 1347) ?_ dL_law_1347
  refine r_scv (pc := 1348) hs ?_ dL_law_1348
  refine r_ifeq (pc := 1349) (t := 1356) ?_ ?_ dL_law_1349 (by decide)
  · refine r_iconst (pc := 1356) ?_ dL_law_1356 (by decide)
    refine r_aload_n (pc := 1357) ?_ dL_law_1357 rfl
    refine r_iload (pc := 1358) ?_ dL_law_1358
    refine r_iconst (pc := 1360) ?_ dL_law_1360 (by decide)
    refine r_iadd (pc := 1361) ?_ dL_law_1361
    refine r_scv (pc := 1362) hs ?_ dL_law_1362
    refine r_aload_n (pc := 1363) ?_ dL_law_1363 rfl
    refine r_iload (pc := 1364) ?_ dL_law_1364
    refine r_iconst (pc := 1366) ?_ dL_law_1366 (by decide)
    refine r_iadd (pc := 1367) ?_ dL_law_1367
    refine r_scv (pc := 1368) hs ?_ dL_law_1368
    refine r_aload_n (pc := 1369) ?_ dL_law_1369 rfl
    refine r_csH (pc := 1370) (k := k) (n := n) (Yc := Y_L_entry) ?_ dL_law_1370 cw_entry wd_1_0 wd_5_55 wd_5_54 ⟨by decide, by decide⟩ (by decide +kernel) ⟨Nat.le_of_ble_eq_true rfl, Nat.le_of_ble_eq_true rfl⟩ ⟨(show k + 2 ≤ 601024 by omega), (show n + 12 ≤ 7293034 by omega)⟩
    refine r_istore (pc := 1373) ?_ dL_law_1373 (Nat.le_of_ble_eq_true rfl)
    refine r_aload_n (pc := 1375) ?_ dL_law_1375 rfl
    refine r_aload_n (pc := 1376) ?_ dL_law_1376 rfl
    refine r_iload (pc := 1377) ?_ dL_law_1377
    refine r_iconst (pc := 1379) ?_ dL_law_1379 (by decide)
    refine r_iadd (pc := 1380) ?_ dL_law_1380
    refine r_scv (pc := 1381) hs ?_ dL_law_1381
    refine r_aload_n (pc := 1382) ?_ dL_law_1382 rfl
    refine r_iload (pc := 1383) ?_ dL_law_1383
    refine r_iconst (pc := 1385) ?_ dL_law_1385 (by decide)
    refine r_iadd (pc := 1386) ?_ dL_law_1386
    refine r_scv (pc := 1387) hs ?_ dL_law_1387
    refine r_ifeq (pc := 1388) (t := 1395) ?_ ?_ dL_law_1388 (by decide)
    · refine r_iconst (pc := 1395) ?_ dL_law_1395 (by decide)
      refine r_aload_n (pc := 1396) ?_ dL_law_1396 rfl
      refine r_iload (pc := 1397) ?_ dL_law_1397
      refine r_iconst (pc := 1399) ?_ dL_law_1399 (by decide)
      refine r_iadd (pc := 1400) ?_ dL_law_1400
      refine r_scv (pc := 1401) hs ?_ dL_law_1401
      refine r_aload_n (pc := 1402) ?_ dL_law_1402 rfl
      refine r_iload (pc := 1403) ?_ dL_law_1403
      refine r_iconst (pc := 1405) ?_ dL_law_1405 (by decide)
      refine r_iadd (pc := 1406) ?_ dL_law_1406
      refine r_scv (pc := 1407) hs ?_ dL_law_1407
      refine r_cv0 (pc := 1408) ?_ dL_law_1408 cl_X10 ok_X10_entry rfl wd_6_215 ⟨Nat.le_of_ble_eq_true rfl, Nat.le_of_ble_eq_true rfl⟩ ⟨(show (k + 2) ≤ 601024 by omega), (show (n + 12) ≤ 7293034 by omega)⟩ rfl rfl
      refine r_istore (pc := 1411) ?_ dL_law_1411 (Nat.le_of_ble_eq_true rfl)
      refine r_aload_n (pc := 1413) ?_ dL_law_1413 rfl
      refine r_cv0 (pc := 1414) ?_ dL_law_1414 cl_X10 ok_X10_thrown rfl wd_5_177 ⟨Nat.le_of_ble_eq_true rfl, Nat.le_of_ble_eq_true rfl⟩ ⟨(show (k + 2) ≤ 601024 by omega), (show (n + 12) ≤ 7293034 by omega)⟩ rfl rfl
      refine r_iload (pc := 1417) ?_ dL_law_1417
      refine r_iceq (pc := 1419) (t := 1424) ?_ ?_ dL_law_1419 (by decide)
      · refine r_iload (pc := 1424) ?_ dL_law_1424
        refine r_ifne (pc := 1426) (t := 1441) ?_ ?_ dL_law_1426 (by decide)
        · refine r_goto (pc := 1441) (t := 1900) ?_ dL_law_1441 (by decide)
          exact Le.rf
        · refine r_aload_n (pc := 1429) ?_ dL_law_1429 rfl
          refine r_iconst (pc := 1430) ?_ dL_law_1430 (by decide)
          refine r_lal (pc := 1431) ?_ dL_law_1431
          refine r_iload (pc := 1432) ?_ dL_law_1432
          refine r_i2l (pc := 1434) ?_ dL_law_1434
          refine r_lcmp (pc := 1435) ?_ dL_law_1435
          refine r_ifeq (pc := 1436) (t := 1441) ?_ ?_ dL_law_1436 (by decide)
          · refine r_goto (pc := 1441) (t := 1900) ?_ dL_law_1441 (by decide)
            exact Le.rf
          · refine r_iconst (pc := 1439) ?_ dL_law_1439 (by decide)
            exact r_zr dL_law_1440 rfl (show (k + 2) ≤ 601024 by omega) (show (n + 12) ≤ 7293034 by omega)
      · refine r_iconst (pc := 1422) ?_ dL_law_1422 (by decide)
        exact r_zr dL_law_1423 rfl (show (k + 2) ≤ 601024 by omega) (show (n + 12) ≤ 7293034 by omega)
    · refine r_iconst (pc := 1391) ?_ dL_law_1391 (by decide)
      refine r_goto (pc := 1392) (t := 1396) ?_ dL_law_1392 (by decide)
      refine r_aload_n (pc := 1396) ?_ dL_law_1396 rfl
      refine r_iload (pc := 1397) ?_ dL_law_1397
      refine r_iconst (pc := 1399) ?_ dL_law_1399 (by decide)
      refine r_iadd (pc := 1400) ?_ dL_law_1400
      refine r_scv (pc := 1401) hs ?_ dL_law_1401
      refine r_aload_n (pc := 1402) ?_ dL_law_1402 rfl
      refine r_iload (pc := 1403) ?_ dL_law_1403
      refine r_iconst (pc := 1405) ?_ dL_law_1405 (by decide)
      refine r_iadd (pc := 1406) ?_ dL_law_1406
      refine r_scv (pc := 1407) hs ?_ dL_law_1407
      refine r_cv0 (pc := 1408) ?_ dL_law_1408 cl_X10 ok_X10_entry rfl wd_6_215 ⟨Nat.le_of_ble_eq_true rfl, Nat.le_of_ble_eq_true rfl⟩ ⟨(show (k + 2) ≤ 601024 by omega), (show (n + 12) ≤ 7293034 by omega)⟩ rfl rfl
      refine r_istore (pc := 1411) ?_ dL_law_1411 (Nat.le_of_ble_eq_true rfl)
      refine r_aload_n (pc := 1413) ?_ dL_law_1413 rfl
      refine r_cv0 (pc := 1414) ?_ dL_law_1414 cl_X10 ok_X10_thrown rfl wd_5_177 ⟨Nat.le_of_ble_eq_true rfl, Nat.le_of_ble_eq_true rfl⟩ ⟨(show (k + 2) ≤ 601024 by omega), (show (n + 12) ≤ 7293034 by omega)⟩ rfl rfl
      refine r_iload (pc := 1417) ?_ dL_law_1417
      refine r_iceq (pc := 1419) (t := 1424) ?_ ?_ dL_law_1419 (by decide)
      · refine r_iload (pc := 1424) ?_ dL_law_1424
        refine r_ifne (pc := 1426) (t := 1441) ?_ ?_ dL_law_1426 (by decide)
        · refine r_goto (pc := 1441) (t := 1900) ?_ dL_law_1441 (by decide)
          exact Le.rf
        · refine r_aload_n (pc := 1429) ?_ dL_law_1429 rfl
          refine r_iconst (pc := 1430) ?_ dL_law_1430 (by decide)
          refine r_lal (pc := 1431) ?_ dL_law_1431
          refine r_iload (pc := 1432) ?_ dL_law_1432
          refine r_i2l (pc := 1434) ?_ dL_law_1434
          refine r_lcmp (pc := 1435) ?_ dL_law_1435
          refine r_ifeq (pc := 1436) (t := 1441) ?_ ?_ dL_law_1436 (by decide)
          · refine r_goto (pc := 1441) (t := 1900) ?_ dL_law_1441 (by decide)
            exact Le.rf
          · refine r_iconst (pc := 1439) ?_ dL_law_1439 (by decide)
            exact r_zr dL_law_1440 rfl (show (k + 2) ≤ 601024 by omega) (show (n + 12) ≤ 7293034 by omega)
      · refine r_iconst (pc := 1422) ?_ dL_law_1422 (by decide)
        exact r_zr dL_law_1423 rfl (show (k + 2) ≤ 601024 by omega) (show (n + 12) ≤ 7293034 by omega)
  · refine r_iconst (pc := 1352) ?_ dL_law_1352 (by decide)
    refine r_goto (pc := 1353) (t := 1357) ?_ dL_law_1353 (by decide)
    refine r_aload_n (pc := 1357) ?_ dL_law_1357 rfl
    refine r_iload (pc := 1358) ?_ dL_law_1358
    refine r_iconst (pc := 1360) ?_ dL_law_1360 (by decide)
    refine r_iadd (pc := 1361) ?_ dL_law_1361
    refine r_scv (pc := 1362) hs ?_ dL_law_1362
    refine r_aload_n (pc := 1363) ?_ dL_law_1363 rfl
    refine r_iload (pc := 1364) ?_ dL_law_1364
    refine r_iconst (pc := 1366) ?_ dL_law_1366 (by decide)
    refine r_iadd (pc := 1367) ?_ dL_law_1367
    refine r_scv (pc := 1368) hs ?_ dL_law_1368
    refine r_aload_n (pc := 1369) ?_ dL_law_1369 rfl
    refine r_csH (pc := 1370) (k := k) (n := n) (Yc := Y_L_entry) ?_ dL_law_1370 cw_entry wd_1_0 wd_5_55 wd_5_54 ⟨by decide, by decide⟩ (by decide +kernel) ⟨Nat.le_of_ble_eq_true rfl, Nat.le_of_ble_eq_true rfl⟩ ⟨(show k + 2 ≤ 601024 by omega), (show n + 12 ≤ 7293034 by omega)⟩
    refine r_istore (pc := 1373) ?_ dL_law_1373 (Nat.le_of_ble_eq_true rfl)
    refine r_aload_n (pc := 1375) ?_ dL_law_1375 rfl
    refine r_aload_n (pc := 1376) ?_ dL_law_1376 rfl
    refine r_iload (pc := 1377) ?_ dL_law_1377
    refine r_iconst (pc := 1379) ?_ dL_law_1379 (by decide)
    refine r_iadd (pc := 1380) ?_ dL_law_1380
    refine r_scv (pc := 1381) hs ?_ dL_law_1381
    refine r_aload_n (pc := 1382) ?_ dL_law_1382 rfl
    refine r_iload (pc := 1383) ?_ dL_law_1383
    refine r_iconst (pc := 1385) ?_ dL_law_1385 (by decide)
    refine r_iadd (pc := 1386) ?_ dL_law_1386
    refine r_scv (pc := 1387) hs ?_ dL_law_1387
    refine r_ifeq (pc := 1388) (t := 1395) ?_ ?_ dL_law_1388 (by decide)
    · refine r_iconst (pc := 1395) ?_ dL_law_1395 (by decide)
      refine r_aload_n (pc := 1396) ?_ dL_law_1396 rfl
      refine r_iload (pc := 1397) ?_ dL_law_1397
      refine r_iconst (pc := 1399) ?_ dL_law_1399 (by decide)
      refine r_iadd (pc := 1400) ?_ dL_law_1400
      refine r_scv (pc := 1401) hs ?_ dL_law_1401
      refine r_aload_n (pc := 1402) ?_ dL_law_1402 rfl
      refine r_iload (pc := 1403) ?_ dL_law_1403
      refine r_iconst (pc := 1405) ?_ dL_law_1405 (by decide)
      refine r_iadd (pc := 1406) ?_ dL_law_1406
      refine r_scv (pc := 1407) hs ?_ dL_law_1407
      refine r_cv0 (pc := 1408) ?_ dL_law_1408 cl_X10 ok_X10_entry rfl wd_6_215 ⟨Nat.le_of_ble_eq_true rfl, Nat.le_of_ble_eq_true rfl⟩ ⟨(show (k + 2) ≤ 601024 by omega), (show (n + 12) ≤ 7293034 by omega)⟩ rfl rfl
      refine r_istore (pc := 1411) ?_ dL_law_1411 (Nat.le_of_ble_eq_true rfl)
      refine r_aload_n (pc := 1413) ?_ dL_law_1413 rfl
      refine r_cv0 (pc := 1414) ?_ dL_law_1414 cl_X10 ok_X10_thrown rfl wd_5_177 ⟨Nat.le_of_ble_eq_true rfl, Nat.le_of_ble_eq_true rfl⟩ ⟨(show (k + 2) ≤ 601024 by omega), (show (n + 12) ≤ 7293034 by omega)⟩ rfl rfl
      refine r_iload (pc := 1417) ?_ dL_law_1417
      refine r_iceq (pc := 1419) (t := 1424) ?_ ?_ dL_law_1419 (by decide)
      · refine r_iload (pc := 1424) ?_ dL_law_1424
        refine r_ifne (pc := 1426) (t := 1441) ?_ ?_ dL_law_1426 (by decide)
        · refine r_goto (pc := 1441) (t := 1900) ?_ dL_law_1441 (by decide)
          exact Le.rf
        · refine r_aload_n (pc := 1429) ?_ dL_law_1429 rfl
          refine r_iconst (pc := 1430) ?_ dL_law_1430 (by decide)
          refine r_lal (pc := 1431) ?_ dL_law_1431
          refine r_iload (pc := 1432) ?_ dL_law_1432
          refine r_i2l (pc := 1434) ?_ dL_law_1434
          refine r_lcmp (pc := 1435) ?_ dL_law_1435
          refine r_ifeq (pc := 1436) (t := 1441) ?_ ?_ dL_law_1436 (by decide)
          · refine r_goto (pc := 1441) (t := 1900) ?_ dL_law_1441 (by decide)
            exact Le.rf
          · refine r_iconst (pc := 1439) ?_ dL_law_1439 (by decide)
            exact r_zr dL_law_1440 rfl (show (k + 2) ≤ 601024 by omega) (show (n + 12) ≤ 7293034 by omega)
      · refine r_iconst (pc := 1422) ?_ dL_law_1422 (by decide)
        exact r_zr dL_law_1423 rfl (show (k + 2) ≤ 601024 by omega) (show (n + 12) ≤ 7293034 by omega)
    · refine r_iconst (pc := 1391) ?_ dL_law_1391 (by decide)
      refine r_goto (pc := 1392) (t := 1396) ?_ dL_law_1392 (by decide)
      refine r_aload_n (pc := 1396) ?_ dL_law_1396 rfl
      refine r_iload (pc := 1397) ?_ dL_law_1397
      refine r_iconst (pc := 1399) ?_ dL_law_1399 (by decide)
      refine r_iadd (pc := 1400) ?_ dL_law_1400
      refine r_scv (pc := 1401) hs ?_ dL_law_1401
      refine r_aload_n (pc := 1402) ?_ dL_law_1402 rfl
      refine r_iload (pc := 1403) ?_ dL_law_1403
      refine r_iconst (pc := 1405) ?_ dL_law_1405 (by decide)
      refine r_iadd (pc := 1406) ?_ dL_law_1406
      refine r_scv (pc := 1407) hs ?_ dL_law_1407
      refine r_cv0 (pc := 1408) ?_ dL_law_1408 cl_X10 ok_X10_entry rfl wd_6_215 ⟨Nat.le_of_ble_eq_true rfl, Nat.le_of_ble_eq_true rfl⟩ ⟨(show (k + 2) ≤ 601024 by omega), (show (n + 12) ≤ 7293034 by omega)⟩ rfl rfl
      refine r_istore (pc := 1411) ?_ dL_law_1411 (Nat.le_of_ble_eq_true rfl)
      refine r_aload_n (pc := 1413) ?_ dL_law_1413 rfl
      refine r_cv0 (pc := 1414) ?_ dL_law_1414 cl_X10 ok_X10_thrown rfl wd_5_177 ⟨Nat.le_of_ble_eq_true rfl, Nat.le_of_ble_eq_true rfl⟩ ⟨(show (k + 2) ≤ 601024 by omega), (show (n + 12) ≤ 7293034 by omega)⟩ rfl rfl
      refine r_iload (pc := 1417) ?_ dL_law_1417
      refine r_iceq (pc := 1419) (t := 1424) ?_ ?_ dL_law_1419 (by decide)
      · refine r_iload (pc := 1424) ?_ dL_law_1424
        refine r_ifne (pc := 1426) (t := 1441) ?_ ?_ dL_law_1426 (by decide)
        · refine r_goto (pc := 1441) (t := 1900) ?_ dL_law_1441 (by decide)
          exact Le.rf
        · refine r_aload_n (pc := 1429) ?_ dL_law_1429 rfl
          refine r_iconst (pc := 1430) ?_ dL_law_1430 (by decide)
          refine r_lal (pc := 1431) ?_ dL_law_1431
          refine r_iload (pc := 1432) ?_ dL_law_1432
          refine r_i2l (pc := 1434) ?_ dL_law_1434
          refine r_lcmp (pc := 1435) ?_ dL_law_1435
          refine r_ifeq (pc := 1436) (t := 1441) ?_ ?_ dL_law_1436 (by decide)
          · refine r_goto (pc := 1441) (t := 1900) ?_ dL_law_1441 (by decide)
            exact Le.rf
          · refine r_iconst (pc := 1439) ?_ dL_law_1439 (by decide)
            exact r_zr dL_law_1440 rfl (show (k + 2) ≤ 601024 by omega) (show (n + 12) ≤ 7293034 by omega)
      · refine r_iconst (pc := 1422) ?_ dL_law_1422 (by decide)
        exact r_zr dL_law_1423 rfl (show (k + 2) ≤ 601024 by omega) (show (n + 12) ≤ 7293034 by omega)
def R_L_18 (l : Launch) (G : GT) (F : FX) (Q : PQ) (QX : PX) (k n Ln : Nat) (xs : Nat → Int32) : KT := (I_al 1 (I_al 0 (I_il 4 (I_ic 1 (I_iadd (I_scv Ln xs (I_al 3 (I_csH (fun As M Q => TrH l G Y_L_whole hh_whole As M Q) 3 (I_is 5 (I_al 2 (I_al 0 (I_il 4 (I_ic 1 (I_iadd (I_scv Ln xs (I_cv (Tr true l G Y_X10_whole) 8 13 1 QX (I_is 6 (I_al 2 (I_cv (Tr true l G Y_X10_thrown) 8 13 0 QX (I_il 5 (I_iceq (I_il 5 (I_ifne (Wj true l G F Y_L_law Q QX (k + 1) (n + 6) 1900) (I_al 3 (I_ic 0 (I_lal (I_il 6 (I_i2l (I_lcmp (I_ifeq (Wj true l G F Y_L_law Q QX (k + 1) (n + 6) 1900) (I_ic 0 (I_zr Q))))))))))) (I_ic 0 (I_zr Q)))))))))))))))))))))))
set_option maxRecDepth 100000 in
theorem g_L_18 (hs : SCR G F Ln xs) (hk : k + 2 ≤ 601024 ∧ n + 12 ≤ 7293034) : Le (R_L_18 l G F Q QX k n Ln xs) (Wj true l G F Y_L_law Q QX k n 1444) := by
  unfold R_L_18
  refine r_aload_n (pc := 1444) ?_ dL_law_1444 rfl
  refine r_aload_n (pc := 1445) ?_ dL_law_1445 rfl
  refine r_iload (pc := 1446) ?_ dL_law_1446
  refine r_iconst (pc := 1448) ?_ dL_law_1448 (by decide)
  refine r_iadd (pc := 1449) ?_ dL_law_1449
  refine r_scv (pc := 1450) hs ?_ dL_law_1450
  refine r_aload_n (pc := 1451) ?_ dL_law_1451 rfl
  refine r_csH (pc := 1452) (k := k) (n := n) (Yc := Y_L_whole) ?_ dL_law_1452 cw_whole wd_1_0 wd_5_62 wd_5_61 ⟨by decide, by decide⟩ (by decide +kernel) ⟨Nat.le_of_ble_eq_true rfl, Nat.le_of_ble_eq_true rfl⟩ ⟨(show k + 1 ≤ 601024 by omega), (show n + 6 ≤ 7293034 by omega)⟩
  refine r_istore (pc := 1455) ?_ dL_law_1455 (Nat.le_of_ble_eq_true rfl)
  refine r_aload_n (pc := 1457) ?_ dL_law_1457 rfl
  refine r_aload_n (pc := 1458) ?_ dL_law_1458 rfl
  refine r_iload (pc := 1459) ?_ dL_law_1459
  refine r_iconst (pc := 1461) ?_ dL_law_1461 (by decide)
  refine r_iadd (pc := 1462) ?_ dL_law_1462
  refine r_scv (pc := 1463) hs ?_ dL_law_1463
  refine r_cv0 (pc := 1464) ?_ dL_law_1464 cl_X10 ok_X10_whole rfl wd_6_220 ⟨Nat.le_of_ble_eq_true rfl, Nat.le_of_ble_eq_true rfl⟩ ⟨(show (k + 1) ≤ 601024 by omega), (show (n + 6) ≤ 7293034 by omega)⟩ rfl rfl
  refine r_istore (pc := 1467) ?_ dL_law_1467 (Nat.le_of_ble_eq_true rfl)
  refine r_aload_n (pc := 1469) ?_ dL_law_1469 rfl
  refine r_cv0 (pc := 1470) ?_ dL_law_1470 cl_X10 ok_X10_thrown rfl wd_5_177 ⟨Nat.le_of_ble_eq_true rfl, Nat.le_of_ble_eq_true rfl⟩ ⟨(show (k + 1) ≤ 601024 by omega), (show (n + 6) ≤ 7293034 by omega)⟩ rfl rfl
  refine r_iload (pc := 1473) ?_ dL_law_1473
  refine r_iceq (pc := 1475) (t := 1480) ?_ ?_ dL_law_1475 (by decide)
  · refine r_iload (pc := 1480) ?_ dL_law_1480
    refine r_ifne (pc := 1482) (t := 1497) ?_ ?_ dL_law_1482 (by decide)
    · refine r_goto (pc := 1497) (t := 1900) ?_ dL_law_1497 (by decide)
      exact Le.rf
    · refine r_aload_n (pc := 1485) ?_ dL_law_1485 rfl
      refine r_iconst (pc := 1486) ?_ dL_law_1486 (by decide)
      refine r_lal (pc := 1487) ?_ dL_law_1487
      refine r_iload (pc := 1488) ?_ dL_law_1488
      refine r_i2l (pc := 1490) ?_ dL_law_1490
      refine r_lcmp (pc := 1491) ?_ dL_law_1491
      refine r_ifeq (pc := 1492) (t := 1497) ?_ ?_ dL_law_1492 (by decide)
      · refine r_goto (pc := 1497) (t := 1900) ?_ dL_law_1497 (by decide)
        exact Le.rf
      · refine r_iconst (pc := 1495) ?_ dL_law_1495 (by decide)
        exact r_zr dL_law_1496 rfl (show (k + 1) ≤ 601024 by omega) (show (n + 6) ≤ 7293034 by omega)
  · refine r_iconst (pc := 1478) ?_ dL_law_1478 (by decide)
    exact r_zr dL_law_1479 rfl (show (k + 1) ≤ 601024 by omega) (show (n + 6) ≤ 7293034 by omega)
def R_L_19 (l : Launch) (G : GT) (F : FX) (Q : PQ) (QX : PX) (k n Ln : Nat) (xs : Nat → Int32) : KT := (I_al 1 (I_al 0 (I_il 4 (I_ic 1 (I_iadd (I_scv Ln xs (I_al 0 (I_il 4 (I_ic 2 (I_iadd (I_scv Ln xs (I_al 3 (I_csH (fun As M Q => TrH l G Y_L_completeOn hh_completeOn As M Q) 4 (I_is 5 (I_al 2 (I_al 0 (I_il 4 (I_ic 1 (I_iadd (I_scv Ln xs (I_al 0 (I_il 4 (I_ic 2 (I_iadd (I_scv Ln xs (I_cv (Tr true l G Y_X10_completeOn) 8 13 2 QX (I_is 6 (I_al 2 (I_cv (Tr true l G Y_X10_thrown) 8 13 0 QX (I_il 5 (I_iceq (I_il 5 (I_ifne (Wj true l G F Y_L_law Q QX (k + 2) (n + 12) 1900) (I_al 3 (I_ic 0 (I_lal (I_il 6 (I_i2l (I_lcmp (I_ifeq (Wj true l G F Y_L_law Q QX (k + 2) (n + 12) 1900) (I_ic 0 (I_zr Q))))))))))) (I_ic 0 (I_zr Q)))))))))))))))))))))))))))))))))
set_option maxRecDepth 100000 in
theorem g_L_19 (hs : SCR G F Ln xs) (hk : k + 2 ≤ 601024 ∧ n + 12 ≤ 7293034) : Le (R_L_19 l G F Q QX k n Ln xs) (Wj true l G F Y_L_law Q QX k n 1500) := by
  unfold R_L_19
  refine r_aload_n (pc := 1500) ?_ dL_law_1500 rfl
  refine r_aload_n (pc := 1501) ?_ dL_law_1501 rfl
  refine r_iload (pc := 1502) ?_ dL_law_1502
  refine r_iconst (pc := 1504) ?_ dL_law_1504 (by decide)
  refine r_iadd (pc := 1505) ?_ dL_law_1505
  refine r_scv (pc := 1506) hs ?_ dL_law_1506
  refine r_aload_n (pc := 1507) ?_ dL_law_1507 rfl
  refine r_iload (pc := 1508) ?_ dL_law_1508
  refine r_iconst (pc := 1510) ?_ dL_law_1510 (by decide)
  refine r_iadd (pc := 1511) ?_ dL_law_1511
  refine r_scv (pc := 1512) hs ?_ dL_law_1512
  refine r_aload_n (pc := 1513) ?_ dL_law_1513 rfl
  refine r_csH (pc := 1514) (k := k) (n := n) (Yc := Y_L_completeOn) ?_ dL_law_1514 cw_completeOn wd_1_0 wd_5_69 wd_5_68 ⟨by decide, by decide⟩ (by decide +kernel) ⟨Nat.le_of_ble_eq_true rfl, Nat.le_of_ble_eq_true rfl⟩ ⟨(show k + 2 ≤ 601024 by omega), (show n + 12 ≤ 7293034 by omega)⟩
  refine r_istore (pc := 1517) ?_ dL_law_1517 (Nat.le_of_ble_eq_true rfl)
  refine r_aload_n (pc := 1519) ?_ dL_law_1519 rfl
  refine r_aload_n (pc := 1520) ?_ dL_law_1520 rfl
  refine r_iload (pc := 1521) ?_ dL_law_1521
  refine r_iconst (pc := 1523) ?_ dL_law_1523 (by decide)
  refine r_iadd (pc := 1524) ?_ dL_law_1524
  refine r_scv (pc := 1525) hs ?_ dL_law_1525
  refine r_aload_n (pc := 1526) ?_ dL_law_1526 rfl
  refine r_iload (pc := 1527) ?_ dL_law_1527
  refine r_iconst (pc := 1529) ?_ dL_law_1529 (by decide)
  refine r_iadd (pc := 1530) ?_ dL_law_1530
  refine r_scv (pc := 1531) hs ?_ dL_law_1531
  refine r_cv0 (pc := 1532) ?_ dL_law_1532 cl_X10 ok_X10_completeOn rfl wd_6_229 ⟨Nat.le_of_ble_eq_true rfl, Nat.le_of_ble_eq_true rfl⟩ ⟨(show (k + 2) ≤ 601024 by omega), (show (n + 12) ≤ 7293034 by omega)⟩ rfl rfl
  refine r_istore (pc := 1535) ?_ dL_law_1535 (Nat.le_of_ble_eq_true rfl)
  refine r_aload_n (pc := 1537) ?_ dL_law_1537 rfl
  refine r_cv0 (pc := 1538) ?_ dL_law_1538 cl_X10 ok_X10_thrown rfl wd_5_177 ⟨Nat.le_of_ble_eq_true rfl, Nat.le_of_ble_eq_true rfl⟩ ⟨(show (k + 2) ≤ 601024 by omega), (show (n + 12) ≤ 7293034 by omega)⟩ rfl rfl
  refine r_iload (pc := 1541) ?_ dL_law_1541
  refine r_iceq (pc := 1543) (t := 1548) ?_ ?_ dL_law_1543 (by decide)
  · refine r_iload (pc := 1548) ?_ dL_law_1548
    refine r_ifne (pc := 1550) (t := 1565) ?_ ?_ dL_law_1550 (by decide)
    · refine r_goto (pc := 1565) (t := 1900) ?_ dL_law_1565 (by decide)
      exact Le.rf
    · refine r_aload_n (pc := 1553) ?_ dL_law_1553 rfl
      refine r_iconst (pc := 1554) ?_ dL_law_1554 (by decide)
      refine r_lal (pc := 1555) ?_ dL_law_1555
      refine r_iload (pc := 1556) ?_ dL_law_1556
      refine r_i2l (pc := 1558) ?_ dL_law_1558
      refine r_lcmp (pc := 1559) ?_ dL_law_1559
      refine r_ifeq (pc := 1560) (t := 1565) ?_ ?_ dL_law_1560 (by decide)
      · refine r_goto (pc := 1565) (t := 1900) ?_ dL_law_1565 (by decide)
        exact Le.rf
      · refine r_iconst (pc := 1563) ?_ dL_law_1563 (by decide)
        exact r_zr dL_law_1564 rfl (show (k + 2) ≤ 601024 by omega) (show (n + 12) ≤ 7293034 by omega)
  · refine r_iconst (pc := 1546) ?_ dL_law_1546 (by decide)
    exact r_zr dL_law_1547 rfl (show (k + 2) ≤ 601024 by omega) (show (n + 12) ≤ 7293034 by omega)
def R_L_20 (l : Launch) (G : GT) (F : FX) (Q : PQ) (QX : PX) (k n Ln : Nat) (xs : Nat → Int32) : KT := (I_al 1 (I_al 0 (I_il 4 (I_ic 1 (I_iadd (I_scv Ln xs (I_al 3 (I_csH (fun As M Q => TrH l G Y_L_bestMentor hh_bestMentor As M Q) 3 (I_is 5 (I_al 2 (I_al 0 (I_il 4 (I_ic 1 (I_iadd (I_scv Ln xs (I_cv (Tr true l G Y_X10_bestMentor) 8 13 1 QX (I_is 6 (I_al 2 (I_cv (Tr true l G Y_X10_thrown) 8 13 0 QX (I_il 5 (I_iceq (I_il 5 (I_ifne (Wj true l G F Y_L_law Q QX (k + 1) (n + 6) 1900) (I_al 3 (I_ic 0 (I_lal (I_il 6 (I_i2l (I_lcmp (I_ifeq (Wj true l G F Y_L_law Q QX (k + 1) (n + 6) 1900) (I_ic 0 (I_zr Q))))))))))) (I_ic 0 (I_zr Q)))))))))))))))))))))))
set_option maxRecDepth 100000 in
theorem g_L_20 (hs : SCR G F Ln xs) (hk : k + 2 ≤ 601024 ∧ n + 12 ≤ 7293034) : Le (R_L_20 l G F Q QX k n Ln xs) (Wj true l G F Y_L_law Q QX k n 1568) := by
  unfold R_L_20
  refine r_aload_n (pc := 1568) ?_ dL_law_1568 rfl
  refine r_aload_n (pc := 1569) ?_ dL_law_1569 rfl
  refine r_iload (pc := 1570) ?_ dL_law_1570
  refine r_iconst (pc := 1572) ?_ dL_law_1572 (by decide)
  refine r_iadd (pc := 1573) ?_ dL_law_1573
  refine r_scv (pc := 1574) hs ?_ dL_law_1574
  refine r_aload_n (pc := 1575) ?_ dL_law_1575 rfl
  refine r_csH (pc := 1576) (k := k) (n := n) (Yc := Y_L_bestMentor) ?_ dL_law_1576 cw_bestMentor wd_1_0 wd_5_80 wd_5_79 ⟨by decide, by decide⟩ (by decide +kernel) ⟨Nat.le_of_ble_eq_true rfl, Nat.le_of_ble_eq_true rfl⟩ ⟨(show k + 1 ≤ 601024 by omega), (show n + 6 ≤ 7293034 by omega)⟩
  refine r_istore (pc := 1579) ?_ dL_law_1579 (Nat.le_of_ble_eq_true rfl)
  refine r_aload_n (pc := 1581) ?_ dL_law_1581 rfl
  refine r_aload_n (pc := 1582) ?_ dL_law_1582 rfl
  refine r_iload (pc := 1583) ?_ dL_law_1583
  refine r_iconst (pc := 1585) ?_ dL_law_1585 (by decide)
  refine r_iadd (pc := 1586) ?_ dL_law_1586
  refine r_scv (pc := 1587) hs ?_ dL_law_1587
  refine r_cv0 (pc := 1588) ?_ dL_law_1588 cl_X10 ok_X10_bestMentor rfl wd_6_233 ⟨Nat.le_of_ble_eq_true rfl, Nat.le_of_ble_eq_true rfl⟩ ⟨(show (k + 1) ≤ 601024 by omega), (show (n + 6) ≤ 7293034 by omega)⟩ rfl rfl
  refine r_istore (pc := 1591) ?_ dL_law_1591 (Nat.le_of_ble_eq_true rfl)
  refine r_aload_n (pc := 1593) ?_ dL_law_1593 rfl
  refine r_cv0 (pc := 1594) ?_ dL_law_1594 cl_X10 ok_X10_thrown rfl wd_5_177 ⟨Nat.le_of_ble_eq_true rfl, Nat.le_of_ble_eq_true rfl⟩ ⟨(show (k + 1) ≤ 601024 by omega), (show (n + 6) ≤ 7293034 by omega)⟩ rfl rfl
  refine r_iload (pc := 1597) ?_ dL_law_1597
  refine r_iceq (pc := 1599) (t := 1604) ?_ ?_ dL_law_1599 (by decide)
  · refine r_iload (pc := 1604) ?_ dL_law_1604
    refine r_ifne (pc := 1606) (t := 1621) ?_ ?_ dL_law_1606 (by decide)
    · refine r_goto (pc := 1621) (t := 1900) ?_ dL_law_1621 (by decide)
      exact Le.rf
    · refine r_aload_n (pc := 1609) ?_ dL_law_1609 rfl
      refine r_iconst (pc := 1610) ?_ dL_law_1610 (by decide)
      refine r_lal (pc := 1611) ?_ dL_law_1611
      refine r_iload (pc := 1612) ?_ dL_law_1612
      refine r_i2l (pc := 1614) ?_ dL_law_1614
      refine r_lcmp (pc := 1615) ?_ dL_law_1615
      refine r_ifeq (pc := 1616) (t := 1621) ?_ ?_ dL_law_1616 (by decide)
      · refine r_goto (pc := 1621) (t := 1900) ?_ dL_law_1621 (by decide)
        exact Le.rf
      · refine r_iconst (pc := 1619) ?_ dL_law_1619 (by decide)
        exact r_zr dL_law_1620 rfl (show (k + 1) ≤ 601024 by omega) (show (n + 6) ≤ 7293034 by omega)
  · refine r_iconst (pc := 1602) ?_ dL_law_1602 (by decide)
    exact r_zr dL_law_1603 rfl (show (k + 1) ≤ 601024 by omega) (show (n + 6) ≤ 7293034 by omega)
def R_L_21 (l : Launch) (G : GT) (F : FX) (Q : PQ) (QX : PX) (k n Ln : Nat) (xs : Nat → Int32) : KT := (I_al 1 (I_al 0 (I_il 4 (I_ic 1 (I_iadd (I_scv Ln xs (I_al 0 (I_il 4 (I_ic 2 (I_iadd (I_scv Ln xs (I_al 3 (I_csH (fun As M Q => TrH l G Y_L_doubtsBy hh_doubtsBy As M Q) 4 (I_is 5 (I_al 2 (I_al 0 (I_il 4 (I_ic 1 (I_iadd (I_scv Ln xs (I_al 0 (I_il 4 (I_ic 2 (I_iadd (I_scv Ln xs (I_cv (Tr true l G Y_X10_doubtsBy) 8 13 2 QX (I_is 6 (I_al 2 (I_cv (Tr true l G Y_X10_thrown) 8 13 0 QX (I_il 5 (I_iceq (I_il 5 (I_ifne (Wj true l G F Y_L_law Q QX (k + 1) (n + 6) 1900) (I_al 3 (I_ic 0 (I_lal (I_il 6 (I_i2l (I_lcmp (I_ifeq (Wj true l G F Y_L_law Q QX (k + 1) (n + 6) 1900) (I_ic 0 (I_zr Q))))))))))) (I_ic 0 (I_zr Q)))))))))))))))))))))))))))))))))
set_option maxRecDepth 100000 in
theorem g_L_21 (hs : SCR G F Ln xs) (hk : k + 2 ≤ 601024 ∧ n + 12 ≤ 7293034) : Le (R_L_21 l G F Q QX k n Ln xs) (Wj true l G F Y_L_law Q QX k n 1624) := by
  unfold R_L_21
  refine r_aload_n (pc := 1624) ?_ dL_law_1624 rfl
  refine r_aload_n (pc := 1625) ?_ dL_law_1625 rfl
  refine r_iload (pc := 1626) ?_ dL_law_1626
  refine r_iconst (pc := 1628) ?_ dL_law_1628 (by decide)
  refine r_iadd (pc := 1629) ?_ dL_law_1629
  refine r_scv (pc := 1630) hs ?_ dL_law_1630
  refine r_aload_n (pc := 1631) ?_ dL_law_1631 rfl
  refine r_iload (pc := 1632) ?_ dL_law_1632
  refine r_iconst (pc := 1634) ?_ dL_law_1634 (by decide)
  refine r_iadd (pc := 1635) ?_ dL_law_1635
  refine r_scv (pc := 1636) hs ?_ dL_law_1636
  refine r_aload_n (pc := 1637) ?_ dL_law_1637 rfl
  refine r_csH (pc := 1638) (k := k) (n := n) (Yc := Y_L_doubtsBy) ?_ dL_law_1638 cw_doubtsBy wd_1_0 wd_5_87 wd_5_86 ⟨by decide, by decide⟩ (by decide +kernel) ⟨Nat.le_of_ble_eq_true rfl, Nat.le_of_ble_eq_true rfl⟩ ⟨(show k + 1 ≤ 601024 by omega), (show n + 6 ≤ 7293034 by omega)⟩
  refine r_istore (pc := 1641) ?_ dL_law_1641 (Nat.le_of_ble_eq_true rfl)
  refine r_aload_n (pc := 1643) ?_ dL_law_1643 rfl
  refine r_aload_n (pc := 1644) ?_ dL_law_1644 rfl
  refine r_iload (pc := 1645) ?_ dL_law_1645
  refine r_iconst (pc := 1647) ?_ dL_law_1647 (by decide)
  refine r_iadd (pc := 1648) ?_ dL_law_1648
  refine r_scv (pc := 1649) hs ?_ dL_law_1649
  refine r_aload_n (pc := 1650) ?_ dL_law_1650 rfl
  refine r_iload (pc := 1651) ?_ dL_law_1651
  refine r_iconst (pc := 1653) ?_ dL_law_1653 (by decide)
  refine r_iadd (pc := 1654) ?_ dL_law_1654
  refine r_scv (pc := 1655) hs ?_ dL_law_1655
  refine r_cv0 (pc := 1656) ?_ dL_law_1656 cl_X10 ok_X10_doubtsBy rfl wd_7_1 ⟨Nat.le_of_ble_eq_true rfl, Nat.le_of_ble_eq_true rfl⟩ ⟨(show (k + 1) ≤ 601024 by omega), (show (n + 6) ≤ 7293034 by omega)⟩ rfl rfl
  refine r_istore (pc := 1659) ?_ dL_law_1659 (Nat.le_of_ble_eq_true rfl)
  refine r_aload_n (pc := 1661) ?_ dL_law_1661 rfl
  refine r_cv0 (pc := 1662) ?_ dL_law_1662 cl_X10 ok_X10_thrown rfl wd_5_177 ⟨Nat.le_of_ble_eq_true rfl, Nat.le_of_ble_eq_true rfl⟩ ⟨(show (k + 1) ≤ 601024 by omega), (show (n + 6) ≤ 7293034 by omega)⟩ rfl rfl
  refine r_iload (pc := 1665) ?_ dL_law_1665
  refine r_iceq (pc := 1667) (t := 1672) ?_ ?_ dL_law_1667 (by decide)
  · refine r_iload (pc := 1672) ?_ dL_law_1672
    refine r_ifne (pc := 1674) (t := 1689) ?_ ?_ dL_law_1674 (by decide)
    · refine r_goto (pc := 1689) (t := 1900) ?_ dL_law_1689 (by decide)
      exact Le.rf
    · refine r_aload_n (pc := 1677) ?_ dL_law_1677 rfl
      refine r_iconst (pc := 1678) ?_ dL_law_1678 (by decide)
      refine r_lal (pc := 1679) ?_ dL_law_1679
      refine r_iload (pc := 1680) ?_ dL_law_1680
      refine r_i2l (pc := 1682) ?_ dL_law_1682
      refine r_lcmp (pc := 1683) ?_ dL_law_1683
      refine r_ifeq (pc := 1684) (t := 1689) ?_ ?_ dL_law_1684 (by decide)
      · refine r_goto (pc := 1689) (t := 1900) ?_ dL_law_1689 (by decide)
        exact Le.rf
      · refine r_iconst (pc := 1687) ?_ dL_law_1687 (by decide)
        exact r_zr dL_law_1688 rfl (show (k + 1) ≤ 601024 by omega) (show (n + 6) ≤ 7293034 by omega)
  · refine r_iconst (pc := 1670) ?_ dL_law_1670 (by decide)
    exact r_zr dL_law_1671 rfl (show (k + 1) ≤ 601024 by omega) (show (n + 6) ≤ 7293034 by omega)
def R_L_22 (l : Launch) (G : GT) (F : FX) (Q : PQ) (QX : PX) (k n Ln : Nat) (xs : Nat → Int32) : KT := (I_al 1 (I_al 0 (I_il 4 (I_ic 1 (I_iadd (I_scv Ln xs (I_al 0 (I_il 4 (I_ic 2 (I_iadd (I_scv Ln xs (I_al 3 (I_csH (fun As M Q => TrH l G Y_L_nextRelease hh_nextRelease As M Q) 4 (I_is 5 (I_al 2 (I_al 0 (I_il 4 (I_ic 1 (I_iadd (I_scv Ln xs (I_al 0 (I_il 4 (I_ic 2 (I_iadd (I_scv Ln xs (I_cv (Tr true l G Y_X10_nextRelease) 8 13 2 QX (I_is 6 (I_al 2 (I_cv (Tr true l G Y_X10_thrown) 8 13 0 QX (I_il 5 (I_iceq (I_il 5 (I_ifne (Wj true l G F Y_L_law Q QX (k + 2) (n + 12) 1900) (I_al 3 (I_ic 0 (I_lal (I_il 6 (I_i2l (I_lcmp (I_ifeq (Wj true l G F Y_L_law Q QX (k + 2) (n + 12) 1900) (I_ic 0 (I_zr Q))))))))))) (I_ic 0 (I_zr Q)))))))))))))))))))))))))))))))))
set_option maxRecDepth 100000 in
theorem g_L_22 (hs : SCR G F Ln xs) (hk : k + 2 ≤ 601024 ∧ n + 12 ≤ 7293034) : Le (R_L_22 l G F Q QX k n Ln xs) (Wj true l G F Y_L_law Q QX k n 1692) := by
  unfold R_L_22
  refine r_aload_n (pc := 1692) ?_ dL_law_1692 rfl
  refine r_aload_n (pc := 1693) ?_ dL_law_1693 rfl
  refine r_iload (pc := 1694) ?_ dL_law_1694
  refine r_iconst (pc := 1696) ?_ dL_law_1696 (by decide)
  refine r_iadd (pc := 1697) ?_ dL_law_1697
  refine r_scv (pc := 1698) hs ?_ dL_law_1698
  refine r_aload_n (pc := 1699) ?_ dL_law_1699 rfl
  refine r_iload (pc := 1700) ?_ dL_law_1700
  refine r_iconst (pc := 1702) ?_ dL_law_1702 (by decide)
  refine r_iadd (pc := 1703) ?_ dL_law_1703
  refine r_scv (pc := 1704) hs ?_ dL_law_1704
  refine r_aload_n (pc := 1705) ?_ dL_law_1705 rfl
  refine r_csH (pc := 1706) (k := k) (n := n) (Yc := Y_L_nextRelease) ?_ dL_law_1706 cw_nextRelease wd_1_0 wd_5_103 wd_5_102 ⟨by decide, by decide⟩ (by decide +kernel) ⟨Nat.le_of_ble_eq_true rfl, Nat.le_of_ble_eq_true rfl⟩ ⟨(show k + 2 ≤ 601024 by omega), (show n + 12 ≤ 7293034 by omega)⟩
  refine r_istore (pc := 1709) ?_ dL_law_1709 (Nat.le_of_ble_eq_true rfl)
  refine r_aload_n (pc := 1711) ?_ dL_law_1711 rfl
  refine r_aload_n (pc := 1712) ?_ dL_law_1712 rfl
  refine r_iload (pc := 1713) ?_ dL_law_1713
  refine r_iconst (pc := 1715) ?_ dL_law_1715 (by decide)
  refine r_iadd (pc := 1716) ?_ dL_law_1716
  refine r_scv (pc := 1717) hs ?_ dL_law_1717
  refine r_aload_n (pc := 1718) ?_ dL_law_1718 rfl
  refine r_iload (pc := 1719) ?_ dL_law_1719
  refine r_iconst (pc := 1721) ?_ dL_law_1721 (by decide)
  refine r_iadd (pc := 1722) ?_ dL_law_1722
  refine r_scv (pc := 1723) hs ?_ dL_law_1723
  refine r_cv0 (pc := 1724) ?_ dL_law_1724 cl_X10 ok_X10_nextRelease rfl wd_7_5 ⟨Nat.le_of_ble_eq_true rfl, Nat.le_of_ble_eq_true rfl⟩ ⟨(show (k + 2) ≤ 601024 by omega), (show (n + 12) ≤ 7293034 by omega)⟩ rfl rfl
  refine r_istore (pc := 1727) ?_ dL_law_1727 (Nat.le_of_ble_eq_true rfl)
  refine r_aload_n (pc := 1729) ?_ dL_law_1729 rfl
  refine r_cv0 (pc := 1730) ?_ dL_law_1730 cl_X10 ok_X10_thrown rfl wd_5_177 ⟨Nat.le_of_ble_eq_true rfl, Nat.le_of_ble_eq_true rfl⟩ ⟨(show (k + 2) ≤ 601024 by omega), (show (n + 12) ≤ 7293034 by omega)⟩ rfl rfl
  refine r_iload (pc := 1733) ?_ dL_law_1733
  refine r_iceq (pc := 1735) (t := 1740) ?_ ?_ dL_law_1735 (by decide)
  · refine r_iload (pc := 1740) ?_ dL_law_1740
    refine r_ifne (pc := 1742) (t := 1757) ?_ ?_ dL_law_1742 (by decide)
    · refine r_goto (pc := 1757) (t := 1900) ?_ dL_law_1757 (by decide)
      exact Le.rf
    · refine r_aload_n (pc := 1745) ?_ dL_law_1745 rfl
      refine r_iconst (pc := 1746) ?_ dL_law_1746 (by decide)
      refine r_lal (pc := 1747) ?_ dL_law_1747
      refine r_iload (pc := 1748) ?_ dL_law_1748
      refine r_i2l (pc := 1750) ?_ dL_law_1750
      refine r_lcmp (pc := 1751) ?_ dL_law_1751
      refine r_ifeq (pc := 1752) (t := 1757) ?_ ?_ dL_law_1752 (by decide)
      · refine r_goto (pc := 1757) (t := 1900) ?_ dL_law_1757 (by decide)
        exact Le.rf
      · refine r_iconst (pc := 1755) ?_ dL_law_1755 (by decide)
        exact r_zr dL_law_1756 rfl (show (k + 2) ≤ 601024 by omega) (show (n + 12) ≤ 7293034 by omega)
  · refine r_iconst (pc := 1738) ?_ dL_law_1738 (by decide)
    exact r_zr dL_law_1739 rfl (show (k + 2) ≤ 601024 by omega) (show (n + 12) ≤ 7293034 by omega)
def R_L_23 (l : Launch) (G : GT) (F : FX) (Q : PQ) (QX : PX) (k n Ln : Nat) (xs : Nat → Int32) : KT := (I_al 1 (I_al 0 (I_il 4 (I_ic 1 (I_iadd (I_scv Ln xs (I_al 3 (I_csH (fun As M Q => TrH l G Y_L_type hh_type As M Q) 3 (I_is 5 (I_al 2 (I_al 0 (I_il 4 (I_ic 1 (I_iadd (I_scv Ln xs (I_cv (Tr true l G Y_X10_type) 8 13 1 QX (I_is 6 (I_al 2 (I_cv (Tr true l G Y_X10_thrown) 8 13 0 QX (I_il 5 (I_iceq (I_il 5 (I_ifne (Wj true l G F Y_L_law Q QX (k + 2) (n + 12) 1900) (I_al 3 (I_ic 0 (I_lal (I_il 6 (I_i2l (I_lcmp (I_ifeq (Wj true l G F Y_L_law Q QX (k + 2) (n + 12) 1900) (I_ic 0 (I_zr Q))))))))))) (I_ic 0 (I_zr Q)))))))))))))))))))))))
set_option maxRecDepth 100000 in
theorem g_L_23 (hs : SCR G F Ln xs) (hk : k + 2 ≤ 601024 ∧ n + 12 ≤ 7293034) : Le (R_L_23 l G F Q QX k n Ln xs) (Wj true l G F Y_L_law Q QX k n 1760) := by
  unfold R_L_23
  refine r_aload_n (pc := 1760) ?_ dL_law_1760 rfl
  refine r_aload_n (pc := 1761) ?_ dL_law_1761 rfl
  refine r_iload (pc := 1762) ?_ dL_law_1762
  refine r_iconst (pc := 1764) ?_ dL_law_1764 (by decide)
  refine r_iadd (pc := 1765) ?_ dL_law_1765
  refine r_scv (pc := 1766) hs ?_ dL_law_1766
  refine r_aload_n (pc := 1767) ?_ dL_law_1767 rfl
  refine r_csH (pc := 1768) (k := k) (n := n) (Yc := Y_L_type) ?_ dL_law_1768 cw_type wd_1_0 wd_5_110 wd_5_109 ⟨by decide, by decide⟩ (by decide +kernel) ⟨Nat.le_of_ble_eq_true rfl, Nat.le_of_ble_eq_true rfl⟩ ⟨(show k + 2 ≤ 601024 by omega), (show n + 12 ≤ 7293034 by omega)⟩
  refine r_istore (pc := 1771) ?_ dL_law_1771 (Nat.le_of_ble_eq_true rfl)
  refine r_aload_n (pc := 1773) ?_ dL_law_1773 rfl
  refine r_aload_n (pc := 1774) ?_ dL_law_1774 rfl
  refine r_iload (pc := 1775) ?_ dL_law_1775
  refine r_iconst (pc := 1777) ?_ dL_law_1777 (by decide)
  refine r_iadd (pc := 1778) ?_ dL_law_1778
  refine r_scv (pc := 1779) hs ?_ dL_law_1779
  refine r_cv0 (pc := 1780) ?_ dL_law_1780 cl_X10 ok_X10_type rfl wd_7_13 ⟨Nat.le_of_ble_eq_true rfl, Nat.le_of_ble_eq_true rfl⟩ ⟨(show (k + 2) ≤ 601024 by omega), (show (n + 12) ≤ 7293034 by omega)⟩ rfl rfl
  refine r_istore (pc := 1783) ?_ dL_law_1783 (Nat.le_of_ble_eq_true rfl)
  refine r_aload_n (pc := 1785) ?_ dL_law_1785 rfl
  refine r_cv0 (pc := 1786) ?_ dL_law_1786 cl_X10 ok_X10_thrown rfl wd_5_177 ⟨Nat.le_of_ble_eq_true rfl, Nat.le_of_ble_eq_true rfl⟩ ⟨(show (k + 2) ≤ 601024 by omega), (show (n + 12) ≤ 7293034 by omega)⟩ rfl rfl
  refine r_iload (pc := 1789) ?_ dL_law_1789
  refine r_iceq (pc := 1791) (t := 1796) ?_ ?_ dL_law_1791 (by decide)
  · refine r_iload (pc := 1796) ?_ dL_law_1796
    refine r_ifne (pc := 1798) (t := 1813) ?_ ?_ dL_law_1798 (by decide)
    · refine r_goto (pc := 1813) (t := 1900) ?_ dL_law_1813 (by decide)
      exact Le.rf
    · refine r_aload_n (pc := 1801) ?_ dL_law_1801 rfl
      refine r_iconst (pc := 1802) ?_ dL_law_1802 (by decide)
      refine r_lal (pc := 1803) ?_ dL_law_1803
      refine r_iload (pc := 1804) ?_ dL_law_1804
      refine r_i2l (pc := 1806) ?_ dL_law_1806
      refine r_lcmp (pc := 1807) ?_ dL_law_1807
      refine r_ifeq (pc := 1808) (t := 1813) ?_ ?_ dL_law_1808 (by decide)
      · refine r_goto (pc := 1813) (t := 1900) ?_ dL_law_1813 (by decide)
        exact Le.rf
      · refine r_iconst (pc := 1811) ?_ dL_law_1811 (by decide)
        exact r_zr dL_law_1812 rfl (show (k + 2) ≤ 601024 by omega) (show (n + 12) ≤ 7293034 by omega)
  · refine r_iconst (pc := 1794) ?_ dL_law_1794 (by decide)
    exact r_zr dL_law_1795 rfl (show (k + 2) ≤ 601024 by omega) (show (n + 12) ≤ 7293034 by omega)
def R_L_24 (l : Launch) (G : GT) (F : FX) (Q : PQ) (QX : PX) (k n Ln : Nat) (xs : Nat → Int32) : KT := (I_al 1 (I_cv (Tr true l G Y_X9_clearCommands) 7 3 0 QX (I_al 2 (I_cv (Tr true l G Y_X10_clearCommands) 8 13 0 QX (I_iceq (Wj true l G F Y_L_law Q QX k n 1900) (I_ic 0 (I_zr Q)))))))
set_option maxRecDepth 100000 in
theorem g_L_24 (hs : SCR G F Ln xs) (hk : k + 2 ≤ 601024 ∧ n + 12 ≤ 7293034) : Le (R_L_24 l G F Q QX k n Ln xs) (Wj true l G F Y_L_law Q QX k n 1816) := by
  unfold R_L_24
  refine r_aload_n (pc := 1816) ?_ dL_law_1816 rfl
  refine r_cv0 (pc := 1817) ?_ dL_law_1817 cl_X9 ok_X9_clearCommands rfl wd_2_9 ⟨Nat.le_of_ble_eq_true rfl, Nat.le_of_ble_eq_true rfl⟩ ⟨(show k ≤ 601024 by omega), (show n ≤ 7293034 by omega)⟩ rfl rfl
  refine r_aload_n (pc := 1820) ?_ dL_law_1820 rfl
  refine r_cv0 (pc := 1821) ?_ dL_law_1821 cl_X10 ok_X10_clearCommands rfl wd_7_18 ⟨Nat.le_of_ble_eq_true rfl, Nat.le_of_ble_eq_true rfl⟩ ⟨(show k ≤ 601024 by omega), (show n ≤ 7293034 by omega)⟩ rfl rfl
  refine r_iceq (pc := 1824) (t := 1900) ?_ ?_ dL_law_1824 (by decide)
  · exact Le.rf
  · refine r_iconst (pc := 1827) ?_ dL_law_1827 (by decide)
    exact r_zr dL_law_1828 rfl (show k ≤ 601024 by omega) (show n ≤ 7293034 by omega)
def R_L_25 (l : Launch) (G : GT) (F : FX) (Q : PQ) (QX : PX) (k n Ln : Nat) (xs : Nat → Int32) : KT := (I_al 1 (I_cv (Tr true l G Y_X9_runCommands) 7 3 0 QX (I_al 2 (I_cv (Tr true l G Y_X10_runCommands) 8 13 0 QX (I_iceq (Wj true l G F Y_L_law Q QX k n 1900) (I_ic 0 (I_zr Q)))))))
set_option maxRecDepth 100000 in
theorem g_L_25 (hs : SCR G F Ln xs) (hk : k + 2 ≤ 601024 ∧ n + 12 ≤ 7293034) : Le (R_L_25 l G F Q QX k n Ln xs) (Wj true l G F Y_L_law Q QX k n 1829) := by
  unfold R_L_25
  refine r_aload_n (pc := 1829) ?_ dL_law_1829 rfl
  refine r_cv0 (pc := 1830) ?_ dL_law_1830 cl_X9 ok_X9_runCommands rfl wd_2_17 ⟨Nat.le_of_ble_eq_true rfl, Nat.le_of_ble_eq_true rfl⟩ ⟨(show k ≤ 601024 by omega), (show n ≤ 7293034 by omega)⟩ rfl rfl
  refine r_aload_n (pc := 1833) ?_ dL_law_1833 rfl
  refine r_cv0 (pc := 1834) ?_ dL_law_1834 cl_X10 ok_X10_runCommands rfl wd_7_22 ⟨Nat.le_of_ble_eq_true rfl, Nat.le_of_ble_eq_true rfl⟩ ⟨(show k ≤ 601024 by omega), (show n ≤ 7293034 by omega)⟩ rfl rfl
  refine r_iceq (pc := 1837) (t := 1900) ?_ ?_ dL_law_1837 (by decide)
  · exact Le.rf
  · refine r_iconst (pc := 1840) ?_ dL_law_1840 (by decide)
    exact r_zr dL_law_1841 rfl (show k ≤ 601024 by omega) (show n ≤ 7293034 by omega)
def R_L_26 (l : Launch) (G : GT) (F : FX) (Q : PQ) (QX : PX) (k n Ln : Nat) (xs : Nat → Int32) : KT := (I_al 1 (I_al 3 (I_csH (fun As M Q => TrH l G Y_L_undo hh_undo As M Q) 2 (I_is 5 (I_al 2 (I_cv (Tr true l G Y_X10_undo) 8 13 0 QX (I_is 6 (I_al 2 (I_cv (Tr true l G Y_X10_thrown) 8 13 0 QX (I_il 5 (I_iceq (I_il 5 (I_ifne (Wj true l G F Y_L_law Q QX (k + 1) (n + 6) 1900) (I_al 3 (I_ic 0 (I_lal (I_il 6 (I_i2l (I_lcmp (I_ifeq (Wj true l G F Y_L_law Q QX (k + 1) (n + 6) 1900) (I_ic 0 (I_zr Q))))))))))) (I_ic 0 (I_zr Q)))))))))))))
set_option maxRecDepth 100000 in
theorem g_L_26 (hs : SCR G F Ln xs) (hk : k + 2 ≤ 601024 ∧ n + 12 ≤ 7293034) : Le (R_L_26 l G F Q QX k n Ln xs) (Wj true l G F Y_L_law Q QX k n 1842) := by
  unfold R_L_26
  refine r_aload_n (pc := 1842) ?_ dL_law_1842 rfl
  refine r_aload_n (pc := 1843) ?_ dL_law_1843 rfl
  refine r_csH (pc := 1844) (k := k) (n := n) (Yc := Y_L_undo) ?_ dL_law_1844 cw_undo wd_1_0 wd_5_121 wd_5_120 ⟨by decide, by decide⟩ (by decide +kernel) ⟨Nat.le_of_ble_eq_true rfl, Nat.le_of_ble_eq_true rfl⟩ ⟨(show k + 1 ≤ 601024 by omega), (show n + 6 ≤ 7293034 by omega)⟩
  refine r_istore (pc := 1847) ?_ dL_law_1847 (Nat.le_of_ble_eq_true rfl)
  refine r_aload_n (pc := 1849) ?_ dL_law_1849 rfl
  refine r_cv0 (pc := 1850) ?_ dL_law_1850 cl_X10 ok_X10_undo rfl wd_7_72 ⟨Nat.le_of_ble_eq_true rfl, Nat.le_of_ble_eq_true rfl⟩ ⟨(show (k + 1) ≤ 601024 by omega), (show (n + 6) ≤ 7293034 by omega)⟩ rfl rfl
  refine r_istore (pc := 1853) ?_ dL_law_1853 (Nat.le_of_ble_eq_true rfl)
  refine r_aload_n (pc := 1855) ?_ dL_law_1855 rfl
  refine r_cv0 (pc := 1856) ?_ dL_law_1856 cl_X10 ok_X10_thrown rfl wd_5_177 ⟨Nat.le_of_ble_eq_true rfl, Nat.le_of_ble_eq_true rfl⟩ ⟨(show (k + 1) ≤ 601024 by omega), (show (n + 6) ≤ 7293034 by omega)⟩ rfl rfl
  refine r_iload (pc := 1859) ?_ dL_law_1859
  refine r_iceq (pc := 1861) (t := 1866) ?_ ?_ dL_law_1861 (by decide)
  · refine r_iload (pc := 1866) ?_ dL_law_1866
    refine r_ifne (pc := 1868) (t := 1883) ?_ ?_ dL_law_1868 (by decide)
    · refine r_goto (pc := 1883) (t := 1900) ?_ dL_law_1883 (by decide)
      exact Le.rf
    · refine r_aload_n (pc := 1871) ?_ dL_law_1871 rfl
      refine r_iconst (pc := 1872) ?_ dL_law_1872 (by decide)
      refine r_lal (pc := 1873) ?_ dL_law_1873
      refine r_iload (pc := 1874) ?_ dL_law_1874
      refine r_i2l (pc := 1876) ?_ dL_law_1876
      refine r_lcmp (pc := 1877) ?_ dL_law_1877
      refine r_ifeq (pc := 1878) (t := 1883) ?_ ?_ dL_law_1878 (by decide)
      · refine r_goto (pc := 1883) (t := 1900) ?_ dL_law_1883 (by decide)
        exact Le.rf
      · refine r_iconst (pc := 1881) ?_ dL_law_1881 (by decide)
        exact r_zr dL_law_1882 rfl (show (k + 1) ≤ 601024 by omega) (show (n + 6) ≤ 7293034 by omega)
  · refine r_iconst (pc := 1864) ?_ dL_law_1864 (by decide)
    exact r_zr dL_law_1865 rfl (show (k + 1) ≤ 601024 by omega) (show (n + 6) ≤ 7293034 by omega)
def R_L_27 (l : Launch) (G : GT) (F : FX) (Q : PQ) (QX : PX) (k n Ln : Nat) (xs : Nat → Int32) : KT := (I_al 1 (I_cv (Tr true l G Y_X9_digest) 7 3 0 QX (I_al 2 (I_cv (Tr true l G Y_X10_digest) 8 13 0 QX (I_lcmp (I_ifeq (Wj true l G F Y_L_law Q QX k n 1900) (I_ic 0 (I_zr Q))))))))
set_option maxRecDepth 100000 in
theorem g_L_27 (hs : SCR G F Ln xs) (hk : k + 2 ≤ 601024 ∧ n + 12 ≤ 7293034) : Le (R_L_27 l G F Q QX k n Ln xs) (Wj true l G F Y_L_law Q QX k n 1886) := by
  unfold R_L_27
  refine r_aload_n (pc := 1886) ?_ dL_law_1886 rfl
  refine r_cv0 (pc := 1887) ?_ dL_law_1887 cl_X9 ok_X9_digest rfl wd_3_198 ⟨Nat.le_of_ble_eq_true rfl, Nat.le_of_ble_eq_true rfl⟩ ⟨(show k ≤ 601024 by omega), (show n ≤ 7293034 by omega)⟩ rfl rfl
  refine r_aload_n (pc := 1890) ?_ dL_law_1890 rfl
  refine r_cv0 (pc := 1891) ?_ dL_law_1891 cl_X10 ok_X10_digest rfl wd_7_76 ⟨Nat.le_of_ble_eq_true rfl, Nat.le_of_ble_eq_true rfl⟩ ⟨(show k ≤ 601024 by omega), (show n ≤ 7293034 by omega)⟩ rfl rfl
  refine r_lcmp (pc := 1894) ?_ dL_law_1894
  refine r_ifeq (pc := 1895) (t := 1900) ?_ ?_ dL_law_1895 (by decide)
  · exact Le.rf
  · refine r_iconst (pc := 1898) ?_ dL_law_1898 (by decide)
    exact r_zr dL_law_1899 rfl (show k ≤ 601024 by omega) (show n ≤ 7293034 by omega)
def R_L_head (l : Launch) (G : GT) (F : FX) (Q : PQ) (QX : PX) (k n Ln : Nat) (xs : Nat → Int32) : KT := (I_il 4 (I_al 0 (I_scl Ln (I_ic 5 (I_isub (I_icgt (I_ic 1 (I_zr Q)) (I_al 0 (I_il 4 (I_scv Ln xs (I_ic 31 (I_iand (I_sw 0 [(Wj true l G F Y_L_law Q QX k n 164), (Wj true l G F Y_L_law Q QX k n 244), (Wj true l G F Y_L_law Q QX k n 312), (Wj true l G F Y_L_law Q QX k n 380), (Wj true l G F Y_L_law Q QX k n 448), (Wj true l G F Y_L_law Q QX k n 528), (Wj true l G F Y_L_law Q QX k n 596), (Wj true l G F Y_L_law Q QX k n 652), (Wj true l G F Y_L_law Q QX k n 736), (Wj true l G F Y_L_law Q QX k n 816), (Wj true l G F Y_L_law Q QX k n 860), (Wj true l G F Y_L_law Q QX k n 928), (Wj true l G F Y_L_law Q QX k n 984), (Wj true l G F Y_L_law Q QX k n 1052), (Wj true l G F Y_L_law Q QX k n 1120), (Wj true l G F Y_L_law Q QX k n 1188), (Wj true l G F Y_L_law Q QX k n 1256), (Wj true l G F Y_L_law Q QX k n 1336), (Wj true l G F Y_L_law Q QX k n 1444), (Wj true l G F Y_L_law Q QX k n 1500), (Wj true l G F Y_L_law Q QX k n 1568), (Wj true l G F Y_L_law Q QX k n 1624), (Wj true l G F Y_L_law Q QX k n 1692), (Wj true l G F Y_L_law Q QX k n 1760), (Wj true l G F Y_L_law Q QX k n 1816), (Wj true l G F Y_L_law Q QX k n 1829), (Wj true l G F Y_L_law Q QX k n 1842), (Wj true l G F Y_L_law Q QX k n 1886)] (Wj true l G F Y_L_law Q QX k n 1900)))))))))))))
set_option maxRecDepth 100000 in
theorem g_L_head (hs : SCR G F Ln xs) (hk : k ≤ 601024 ∧ n ≤ 7293034) : Le (R_L_head l G F Q QX k n Ln xs) (Wj true l G F Y_L_law Q QX k n 23) := by
  unfold R_L_head
  refine r_iload (pc := 23) ?_ dL_law_23
  refine r_aload_n (pc := 25) ?_ dL_law_25 rfl
  refine r_scl (pc := 26) hs ?_ dL_law_26
  refine r_iconst (pc := 27) ?_ dL_law_27 (by decide)
  refine r_isub (pc := 28) ?_ dL_law_28
  refine r_icgt (pc := 29) (t := 1906) ?_ ?_ dL_law_29 (by decide)
  · refine r_iconst (pc := 1906) ?_ dL_law_1906 (by decide)
    exact r_zr dL_law_1907 rfl hk.1 hk.2
  · refine r_aload_n (pc := 32) ?_ dL_law_32 rfl
    refine r_iload (pc := 33) ?_ dL_law_33
    refine r_scv (pc := 35) hs ?_ dL_law_35
    refine r_bipush (pc := 36) ?_ dL_law_36 (by decide)
    refine r_iand (pc := 38) ?_ dL_law_38
    exact r_sw (pc := 39) (t := 1900) (os := [125, 205, 273, 341, 409, 489, 557, 613, 697, 777, 821, 889, 945, 1013, 1081, 1149, 1217, 1297, 1405, 1461, 1529, 1585, 1653, 1721, 1777, 1790, 1803, 1847]) Le.rf ⟨⟨164, by decide, Le.rf⟩, ⟨⟨244, by decide, Le.rf⟩, ⟨⟨312, by decide, Le.rf⟩, ⟨⟨380, by decide, Le.rf⟩, ⟨⟨448, by decide, Le.rf⟩, ⟨⟨528, by decide, Le.rf⟩, ⟨⟨596, by decide, Le.rf⟩, ⟨⟨652, by decide, Le.rf⟩, ⟨⟨736, by decide, Le.rf⟩, ⟨⟨816, by decide, Le.rf⟩, ⟨⟨860, by decide, Le.rf⟩, ⟨⟨928, by decide, Le.rf⟩, ⟨⟨984, by decide, Le.rf⟩, ⟨⟨1052, by decide, Le.rf⟩, ⟨⟨1120, by decide, Le.rf⟩, ⟨⟨1188, by decide, Le.rf⟩, ⟨⟨1256, by decide, Le.rf⟩, ⟨⟨1336, by decide, Le.rf⟩, ⟨⟨1444, by decide, Le.rf⟩, ⟨⟨1500, by decide, Le.rf⟩, ⟨⟨1568, by decide, Le.rf⟩, ⟨⟨1624, by decide, Le.rf⟩, ⟨⟨1692, by decide, Le.rf⟩, ⟨⟨1760, by decide, Le.rf⟩, ⟨⟨1816, by decide, Le.rf⟩, ⟨⟨1829, by decide, Le.rf⟩, ⟨⟨1842, by decide, Le.rf⟩, ⟨⟨1886, by decide, Le.rf⟩, trivial⟩⟩⟩⟩⟩⟩⟩⟩⟩⟩⟩⟩⟩⟩⟩⟩⟩⟩⟩⟩⟩⟩⟩⟩⟩⟩⟩⟩ dL_law_39 rfl rfl (by decide)
theorem g_L_1900 : Le (I_inc 4 5 (Wj true l G F Y_L_law Q QX k n 23)) (Wj true l G F Y_L_law Q QX k n 1900) := by
  refine r_iinc (pc := 1900) ?_ dL_law_1900 (by decide) (Nat.le_of_ble_eq_true rfl)
  refine r_goto (pc := 1903) (t := 23) ?_ dL_law_1903 (by decide)
  exact Le.rf
def R_L_p (l : Launch) (G : GT) (F : FX) (Q : PQ) (QX : PX) : KT := (I_new 7 3 (I_dup (I_ci (fun As M Q => Tr false l G Y_X9_init As M Q NX) (I_as 1 (I_new 8 13 (I_dup (I_ci (fun As M Q => Tr false l G Y_X10_init As M Q NX) (I_as 2 (I_ic 1 (I_naL 1 1 (I_as 3 (I_ic 0 (I_is 4 (Wj false l G F Y_L_law Q QX 1106 14652 23))))))))))))))
set_option maxRecDepth 100000 in
theorem g_L_p : Le (R_L_p l G F Q QX) (Wj false l G F Y_L_law Q QX 0 0 0) := by
  unfold R_L_p
  refine r_new (pc := 0) (k := 0) (n := 0) ?_ dL_law_0 cl_X9 wd_1_23 wd_1_24 wd_1_1 df_X9 ⟨Nat.le_of_ble_eq_true rfl, Nat.le_of_ble_eq_true rfl⟩
  refine r_dup (pc := 3) ?_ dL_law_3
  refine r_ci (pc := 4) (k := 1) (n := 3) (Yc := Y_X9_init) ?_ dL_law_4 ok_X9_init rfl rfl wd_1_26 wd_1_25 ⟨Nat.le_of_ble_eq_true rfl, Nat.le_of_ble_eq_true rfl⟩ ⟨Nat.le_of_ble_eq_true rfl, Nat.le_of_ble_eq_true rfl⟩
  refine r_astore_n (pc := 7) ?_ dL_law_7 rfl (Nat.le_of_ble_eq_true rfl)
  refine r_new (pc := 8) (k := 1098) (n := 11496) ?_ dL_law_8 cl_X10 wd_5_131 wd_5_132 wd_1_9 df_X10 ⟨Nat.le_of_ble_eq_true rfl, Nat.le_of_ble_eq_true rfl⟩
  refine r_dup (pc := 11) ?_ dL_law_11
  refine r_ci (pc := 12) (k := 1099) (n := 11509) (Yc := Y_X10_init) ?_ dL_law_12 ok_X10_init rfl rfl wd_5_134 wd_5_133 ⟨Nat.le_of_ble_eq_true rfl, Nat.le_of_ble_eq_true rfl⟩ ⟨Nat.le_of_ble_eq_true rfl, Nat.le_of_ble_eq_true rfl⟩
  refine r_astore_n (pc := 15) ?_ dL_law_15 rfl (Nat.le_of_ble_eq_true rfl)
  refine r_iconst (pc := 16) ?_ dL_law_16 (by decide)
  refine r_naL (pc := 17) (k := 1105) (n := 14651) (len := 1) ?_ dL_law_17 wd_1_97 (by decide) (by decide) (Nat.le_of_ble_eq_true rfl) ⟨Nat.le_of_ble_eq_true rfl, Nat.le_of_ble_eq_true rfl⟩
  refine r_astore_n (pc := 19) ?_ dL_law_19 rfl (Nat.le_of_ble_eq_true rfl)
  refine r_iconst (pc := 20) ?_ dL_law_20 (by decide)
  refine r_istore (pc := 21) ?_ dL_law_21 (Nat.le_of_ble_eq_true rfl)
  exact Le.rf
end LAW
