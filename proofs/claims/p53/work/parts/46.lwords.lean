/-! ===== the law's own methods: words ===== -/
abbrev mL_at : MI := (yL_at, cL_at, 2, (Option.some Jvm.ClassFile.FieldType.int), [], { frames := 1, cells := 0, slots := 0, locals := 20 })
theorem cdL_at : mcode mL_at ∈ GW := gw_tab 321 (by decide +kernel) (by decide +kernel)
abbrev mL_some : MI := (yL_some, cL_some, 3, (Option.some Jvm.ClassFile.FieldType.int), [], { frames := 1, cells := 0, slots := 0, locals := 20 })
theorem cdL_some : mcode mL_some ∈ GW := gw_tab 1116 (by decide +kernel) (by decide +kernel)
abbrev mL_meanFines : MI := (yL_meanFines, cL_meanFines, 2, (Option.some Jvm.ClassFile.FieldType.double), [((0 : Nat), (4 : Nat), (5 : Nat), (126 : Nat))], { frames := 13, cells := 1, slots := 6, locals := 320 })
theorem cdL_meanFines : mcode mL_meanFines ∈ GW := gw_tab 1131 (by decide +kernel) (by decide +kernel)
abbrev mL_hushedShare : MI := (yL_hushedShare, cL_hushedShare, 2, (Option.some Jvm.ClassFile.FieldType.float), [((0 : Nat), (4 : Nat), (5 : Nat), (126 : Nat))], { frames := 13, cells := 1, slots := 6, locals := 320 })
theorem cdL_hushedShare : mcode mL_hushedShare ∈ GW := gw_tab 1170 (by decide +kernel) (by decide +kernel)
abbrev mL_runs : MI := (yL_runs, cL_runs, 3, (Option.some Jvm.ClassFile.FieldType.int), [], { frames := 33, cells := 64, slots := 8200, locals := 739 })
theorem cdL_runs : mcode mL_runs ∈ GW := gw_tab 1382 (by decide +kernel) (by decide +kernel)
abbrev mL_makes : MI := (yL_makes, cL_makes, 8, (Option.some Jvm.ClassFile.FieldType.boolean), [], { frames := 18, cells := 256, slots := 4096, locals := 435 })
theorem cdL_makes : mcode mL_makes ∈ GW := gw_tab 1113 (by decide +kernel) (by decide +kernel)
abbrev mL_asks : MI := (yL_asks, cL_asks, 7, (Option.some Jvm.ClassFile.FieldType.long), [], { frames := 33, cells := 2048, slots := 65536, locals := 742 })
theorem cdL_asks : mcode mL_asks ∈ GW := gw_tab 1127 (by decide +kernel) (by decide +kernel)
abbrev mL_changes : MI := (yL_changes, cL_changes, 6, (Option.some Jvm.ClassFile.FieldType.boolean), [], { frames := 34, cells := 128, slots := 16384, locals := 761 })
theorem cdL_changes : mcode mL_changes ∈ GW := gw_tab 1322 (by decide +kernel) (by decide +kernel)
abbrev mL_thrown : MI := (yL_thrown, cL_thrown, 8, (Option.some Jvm.ClassFile.FieldType.boolean), [], { frames := 34, cells := 6000, slots := 400000, locals := 768 })
theorem cdL_thrown : mcode mL_thrown ∈ GW := gw_tab 1387 (by decide +kernel) (by decide +kernel)
theorem cvL_122 : CallV RL 122 mX7_meanFines 0 := ⟨⟨gw_tab 1146 (by decide +kernel) (by decide +kernel), gw_tab 1 (by decide +kernel) (by decide +kernel), cdX7_meanFines, by decide +kernel, by decide +kernel, by decide +kernel⟩, rfl, gw_tab 1147 (by decide +kernel) (by decide +kernel), gw_tab 1148 (by decide +kernel) (by decide +kernel)⟩
theorem cvL_130 : CallV RL 130 mX7_hushedShare 0 := ⟨⟨gw_tab 1171 (by decide +kernel) (by decide +kernel), gw_tab 1 (by decide +kernel) (by decide +kernel), cdX7_hushedShare, by decide +kernel, by decide +kernel, by decide +kernel⟩, rfl, gw_tab 1172 (by decide +kernel) (by decide +kernel), gw_tab 1173 (by decide +kernel) (by decide +kernel)⟩
theorem cvL_149 : CallH RL 149 mL_append 2 := ⟨⟨gw_tab 668 (by decide +kernel) (by decide +kernel), gw_tab 0 (by decide +kernel) (by decide +kernel), cdL_append, by decide +kernel, by decide +kernel, by decide +kernel⟩, rfl, gw_tab 669 (by decide +kernel) (by decide +kernel)⟩
theorem cvL_154 : CallH RL 154 mL_run 1 := ⟨⟨gw_tab 773 (by decide +kernel) (by decide +kernel), gw_tab 0 (by decide +kernel) (by decide +kernel), cdL_run, by decide +kernel, by decide +kernel, by decide +kernel⟩, rfl, gw_tab 774 (by decide +kernel) (by decide +kernel)⟩
theorem cvL_157 : CallH RL 157 mL_lineAt 2 := ⟨⟨gw_tab 1286 (by decide +kernel) (by decide +kernel), gw_tab 0 (by decide +kernel) (by decide +kernel), cdL_lineAt, by decide +kernel, by decide +kernel, by decide +kernel⟩, rfl, gw_tab 1287 (by decide +kernel) (by decide +kernel)⟩
theorem cvL_160 : CallS RL 160 mL_at 2 := ⟨⟨gw_tab 319 (by decide +kernel) (by decide +kernel), gw_tab 0 (by decide +kernel) (by decide +kernel), cdL_at, by decide +kernel, by decide +kernel, by decide +kernel⟩, rfl, gw_tab 320 (by decide +kernel) (by decide +kernel)⟩
theorem cvL_164 : CallS RL 164 mL_some 2 := ⟨⟨gw_tab 1114 (by decide +kernel) (by decide +kernel), gw_tab 0 (by decide +kernel) (by decide +kernel), cdL_some, by decide +kernel, by decide +kernel, by decide +kernel⟩, rfl, gw_tab 1115 (by decide +kernel) (by decide +kernel)⟩
theorem cvL_167 : CallH RL 167 mL_addPerformer 1 := ⟨⟨gw_tab 322 (by decide +kernel) (by decide +kernel), gw_tab 0 (by decide +kernel) (by decide +kernel), cdL_addPerformer, by decide +kernel, by decide +kernel, by decide +kernel⟩, rfl, gw_tab 323 (by decide +kernel) (by decide +kernel)⟩
theorem cvL_169 : CallH RL 169 mL_setLimit 2 := ⟨⟨gw_tab 1117 (by decide +kernel) (by decide +kernel), gw_tab 0 (by decide +kernel) (by decide +kernel), cdL_setLimit, by decide +kernel, by decide +kernel, by decide +kernel⟩, rfl, gw_tab 1118 (by decide +kernel) (by decide +kernel)⟩
theorem cvL_171 : CallH RL 171 mL_cueMouth 4 := ⟨⟨gw_tab 469 (by decide +kernel) (by decide +kernel), gw_tab 0 (by decide +kernel) (by decide +kernel), cdL_cueMouth, by decide +kernel, by decide +kernel, by decide +kernel⟩, rfl, gw_tab 470 (by decide +kernel) (by decide +kernel)⟩
theorem cvL_174 : CallH RL 174 mL_cueProp 4 := ⟨⟨gw_tab 537 (by decide +kernel) (by decide +kernel), gw_tab 0 (by decide +kernel) (by decide +kernel), cdL_cueProp, by decide +kernel, by decide +kernel, by decide +kernel⟩, rfl, gw_tab 538 (by decide +kernel) (by decide +kernel)⟩
theorem cvL_176 : CallH RL 176 mL_cueHush 3 := ⟨⟨gw_tab 544 (by decide +kernel) (by decide +kernel), gw_tab 0 (by decide +kernel) (by decide +kernel), cdL_cueHush, by decide +kernel, by decide +kernel, by decide +kernel⟩, rfl, gw_tab 545 (by decide +kernel) (by decide +kernel)⟩
theorem cvL_179 : CallH RL 179 mL_advance 2 := ⟨⟨gw_tab 601 (by decide +kernel) (by decide +kernel), gw_tab 0 (by decide +kernel) (by decide +kernel), cdL_advance, by decide +kernel, by decide +kernel, by decide +kernel⟩, rfl, gw_tab 602 (by decide +kernel) (by decide +kernel)⟩
theorem cvL_181 : CallV RL 181 mX7_performerCount 0 := ⟨⟨gw_tab 287 (by decide +kernel) (by decide +kernel), gw_tab 1 (by decide +kernel) (by decide +kernel), cdX7_performerCount, by decide +kernel, by decide +kernel, by decide +kernel⟩, rfl, gw_tab 288 (by decide +kernel) (by decide +kernel), gw_tab 289 (by decide +kernel) (by decide +kernel)⟩
theorem cvL_186 : CallH RL 186 mL_meanFines 1 := ⟨⟨gw_tab 1129 (by decide +kernel) (by decide +kernel), gw_tab 0 (by decide +kernel) (by decide +kernel), cdL_meanFines, by decide +kernel, by decide +kernel, by decide +kernel⟩, rfl, gw_tab 1130 (by decide +kernel) (by decide +kernel)⟩
theorem cvL_195 : CallH RL 195 mL_hushedShare 1 := ⟨⟨gw_tab 1168 (by decide +kernel) (by decide +kernel), gw_tab 0 (by decide +kernel) (by decide +kernel), cdL_hushedShare, by decide +kernel, by decide +kernel, by decide +kernel⟩, rfl, gw_tab 1169 (by decide +kernel) (by decide +kernel)⟩
theorem cvL_204 : CallV RL 204 mX7_cueCount 0 := ⟨⟨gw_tab 291 (by decide +kernel) (by decide +kernel), gw_tab 1 (by decide +kernel) (by decide +kernel), cdX7_cueCount, by decide +kernel, by decide +kernel, by decide +kernel⟩, rfl, gw_tab 292 (by decide +kernel) (by decide +kernel), gw_tab 293 (by decide +kernel) (by decide +kernel)⟩
theorem cvL_207 : CallV RL 207 mX7_now 0 := ⟨⟨gw_tab 295 (by decide +kernel) (by decide +kernel), gw_tab 1 (by decide +kernel) (by decide +kernel), cdX7_now, by decide +kernel, by decide +kernel, by decide +kernel⟩, rfl, gw_tab 296 (by decide +kernel) (by decide +kernel), gw_tab 297 (by decide +kernel) (by decide +kernel)⟩
theorem cvL_210 : CallV RL 210 mX7_act 0 := ⟨⟨gw_tab 1187 (by decide +kernel) (by decide +kernel), gw_tab 1 (by decide +kernel) (by decide +kernel), cdX7_act, by decide +kernel, by decide +kernel, by decide +kernel⟩, rfl, gw_tab 1188 (by decide +kernel) (by decide +kernel), gw_tab 1189 (by decide +kernel) (by decide +kernel)⟩
theorem cvL_213 : CallV RL 213 mX7_happenedCount 0 := ⟨⟨gw_tab 1191 (by decide +kernel) (by decide +kernel), gw_tab 1 (by decide +kernel) (by decide +kernel), cdX7_happenedCount, by decide +kernel, by decide +kernel, by decide +kernel⟩, rfl, gw_tab 1192 (by decide +kernel) (by decide +kernel), gw_tab 1193 (by decide +kernel) (by decide +kernel)⟩
theorem cvL_216 : CallV RL 216 mX7_clashCount 0 := ⟨⟨gw_tab 1195 (by decide +kernel) (by decide +kernel), gw_tab 1 (by decide +kernel) (by decide +kernel), cdX7_clashCount, by decide +kernel, by decide +kernel, by decide +kernel⟩, rfl, gw_tab 1196 (by decide +kernel) (by decide +kernel), gw_tab 1197 (by decide +kernel) (by decide +kernel)⟩
theorem cvL_219 : CallV RL 219 mX7_imposedTotal 0 := ⟨⟨gw_tab 299 (by decide +kernel) (by decide +kernel), gw_tab 1 (by decide +kernel) (by decide +kernel), cdX7_imposedTotal, by decide +kernel, by decide +kernel, by decide +kernel⟩, rfl, gw_tab 300 (by decide +kernel) (by decide +kernel), gw_tab 301 (by decide +kernel) (by decide +kernel)⟩
theorem cvL_222 : CallV RL 222 mX7_paidTotal 0 := ⟨⟨gw_tab 1199 (by decide +kernel) (by decide +kernel), gw_tab 1 (by decide +kernel) (by decide +kernel), cdX7_paidTotal, by decide +kernel, by decide +kernel, by decide +kernel⟩, rfl, gw_tab 1200 (by decide +kernel) (by decide +kernel), gw_tab 1201 (by decide +kernel) (by decide +kernel)⟩
theorem cvL_225 : CallH RL 225 mL_loudest 1 := ⟨⟨gw_tab 1203 (by decide +kernel) (by decide +kernel), gw_tab 0 (by decide +kernel) (by decide +kernel), cdL_loudest, by decide +kernel, by decide +kernel, by decide +kernel⟩, rfl, gw_tab 1204 (by decide +kernel) (by decide +kernel)⟩
theorem cvL_228 : CallV RL 228 mX7_conflictCount 0 := ⟨⟨gw_tab 1216 (by decide +kernel) (by decide +kernel), gw_tab 1 (by decide +kernel) (by decide +kernel), cdX7_conflictCount, by decide +kernel, by decide +kernel, by decide +kernel⟩, rfl, gw_tab 1217 (by decide +kernel) (by decide +kernel), gw_tab 1218 (by decide +kernel) (by decide +kernel)⟩
theorem cvL_231 : CallV RL 231 mX7_isHushed 1 := ⟨⟨gw_tab 1229 (by decide +kernel) (by decide +kernel), gw_tab 1 (by decide +kernel) (by decide +kernel), cdX7_isHushed, by decide +kernel, by decide +kernel, by decide +kernel⟩, rfl, gw_tab 1230 (by decide +kernel) (by decide +kernel), gw_tab 1231 (by decide +kernel) (by decide +kernel)⟩
theorem cvL_234 : CallH RL 234 mL_atRank 2 := ⟨⟨gw_tab 1234 (by decide +kernel) (by decide +kernel), gw_tab 0 (by decide +kernel) (by decide +kernel), cdL_atRank, by decide +kernel, by decide +kernel, by decide +kernel⟩, rfl, gw_tab 1235 (by decide +kernel) (by decide +kernel)⟩
theorem cvL_237 : CallH RL 237 mL_finesAfter 3 := ⟨⟨gw_tab 1258 (by decide +kernel) (by decide +kernel), gw_tab 0 (by decide +kernel) (by decide +kernel), cdL_finesAfter, by decide +kernel, by decide +kernel, by decide +kernel⟩, rfl, gw_tab 1259 (by decide +kernel) (by decide +kernel)⟩
theorem cvL_239 : CallH RL 239 mL_describePerformer 2 := ⟨⟨gw_tab 1274 (by decide +kernel) (by decide +kernel), gw_tab 0 (by decide +kernel) (by decide +kernel), cdL_describePerformer, by decide +kernel, by decide +kernel, by decide +kernel⟩, rfl, gw_tab 1275 (by decide +kernel) (by decide +kernel)⟩
theorem cvL_241 : CallH RL 241 mL_cueAt 2 := ⟨⟨gw_tab 1295 (by decide +kernel) (by decide +kernel), gw_tab 0 (by decide +kernel) (by decide +kernel), cdL_cueAt, by decide +kernel, by decide +kernel, by decide +kernel⟩, rfl, gw_tab 1296 (by decide +kernel) (by decide +kernel)⟩
theorem cvL_243 : CallH RL 243 mL_describeCue 2 := ⟨⟨gw_tab 1308 (by decide +kernel) (by decide +kernel), gw_tab 0 (by decide +kernel) (by decide +kernel), cdL_describeCue, by decide +kernel, by decide +kernel, by decide +kernel⟩, rfl, gw_tab 1309 (by decide +kernel) (by decide +kernel)⟩
theorem cvL_245 : CallH RL 245 mL_pay 3 := ⟨⟨gw_tab 1323 (by decide +kernel) (by decide +kernel), gw_tab 0 (by decide +kernel) (by decide +kernel), cdL_pay, by decide +kernel, by decide +kernel, by decide +kernel⟩, rfl, gw_tab 1324 (by decide +kernel) (by decide +kernel)⟩
theorem cvL_248 : CallH RL 248 mL_whisper 3 := ⟨⟨gw_tab 1348 (by decide +kernel) (by decide +kernel), gw_tab 0 (by decide +kernel) (by decide +kernel), cdL_whisper, by decide +kernel, by decide +kernel, by decide +kernel⟩, rfl, gw_tab 1349 (by decide +kernel) (by decide +kernel)⟩
theorem cvL_250 : CallH RL 250 mL_cancel 2 := ⟨⟨gw_tab 556 (by decide +kernel) (by decide +kernel), gw_tab 0 (by decide +kernel) (by decide +kernel), cdL_cancel, by decide +kernel, by decide +kernel, by decide +kernel⟩, rfl, gw_tab 557 (by decide +kernel) (by decide +kernel)⟩
theorem cvL_253 : CallH RL 253 mL_move 3 := ⟨⟨gw_tab 1356 (by decide +kernel) (by decide +kernel), gw_tab 0 (by decide +kernel) (by decide +kernel), cdL_move, by decide +kernel, by decide +kernel, by decide +kernel⟩, rfl, gw_tab 1357 (by decide +kernel) (by decide +kernel)⟩
theorem cvL_256 : CallH RL 256 mL_turnAct 1 := ⟨⟨gw_tab 1364 (by decide +kernel) (by decide +kernel), gw_tab 0 (by decide +kernel) (by decide +kernel), cdL_turnAct, by decide +kernel, by decide +kernel, by decide +kernel⟩, rfl, gw_tab 1365 (by decide +kernel) (by decide +kernel)⟩
theorem cvL_277 : CallS RL 277 mL_runs 2 := ⟨⟨gw_tab 1380 (by decide +kernel) (by decide +kernel), gw_tab 0 (by decide +kernel) (by decide +kernel), cdL_runs, by decide +kernel, by decide +kernel, by decide +kernel⟩, rfl, gw_tab 1381 (by decide +kernel) (by decide +kernel)⟩
theorem cvL_281 : CallS RL 281 mL_asks 1 := ⟨⟨gw_tab 1125 (by decide +kernel) (by decide +kernel), gw_tab 0 (by decide +kernel) (by decide +kernel), cdL_asks, by decide +kernel, by decide +kernel, by decide +kernel⟩, rfl, gw_tab 1126 (by decide +kernel) (by decide +kernel)⟩
theorem cvL_285 : CallH RL 285 mL_fines 2 := ⟨⟨gw_tab 421 (by decide +kernel) (by decide +kernel), gw_tab 0 (by decide +kernel) (by decide +kernel), cdL_fines, by decide +kernel, by decide +kernel, by decide +kernel⟩, rfl, gw_tab 422 (by decide +kernel) (by decide +kernel)⟩
theorem cvL_287 : CallH RL 287 mL_isMouthing 2 := ⟨⟨gw_tab 1388 (by decide +kernel) (by decide +kernel), gw_tab 0 (by decide +kernel) (by decide +kernel), cdL_isMouthing, by decide +kernel, by decide +kernel, by decide +kernel⟩, rfl, gw_tab 1389 (by decide +kernel) (by decide +kernel)⟩
theorem cvL_289 : CallH RL 289 mL_first 2 := ⟨⟨gw_tab 1395 (by decide +kernel) (by decide +kernel), gw_tab 0 (by decide +kernel) (by decide +kernel), cdL_first, by decide +kernel, by decide +kernel, by decide +kernel⟩, rfl, gw_tab 1396 (by decide +kernel) (by decide +kernel)⟩
theorem cvL_292 : CallH RL 292 mL_firstByScan 2 := ⟨⟨gw_tab 1411 (by decide +kernel) (by decide +kernel), gw_tab 0 (by decide +kernel) (by decide +kernel), cdL_firstByScan, by decide +kernel, by decide +kernel, by decide +kernel⟩, rfl, gw_tab 1412 (by decide +kernel) (by decide +kernel)⟩
theorem cvL_295 : CallH RL 295 mL_cueBeat 2 := ⟨⟨gw_tab 1422 (by decide +kernel) (by decide +kernel), gw_tab 0 (by decide +kernel) (by decide +kernel), cdL_cueBeat, by decide +kernel, by decide +kernel, by decide +kernel⟩, rfl, gw_tab 1423 (by decide +kernel) (by decide +kernel)⟩
theorem cvL_297 : CallH RL 297 mL_cueKind 2 := ⟨⟨gw_tab 1429 (by decide +kernel) (by decide +kernel), gw_tab 0 (by decide +kernel) (by decide +kernel), cdL_cueKind, by decide +kernel, by decide +kernel, by decide +kernel⟩, rfl, gw_tab 1430 (by decide +kernel) (by decide +kernel)⟩
theorem cvL_299 : CallH RL 299 mL_cueSize 2 := ⟨⟨gw_tab 1436 (by decide +kernel) (by decide +kernel), gw_tab 0 (by decide +kernel) (by decide +kernel), cdL_cueSize, by decide +kernel, by decide +kernel, by decide +kernel⟩, rfl, gw_tab 1437 (by decide +kernel) (by decide +kernel)⟩
theorem cvL_301 : CallH RL 301 mL_cuePerformer 2 := ⟨⟨gw_tab 1443 (by decide +kernel) (by decide +kernel), gw_tab 0 (by decide +kernel) (by decide +kernel), cdL_cuePerformer, by decide +kernel, by decide +kernel, by decide +kernel⟩, rfl, gw_tab 1444 (by decide +kernel) (by decide +kernel)⟩
theorem cvL_303 : CallH RL 303 mL_finesByCues 3 := ⟨⟨gw_tab 1451 (by decide +kernel) (by decide +kernel), gw_tab 0 (by decide +kernel) (by decide +kernel), cdL_finesByCues, by decide +kernel, by decide +kernel, by decide +kernel⟩, rfl, gw_tab 1452 (by decide +kernel) (by decide +kernel)⟩
theorem cvL_308 : CallH RL 308 mL_errorPosition 1 := ⟨⟨gw_tab 1078 (by decide +kernel) (by decide +kernel), gw_tab 0 (by decide +kernel) (by decide +kernel), cdL_errorPosition, by decide +kernel, by decide +kernel, by decide +kernel⟩, rfl, gw_tab 1079 (by decide +kernel) (by decide +kernel)⟩
theorem cvL_312 : CallH RL 312 mL_failedCommand 1 := ⟨⟨gw_tab 1464 (by decide +kernel) (by decide +kernel), gw_tab 0 (by decide +kernel) (by decide +kernel), cdL_failedCommand, by decide +kernel, by decide +kernel, by decide +kernel⟩, rfl, gw_tab 1465 (by decide +kernel) (by decide +kernel)⟩
theorem cvL_314 : CallH RL 314 mL_failedException 1 := ⟨⟨gw_tab 1472 (by decide +kernel) (by decide +kernel), gw_tab 0 (by decide +kernel) (by decide +kernel), cdL_failedException, by decide +kernel, by decide +kernel, by decide +kernel⟩, rfl, gw_tab 1473 (by decide +kernel) (by decide +kernel)⟩
theorem cvL_318 : CallI RL 318 mX7_init 0 ∧ Cond.instanceMethod (my mX7_init) ∈ GW := ⟨⟨gw_tab 37 (by decide +kernel) (by decide +kernel), gw_tab 1 (by decide +kernel) (by decide +kernel), cdX7_init, by decide +kernel, by decide +kernel, by decide +kernel⟩, gw_tab 38 (by decide +kernel) (by decide +kernel)⟩
theorem cvL_319 : CallH RL 319 mL_undo 1 := ⟨⟨gw_tab 1086 (by decide +kernel) (by decide +kernel), gw_tab 0 (by decide +kernel) (by decide +kernel), cdL_undo, by decide +kernel, by decide +kernel, by decide +kernel⟩, rfl, gw_tab 1087 (by decide +kernel) (by decide +kernel)⟩
theorem cvL_321 : CallH RL 321 mL_restore 1 := ⟨⟨gw_tab 1099 (by decide +kernel) (by decide +kernel), gw_tab 0 (by decide +kernel) (by decide +kernel), cdL_restore, by decide +kernel, by decide +kernel, by decide +kernel⟩, rfl, gw_tab 1100 (by decide +kernel) (by decide +kernel)⟩
theorem cvL_323 : CallV RL 323 mX7_save 0 := ⟨⟨gw_tab 303 (by decide +kernel) (by decide +kernel), gw_tab 1 (by decide +kernel) (by decide +kernel), cdX7_save, by decide +kernel, by decide +kernel, by decide +kernel⟩, rfl, gw_tab 304 (by decide +kernel) (by decide +kernel), gw_tab 305 (by decide +kernel) (by decide +kernel)⟩
theorem cvL_326 : CallS RL 326 mL_makes 2 := ⟨⟨gw_tab 1111 (by decide +kernel) (by decide +kernel), gw_tab 0 (by decide +kernel) (by decide +kernel), cdL_makes, by decide +kernel, by decide +kernel, by decide +kernel⟩, rfl, gw_tab 1112 (by decide +kernel) (by decide +kernel)⟩
theorem cvL_330 : CallS RL 330 mL_thrown 1 := ⟨⟨gw_tab 1385 (by decide +kernel) (by decide +kernel), gw_tab 0 (by decide +kernel) (by decide +kernel), cdL_thrown, by decide +kernel, by decide +kernel, by decide +kernel⟩, rfl, gw_tab 1386 (by decide +kernel) (by decide +kernel)⟩
theorem cvL_334 : CallS RL 334 mL_changes 2 := ⟨⟨gw_tab 1320 (by decide +kernel) (by decide +kernel), gw_tab 0 (by decide +kernel) (by decide +kernel), cdL_changes, by decide +kernel, by decide +kernel, by decide +kernel⟩, rfl, gw_tab 1321 (by decide +kernel) (by decide +kernel)⟩
theorem kDoubleL_128 : Cond.constantDouble RL 128 (13875388141788987392) ∈ GW := gw_tab 1157 (by decide +kernel) (by decide +kernel)
theorem kFloatL_134 : Cond.constantFloat RL 134 (3296346112) ∈ GW := gw_tab 1176 (by decide +kernel) (by decide +kernel)
theorem kLongL_184 : Cond.constantLong RL 184 (31) ∈ GW := gw_tab 1128 (by decide +kernel) (by decide +kernel)
theorem kLongJxe99ae_137 : Cond.constantLong RJxe99ae 137 (9221120237041090560) ∈ GW := gw_tab 1167 (by decide +kernel) (by decide +kernel)
section VX8
variable {X : KX} {M : MI} {F : FT} {k n pc : Nat} {lv lv' : List (Nat × Value)} {rest : List Value} {h : AH} {Z : ZT}
theorem V_ldc2d {idx : Nat} {v : UInt64} (hdg : decode (mcc M) pc = .ok (.ldc2_w idx, 3)) (hw : Cond.constantDouble (my M).cls idx v ∈ GW) (kk : V X M F k n (pc + 3) lv (.double v :: rest) h) : V X M F k n pc lv rest h := fun p e s m args below meth c H locs ls hF hR hS hL => lv_ldc2d hF.1 hF.2.1 hF.2.2.2.1 (hF.2.2.2.2.1 _ hw) hdg (kk p e s m args below meth c H locs ls hF hR hS hL)
theorem V_ldcf {idx : Nat} {v : UInt32} (hdg : decode (mcc M) pc = .ok (.ldc idx, 2)) (hw : Cond.constantFloat (my M).cls idx v ∈ GW) (kk : V X M F k n (pc + 2) lv (.float v :: rest) h) : V X M F k n pc lv rest h := fun p e s m args below meth c H locs ls hF hR hS hL => lv_ldcf hF.1 hF.2.1 hF.2.2.2.1 (hF.2.2.2.2.1 _ hw) hdg (kk p e s m args below meth c H locs ls hF hR hS hL)
theorem V_dcmp {x y : UInt64} {op : CmpOp} (hdg : decode (mcc M) pc = .ok (.dcmp op, 1)) (kk : V X M F k n (pc + 1) lv (.int (Op.cmpValue (FP.dcmp x y) op) :: rest) h) : V X M F k n pc lv (.double y :: .double x :: rest) h := fun p e s m args below meth c H locs ls hF hR hS hL => lv_dcmp hF.1 hF.2.1 hdg (kk p e s m args below meth c H locs ls hF hR hS hL)
theorem V_fcmp {x y : UInt32} {op : CmpOp} (hdg : decode (mcc M) pc = .ok (.fcmp op, 1)) (kk : V X M F k n (pc + 1) lv (.int (Op.cmpValue (FP.fcmp x y) op) :: rest) h) : V X M F k n pc lv (.float y :: .float x :: rest) h := fun p e s m args below meth c H locs ls hF hR hS hL => lv_fcmp hF.1 hF.2.1 hdg (kk p e s m args below meth c H locs ls hF hR hS hL)
theorem V_d2l {idx : Nat} {b : UInt64} (hdg : decode (mcc M) pc = .ok (.invokestatic idx, 3)) (hw : Cond.methodLink (my M).cls idx ⟨"java/lang/Double", "doubleToRawLongBits", "(D)J"⟩ ∈ GW ∧ Cond.native ⟨"java/lang/Double", "doubleToRawLongBits", "(D)J"⟩ ∈ GW ∧ Cond.static ⟨"java/lang/Double", "doubleToRawLongBits", "(D)J"⟩ ∈ GW ∧ Cond.initialized "java/lang/Double" ∈ GW) (hroom : 1 ≤ (mR M).frames ∧ (rest.map fun v => v.category).sum + 15 ≤ (mR M).locals) (kk : V X M F k n (pc + 3) lv (.long b.toInt64 :: rest) h) : V X M F k n pc lv (.double b :: rest) h := fun p e s m args below meth c H locs ls hF hR hS hL => vn_d2l hF.1 hF.2.1 (hF.2.2.1.trans hL.1.symm) hF.2.2.2.1 (hF.2.2.2.2.1 _ hw.1) (hF.2.2.2.2.1 _ hw.2.1) (hF.2.2.2.2.1 _ hw.2.2.1) (hF.2.2.2.2.1 _ hw.2.2.2) hroom.1 hroom.2 hdg (kk p e s m args below meth c H locs ls hF hR hS hL)
theorem V_f2i {idx : Nat} {b : UInt32} (hdg : decode (mcc M) pc = .ok (.invokestatic idx, 3)) (hw : Cond.methodLink (my M).cls idx ⟨"java/lang/Float", "floatToRawIntBits", "(F)I"⟩ ∈ GW ∧ Cond.native ⟨"java/lang/Float", "floatToRawIntBits", "(F)I"⟩ ∈ GW ∧ Cond.static ⟨"java/lang/Float", "floatToRawIntBits", "(F)I"⟩ ∈ GW ∧ Cond.initialized "java/lang/Float" ∈ GW) (hroom : 1 ≤ (mR M).frames ∧ (rest.map fun v => v.category).sum + 15 ≤ (mR M).locals) (kk : V X M F k n (pc + 3) lv (.int b.toInt32 :: rest) h) : V X M F k n pc lv (.float b :: rest) h := fun p e s m args below meth c H locs ls hF hR hS hL => vn_f2i hF.1 hF.2.1 (hF.2.2.1.trans hL.1.symm) hF.2.2.2.1 (hF.2.2.2.2.1 _ hw.1) (hF.2.2.2.2.1 _ hw.2.1) (hF.2.2.2.2.1 _ hw.2.2.1) (hF.2.2.2.2.1 _ hw.2.2.2) hroom.1 hroom.2 hdg (kk p e s m args below meth c H locs ls hF hR hS hL)
end VX8
/-! the bits of a double, of a float -/
theorem wD2l : Cond.methodLink "java/lang/Double" 134 ⟨"java/lang/Double", "doubleToRawLongBits", "(D)J"⟩ ∈ GW ∧ Cond.native ⟨"java/lang/Double", "doubleToRawLongBits", "(D)J"⟩ ∈ GW ∧ Cond.static ⟨"java/lang/Double", "doubleToRawLongBits", "(D)J"⟩ ∈ GW ∧ Cond.initialized "java/lang/Double" ∈ GW := ⟨gw_tab 1164 (by decide +kernel) (by decide +kernel), gw_tab 1166 (by decide +kernel) (by decide +kernel), gw_tab 1165 (by decide +kernel) (by decide +kernel), gw_tab 32 (by decide +kernel) (by decide +kernel)⟩
theorem wF2i : Cond.methodLink "java/lang/Float" 74 ⟨"java/lang/Float", "floatToRawIntBits", "(F)I"⟩ ∈ GW ∧ Cond.native ⟨"java/lang/Float", "floatToRawIntBits", "(F)I"⟩ ∈ GW ∧ Cond.static ⟨"java/lang/Float", "floatToRawIntBits", "(F)I"⟩ ∈ GW ∧ Cond.initialized "java/lang/Float" ∈ GW := ⟨gw_tab 1183 (by decide +kernel) (by decide +kernel), gw_tab 1185 (by decide +kernel) (by decide +kernel), gw_tab 1184 (by decide +kernel) (by decide +kernel), gw_tab 33 (by decide +kernel) (by decide +kernel)⟩
def nanD (v : UInt64) : Int32 := if Op.cmpValue (FP.dcmp v v) .l = 0 then 0 else 1
def bitsD (v : UInt64) : Int64 := if nanD v = 0 then v.toInt64 else 9221120237041090560
def nanF (v : UInt32) : Int32 := if Op.cmpValue (FP.fcmp v v) .l = 0 then 0 else 1
def bitsF (v : UInt32) : Int32 := if nanF v = 0 then v.toInt32 else 2143289344
theorem c_nanD {X : KX} (hxs : X.1.stackTraces = false) {h : AH} (v : UInt64) : Ct X mJxe99ae_isNaN_b9ae7 [.double v] h (zM (some (.int (nanD v))) (fun h' => h' = h)) := by
  refine Ct.of (by decide) rfl (Nat.le_of_ble_eq_true rfl) rfl hxs ?_
  refine V_dload_n dJxe99ae_isNaN_b9ae7_0 0 rfl ?_
  refine V_dload_n dJxe99ae_isNaN_b9ae7_1 0 rfl ?_
  refine V_dcmp dJxe99ae_isNaN_b9ae7_2 ?_
  refine V_if_eq (tgt := 10) dJxe99ae_isNaN_b9ae7_3 (by decide) (fun c1 => ?_) (fun c1 => ?_)
  · refine V_iconst (v := 0) dJxe99ae_isNaN_b9ae7_10 (by decide) ?_
    exact V_zret dJxe99ae_isNaN_b9ae7_11 rfl bN0 ⟨Nat.le_of_ble_eq_true rfl, Nat.le_of_ble_eq_true rfl⟩ ⟨by unfold nanD; rw [if_pos c1], rfl⟩
  · refine V_iconst (v := 1) dJxe99ae_isNaN_b9ae7_6 (by decide) ?_
    refine V_goto (tgt := 11) dJxe99ae_isNaN_b9ae7_7 (by decide) ?_
    exact V_zret dJxe99ae_isNaN_b9ae7_11 rfl bN1 ⟨Nat.le_of_ble_eq_true rfl, Nat.le_of_ble_eq_true rfl⟩ ⟨by unfold nanD; rw [if_neg c1], rfl⟩
theorem c_bitsD {X : KX} (hxs : X.1.stackTraces = false) {h : AH} (v : UInt64) : Ct X mJxe99ae_doubleToLongBits_ccdee [.double v] h (zM (some (.long (bitsD v))) (fun h' => h' = h)) := by
  refine Ct.of (by decide) rfl (Nat.le_of_ble_eq_true rfl) rfl hxs ?_
  refine V_dload_n dJxe99ae_doubleToLongBits_ccdee_0 0 rfl ?_
  refine V_cSg (As := [.double v]) (rest := []) dJxe99ae_doubleToLongBits_ccdee_1 cvJxe99ae_122 (c_nanD hxs v) ⟨Nat.le_of_ble_eq_true rfl, Nat.le_of_ble_eq_true rfl, Nat.le_of_ble_eq_true rfl, Nat.le_of_ble_eq_true rfl⟩ (Nat.le_of_ble_eq_true rfl) rfl (fun h1 e1 => ?_)
  subst e1
  by_cases c1 : nanD v = 0
  · refine V_if_ne (tgt := 12) dJxe99ae_doubleToLongBits_ccdee_4 (by decide) (fun c9 => absurd c1 c9) (fun _ => ?_)
    refine V_dload_n dJxe99ae_doubleToLongBits_ccdee_7 0 rfl ?_
    refine V_d2l dJxe99ae_doubleToLongBits_ccdee_8 wD2l ⟨Nat.le_of_ble_eq_true rfl, Nat.le_of_ble_eq_true rfl⟩ ?_
    exact V_lret dJxe99ae_doubleToLongBits_ccdee_11 rfl ⟨Nat.le_of_ble_eq_true rfl, Nat.le_of_ble_eq_true rfl⟩ ⟨by unfold bitsD; rw [if_pos c1], rfl⟩
  · refine V_if_ne (tgt := 12) dJxe99ae_doubleToLongBits_ccdee_4 (by decide) (fun _ => ?_) (fun c9 => absurd c9 c1)
    refine V_ldc2 dJxe99ae_doubleToLongBits_ccdee_12 kLongJxe99ae_137 ?_
    exact V_lret dJxe99ae_doubleToLongBits_ccdee_15 rfl ⟨Nat.le_of_ble_eq_true rfl, Nat.le_of_ble_eq_true rfl⟩ ⟨by unfold bitsD; rw [if_neg c1], rfl⟩
theorem c_nanF {X : KX} (hxs : X.1.stackTraces = false) {h : AH} (v : UInt32) : Ct X mJxf58ca_isNaN_12338 [.float v] h (zM (some (.int (nanF v))) (fun h' => h' = h)) := by
  refine Ct.of (by decide) rfl (Nat.le_of_ble_eq_true rfl) rfl hxs ?_
  refine V_fload_n dJxf58ca_isNaN_12338_0 0 rfl ?_
  refine V_fload_n dJxf58ca_isNaN_12338_1 0 rfl ?_
  refine V_fcmp dJxf58ca_isNaN_12338_2 ?_
  refine V_if_eq (tgt := 10) dJxf58ca_isNaN_12338_3 (by decide) (fun c1 => ?_) (fun c1 => ?_)
  · refine V_iconst (v := 0) dJxf58ca_isNaN_12338_10 (by decide) ?_
    exact V_zret dJxf58ca_isNaN_12338_11 rfl bN0 ⟨Nat.le_of_ble_eq_true rfl, Nat.le_of_ble_eq_true rfl⟩ ⟨by unfold nanF; rw [if_pos c1], rfl⟩
  · refine V_iconst (v := 1) dJxf58ca_isNaN_12338_6 (by decide) ?_
    refine V_goto (tgt := 11) dJxf58ca_isNaN_12338_7 (by decide) ?_
    exact V_zret dJxf58ca_isNaN_12338_11 rfl bN1 ⟨Nat.le_of_ble_eq_true rfl, Nat.le_of_ble_eq_true rfl⟩ ⟨by unfold nanF; rw [if_neg c1], rfl⟩
theorem c_bitsF {X : KX} (hxs : X.1.stackTraces = false) {h : AH} (v : UInt32) : Ct X mJxf58ca_floatToIntBits_5c35a [.float v] h (zM (some (.int (bitsF v))) (fun h' => h' = h)) := by
  refine Ct.of (by decide) rfl (Nat.le_of_ble_eq_true rfl) rfl hxs ?_
  refine V_fload_n dJxf58ca_floatToIntBits_5c35a_0 0 rfl ?_
  refine V_cSg (As := [.float v]) (rest := []) dJxf58ca_floatToIntBits_5c35a_1 cvJxf58ca_59 (c_nanF hxs v) ⟨Nat.le_of_ble_eq_true rfl, Nat.le_of_ble_eq_true rfl, Nat.le_of_ble_eq_true rfl, Nat.le_of_ble_eq_true rfl⟩ (Nat.le_of_ble_eq_true rfl) rfl (fun h1 e1 => ?_)
  subst e1
  by_cases c1 : nanF v = 0
  · refine V_if_ne (tgt := 12) dJxf58ca_floatToIntBits_5c35a_4 (by decide) (fun c9 => absurd c1 c9) (fun _ => ?_)
    refine V_fload_n dJxf58ca_floatToIntBits_5c35a_7 0 rfl ?_
    refine V_f2i dJxf58ca_floatToIntBits_5c35a_8 wF2i ⟨Nat.le_of_ble_eq_true rfl, Nat.le_of_ble_eq_true rfl⟩ ?_
    exact V_iret dJxf58ca_floatToIntBits_5c35a_11 rfl ⟨Nat.le_of_ble_eq_true rfl, Nat.le_of_ble_eq_true rfl⟩ ⟨by unfold bitsF; rw [if_pos c1], rfl⟩
  · refine V_if_ne (tgt := 12) dJxf58ca_floatToIntBits_5c35a_4 (by decide) (fun _ => ?_) (fun c9 => absurd c9 c1)
    refine V_ldci dJxf58ca_floatToIntBits_5c35a_12 kcJxf58ca_77 ?_
    exact V_iret dJxf58ca_floatToIntBits_5c35a_14 rfl ⟨Nat.le_of_ble_eq_true rfl, Nat.le_of_ble_eq_true rfl⟩ ⟨by unfold bitsF; rw [if_neg c1], rfl⟩
def mF (S : SH) : UInt64 := if z_perf S = 0 then 13875388141788987392 else FP.ddiv (FP.i2d (U_owedTotal S)) (FP.i2d (z_perf S))
def hF (S : SH) : UInt32 := if z_beat S = 0 then 3296346112 else FP.fdiv (FP.i2f (z_hbt S)) (FP.i2f (z_beat S))
set_option maxRecDepth 20000 in
set_option maxHeartbeats 1000000 in
theorem c_L_meanFines {X : KX} (hxs : X.1.stackTraces = false) (hg : GX X) {h : AH} {x : Nat} {S : SH} {past : List SH} {N : SH} {hs le lc lf : Int32} {txt ln : List Int32} (hW : OpW X h x S past N hs le lc lf txt ln) : Ct X mL_meanFines [.ref x] h (zM (some (.double (mF S))) (fun h' => OpW X h' x S past N hs le lc lf txt ln)) := by
  obtain ⟨pr9, hO9⟩ := id hW
  refine Ct.ofH (by decide) rfl (Nat.le_of_ble_eq_true rfl) rfl hxs ?_
  refine V_aload_n dL_meanFines_0 0 rfl ?_
  by_cases c1 : z_perf S = 0
  · refine V_cVt (As := []) (rest := []) dL_meanFines_1 cvL_122 (c_X7_meanFinesx hxs hg hW c1) hO9.1 rfl ⟨Nat.le_of_ble_eq_true rfl, Nat.le_of_ble_eq_true rfl, Nat.le_of_ble_eq_true rfl, Nat.le_of_ble_eq_true rfl⟩ (Nat.le_of_ble_eq_true rfl) rfl (fun v h1 e1 _ => by cases e1) (fun j h1 e1 q1 => ?_)
    cases e1
    refine VX_catch (E := "java/lang/ArithmeticException") (name := "java/lang/ArithmeticException") [] ⟨0, 4, 5, 126⟩ [] rfl (fun z hz => by cases hz) (by decide) (by decide) (gw_tab 1132 (by decide +kernel) (by decide +kernel)) (gp_tab 1144 (by decide +kernel) (by decide +kernel)) hg.p (fun q9 => ?_)
    refine V_astore_n (lv' := [(1, .ref q9), (0, .ref x)]) dL_meanFines_5 rfl (by decide) rfl ?_
    refine V_ldc2d dL_meanFines_6 kDoubleL_128 ?_
    exact V_dret dL_meanFines_9 rfl ⟨Nat.le_of_ble_eq_true rfl, Nat.le_of_ble_eq_true rfl⟩ ⟨by unfold mF; rw [if_pos c1], q1⟩
  · refine V_callV (As := []) (rest := []) dL_meanFines_1 cvL_122 (c_X7_meanFines hxs hg hW c1 (fn_ddiv c1)) hO9.1 rfl ⟨Nat.le_of_ble_eq_true rfl, Nat.le_of_ble_eq_true rfl, Nat.le_of_ble_eq_true rfl, Nat.le_of_ble_eq_true rfl⟩ (Nat.le_of_ble_eq_true rfl) rfl (fun v h1 hz => ?_) (fun E h1 hz => by cases hz.1)
    obtain ⟨e1, q1⟩ := hz
    cases e1
    exact V_dret dL_meanFines_4 rfl ⟨Nat.le_of_ble_eq_true rfl, Nat.le_of_ble_eq_true rfl⟩ ⟨by unfold mF; rw [if_neg c1], q1⟩
set_option maxRecDepth 20000 in
set_option maxHeartbeats 1000000 in
theorem c_L_hushedShare {X : KX} (hxs : X.1.stackTraces = false) (hg : GX X) {h : AH} {x : Nat} {S : SH} {past : List SH} {N : SH} {hs le lc lf : Int32} {txt ln : List Int32} (hW : OpW X h x S past N hs le lc lf txt ln) : Ct X mL_hushedShare [.ref x] h (zM (some (.float (hF S))) (fun h' => OpW X h' x S past N hs le lc lf txt ln)) := by
  obtain ⟨pr9, hO9⟩ := id hW
  refine Ct.ofH (by decide) rfl (Nat.le_of_ble_eq_true rfl) rfl hxs ?_
  refine V_aload_n dL_hushedShare_0 0 rfl ?_
  by_cases c1 : z_beat S = 0
  · refine V_cVt (As := []) (rest := []) dL_hushedShare_1 cvL_130 (c_X7_hushedSharex hxs hg hW c1) hO9.1 rfl ⟨Nat.le_of_ble_eq_true rfl, Nat.le_of_ble_eq_true rfl, Nat.le_of_ble_eq_true rfl, Nat.le_of_ble_eq_true rfl⟩ (Nat.le_of_ble_eq_true rfl) rfl (fun v h1 e1 _ => by cases e1) (fun j h1 e1 q1 => ?_)
    cases e1
    refine VX_catch (E := "java/lang/ArithmeticException") (name := "java/lang/ArithmeticException") [] ⟨0, 4, 5, 126⟩ [] rfl (fun z hz => by cases hz) (by decide) (by decide) (gw_tab 1132 (by decide +kernel) (by decide +kernel)) (gp_tab 1144 (by decide +kernel) (by decide +kernel)) hg.p (fun q9 => ?_)
    refine V_astore_n (lv' := [(1, .ref q9), (0, .ref x)]) dL_hushedShare_5 rfl (by decide) rfl ?_
    refine V_ldcf dL_hushedShare_6 kFloatL_134 ?_
    exact V_fret dL_hushedShare_8 rfl ⟨Nat.le_of_ble_eq_true rfl, Nat.le_of_ble_eq_true rfl⟩ ⟨by unfold hF; rw [if_pos c1], q1⟩
  · refine V_callV (As := []) (rest := []) dL_hushedShare_1 cvL_130 (c_X7_hushedShare hxs hg hW c1 (fn_fdiv c1)) hO9.1 rfl ⟨Nat.le_of_ble_eq_true rfl, Nat.le_of_ble_eq_true rfl, Nat.le_of_ble_eq_true rfl, Nat.le_of_ble_eq_true rfl⟩ (Nat.le_of_ble_eq_true rfl) rfl (fun v h1 hz => ?_) (fun E h1 hz => by cases hz.1)
    obtain ⟨e1, q1⟩ := hz
    cases e1
    exact V_fret dL_hushedShare_4 rfl ⟨Nat.le_of_ble_eq_true rfl, Nat.le_of_ble_eq_true rfl⟩ ⟨by unfold hF; rw [if_neg c1], q1⟩
