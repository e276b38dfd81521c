/-! methods, and the words of the tables that their calls and fields use: by program -/
abbrev mX1_init : MI := (yX1_init, cX1_init, 1, (Option.none : Option Jvm.ClassFile.FieldType), [], { frames := 2, cells := 1, slots := 3, locals := 40 })
abbrev mX1_begin : MI := (yX1_begin, cX1_begin, 2, (Option.none : Option Jvm.ClassFile.FieldType), [], { frames := 1, cells := 0, slots := 0, locals := 20 })
abbrev mX1_add : MI := (yX1_add, cX1_add, 2, (Option.none : Option Jvm.ClassFile.FieldType), [], { frames := 1, cells := 0, slots := 0, locals := 20 })
abbrev mX2_init : MI := (yX2_init, cX2_init, 2, (Option.none : Option Jvm.ClassFile.FieldType), [], { frames := 12, cells := 35, slots := 132, locals := 211 })
abbrev mX2_readAll : MI := (yX2_readAll, cX2_readAll, 2, (Option.some Jvm.ClassFile.FieldType.boolean), [], { frames := 17, cells := 0, slots := 0, locals := 331 })
abbrev mX2_readCommand : MI := (yX2_readCommand, cX2_readCommand, 5, (Option.some Jvm.ClassFile.FieldType.boolean), [], { frames := 16, cells := 0, slots := 0, locals := 307 })
abbrev mX2_readForm : MI := (yX2_readForm, cX2_readForm, 4, (Option.some Jvm.ClassFile.FieldType.boolean), [], { frames := 15, cells := 0, slots := 0, locals := 284 })
abbrev mX2_readPart : MI := (yX2_readPart, cX2_readPart, 3, (Option.some Jvm.ClassFile.FieldType.boolean), [], { frames := 14, cells := 0, slots := 0, locals := 262 })
abbrev mX2_readSign : MI := (yX2_readSign, cX2_readSign, 2, (Option.some Jvm.ClassFile.FieldType.boolean), [], { frames := 12, cells := 0, slots := 0, locals := 218 })
abbrev mX2_readNumber : MI := (yX2_readNumber, cX2_readNumber, 5, (Option.some Jvm.ClassFile.FieldType.boolean), [], { frames := 13, cells := 0, slots := 0, locals := 238 })
abbrev mX2_isDigitNext : MI := (yX2_isDigitNext, cX2_isDigitNext, 1, (Option.some Jvm.ClassFile.FieldType.boolean), [], { frames := 12, cells := 0, slots := 0, locals := 218 })
abbrev mX3_init : MI := (yX3_init, cX3_init, 1, (Option.none : Option Jvm.ClassFile.FieldType), [], { frames := 2, cells := 8, slots := 128, locals := 43 })
abbrev mX3_isSlot : MI := (yX3_isSlot, cX3_isSlot, 1, (Option.some Jvm.ClassFile.FieldType.boolean), [], { frames := 1, cells := 0, slots := 0, locals := 20 })
abbrev mX3_copyFrom : MI := (yX3_copyFrom, cX3_copyFrom, 2, (Option.none : Option Jvm.ClassFile.FieldType), [], { frames := 12, cells := 0, slots := 0, locals := 300 })
abbrev mX3_isFull : MI := (yX3_isFull, cX3_isFull, 1, (Option.some Jvm.ClassFile.FieldType.boolean), [], { frames := 1, cells := 0, slots := 0, locals := 20 })
abbrev mX3_slotOf : MI := (yX3_slotOf, cX3_slotOf, 3, (Option.some Jvm.ClassFile.FieldType.int), [], { frames := 1, cells := 0, slots := 0, locals := 20 })
abbrev mX3_freeSlot : MI := (yX3_freeSlot, cX3_freeSlot, 2, (Option.some Jvm.ClassFile.FieldType.int), [], { frames := 1, cells := 0, slots := 0, locals := 20 })
abbrev mX3_put : MI := (yX3_put, cX3_put, 7, (Option.none : Option Jvm.ClassFile.FieldType), [], { frames := 3, cells := 0, slots := 0, locals := 68 })
abbrev mX3_drop : MI := (yX3_drop, cX3_drop, 2, (Option.none : Option Jvm.ClassFile.FieldType), [], { frames := 3, cells := 0, slots := 0, locals := 68 })
abbrev mX3_shift : MI := (yX3_shift, cX3_shift, 3, (Option.none : Option Jvm.ClassFile.FieldType), [], { frames := 3, cells := 0, slots := 0, locals := 68 })
abbrev mX3_link : MI := (yX3_link, cX3_link, 6, (Option.none : Option Jvm.ClassFile.FieldType), [], { frames := 2, cells := 0, slots := 0, locals := 43 })
abbrev mX3_unlink : MI := (yX3_unlink, cX3_unlink, 4, (Option.none : Option Jvm.ClassFile.FieldType), [], { frames := 2, cells := 0, slots := 0, locals := 45 })
abbrev mX3_joined : MI := (yX3_joined, cX3_joined, 6, (Option.some Jvm.ClassFile.FieldType.int), [], { frames := 1, cells := 0, slots := 0, locals := 20 })
abbrev mX3_isBefore : MI := (yX3_isBefore, cX3_isBefore, 4, (Option.some Jvm.ClassFile.FieldType.boolean), [], { frames := 1, cells := 0, slots := 0, locals := 20 })
abbrev mX3_firstNotBefore : MI := (yX3_firstNotBefore, cX3_firstNotBefore, 6, (Option.some Jvm.ClassFile.FieldType.int), [], { frames := 2, cells := 0, slots := 0, locals := 43 })
abbrev mX3_firstFrom : MI := (yX3_firstFrom, cX3_firstFrom, 2, (Option.some Jvm.ClassFile.FieldType.int), [], { frames := 3, cells := 0, slots := 0, locals := 68 })
abbrev mX3_firstFromScanned : MI := (yX3_firstFromScanned, cX3_firstFromScanned, 5, (Option.some Jvm.ClassFile.FieldType.int), [], { frames := 2, cells := 0, slots := 0, locals := 43 })
abbrev mX3_listThrough : MI := (yX3_listThrough, cX3_listThrough, 4, (Option.some Jvm.ClassFile.FieldType.int), [], { frames := 3, cells := 0, slots := 0, locals := 68 })
abbrev mX3_slotAt : MI := (yX3_slotAt, cX3_slotAt, 3, (Option.some Jvm.ClassFile.FieldType.int), [], { frames := 4, cells := 0, slots := 0, locals := 91 })
abbrev mX3_isKind : MI := (yX3_isKind, cX3_isKind, 3, (Option.some Jvm.ClassFile.FieldType.boolean), [], { frames := 2, cells := 0, slots := 0, locals := 40 })
abbrev mX3_lastBeat : MI := (yX3_lastBeat, cX3_lastBeat, 2, (Option.some Jvm.ClassFile.FieldType.int), [], { frames := 1, cells := 0, slots := 0, locals := 20 })
abbrev mX3_countOf : MI := (yX3_countOf, cX3_countOf, 4, (Option.some Jvm.ClassFile.FieldType.int), [], { frames := 1, cells := 0, slots := 0, locals := 20 })
abbrev mX3_noiseOn : MI := (yX3_noiseOn, cX3_noiseOn, 4, (Option.some Jvm.ClassFile.FieldType.int), [], { frames := 1, cells := 0, slots := 0, locals := 20 })
abbrev mX3_loudest : MI := (yX3_loudest, cX3_loudest, 6, (Option.some Jvm.ClassFile.FieldType.int), [], { frames := 2, cells := 0, slots := 0, locals := 43 })
abbrev mX3_isHushDue : MI := (yX3_isHushDue, cX3_isHushDue, 3, (Option.some Jvm.ClassFile.FieldType.boolean), [], { frames := 2, cells := 0, slots := 0, locals := 41 })
abbrev mX3_conflicts : MI := (yX3_conflicts, cX3_conflicts, 4, (Option.some Jvm.ClassFile.FieldType.int), [], { frames := 4, cells := 0, slots := 0, locals := 84 })
abbrev mX3_isMouthPair : MI := (yX3_isMouthPair, cX3_isMouthPair, 3, (Option.some Jvm.ClassFile.FieldType.boolean), [], { frames := 3, cells := 0, slots := 0, locals := 62 })
abbrev mX5_init : MI := (yX5_init, cX5_init, 2, (Option.none : Option Jvm.ClassFile.FieldType), [], { frames := 4, cells := 109, slots := 1485, locals := 83 })
abbrev mX5_prepare : MI := (yX5_prepare, cX5_prepare, 2, (Option.none : Option Jvm.ClassFile.FieldType), [], { frames := 14, cells := 0, slots := 0, locals := 342 })
abbrev mX5_keep : MI := (yX5_keep, cX5_keep, 1, (Option.none : Option Jvm.ClassFile.FieldType), [], { frames := 2, cells := 0, slots := 0, locals := 41 })
abbrev mX5_rollBack : MI := (yX5_rollBack, cX5_rollBack, 2, (Option.none : Option Jvm.ClassFile.FieldType), [], { frames := 14, cells := 0, slots := 0, locals := 342 })
abbrev mX5_isPlace : MI := (yX5_isPlace, cX5_isPlace, 1, (Option.some Jvm.ClassFile.FieldType.boolean), [], { frames := 1, cells := 0, slots := 0, locals := 20 })
abbrev mX5_takeBack : MI := (yX5_takeBack, cX5_takeBack, 2, (Option.none : Option Jvm.ClassFile.FieldType), [], { frames := 15, cells := 0, slots := 0, locals := 363 })
abbrev mX5_forget : MI := (yX5_forget, cX5_forget, 1, (Option.none : Option Jvm.ClassFile.FieldType), [], { frames := 1, cells := 0, slots := 0, locals := 20 })
abbrev mX6_init : MI := (yX6_init, cX6_init, 1, (Option.none : Option Jvm.ClassFile.FieldType), [], { frames := 3, cells := 11, slots := 150, locals := 63 })
abbrev mX6_copyFrom : MI := (yX6_copyFrom, cX6_copyFrom, 2, (Option.none : Option Jvm.ClassFile.FieldType), [], { frames := 13, cells := 0, slots := 0, locals := 321 })
abbrev mX6_hasPerformer : MI := (yX6_hasPerformer, cX6_hasPerformer, 2, (Option.some Jvm.ClassFile.FieldType.boolean), [], { frames := 1, cells := 0, slots := 0, locals := 20 })
abbrev mX6_isOpen : MI := (yX6_isOpen, cX6_isOpen, 2, (Option.some Jvm.ClassFile.FieldType.boolean), [], { frames := 2, cells := 0, slots := 0, locals := 41 })
abbrev mX6_isCueBeat : MI := (yX6_isCueBeat, cX6_isCueBeat, 2, (Option.some Jvm.ClassFile.FieldType.boolean), [], { frames := 1, cells := 0, slots := 0, locals := 20 })
abbrev mX6_isSize : MI := (yX6_isSize, cX6_isSize, 1, (Option.some Jvm.ClassFile.FieldType.boolean), [], { frames := 1, cells := 0, slots := 0, locals := 20 })
abbrev mX6_owedTotal : MI := (yX6_owedTotal, cX6_owedTotal, 3, (Option.some Jvm.ClassFile.FieldType.int), [], { frames := 1, cells := 0, slots := 0, locals := 20 })
abbrev mX6_ranked : MI := (yX6_ranked, cX6_ranked, 3, (Option.some Jvm.ClassFile.FieldType.int), [], { frames := 4, cells := 0, slots := 0, locals := 89 })
abbrev mX6_rankOf : MI := (yX6_rankOf, cX6_rankOf, 4, (Option.some Jvm.ClassFile.FieldType.int), [], { frames := 3, cells := 0, slots := 0, locals := 66 })
abbrev mX6_comesBefore : MI := (yX6_comesBefore, cX6_comesBefore, 4, (Option.some Jvm.ClassFile.FieldType.boolean), [], { frames := 2, cells := 0, slots := 0, locals := 43 })
abbrev mX6_join : MI := (yX6_join, cX6_join, 1, (Option.some Jvm.ClassFile.FieldType.int), [], { frames := 1, cells := 0, slots := 0, locals := 20 })
abbrev mX6_pay : MI := (yX6_pay, cX6_pay, 3, (Option.some Jvm.ClassFile.FieldType.int), [], { frames := 2, cells := 0, slots := 0, locals := 41 })
abbrev mX6_hiss : MI := (yX6_hiss, cX6_hiss, 4, (Option.some Jvm.ClassFile.FieldType.int), [], { frames := 4, cells := 0, slots := 0, locals := 84 })
abbrev mX6_impose : MI := (yX6_impose, cX6_impose, 3, (Option.none : Option Jvm.ClassFile.FieldType), [], { frames := 2, cells := 0, slots := 0, locals := 41 })
abbrev mX6_putPlayed : MI := (yX6_putPlayed, cX6_putPlayed, 5, (Option.some Jvm.ClassFile.FieldType.int), [], { frames := 5, cells := 0, slots := 0, locals := 119 })
abbrev mX6_putHush : MI := (yX6_putHush, cX6_putHush, 3, (Option.some Jvm.ClassFile.FieldType.int), [], { frames := 5, cells := 0, slots := 0, locals := 119 })
abbrev mX6_putCue : MI := (yX6_putCue, cX6_putCue, 6, (Option.some Jvm.ClassFile.FieldType.int), [], { frames := 4, cells := 0, slots := 0, locals := 94 })
abbrev mX6_cancel : MI := (yX6_cancel, cX6_cancel, 3, (Option.some Jvm.ClassFile.FieldType.int), [], { frames := 4, cells := 0, slots := 0, locals := 89 })
abbrev mX6_move : MI := (yX6_move, cX6_move, 5, (Option.some Jvm.ClassFile.FieldType.int), [], { frames := 4, cells := 0, slots := 0, locals := 90 })
abbrev mX6_limitNoise : MI := (yX6_limitNoise, cX6_limitNoise, 3, (Option.some Jvm.ClassFile.FieldType.int), [], { frames := 1, cells := 0, slots := 0, locals := 20 })
abbrev mX6_openAct : MI := (yX6_openAct, cX6_openAct, 1, (Option.some Jvm.ClassFile.FieldType.int), [], { frames := 2, cells := 0, slots := 0, locals := 43 })
abbrev mX6_pass : MI := (yX6_pass, cX6_pass, 4, (Option.some Jvm.ClassFile.FieldType.int), [], { frames := 5, cells := 0, slots := 0, locals := 113 })
abbrev mX6_passBeat : MI := (yX6_passBeat, cX6_passBeat, 3, (Option.none : Option Jvm.ClassFile.FieldType), [], { frames := 4, cells := 0, slots := 0, locals := 91 })
abbrev mX6_closeMouths : MI := (yX6_closeMouths, cX6_closeMouths, 2, (Option.none : Option Jvm.ClassFile.FieldType), [], { frames := 1, cells := 0, slots := 0, locals := 20 })
abbrev mX6_beginHushes : MI := (yX6_beginHushes, cX6_beginHushes, 4, (Option.none : Option Jvm.ClassFile.FieldType), [], { frames := 3, cells := 0, slots := 0, locals := 62 })
abbrev mX6_openMouths : MI := (yX6_openMouths, cX6_openMouths, 4, (Option.none : Option Jvm.ClassFile.FieldType), [], { frames := 3, cells := 0, slots := 0, locals := 63 })
abbrev mX6_openMouth : MI := (yX6_openMouth, cX6_openMouth, 3, (Option.none : Option Jvm.ClassFile.FieldType), [], { frames := 2, cells := 0, slots := 0, locals := 41 })
abbrev mX6_dropProps : MI := (yX6_dropProps, cX6_dropProps, 4, (Option.none : Option Jvm.ClassFile.FieldType), [], { frames := 3, cells := 0, slots := 0, locals := 63 })
abbrev mX6_isTooLoud : MI := (yX6_isTooLoud, cX6_isTooLoud, 3, (Option.some Jvm.ClassFile.FieldType.boolean), [], { frames := 1, cells := 0, slots := 0, locals := 20 })
abbrev mX6_isSilent : MI := (yX6_isSilent, cX6_isSilent, 2, (Option.some Jvm.ClassFile.FieldType.boolean), [], { frames := 3, cells := 0, slots := 0, locals := 63 })
abbrev mX6_foreseen : MI := (yX6_foreseen, cX6_foreseen, 7, (Option.some Jvm.ClassFile.FieldType.int), [], { frames := 4, cells := 0, slots := 0, locals := 84 })
abbrev mX7_init : MI := (yX7_init, cX7_init, 1, (Option.none : Option Jvm.ClassFile.FieldType), [], { frames := 13, cells := 184, slots := 2136, locals := 232 })
abbrev mX7_addPerformer : MI := (yX7_addPerformer, cX7_addPerformer, 2, (Option.some Jvm.ClassFile.FieldType.int), [], { frames := 15, cells := 1, slots := 6, locals := 363 })
abbrev mX7_performerCount : MI := (yX7_performerCount, cX7_performerCount, 1, (Option.some Jvm.ClassFile.FieldType.int), [], { frames := 1, cells := 0, slots := 0, locals := 20 })
abbrev mX7_fines : MI := (yX7_fines, cX7_fines, 2, (Option.some Jvm.ClassFile.FieldType.int), [], { frames := 12, cells := 1, slots := 6, locals := 300 })
abbrev mX7_payFine : MI := (yX7_payFine, cX7_payFine, 4, (Option.some Jvm.ClassFile.FieldType.int), [], { frames := 15, cells := 1, slots := 6, locals := 363 })
abbrev mX7_isMouthing : MI := (yX7_isMouthing, cX7_isMouthing, 2, (Option.some Jvm.ClassFile.FieldType.boolean), [], { frames := 12, cells := 1, slots := 6, locals := 300 })
abbrev mX7_whisper : MI := (yX7_whisper, cX7_whisper, 4, (Option.some Jvm.ClassFile.FieldType.int), [], { frames := 15, cells := 1, slots := 6, locals := 363 })
abbrev mX7_performerAtRank : MI := (yX7_performerAtRank, cX7_performerAtRank, 3, (Option.some Jvm.ClassFile.FieldType.int), [], { frames := 12, cells := 1, slots := 6, locals := 300 })
abbrev mX7_cueMouth : MI := (yX7_cueMouth, cX7_cueMouth, 4, (Option.some Jvm.ClassFile.FieldType.int), [], { frames := 16, cells := 1, slots := 6, locals := 388 })
abbrev mX7_cueProp : MI := (yX7_cueProp, cX7_cueProp, 4, (Option.some Jvm.ClassFile.FieldType.int), [], { frames := 16, cells := 1, slots := 6, locals := 388 })
abbrev mX7_addPlayed : MI := (yX7_addPlayed, cX7_addPlayed, 6, (Option.some Jvm.ClassFile.FieldType.int), [], { frames := 15, cells := 1, slots := 6, locals := 363 })
abbrev mX7_cueHush : MI := (yX7_cueHush, cX7_cueHush, 4, (Option.some Jvm.ClassFile.FieldType.int), [], { frames := 15, cells := 1, slots := 6, locals := 363 })
abbrev mX7_cancelCue : MI := (yX7_cancelCue, cX7_cancelCue, 3, (Option.some Jvm.ClassFile.FieldType.int), [], { frames := 15, cells := 1, slots := 6, locals := 363 })
abbrev mX7_moveCue : MI := (yX7_moveCue, cX7_moveCue, 4, (Option.some Jvm.ClassFile.FieldType.int), [], { frames := 15, cells := 1, slots := 6, locals := 363 })
abbrev mX7_cueCount : MI := (yX7_cueCount, cX7_cueCount, 1, (Option.some Jvm.ClassFile.FieldType.int), [], { frames := 1, cells := 0, slots := 0, locals := 20 })
abbrev mX7_cueAt : MI := (yX7_cueAt, cX7_cueAt, 3, (Option.some Jvm.ClassFile.FieldType.int), [], { frames := 12, cells := 1, slots := 6, locals := 300 })
abbrev mX7_firstCueFrom : MI := (yX7_firstCueFrom, cX7_firstCueFrom, 2, (Option.some Jvm.ClassFile.FieldType.int), [], { frames := 13, cells := 1, slots := 6, locals := 321 })
abbrev mX7_firstCueFromByScan : MI := (yX7_firstCueFromByScan, cX7_firstCueFromByScan, 2, (Option.some Jvm.ClassFile.FieldType.int), [], { frames := 13, cells := 1, slots := 6, locals := 321 })
abbrev mX7_idAt : MI := (yX7_idAt, cX7_idAt, 2, (Option.some Jvm.ClassFile.FieldType.int), [], { frames := 12, cells := 1, slots := 6, locals := 300 })
abbrev mX7_cueBeat : MI := (yX7_cueBeat, cX7_cueBeat, 2, (Option.some Jvm.ClassFile.FieldType.int), [], { frames := 13, cells := 1, slots := 6, locals := 322 })
abbrev mX7_cueKind : MI := (yX7_cueKind, cX7_cueKind, 2, (Option.some Jvm.ClassFile.FieldType.char), [], { frames := 13, cells := 1, slots := 6, locals := 322 })
abbrev mX7_cueSize : MI := (yX7_cueSize, cX7_cueSize, 2, (Option.some Jvm.ClassFile.FieldType.int), [], { frames := 13, cells := 1, slots := 6, locals := 322 })
abbrev mX7_cuePerformer : MI := (yX7_cuePerformer, cX7_cuePerformer, 3, (Option.some Jvm.ClassFile.FieldType.int), [], { frames := 13, cells := 2, slots := 12, locals := 322 })
abbrev mX7_pendingSlot : MI := (yX7_pendingSlot, cX7_pendingSlot, 3, (Option.some Jvm.ClassFile.FieldType.int), [], { frames := 12, cells := 1, slots := 6, locals := 300 })
abbrev mX7_conflictCount : MI := (yX7_conflictCount, cX7_conflictCount, 1, (Option.some Jvm.ClassFile.FieldType.int), [], { frames := 5, cells := 0, slots := 0, locals := 107 })
abbrev mX7_setLimit : MI := (yX7_setLimit, cX7_setLimit, 3, (Option.some Jvm.ClassFile.FieldType.int), [], { frames := 15, cells := 1, slots := 6, locals := 363 })
abbrev mX7_isHushed : MI := (yX7_isHushed, cX7_isHushed, 2, (Option.some Jvm.ClassFile.FieldType.boolean), [], { frames := 4, cells := 0, slots := 0, locals := 84 })
abbrev mX7_loudestBeat : MI := (yX7_loudestBeat, cX7_loudestBeat, 2, (Option.some Jvm.ClassFile.FieldType.int), [], { frames := 12, cells := 1, slots := 6, locals := 300 })
abbrev mX7_advance : MI := (yX7_advance, cX7_advance, 3, (Option.some Jvm.ClassFile.FieldType.int), [], { frames := 15, cells := 1, slots := 6, locals := 363 })
abbrev mX7_turnAct : MI := (yX7_turnAct, cX7_turnAct, 2, (Option.some Jvm.ClassFile.FieldType.int), [], { frames := 15, cells := 1, slots := 6, locals := 363 })
abbrev mX7_now : MI := (yX7_now, cX7_now, 1, (Option.some Jvm.ClassFile.FieldType.int), [], { frames := 1, cells := 0, slots := 0, locals := 20 })
abbrev mX7_act : MI := (yX7_act, cX7_act, 1, (Option.some Jvm.ClassFile.FieldType.int), [], { frames := 1, cells := 0, slots := 0, locals := 20 })
abbrev mX7_finesAfter : MI := (yX7_finesAfter, cX7_finesAfter, 3, (Option.some Jvm.ClassFile.FieldType.int), [], { frames := 15, cells := 1, slots := 6, locals := 363 })
abbrev mX7_finesAfterByCues : MI := (yX7_finesAfterByCues, cX7_finesAfterByCues, 3, (Option.some Jvm.ClassFile.FieldType.int), [], { frames := 13, cells := 1, slots := 6, locals := 322 })
abbrev mX7_checkForecast : MI := (yX7_checkForecast, cX7_checkForecast, 3, (Option.none : Option Jvm.ClassFile.FieldType), [], { frames := 12, cells := 1, slots := 6, locals := 300 })
abbrev mX7_passOnTrial : MI := (yX7_passOnTrial, cX7_passOnTrial, 2, (Option.none : Option Jvm.ClassFile.FieldType), [], { frames := 14, cells := 0, slots := 0, locals := 342 })
abbrev mX7_happenedCount : MI := (yX7_happenedCount, cX7_happenedCount, 1, (Option.some Jvm.ClassFile.FieldType.int), [], { frames := 1, cells := 0, slots := 0, locals := 20 })
abbrev mX7_clashCount : MI := (yX7_clashCount, cX7_clashCount, 1, (Option.some Jvm.ClassFile.FieldType.int), [], { frames := 1, cells := 0, slots := 0, locals := 20 })
abbrev mX7_imposedTotal : MI := (yX7_imposedTotal, cX7_imposedTotal, 1, (Option.some Jvm.ClassFile.FieldType.int), [], { frames := 1, cells := 0, slots := 0, locals := 20 })
abbrev mX7_paidTotal : MI := (yX7_paidTotal, cX7_paidTotal, 1, (Option.some Jvm.ClassFile.FieldType.int), [], { frames := 1, cells := 0, slots := 0, locals := 20 })
abbrev mX7_append : MI := (yX7_append, cX7_append, 2, (Option.some Jvm.ClassFile.FieldType.int), [], { frames := 16, cells := 2, slots := 134, locals := 386 })
abbrev mX7_run : MI := (yX7_run, cX7_run, 2, (Option.some Jvm.ClassFile.FieldType.int), [], { frames := 31, cells := 1, slots := 6, locals := 697 })
abbrev mX7_carryOutAll : MI := (yX7_carryOutAll, cX7_carryOutAll, 3, (Option.some Jvm.ClassFile.FieldType.boolean), [], { frames := 13, cells := 0, slots := 0, locals := 324 })
abbrev mX7_carryOut : MI := (yX7_carryOut, cX7_carryOut, 5, (Option.some Jvm.ClassFile.FieldType.int), [], { frames := 12, cells := 0, slots := 0, locals := 300 })
abbrev mX7_errorPosition : MI := (yX7_errorPosition, cX7_errorPosition, 1, (Option.some Jvm.ClassFile.FieldType.int), [], { frames := 12, cells := 1, slots := 6, locals := 300 })
abbrev mX7_failedCommand : MI := (yX7_failedCommand, cX7_failedCommand, 1, (Option.some Jvm.ClassFile.FieldType.int), [], { frames := 12, cells := 1, slots := 6, locals := 300 })
abbrev mX7_failedException : MI := (yX7_failedException, cX7_failedException, 1, (Option.some Jvm.ClassFile.FieldType.int), [], { frames := 12, cells := 1, slots := 6, locals := 300 })
abbrev mX7_describeCue : MI := (yX7_describeCue, cX7_describeCue, 4, (Option.some Jvm.ClassFile.FieldType.int), [], { frames := 31, cells := 9, slots := 1030, locals := 697 })
abbrev mX7_describePerformer : MI := (yX7_describePerformer, cX7_describePerformer, 2, (Option.some Jvm.ClassFile.FieldType.int), [], { frames := 31, cells := 5, slots := 518, locals := 697 })
abbrev mX7_lineAt : MI := (yX7_lineAt, cX7_lineAt, 2, (Option.some Jvm.ClassFile.FieldType.char), [], { frames := 12, cells := 1, slots := 6, locals := 300 })
abbrev mX7_meanFines : MI := (yX7_meanFines, cX7_meanFines, 1, (Option.some Jvm.ClassFile.FieldType.double), [], { frames := 12, cells := 1, slots := 6, locals := 300 })
abbrev mX7_hushedShare : MI := (yX7_hushedShare, cX7_hushedShare, 1, (Option.some Jvm.ClassFile.FieldType.float), [], { frames := 12, cells := 1, slots := 6, locals := 300 })
abbrev mX7_undo : MI := (yX7_undo, cX7_undo, 1, (Option.some Jvm.ClassFile.FieldType.int), [], { frames := 16, cells := 1, slots := 6, locals := 384 })
abbrev mX7_save : MI := (yX7_save, cX7_save, 1, (Option.some Jvm.ClassFile.FieldType.int), [], { frames := 14, cells := 0, slots := 0, locals := 342 })
abbrev mX7_restore : MI := (yX7_restore, cX7_restore, 1, (Option.some Jvm.ClassFile.FieldType.int), [], { frames := 14, cells := 1, slots := 6, locals := 342 })
set_option maxRecDepth 20000 in
theorem iGX1 : ∀ w ∈ u_ws RX1 TX1 3, w ∈ GW := by
  intro w hw
  obtain ⟨j, hj, rfl⟩ := List.mem_map.mp hw
  have hj : j < 3 := List.mem_range.mp hj
  match j, hj with
  | 0, _ => exact gw_tab 230 (by decide +kernel) (by decide +kernel)
  | 1, _ => exact gw_tab 232 (by decide +kernel) (by decide +kernel)
  | 2, _ => exact gw_tab 234 (by decide +kernel) (by decide +kernel)
  | j + 3, h => exact absurd h (by omega)
set_option maxRecDepth 20000 in
theorem iGX2 : ∀ w ∈ u_ws RX2 TX2 4, w ∈ GW := by
  intro w hw
  obtain ⟨j, hj, rfl⟩ := List.mem_map.mp hw
  have hj : j < 4 := List.mem_range.mp hj
  match j, hj with
  | 0, _ => exact gw_tab 245 (by decide +kernel) (by decide +kernel)
  | 1, _ => exact gw_tab 247 (by decide +kernel) (by decide +kernel)
  | 2, _ => exact gw_tab 249 (by decide +kernel) (by decide +kernel)
  | 3, _ => exact gw_tab 251 (by decide +kernel) (by decide +kernel)
  | j + 4, h => exact absurd h (by omega)
set_option maxRecDepth 20000 in
theorem iGX3 : ∀ w ∈ u_ws RX3 TX3 10, w ∈ GW := by
  intro w hw
  obtain ⟨j, hj, rfl⟩ := List.mem_map.mp hw
  have hj : j < 10 := List.mem_range.mp hj
  match j, hj with
  | 0, _ => exact gw_tab 80 (by decide +kernel) (by decide +kernel)
  | 1, _ => exact gw_tab 82 (by decide +kernel) (by decide +kernel)
  | 2, _ => exact gw_tab 84 (by decide +kernel) (by decide +kernel)
  | 3, _ => exact gw_tab 86 (by decide +kernel) (by decide +kernel)
  | 4, _ => exact gw_tab 88 (by decide +kernel) (by decide +kernel)
  | 5, _ => exact gw_tab 90 (by decide +kernel) (by decide +kernel)
  | 6, _ => exact gw_tab 92 (by decide +kernel) (by decide +kernel)
  | 7, _ => exact gw_tab 94 (by decide +kernel) (by decide +kernel)
  | 8, _ => exact gw_tab 96 (by decide +kernel) (by decide +kernel)
  | 9, _ => exact gw_tab 98 (by decide +kernel) (by decide +kernel)
  | j + 10, h => exact absurd h (by omega)
set_option maxRecDepth 20000 in
theorem iGX5 : ∀ w ∈ u_ws RX5 TX5 3, w ∈ GW := by
  intro w hw
  obtain ⟨j, hj, rfl⟩ := List.mem_map.mp hw
  have hj : j < 3 := List.mem_range.mp hj
  match j, hj with
  | 0, _ => exact gw_tab 170 (by decide +kernel) (by decide +kernel)
  | 1, _ => exact gw_tab 172 (by decide +kernel) (by decide +kernel)
  | 2, _ => exact gw_tab 174 (by decide +kernel) (by decide +kernel)
  | j + 3, h => exact absurd h (by omega)
set_option maxRecDepth 20000 in
theorem iGX6 : ∀ w ∈ u_ws RX6 TX6 14, w ∈ GW := by
  intro w hw
  obtain ⟨j, hj, rfl⟩ := List.mem_map.mp hw
  have hj : j < 14 := List.mem_range.mp hj
  match j, hj with
  | 0, _ => exact gw_tab 128 (by decide +kernel) (by decide +kernel)
  | 1, _ => exact gw_tab 130 (by decide +kernel) (by decide +kernel)
  | 2, _ => exact gw_tab 132 (by decide +kernel) (by decide +kernel)
  | 3, _ => exact gw_tab 134 (by decide +kernel) (by decide +kernel)
  | 4, _ => exact gw_tab 136 (by decide +kernel) (by decide +kernel)
  | 5, _ => exact gw_tab 138 (by decide +kernel) (by decide +kernel)
  | 6, _ => exact gw_tab 140 (by decide +kernel) (by decide +kernel)
  | 7, _ => exact gw_tab 142 (by decide +kernel) (by decide +kernel)
  | 8, _ => exact gw_tab 144 (by decide +kernel) (by decide +kernel)
  | 9, _ => exact gw_tab 146 (by decide +kernel) (by decide +kernel)
  | 10, _ => exact gw_tab 148 (by decide +kernel) (by decide +kernel)
  | 11, _ => exact gw_tab 150 (by decide +kernel) (by decide +kernel)
  | 12, _ => exact gw_tab 152 (by decide +kernel) (by decide +kernel)
  | 13, _ => exact gw_tab 154 (by decide +kernel) (by decide +kernel)
  | j + 14, h => exact absurd h (by omega)
set_option maxRecDepth 20000 in
theorem iGX7 : ∀ w ∈ u_ws RX7 TX7 10, w ∈ GW := by
  intro w hw
  obtain ⟨j, hj, rfl⟩ := List.mem_map.mp hw
  have hj : j < 10 := List.mem_range.mp hj
  match j, hj with
  | 0, _ => exact gw_tab 266 (by decide +kernel) (by decide +kernel)
  | 1, _ => exact gw_tab 268 (by decide +kernel) (by decide +kernel)
  | 2, _ => exact gw_tab 270 (by decide +kernel) (by decide +kernel)
  | 3, _ => exact gw_tab 272 (by decide +kernel) (by decide +kernel)
  | 4, _ => exact gw_tab 274 (by decide +kernel) (by decide +kernel)
  | 5, _ => exact gw_tab 276 (by decide +kernel) (by decide +kernel)
  | 6, _ => exact gw_tab 278 (by decide +kernel) (by decide +kernel)
  | 7, _ => exact gw_tab 280 (by decide +kernel) (by decide +kernel)
  | 8, _ => exact gw_tab 282 (by decide +kernel) (by decide +kernel)
  | 9, _ => exact gw_tab 284 (by decide +kernel) (by decide +kernel)
  | j + 10, h => exact absurd h (by omega)
theorem cdX1_init : mcode mX1_init ∈ GW := gw_tab 221 (by decide +kernel) (by decide +kernel)
theorem cdX1_begin : mcode mX1_begin ∈ GW := gw_tab 797 (by decide +kernel) (by decide +kernel)
theorem cdX1_add : mcode mX1_add ∈ GW := gw_tab 851 (by decide +kernel) (by decide +kernel)
theorem cdX2_init : mcode mX2_init ∈ GW := gw_tab 181 (by decide +kernel) (by decide +kernel)
theorem cdX2_readAll : mcode mX2_readAll ∈ GW := gw_tab 783 (by decide +kernel) (by decide +kernel)
theorem cdX2_readCommand : mcode mX2_readCommand ∈ GW := gw_tab 787 (by decide +kernel) (by decide +kernel)
theorem cdX2_readForm : mcode mX2_readForm ∈ GW := gw_tab 793 (by decide +kernel) (by decide +kernel)
theorem cdX2_readPart : mcode mX2_readPart ∈ GW := gw_tab 828 (by decide +kernel) (by decide +kernel)
theorem cdX2_readSign : mcode mX2_readSign ∈ GW := gw_tab 855 (by decide +kernel) (by decide +kernel)
theorem cdX2_readNumber : mcode mX2_readNumber ∈ GW := gw_tab 832 (by decide +kernel) (by decide +kernel)
theorem cdX2_isDigitNext : mcode mX2_isDigitNext ∈ GW := gw_tab 836 (by decide +kernel) (by decide +kernel)
theorem cdX3_init : mcode mX3_init ∈ GW := gw_tab 53 (by decide +kernel) (by decide +kernel)
theorem cdX3_isSlot : mcode mX3_isSlot ∈ GW := gw_tab 511 (by decide +kernel) (by decide +kernel)
theorem cdX3_copyFrom : mcode mX3_copyFrom ∈ GW := gw_tab 314 (by decide +kernel) (by decide +kernel)
theorem cdX3_isFull : mcode mX3_isFull ∈ GW := gw_tab 496 (by decide +kernel) (by decide +kernel)
theorem cdX3_slotOf : mcode mX3_slotOf ∈ GW := gw_tab 571 (by decide +kernel) (by decide +kernel)
theorem cdX3_freeSlot : mcode mX3_freeSlot ∈ GW := gw_tab 508 (by decide +kernel) (by decide +kernel)
theorem cdX3_put : mcode mX3_put ∈ GW := gw_tab 504 (by decide +kernel) (by decide +kernel)
theorem cdX3_drop : mcode mX3_drop ∈ GW := gw_tab 576 (by decide +kernel) (by decide +kernel)
theorem cdX3_shift : mcode mX3_shift ∈ GW := gw_tab 1064 (by decide +kernel) (by decide +kernel)
theorem cdX3_link : mcode mX3_link ∈ GW := gw_tab 515 (by decide +kernel) (by decide +kernel)
theorem cdX3_unlink : mcode mX3_unlink ∈ GW := gw_tab 580 (by decide +kernel) (by decide +kernel)
theorem cdX3_joined : mcode mX3_joined ∈ GW := gw_tab 584 (by decide +kernel) (by decide +kernel)
theorem cdX3_isBefore : mcode mX3_isBefore ∈ GW := gw_tab 519 (by decide +kernel) (by decide +kernel)
theorem cdX3_firstNotBefore : mcode mX3_firstNotBefore ∈ GW := gw_tab 627 (by decide +kernel) (by decide +kernel)
theorem cdX3_firstFrom : mcode mX3_firstFrom ∈ GW := gw_tab 1405 (by decide +kernel) (by decide +kernel)
theorem cdX3_firstFromScanned : mcode mX3_firstFromScanned ∈ GW := gw_tab 1421 (by decide +kernel) (by decide +kernel)
theorem cdX3_listThrough : mcode mX3_listThrough ∈ GW := gw_tab 623 (by decide +kernel) (by decide +kernel)
theorem cdX3_slotAt : mcode mX3_slotAt ∈ GW := gw_tab 1305 (by decide +kernel) (by decide +kernel)
theorem cdX3_isKind : mcode mX3_isKind ∈ GW := gw_tab 635 (by decide +kernel) (by decide +kernel)
theorem cdX3_lastBeat : mcode mX3_lastBeat ∈ GW := gw_tab 639 (by decide +kernel) (by decide +kernel)
theorem cdX3_countOf : mcode mX3_countOf ∈ GW := gw_tab 1256 (by decide +kernel) (by decide +kernel)
theorem cdX3_noiseOn : mcode mX3_noiseOn ∈ GW := gw_tab 658 (by decide +kernel) (by decide +kernel)
theorem cdX3_loudest : mcode mX3_loudest ∈ GW := gw_tab 1213 (by decide +kernel) (by decide +kernel)
theorem cdX3_isHushDue : mcode mX3_isHushDue ∈ GW := gw_tab 1055 (by decide +kernel) (by decide +kernel)
theorem cdX3_conflicts : mcode mX3_conflicts ∈ GW := gw_tab 1223 (by decide +kernel) (by decide +kernel)
theorem cdX3_isMouthPair : mcode mX3_isMouthPair ∈ GW := gw_tab 1227 (by decide +kernel) (by decide +kernel)
theorem cdX5_init : mcode mX5_init ∈ GW := gw_tab 161 (by decide +kernel) (by decide +kernel)
theorem cdX5_prepare : mcode mX5_prepare ∈ GW := gw_tab 333 (by decide +kernel) (by decide +kernel)
theorem cdX5_keep : mcode mX5_keep ∈ GW := gw_tab 417 (by decide +kernel) (by decide +kernel)
theorem cdX5_rollBack : mcode mX5_rollBack ∈ GW := gw_tab 1076 (by decide +kernel) (by decide +kernel)
theorem cdX5_isPlace : mcode mX5_isPlace ∈ GW := gw_tab 336 (by decide +kernel) (by decide +kernel)
theorem cdX5_takeBack : mcode mX5_takeBack ∈ GW := gw_tab 1097 (by decide +kernel) (by decide +kernel)
theorem cdX5_forget : mcode mX5_forget ∈ GW := gw_tab 1110 (by decide +kernel) (by decide +kernel)
theorem cdX6_init : mcode mX6_init ∈ GW := gw_tab 47 (by decide +kernel) (by decide +kernel)
theorem cdX6_copyFrom : mcode mX6_copyFrom ∈ GW := gw_tab 310 (by decide +kernel) (by decide +kernel)
theorem cdX6_hasPerformer : mcode mX6_hasPerformer ∈ GW := gw_tab 455 (by decide +kernel) (by decide +kernel)
theorem cdX6_isOpen : mcode mX6_isOpen ∈ GW := gw_tab 1285 (by decide +kernel) (by decide +kernel)
theorem cdX6_isCueBeat : mcode mX6_isCueBeat ∈ GW := gw_tab 489 (by decide +kernel) (by decide +kernel)
theorem cdX6_isSize : mcode mX6_isSize ∈ GW := gw_tab 492 (by decide +kernel) (by decide +kernel)
theorem cdX6_owedTotal : mcode mX6_owedTotal ∈ GW := gw_tab 1156 (by decide +kernel) (by decide +kernel)
theorem cdX6_ranked : mcode mX6_ranked ∈ GW := gw_tab 1244 (by decide +kernel) (by decide +kernel)
theorem cdX6_rankOf : mcode mX6_rankOf ∈ GW := gw_tab 1248 (by decide +kernel) (by decide +kernel)
theorem cdX6_comesBefore : mcode mX6_comesBefore ∈ GW := gw_tab 1252 (by decide +kernel) (by decide +kernel)
theorem cdX6_join : mcode mX6_join ∈ GW := gw_tab 341 (by decide +kernel) (by decide +kernel)
theorem cdX6_pay : mcode mX6_pay ∈ GW := gw_tab 1043 (by decide +kernel) (by decide +kernel)
theorem cdX6_hiss : mcode mX6_hiss ∈ GW := gw_tab 1047 (by decide +kernel) (by decide +kernel)
theorem cdX6_impose : mcode mX6_impose ∈ GW := gw_tab 666 (by decide +kernel) (by decide +kernel)
theorem cdX6_putPlayed : mcode mX6_putPlayed ∈ GW := gw_tab 484 (by decide +kernel) (by decide +kernel)
theorem cdX6_putHush : mcode mX6_putHush ∈ GW := gw_tab 554 (by decide +kernel) (by decide +kernel)
theorem cdX6_putCue : mcode mX6_putCue ∈ GW := gw_tab 500 (by decide +kernel) (by decide +kernel)
theorem cdX6_cancel : mcode mX6_cancel ∈ GW := gw_tab 567 (by decide +kernel) (by decide +kernel)
theorem cdX6_move : mcode mX6_move ∈ GW := gw_tab 1060 (by decide +kernel) (by decide +kernel)
theorem cdX6_limitNoise : mcode mX6_limitNoise ∈ GW := gw_tab 1068 (by decide +kernel) (by decide +kernel)
theorem cdX6_openAct : mcode mX6_openAct ∈ GW := gw_tab 1072 (by decide +kernel) (by decide +kernel)
theorem cdX6_pass : mcode mX6_pass ∈ GW := gw_tab 611 (by decide +kernel) (by decide +kernel)
theorem cdX6_passBeat : mcode mX6_passBeat ∈ GW := gw_tab 615 (by decide +kernel) (by decide +kernel)
theorem cdX6_closeMouths : mcode mX6_closeMouths ∈ GW := gw_tab 619 (by decide +kernel) (by decide +kernel)
theorem cdX6_beginHushes : mcode mX6_beginHushes ∈ GW := gw_tab 631 (by decide +kernel) (by decide +kernel)
theorem cdX6_openMouths : mcode mX6_openMouths ∈ GW := gw_tab 646 (by decide +kernel) (by decide +kernel)
theorem cdX6_openMouth : mcode mX6_openMouth ∈ GW := gw_tab 650 (by decide +kernel) (by decide +kernel)
theorem cdX6_dropProps : mcode mX6_dropProps ∈ GW := gw_tab 654 (by decide +kernel) (by decide +kernel)
theorem cdX6_isTooLoud : mcode mX6_isTooLoud ∈ GW := gw_tab 662 (by decide +kernel) (by decide +kernel)
theorem cdX6_isSilent : mcode mX6_isSilent ∈ GW := gw_tab 1051 (by decide +kernel) (by decide +kernel)
theorem cdX6_foreseen : mcode mX6_foreseen ∈ GW := gw_tab 1461 (by decide +kernel) (by decide +kernel)
theorem cdX7_init : mcode mX7_init ∈ GW := gw_tab 39 (by decide +kernel) (by decide +kernel)
theorem cdX7_addPerformer : mcode mX7_addPerformer ∈ GW := gw_tab 329 (by decide +kernel) (by decide +kernel)
theorem cdX7_performerCount : mcode mX7_performerCount ∈ GW := gw_tab 290 (by decide +kernel) (by decide +kernel)
theorem cdX7_fines : mcode mX7_fines ∈ GW := gw_tab 451 (by decide +kernel) (by decide +kernel)
theorem cdX7_payFine : mcode mX7_payFine ∈ GW := gw_tab 1330 (by decide +kernel) (by decide +kernel)
theorem cdX7_isMouthing : mcode mX7_isMouthing ∈ GW := gw_tab 1394 (by decide +kernel) (by decide +kernel)
theorem cdX7_whisper : mcode mX7_whisper ∈ GW := gw_tab 1354 (by decide +kernel) (by decide +kernel)
theorem cdX7_performerAtRank : mcode mX7_performerAtRank ∈ GW := gw_tab 1240 (by decide +kernel) (by decide +kernel)
theorem cdX7_cueMouth : mcode mX7_cueMouth ∈ GW := gw_tab 476 (by decide +kernel) (by decide +kernel)
theorem cdX7_cueProp : mcode mX7_cueProp ∈ GW := gw_tab 543 (by decide +kernel) (by decide +kernel)
theorem cdX7_addPlayed : mcode mX7_addPlayed ∈ GW := gw_tab 480 (by decide +kernel) (by decide +kernel)
theorem cdX7_cueHush : mcode mX7_cueHush ∈ GW := gw_tab 550 (by decide +kernel) (by decide +kernel)
theorem cdX7_cancelCue : mcode mX7_cancelCue ∈ GW := gw_tab 563 (by decide +kernel) (by decide +kernel)
theorem cdX7_moveCue : mcode mX7_moveCue ∈ GW := gw_tab 1362 (by decide +kernel) (by decide +kernel)
theorem cdX7_cueCount : mcode mX7_cueCount ∈ GW := gw_tab 294 (by decide +kernel) (by decide +kernel)
theorem cdX7_cueAt : mcode mX7_cueAt ∈ GW := gw_tab 1301 (by decide +kernel) (by decide +kernel)
theorem cdX7_firstCueFrom : mcode mX7_firstCueFrom ∈ GW := gw_tab 1401 (by decide +kernel) (by decide +kernel)
theorem cdX7_firstCueFromByScan : mcode mX7_firstCueFromByScan ∈ GW := gw_tab 1417 (by decide +kernel) (by decide +kernel)
theorem cdX7_idAt : mcode mX7_idAt ∈ GW := gw_tab 1409 (by decide +kernel) (by decide +kernel)
theorem cdX7_cueBeat : mcode mX7_cueBeat ∈ GW := gw_tab 1428 (by decide +kernel) (by decide +kernel)
theorem cdX7_cueKind : mcode mX7_cueKind ∈ GW := gw_tab 1435 (by decide +kernel) (by decide +kernel)
theorem cdX7_cueSize : mcode mX7_cueSize ∈ GW := gw_tab 1442 (by decide +kernel) (by decide +kernel)
theorem cdX7_cuePerformer : mcode mX7_cuePerformer ∈ GW := gw_tab 1449 (by decide +kernel) (by decide +kernel)
theorem cdX7_pendingSlot : mcode mX7_pendingSlot ∈ GW := gw_tab 1318 (by decide +kernel) (by decide +kernel)
theorem cdX7_conflictCount : mcode mX7_conflictCount ∈ GW := gw_tab 1219 (by decide +kernel) (by decide +kernel)
theorem cdX7_setLimit : mcode mX7_setLimit ∈ GW := gw_tab 1123 (by decide +kernel) (by decide +kernel)
theorem cdX7_isHushed : mcode mX7_isHushed ∈ GW := gw_tab 1232 (by decide +kernel) (by decide +kernel)
theorem cdX7_loudestBeat : mcode mX7_loudestBeat ∈ GW := gw_tab 1209 (by decide +kernel) (by decide +kernel)
theorem cdX7_advance : mcode mX7_advance ∈ GW := gw_tab 607 (by decide +kernel) (by decide +kernel)
theorem cdX7_turnAct : mcode mX7_turnAct ∈ GW := gw_tab 1370 (by decide +kernel) (by decide +kernel)
theorem cdX7_now : mcode mX7_now ∈ GW := gw_tab 298 (by decide +kernel) (by decide +kernel)
theorem cdX7_act : mcode mX7_act ∈ GW := gw_tab 1190 (by decide +kernel) (by decide +kernel)
theorem cdX7_finesAfter : mcode mX7_finesAfter ∈ GW := gw_tab 1264 (by decide +kernel) (by decide +kernel)
theorem cdX7_finesAfterByCues : mcode mX7_finesAfterByCues ∈ GW := gw_tab 1457 (by decide +kernel) (by decide +kernel)
theorem cdX7_checkForecast : mcode mX7_checkForecast ∈ GW := gw_tab 1268 (by decide +kernel) (by decide +kernel)
theorem cdX7_passOnTrial : mcode mX7_passOnTrial ∈ GW := gw_tab 1273 (by decide +kernel) (by decide +kernel)
theorem cdX7_happenedCount : mcode mX7_happenedCount ∈ GW := gw_tab 1194 (by decide +kernel) (by decide +kernel)
theorem cdX7_clashCount : mcode mX7_clashCount ∈ GW := gw_tab 1198 (by decide +kernel) (by decide +kernel)
theorem cdX7_imposedTotal : mcode mX7_imposedTotal ∈ GW := gw_tab 302 (by decide +kernel) (by decide +kernel)
theorem cdX7_paidTotal : mcode mX7_paidTotal ∈ GW := gw_tab 1202 (by decide +kernel) (by decide +kernel)
theorem cdX7_append : mcode mX7_append ∈ GW := gw_tab 674 (by decide +kernel) (by decide +kernel)
theorem cdX7_run : mcode mX7_run ∈ GW := gw_tab 779 (by decide +kernel) (by decide +kernel)
theorem cdX7_carryOutAll : mcode mX7_carryOutAll ∈ GW := gw_tab 1027 (by decide +kernel) (by decide +kernel)
theorem cdX7_carryOut : mcode mX7_carryOut ∈ GW := gw_tab 1031 (by decide +kernel) (by decide +kernel)
theorem cdX7_errorPosition : mcode mX7_errorPosition ∈ GW := gw_tab 1084 (by decide +kernel) (by decide +kernel)
theorem cdX7_failedCommand : mcode mX7_failedCommand ∈ GW := gw_tab 1470 (by decide +kernel) (by decide +kernel)
theorem cdX7_failedException : mcode mX7_failedException ∈ GW := gw_tab 1478 (by decide +kernel) (by decide +kernel)
theorem cdX7_describeCue : mcode mX7_describeCue ∈ GW := gw_tab 1314 (by decide +kernel) (by decide +kernel)
theorem cdX7_describePerformer : mcode mX7_describePerformer ∈ GW := gw_tab 1280 (by decide +kernel) (by decide +kernel)
theorem cdX7_lineAt : mcode mX7_lineAt ∈ GW := gw_tab 1292 (by decide +kernel) (by decide +kernel)
theorem cdX7_meanFines : mcode mX7_meanFines ∈ GW := gw_tab 1149 (by decide +kernel) (by decide +kernel)
theorem cdX7_hushedShare : mcode mX7_hushedShare ∈ GW := gw_tab 1174 (by decide +kernel) (by decide +kernel)
theorem cdX7_undo : mcode mX7_undo ∈ GW := gw_tab 1092 (by decide +kernel) (by decide +kernel)
theorem cdX7_save : mcode mX7_save ∈ GW := gw_tab 306 (by decide +kernel) (by decide +kernel)
theorem cdX7_restore : mcode mX7_restore ∈ GW := gw_tab 1105 (by decide +kernel) (by decide +kernel)
theorem cvX2_32 : CallV RX2 32 mX2_readCommand 1 := ⟨⟨gw_tab 784 (by decide +kernel) (by decide +kernel), gw_tab 6 (by decide +kernel) (by decide +kernel), cdX2_readCommand, by decide +kernel, by decide +kernel, by decide +kernel⟩, rfl, gw_tab 786 (by decide +kernel) (by decide +kernel), gw_sel (q := (yX2_readCommand, 4)) 17 (by decide +kernel) (by decide +kernel)⟩
theorem cvX2_40 : CallV RX2 40 mX2_readSign 1 := ⟨⟨gw_tab 852 (by decide +kernel) (by decide +kernel), gw_tab 6 (by decide +kernel) (by decide +kernel), cdX2_readSign, by decide +kernel, by decide +kernel, by decide +kernel⟩, rfl, gw_tab 854 (by decide +kernel) (by decide +kernel), gw_sel (q := (yX2_readSign, 4)) 22 (by decide +kernel) (by decide +kernel)⟩
theorem cvX2_48 : CallV RX2 48 mX2_readForm 2 := ⟨⟨gw_tab 790 (by decide +kernel) (by decide +kernel), gw_tab 6 (by decide +kernel) (by decide +kernel), cdX2_readForm, by decide +kernel, by decide +kernel, by decide +kernel⟩, rfl, gw_tab 792 (by decide +kernel) (by decide +kernel), gw_sel (q := (yX2_readForm, 4)) 18 (by decide +kernel) (by decide +kernel)⟩
theorem cvX2_58 : CallV RX2 58 mX1_begin 1 := ⟨⟨gw_tab 794 (by decide +kernel) (by decide +kernel), gw_tab 11 (by decide +kernel) (by decide +kernel), cdX1_begin, by decide +kernel, by decide +kernel, by decide +kernel⟩, rfl, gw_tab 795 (by decide +kernel) (by decide +kernel), gw_tab 796 (by decide +kernel) (by decide +kernel)⟩
theorem cvX2_75 : CallV RX2 75 mX2_readPart 2 := ⟨⟨gw_tab 825 (by decide +kernel) (by decide +kernel), gw_tab 6 (by decide +kernel) (by decide +kernel), cdX2_readPart, by decide +kernel, by decide +kernel, by decide +kernel⟩, rfl, gw_tab 827 (by decide +kernel) (by decide +kernel), gw_sel (q := (yX2_readPart, 4)) 19 (by decide +kernel) (by decide +kernel)⟩
theorem cvX2_79 : CallV RX2 79 mX2_readNumber 2 := ⟨⟨gw_tab 829 (by decide +kernel) (by decide +kernel), gw_tab 6 (by decide +kernel) (by decide +kernel), cdX2_readNumber, by decide +kernel, by decide +kernel, by decide +kernel⟩, rfl, gw_tab 831 (by decide +kernel) (by decide +kernel), gw_sel (q := (yX2_readNumber, 4)) 20 (by decide +kernel) (by decide +kernel)⟩
theorem cvX2_84 : CallV RX2 84 mX2_isDigitNext 0 := ⟨⟨gw_tab 833 (by decide +kernel) (by decide +kernel), gw_tab 6 (by decide +kernel) (by decide +kernel), cdX2_isDigitNext, by decide +kernel, by decide +kernel, by decide +kernel⟩, rfl, gw_tab 835 (by decide +kernel) (by decide +kernel), gw_sel (q := (yX2_isDigitNext, 4)) 21 (by decide +kernel) (by decide +kernel)⟩
theorem cvX2_88 : CallV RX2 88 mX1_add 1 := ⟨⟨gw_tab 848 (by decide +kernel) (by decide +kernel), gw_tab 11 (by decide +kernel) (by decide +kernel), cdX1_add, by decide +kernel, by decide +kernel, by decide +kernel⟩, rfl, gw_tab 849 (by decide +kernel) (by decide +kernel), gw_tab 850 (by decide +kernel) (by decide +kernel)⟩
theorem cvX3_56 : CallV RX3 56 mX3_freeSlot 0 := ⟨⟨gw_tab 505 (by decide +kernel) (by decide +kernel), gw_tab 3 (by decide +kernel) (by decide +kernel), cdX3_freeSlot, by decide +kernel, by decide +kernel, by decide +kernel⟩, rfl, gw_tab 507 (by decide +kernel) (by decide +kernel), gw_sel (q := (yX3_freeSlot, 10)) 3 (by decide +kernel) (by decide +kernel)⟩
theorem cvX3_60 : CallS RX3 60 mX3_isSlot 1 := ⟨⟨gw_tab 509 (by decide +kernel) (by decide +kernel), gw_tab 3 (by decide +kernel) (by decide +kernel), cdX3_isSlot, by decide +kernel, by decide +kernel, by decide +kernel⟩, rfl, gw_tab 510 (by decide +kernel) (by decide +kernel)⟩
theorem cvX3_64 : CallV RX3 64 mX3_link 1 := ⟨⟨gw_tab 512 (by decide +kernel) (by decide +kernel), gw_tab 3 (by decide +kernel) (by decide +kernel), cdX3_link, by decide +kernel, by decide +kernel, by decide +kernel⟩, rfl, gw_tab 514 (by decide +kernel) (by decide +kernel), gw_sel (q := (yX3_link, 10)) 4 (by decide +kernel) (by decide +kernel)⟩
theorem cvX3_68 : CallV RX3 68 mX3_unlink 1 := ⟨⟨gw_tab 577 (by decide +kernel) (by decide +kernel), gw_tab 3 (by decide +kernel) (by decide +kernel), cdX3_unlink, by decide +kernel, by decide +kernel, by decide +kernel⟩, rfl, gw_tab 579 (by decide +kernel) (by decide +kernel), gw_sel (q := (yX3_unlink, 10)) 6 (by decide +kernel) (by decide +kernel)⟩
theorem cvX3_71 : CallV RX3 71 mX3_isBefore 3 := ⟨⟨gw_tab 516 (by decide +kernel) (by decide +kernel), gw_tab 3 (by decide +kernel) (by decide +kernel), cdX3_isBefore, by decide +kernel, by decide +kernel, by decide +kernel⟩, rfl, gw_tab 518 (by decide +kernel) (by decide +kernel), gw_sel (q := (yX3_isBefore, 10)) 5 (by decide +kernel) (by decide +kernel)⟩
theorem cvX3_75 : CallV RX3 75 mX3_joined 2 := ⟨⟨gw_tab 581 (by decide +kernel) (by decide +kernel), gw_tab 3 (by decide +kernel) (by decide +kernel), cdX3_joined, by decide +kernel, by decide +kernel, by decide +kernel⟩, rfl, gw_tab 583 (by decide +kernel) (by decide +kernel), gw_sel (q := (yX3_joined, 10)) 7 (by decide +kernel) (by decide +kernel)⟩
theorem cvX3_79 : CallV RX3 79 mX3_firstNotBefore 2 := ⟨⟨gw_tab 624 (by decide +kernel) (by decide +kernel), gw_tab 3 (by decide +kernel) (by decide +kernel), cdX3_firstNotBefore, by decide +kernel, by decide +kernel, by decide +kernel⟩, rfl, gw_tab 626 (by decide +kernel) (by decide +kernel), gw_sel (q := (yX3_firstNotBefore, 10)) 10 (by decide +kernel) (by decide +kernel)⟩
theorem cvX3_82 : CallV RX3 82 mX3_listThrough 1 := ⟨⟨gw_tab 1306 (by decide +kernel) (by decide +kernel), gw_tab 3 (by decide +kernel) (by decide +kernel), cdX3_listThrough, by decide +kernel, by decide +kernel, by decide +kernel⟩, rfl, gw_tab 621 (by decide +kernel) (by decide +kernel), gw_tab 622 (by decide +kernel) (by decide +kernel)⟩
theorem cvX3_86 : CallV RX3 86 mX3_noiseOn 1 := ⟨⟨gw_tab 1214 (by decide +kernel) (by decide +kernel), gw_tab 3 (by decide +kernel) (by decide +kernel), cdX3_noiseOn, by decide +kernel, by decide +kernel, by decide +kernel⟩, rfl, gw_tab 656 (by decide +kernel) (by decide +kernel), gw_tab 657 (by decide +kernel) (by decide +kernel)⟩
theorem cvX3_89 : CallV RX3 89 mX3_lastBeat 1 := ⟨⟨gw_tab 1056 (by decide +kernel) (by decide +kernel), gw_tab 3 (by decide +kernel) (by decide +kernel), cdX3_lastBeat, by decide +kernel, by decide +kernel, by decide +kernel⟩, rfl, gw_tab 637 (by decide +kernel) (by decide +kernel), gw_tab 638 (by decide +kernel) (by decide +kernel)⟩
theorem cvX3_92 : CallV RX3 92 mX3_isMouthPair 2 := ⟨⟨gw_tab 1224 (by decide +kernel) (by decide +kernel), gw_tab 3 (by decide +kernel) (by decide +kernel), cdX3_isMouthPair, by decide +kernel, by decide +kernel, by decide +kernel⟩, rfl, gw_tab 1226 (by decide +kernel) (by decide +kernel), gw_sel (q := (yX3_isMouthPair, 10)) 25 (by decide +kernel) (by decide +kernel)⟩
theorem cvX3_96 : CallV RX3 96 mX3_isKind 2 := ⟨⟨gw_tab 1228 (by decide +kernel) (by decide +kernel), gw_tab 3 (by decide +kernel) (by decide +kernel), cdX3_isKind, by decide +kernel, by decide +kernel, by decide +kernel⟩, rfl, gw_tab 633 (by decide +kernel) (by decide +kernel), gw_tab 634 (by decide +kernel) (by decide +kernel)⟩
theorem cvX5_24 : CallI RX5 24 mX6_init 0 ∧ Cond.instanceMethod (my mX6_init) ∈ GW := ⟨⟨gw_tab 165 (by decide +kernel) (by decide +kernel), gw_tab 2 (by decide +kernel) (by decide +kernel), cdX6_init, by decide +kernel, by decide +kernel, by decide +kernel⟩, gw_tab 46 (by decide +kernel) (by decide +kernel)⟩
theorem cvX5_25 : CallS RX5 25 mX5_isPlace 1 := ⟨⟨gw_tab 334 (by decide +kernel) (by decide +kernel), gw_tab 5 (by decide +kernel) (by decide +kernel), cdX5_isPlace, by decide +kernel, by decide +kernel, by decide +kernel⟩, rfl, gw_tab 335 (by decide +kernel) (by decide +kernel)⟩
theorem cvX5_29 : CallV RX5 29 mX6_copyFrom 1 := ⟨⟨gw_tab 337 (by decide +kernel) (by decide +kernel), gw_tab 2 (by decide +kernel) (by decide +kernel), cdX6_copyFrom, by decide +kernel, by decide +kernel, by decide +kernel⟩, rfl, gw_tab 308 (by decide +kernel) (by decide +kernel), gw_tab 309 (by decide +kernel) (by decide +kernel)⟩
theorem cvX5_39 : CallV RX5 39 mX5_rollBack 1 := ⟨⟨gw_tab 1098 (by decide +kernel) (by decide +kernel), gw_tab 5 (by decide +kernel) (by decide +kernel), cdX5_rollBack, by decide +kernel, by decide +kernel, by decide +kernel⟩, rfl, gw_tab 1074 (by decide +kernel) (by decide +kernel), gw_tab 1075 (by decide +kernel) (by decide +kernel)⟩
theorem cvX6_11 : CallI RX6 11 mX3_init 0 ∧ Cond.instanceMethod (my mX3_init) ∈ GW := ⟨⟨gw_tab 51 (by decide +kernel) (by decide +kernel), gw_tab 3 (by decide +kernel) (by decide +kernel), cdX3_init, by decide +kernel, by decide +kernel, by decide +kernel⟩, gw_tab 52 (by decide +kernel) (by decide +kernel)⟩
theorem cvX6_65 : CallV RX6 65 mX3_copyFrom 1 := ⟨⟨gw_tab 311 (by decide +kernel) (by decide +kernel), gw_tab 3 (by decide +kernel) (by decide +kernel), cdX3_copyFrom, by decide +kernel, by decide +kernel, by decide +kernel⟩, rfl, gw_tab 312 (by decide +kernel) (by decide +kernel), gw_tab 313 (by decide +kernel) (by decide +kernel)⟩
theorem cvX6_75 : CallV RX6 75 mX6_hasPerformer 1 := ⟨⟨gw_tab 485 (by decide +kernel) (by decide +kernel), gw_tab 2 (by decide +kernel) (by decide +kernel), cdX6_hasPerformer, by decide +kernel, by decide +kernel, by decide +kernel⟩, rfl, gw_tab 453 (by decide +kernel) (by decide +kernel), gw_tab 454 (by decide +kernel) (by decide +kernel)⟩
theorem cvX6_79 : CallV RX6 79 mX6_rankOf 1 := ⟨⟨gw_tab 1245 (by decide +kernel) (by decide +kernel), gw_tab 2 (by decide +kernel) (by decide +kernel), cdX6_rankOf, by decide +kernel, by decide +kernel, by decide +kernel⟩, rfl, gw_tab 1247 (by decide +kernel) (by decide +kernel), gw_sel (q := (yX6_rankOf, 14)) 26 (by decide +kernel) (by decide +kernel)⟩
theorem cvX6_83 : CallV RX6 83 mX6_comesBefore 2 := ⟨⟨gw_tab 1249 (by decide +kernel) (by decide +kernel), gw_tab 2 (by decide +kernel) (by decide +kernel), cdX6_comesBefore, by decide +kernel, by decide +kernel, by decide +kernel⟩, rfl, gw_tab 1251 (by decide +kernel) (by decide +kernel), gw_sel (q := (yX6_comesBefore, 14)) 27 (by decide +kernel) (by decide +kernel)⟩
theorem cvX6_87 : CallV RX6 87 mX3_countOf 1 := ⟨⟨gw_tab 1253 (by decide +kernel) (by decide +kernel), gw_tab 3 (by decide +kernel) (by decide +kernel), cdX3_countOf, by decide +kernel, by decide +kernel, by decide +kernel⟩, rfl, gw_tab 1254 (by decide +kernel) (by decide +kernel), gw_tab 1255 (by decide +kernel) (by decide +kernel)⟩
theorem cvX6_90 : CallV RX6 90 mX6_isSilent 1 := ⟨⟨gw_tab 1048 (by decide +kernel) (by decide +kernel), gw_tab 2 (by decide +kernel) (by decide +kernel), cdX6_isSilent, by decide +kernel, by decide +kernel, by decide +kernel⟩, rfl, gw_tab 1049 (by decide +kernel) (by decide +kernel), gw_tab 1050 (by decide +kernel) (by decide +kernel)⟩
theorem cvX6_93 : CallV RX6 93 mX6_impose 2 := ⟨⟨gw_tab 663 (by decide +kernel) (by decide +kernel), gw_tab 2 (by decide +kernel) (by decide +kernel), cdX6_impose, by decide +kernel, by decide +kernel, by decide +kernel⟩, rfl, gw_tab 665 (by decide +kernel) (by decide +kernel), gw_sel (q := (yX6_impose, 14)) 16 (by decide +kernel) (by decide +kernel)⟩
theorem cvX6_97 : CallV RX6 97 mX6_isCueBeat 1 := ⟨⟨gw_tab 486 (by decide +kernel) (by decide +kernel), gw_tab 2 (by decide +kernel) (by decide +kernel), cdX6_isCueBeat, by decide +kernel, by decide +kernel, by decide +kernel⟩, rfl, gw_tab 487 (by decide +kernel) (by decide +kernel), gw_tab 488 (by decide +kernel) (by decide +kernel)⟩
theorem cvX6_100 : CallS RX6 100 mX6_isSize 1 := ⟨⟨gw_tab 490 (by decide +kernel) (by decide +kernel), gw_tab 2 (by decide +kernel) (by decide +kernel), cdX6_isSize, by decide +kernel, by decide +kernel, by decide +kernel⟩, rfl, gw_tab 491 (by decide +kernel) (by decide +kernel)⟩
theorem cvX6_103 : CallV RX6 103 mX3_isFull 0 := ⟨⟨gw_tab 493 (by decide +kernel) (by decide +kernel), gw_tab 3 (by decide +kernel) (by decide +kernel), cdX3_isFull, by decide +kernel, by decide +kernel, by decide +kernel⟩, rfl, gw_tab 494 (by decide +kernel) (by decide +kernel), gw_tab 495 (by decide +kernel) (by decide +kernel)⟩
theorem cvX6_107 : CallV RX6 107 mX6_putCue 4 := ⟨⟨gw_tab 497 (by decide +kernel) (by decide +kernel), gw_tab 2 (by decide +kernel) (by decide +kernel), cdX6_putCue, by decide +kernel, by decide +kernel, by decide +kernel⟩, rfl, gw_tab 499 (by decide +kernel) (by decide +kernel), gw_sel (q := (yX6_putCue, 14)) 2 (by decide +kernel) (by decide +kernel)⟩
theorem cvX6_111 : CallV RX6 111 mX3_put 5 := ⟨⟨gw_tab 501 (by decide +kernel) (by decide +kernel), gw_tab 3 (by decide +kernel) (by decide +kernel), cdX3_put, by decide +kernel, by decide +kernel, by decide +kernel⟩, rfl, gw_tab 502 (by decide +kernel) (by decide +kernel), gw_tab 503 (by decide +kernel) (by decide +kernel)⟩
theorem cvX6_115 : CallV RX6 115 mX3_slotOf 1 := ⟨⟨gw_tab 568 (by decide +kernel) (by decide +kernel), gw_tab 3 (by decide +kernel) (by decide +kernel), cdX3_slotOf, by decide +kernel, by decide +kernel, by decide +kernel⟩, rfl, gw_tab 569 (by decide +kernel) (by decide +kernel), gw_tab 570 (by decide +kernel) (by decide +kernel)⟩
theorem cvX6_118 : CallS RX6 118 mX3_isSlot 1 := ⟨⟨gw_tab 572 (by decide +kernel) (by decide +kernel), gw_tab 3 (by decide +kernel) (by decide +kernel), cdX3_isSlot, by decide +kernel, by decide +kernel, by decide +kernel⟩, rfl, gw_tab 510 (by decide +kernel) (by decide +kernel)⟩
theorem cvX6_121 : CallV RX6 121 mX3_drop 1 := ⟨⟨gw_tab 573 (by decide +kernel) (by decide +kernel), gw_tab 3 (by decide +kernel) (by decide +kernel), cdX3_drop, by decide +kernel, by decide +kernel, by decide +kernel⟩, rfl, gw_tab 574 (by decide +kernel) (by decide +kernel), gw_tab 575 (by decide +kernel) (by decide +kernel)⟩
theorem cvX6_131 : CallV RX6 131 mX3_shift 2 := ⟨⟨gw_tab 1061 (by decide +kernel) (by decide +kernel), gw_tab 3 (by decide +kernel) (by decide +kernel), cdX3_shift, by decide +kernel, by decide +kernel, by decide +kernel⟩, rfl, gw_tab 1062 (by decide +kernel) (by decide +kernel), gw_tab 1063 (by decide +kernel) (by decide +kernel)⟩
theorem cvX6_134 : CallV RX6 134 mX6_passBeat 0 := ⟨⟨gw_tab 612 (by decide +kernel) (by decide +kernel), gw_tab 2 (by decide +kernel) (by decide +kernel), cdX6_passBeat, by decide +kernel, by decide +kernel, by decide +kernel⟩, rfl, gw_tab 614 (by decide +kernel) (by decide +kernel), gw_sel (q := (yX6_passBeat, 14)) 8 (by decide +kernel) (by decide +kernel)⟩
theorem cvX6_137 : CallV RX6 137 mX6_closeMouths 0 := ⟨⟨gw_tab 616 (by decide +kernel) (by decide +kernel), gw_tab 2 (by decide +kernel) (by decide +kernel), cdX6_closeMouths, by decide +kernel, by decide +kernel, by decide +kernel⟩, rfl, gw_tab 618 (by decide +kernel) (by decide +kernel), gw_sel (q := (yX6_closeMouths, 14)) 9 (by decide +kernel) (by decide +kernel)⟩
theorem cvX6_140 : CallV RX6 140 mX3_listThrough 1 := ⟨⟨gw_tab 620 (by decide +kernel) (by decide +kernel), gw_tab 3 (by decide +kernel) (by decide +kernel), cdX3_listThrough, by decide +kernel, by decide +kernel, by decide +kernel⟩, rfl, gw_tab 621 (by decide +kernel) (by decide +kernel), gw_tab 622 (by decide +kernel) (by decide +kernel)⟩
theorem cvX6_143 : CallV RX6 143 mX6_beginHushes 1 := ⟨⟨gw_tab 628 (by decide +kernel) (by decide +kernel), gw_tab 2 (by decide +kernel) (by decide +kernel), cdX6_beginHushes, by decide +kernel, by decide +kernel, by decide +kernel⟩, rfl, gw_tab 630 (by decide +kernel) (by decide +kernel), gw_sel (q := (yX6_beginHushes, 14)) 11 (by decide +kernel) (by decide +kernel)⟩
theorem cvX6_146 : CallV RX6 146 mX6_openMouths 1 := ⟨⟨gw_tab 643 (by decide +kernel) (by decide +kernel), gw_tab 2 (by decide +kernel) (by decide +kernel), cdX6_openMouths, by decide +kernel, by decide +kernel, by decide +kernel⟩, rfl, gw_tab 645 (by decide +kernel) (by decide +kernel), gw_sel (q := (yX6_openMouths, 14)) 12 (by decide +kernel) (by decide +kernel)⟩
theorem cvX6_149 : CallV RX6 149 mX6_dropProps 1 := ⟨⟨gw_tab 651 (by decide +kernel) (by decide +kernel), gw_tab 2 (by decide +kernel) (by decide +kernel), cdX6_dropProps, by decide +kernel, by decide +kernel, by decide +kernel⟩, rfl, gw_tab 653 (by decide +kernel) (by decide +kernel), gw_sel (q := (yX6_dropProps, 14)) 14 (by decide +kernel) (by decide +kernel)⟩
theorem cvX6_155 : CallV RX6 155 mX3_isKind 2 := ⟨⟨gw_tab 632 (by decide +kernel) (by decide +kernel), gw_tab 3 (by decide +kernel) (by decide +kernel), cdX3_isKind, by decide +kernel, by decide +kernel, by decide +kernel⟩, rfl, gw_tab 633 (by decide +kernel) (by decide +kernel), gw_tab 634 (by decide +kernel) (by decide +kernel)⟩
theorem cvX6_159 : CallV RX6 159 mX3_lastBeat 1 := ⟨⟨gw_tab 636 (by decide +kernel) (by decide +kernel), gw_tab 3 (by decide +kernel) (by decide +kernel), cdX3_lastBeat, by decide +kernel, by decide +kernel, by decide +kernel⟩, rfl, gw_tab 637 (by decide +kernel) (by decide +kernel), gw_tab 638 (by decide +kernel) (by decide +kernel)⟩
theorem cvX6_171 : CallV RX6 171 mX6_openMouth 2 := ⟨⟨gw_tab 647 (by decide +kernel) (by decide +kernel), gw_tab 2 (by decide +kernel) (by decide +kernel), cdX6_openMouth, by decide +kernel, by decide +kernel, by decide +kernel⟩, rfl, gw_tab 649 (by decide +kernel) (by decide +kernel), gw_sel (q := (yX6_openMouth, 14)) 13 (by decide +kernel) (by decide +kernel)⟩
theorem cvX6_174 : CallV RX6 174 mX3_noiseOn 1 := ⟨⟨gw_tab 655 (by decide +kernel) (by decide +kernel), gw_tab 3 (by decide +kernel) (by decide +kernel), cdX3_noiseOn, by decide +kernel, by decide +kernel, by decide +kernel⟩, rfl, gw_tab 656 (by decide +kernel) (by decide +kernel), gw_tab 657 (by decide +kernel) (by decide +kernel)⟩
theorem cvX6_177 : CallV RX6 177 mX6_isTooLoud 2 := ⟨⟨gw_tab 659 (by decide +kernel) (by decide +kernel), gw_tab 2 (by decide +kernel) (by decide +kernel), cdX6_isTooLoud, by decide +kernel, by decide +kernel, by decide +kernel⟩, rfl, gw_tab 661 (by decide +kernel) (by decide +kernel), gw_sel (q := (yX6_isTooLoud, 14)) 15 (by decide +kernel) (by decide +kernel)⟩
theorem cvX6_184 : CallV RX6 184 mX3_isHushDue 1 := ⟨⟨gw_tab 1052 (by decide +kernel) (by decide +kernel), gw_tab 3 (by decide +kernel) (by decide +kernel), cdX3_isHushDue, by decide +kernel, by decide +kernel, by decide +kernel⟩, rfl, gw_tab 1053 (by decide +kernel) (by decide +kernel), gw_tab 1054 (by decide +kernel) (by decide +kernel)⟩
theorem cvX7_11 : CallI RX7 11 mX6_init 0 ∧ Cond.instanceMethod (my mX6_init) ∈ GW := ⟨⟨gw_tab 45 (by decide +kernel) (by decide +kernel), gw_tab 2 (by decide +kernel) (by decide +kernel), cdX6_init, by decide +kernel, by decide +kernel, by decide +kernel⟩, gw_tab 46 (by decide +kernel) (by decide +kernel)⟩
theorem cvX7_24 : CallI RX7 24 mX5_init 0 ∧ Cond.instanceMethod (my mX5_init) ∈ GW := ⟨⟨gw_tab 159 (by decide +kernel) (by decide +kernel), gw_tab 5 (by decide +kernel) (by decide +kernel), cdX5_init, by decide +kernel, by decide +kernel, by decide +kernel⟩, gw_tab 160 (by decide +kernel) (by decide +kernel)⟩
theorem cvX7_31 : CallI RX7 31 mX2_init 0 ∧ Cond.instanceMethod (my mX2_init) ∈ GW := ⟨⟨gw_tab 179 (by decide +kernel) (by decide +kernel), gw_tab 6 (by decide +kernel) (by decide +kernel), cdX2_init, by decide +kernel, by decide +kernel, by decide +kernel⟩, gw_tab 180 (by decide +kernel) (by decide +kernel)⟩
theorem cvX7_57 : CallV RX7 57 mX5_prepare 1 := ⟨⟨gw_tab 330 (by decide +kernel) (by decide +kernel), gw_tab 5 (by decide +kernel) (by decide +kernel), cdX5_prepare, by decide +kernel, by decide +kernel, by decide +kernel⟩, rfl, gw_tab 331 (by decide +kernel) (by decide +kernel), gw_tab 332 (by decide +kernel) (by decide +kernel)⟩
theorem cvX7_61 : CallV RX7 61 mX6_join 0 := ⟨⟨gw_tab 338 (by decide +kernel) (by decide +kernel), gw_tab 2 (by decide +kernel) (by decide +kernel), cdX6_join, by decide +kernel, by decide +kernel, by decide +kernel⟩, rfl, gw_tab 339 (by decide +kernel) (by decide +kernel), gw_tab 340 (by decide +kernel) (by decide +kernel)⟩
theorem cvX7_72 : CallV RX7 72 mX5_keep 0 := ⟨⟨gw_tab 414 (by decide +kernel) (by decide +kernel), gw_tab 5 (by decide +kernel) (by decide +kernel), cdX5_keep, by decide +kernel, by decide +kernel, by decide +kernel⟩, rfl, gw_tab 415 (by decide +kernel) (by decide +kernel), gw_tab 416 (by decide +kernel) (by decide +kernel)⟩
theorem cvX7_78 : CallV RX7 78 mX6_hasPerformer 1 := ⟨⟨gw_tab 452 (by decide +kernel) (by decide +kernel), gw_tab 2 (by decide +kernel) (by decide +kernel), cdX6_hasPerformer, by decide +kernel, by decide +kernel, by decide +kernel⟩, rfl, gw_tab 453 (by decide +kernel) (by decide +kernel), gw_tab 454 (by decide +kernel) (by decide +kernel)⟩
theorem cvX7_91 : CallV RX7 91 mX6_pay 2 := ⟨⟨gw_tab 1040 (by decide +kernel) (by decide +kernel), gw_tab 2 (by decide +kernel) (by decide +kernel), cdX6_pay, by decide +kernel, by decide +kernel, by decide +kernel⟩, rfl, gw_tab 1041 (by decide +kernel) (by decide +kernel), gw_tab 1042 (by decide +kernel) (by decide +kernel)⟩
theorem cvX7_105 : CallV RX7 105 mX6_isOpen 1 := ⟨⟨gw_tab 1282 (by decide +kernel) (by decide +kernel), gw_tab 2 (by decide +kernel) (by decide +kernel), cdX6_isOpen, by decide +kernel, by decide +kernel, by decide +kernel⟩, rfl, gw_tab 1283 (by decide +kernel) (by decide +kernel), gw_tab 1284 (by decide +kernel) (by decide +kernel)⟩
theorem cvX7_108 : CallV RX7 108 mX6_hiss 2 := ⟨⟨gw_tab 1044 (by decide +kernel) (by decide +kernel), gw_tab 2 (by decide +kernel) (by decide +kernel), cdX6_hiss, by decide +kernel, by decide +kernel, by decide +kernel⟩, rfl, gw_tab 1045 (by decide +kernel) (by decide +kernel), gw_tab 1046 (by decide +kernel) (by decide +kernel)⟩
theorem cvX7_113 : CallV RX7 113 mX6_ranked 1 := ⟨⟨gw_tab 1241 (by decide +kernel) (by decide +kernel), gw_tab 2 (by decide +kernel) (by decide +kernel), cdX6_ranked, by decide +kernel, by decide +kernel, by decide +kernel⟩, rfl, gw_tab 1242 (by decide +kernel) (by decide +kernel), gw_tab 1243 (by decide +kernel) (by decide +kernel)⟩
theorem cvX7_122 : CallV RX7 122 mX7_addPlayed 4 := ⟨⟨gw_tab 477 (by decide +kernel) (by decide +kernel), gw_tab 1 (by decide +kernel) (by decide +kernel), cdX7_addPlayed, by decide +kernel, by decide +kernel, by decide +kernel⟩, rfl, gw_tab 479 (by decide +kernel) (by decide +kernel), gw_sel (q := (yX7_addPlayed, 10)) 1 (by decide +kernel) (by decide +kernel)⟩
theorem cvX7_126 : CallV RX7 126 mX6_putPlayed 4 := ⟨⟨gw_tab 481 (by decide +kernel) (by decide +kernel), gw_tab 2 (by decide +kernel) (by decide +kernel), cdX6_putPlayed, by decide +kernel, by decide +kernel, by decide +kernel⟩, rfl, gw_tab 482 (by decide +kernel) (by decide +kernel), gw_tab 483 (by decide +kernel) (by decide +kernel)⟩
theorem cvX7_133 : CallV RX7 133 mX6_putHush 2 := ⟨⟨gw_tab 551 (by decide +kernel) (by decide +kernel), gw_tab 2 (by decide +kernel) (by decide +kernel), cdX6_putHush, by decide +kernel, by decide +kernel, by decide +kernel⟩, rfl, gw_tab 552 (by decide +kernel) (by decide +kernel), gw_tab 553 (by decide +kernel) (by decide +kernel)⟩
theorem cvX7_138 : CallV RX7 138 mX6_cancel 1 := ⟨⟨gw_tab 564 (by decide +kernel) (by decide +kernel), gw_tab 2 (by decide +kernel) (by decide +kernel), cdX6_cancel, by decide +kernel, by decide +kernel, by decide +kernel⟩, rfl, gw_tab 565 (by decide +kernel) (by decide +kernel), gw_tab 566 (by decide +kernel) (by decide +kernel)⟩
theorem cvX7_143 : CallV RX7 143 mX6_move 2 := ⟨⟨gw_tab 1057 (by decide +kernel) (by decide +kernel), gw_tab 2 (by decide +kernel) (by decide +kernel), cdX6_move, by decide +kernel, by decide +kernel, by decide +kernel⟩, rfl, gw_tab 1058 (by decide +kernel) (by decide +kernel), gw_tab 1059 (by decide +kernel) (by decide +kernel)⟩
theorem cvX7_157 : CallV RX7 157 mX3_slotAt 1 := ⟨⟨gw_tab 1302 (by decide +kernel) (by decide +kernel), gw_tab 3 (by decide +kernel) (by decide +kernel), cdX3_slotAt, by decide +kernel, by decide +kernel, by decide +kernel⟩, rfl, gw_tab 1303 (by decide +kernel) (by decide +kernel), gw_tab 1304 (by decide +kernel) (by decide +kernel)⟩
theorem cvX7_160 : CallS RX7 160 mX3_isSlot 1 := ⟨⟨gw_tab 1307 (by decide +kernel) (by decide +kernel), gw_tab 3 (by decide +kernel) (by decide +kernel), cdX3_isSlot, by decide +kernel, by decide +kernel, by decide +kernel⟩, rfl, gw_tab 510 (by decide +kernel) (by decide +kernel)⟩
theorem cvX7_166 : CallV RX7 166 mX3_firstFrom 1 := ⟨⟨gw_tab 1402 (by decide +kernel) (by decide +kernel), gw_tab 3 (by decide +kernel) (by decide +kernel), cdX3_firstFrom, by decide +kernel, by decide +kernel, by decide +kernel⟩, rfl, gw_tab 1403 (by decide +kernel) (by decide +kernel), gw_tab 1404 (by decide +kernel) (by decide +kernel)⟩
theorem cvX7_169 : CallV RX7 169 mX7_idAt 1 := ⟨⟨gw_tab 1406 (by decide +kernel) (by decide +kernel), gw_tab 1 (by decide +kernel) (by decide +kernel), cdX7_idAt, by decide +kernel, by decide +kernel, by decide +kernel⟩, rfl, gw_tab 1408 (by decide +kernel) (by decide +kernel), gw_sel (q := (yX7_idAt, 10)) 31 (by decide +kernel) (by decide +kernel)⟩
theorem cvX7_172 : CallV RX7 172 mX3_firstFromScanned 1 := ⟨⟨gw_tab 1418 (by decide +kernel) (by decide +kernel), gw_tab 3 (by decide +kernel) (by decide +kernel), cdX3_firstFromScanned, by decide +kernel, by decide +kernel, by decide +kernel⟩, rfl, gw_tab 1419 (by decide +kernel) (by decide +kernel), gw_tab 1420 (by decide +kernel) (by decide +kernel)⟩
theorem cvX7_180 : CallV RX7 180 mX7_pendingSlot 1 := ⟨⟨gw_tab 1315 (by decide +kernel) (by decide +kernel), gw_tab 1 (by decide +kernel) (by decide +kernel), cdX7_pendingSlot, by decide +kernel, by decide +kernel, by decide +kernel⟩, rfl, gw_tab 1317 (by decide +kernel) (by decide +kernel), gw_sel (q := (yX7_pendingSlot, 10)) 30 (by decide +kernel) (by decide +kernel)⟩
theorem cvX7_195 : CallV RX7 195 mX3_slotOf 1 := ⟨⟨gw_tab 1319 (by decide +kernel) (by decide +kernel), gw_tab 3 (by decide +kernel) (by decide +kernel), cdX3_slotOf, by decide +kernel, by decide +kernel, by decide +kernel⟩, rfl, gw_tab 569 (by decide +kernel) (by decide +kernel), gw_tab 570 (by decide +kernel) (by decide +kernel)⟩
theorem cvX7_198 : CallV RX7 198 mX3_conflicts 0 := ⟨⟨gw_tab 1220 (by decide +kernel) (by decide +kernel), gw_tab 3 (by decide +kernel) (by decide +kernel), cdX3_conflicts, by decide +kernel, by decide +kernel, by decide +kernel⟩, rfl, gw_tab 1221 (by decide +kernel) (by decide +kernel), gw_tab 1222 (by decide +kernel) (by decide +kernel)⟩
theorem cvX7_204 : CallV RX7 204 mX6_limitNoise 1 := ⟨⟨gw_tab 1065 (by decide +kernel) (by decide +kernel), gw_tab 2 (by decide +kernel) (by decide +kernel), cdX6_limitNoise, by decide +kernel, by decide +kernel, by decide +kernel⟩, rfl, gw_tab 1066 (by decide +kernel) (by decide +kernel), gw_tab 1067 (by decide +kernel) (by decide +kernel)⟩
theorem cvX7_212 : CallV RX7 212 mX6_isSilent 1 := ⟨⟨gw_tab 1233 (by decide +kernel) (by decide +kernel), gw_tab 2 (by decide +kernel) (by decide +kernel), cdX6_isSilent, by decide +kernel, by decide +kernel, by decide +kernel⟩, rfl, gw_tab 1049 (by decide +kernel) (by decide +kernel), gw_tab 1050 (by decide +kernel) (by decide +kernel)⟩
theorem cvX7_215 : CallV RX7 215 mX3_loudest 0 := ⟨⟨gw_tab 1210 (by decide +kernel) (by decide +kernel), gw_tab 3 (by decide +kernel) (by decide +kernel), cdX3_loudest, by decide +kernel, by decide +kernel, by decide +kernel⟩, rfl, gw_tab 1211 (by decide +kernel) (by decide +kernel), gw_tab 1212 (by decide +kernel) (by decide +kernel)⟩
theorem cvX7_220 : CallV RX7 220 mX6_pass 1 := ⟨⟨gw_tab 608 (by decide +kernel) (by decide +kernel), gw_tab 2 (by decide +kernel) (by decide +kernel), cdX6_pass, by decide +kernel, by decide +kernel, by decide +kernel⟩, rfl, gw_tab 609 (by decide +kernel) (by decide +kernel), gw_tab 610 (by decide +kernel) (by decide +kernel)⟩
theorem cvX7_225 : CallV RX7 225 mX6_openAct 0 := ⟨⟨gw_tab 1069 (by decide +kernel) (by decide +kernel), gw_tab 2 (by decide +kernel) (by decide +kernel), cdX6_openAct, by decide +kernel, by decide +kernel, by decide +kernel⟩, rfl, gw_tab 1070 (by decide +kernel) (by decide +kernel), gw_tab 1071 (by decide +kernel) (by decide +kernel)⟩
theorem cvX7_236 : CallV RX7 236 mX7_checkForecast 2 := ⟨⟨gw_tab 1265 (by decide +kernel) (by decide +kernel), gw_tab 1 (by decide +kernel) (by decide +kernel), cdX7_checkForecast, by decide +kernel, by decide +kernel, by decide +kernel⟩, rfl, gw_tab 1267 (by decide +kernel) (by decide +kernel), gw_sel (q := (yX7_checkForecast, 10)) 28 (by decide +kernel) (by decide +kernel)⟩
theorem cvX7_240 : CallV RX7 240 mX7_passOnTrial 1 := ⟨⟨gw_tab 1270 (by decide +kernel) (by decide +kernel), gw_tab 1 (by decide +kernel) (by decide +kernel), cdX7_passOnTrial, by decide +kernel, by decide +kernel, by decide +kernel⟩, rfl, gw_tab 1272 (by decide +kernel) (by decide +kernel), gw_sel (q := (yX7_passOnTrial, 10)) 29 (by decide +kernel) (by decide +kernel)⟩
theorem cvX7_244 : CallV RX7 244 mX6_foreseen 2 := ⟨⟨gw_tab 1458 (by decide +kernel) (by decide +kernel), gw_tab 2 (by decide +kernel) (by decide +kernel), cdX6_foreseen, by decide +kernel, by decide +kernel, by decide +kernel⟩, rfl, gw_tab 1459 (by decide +kernel) (by decide +kernel), gw_tab 1460 (by decide +kernel) (by decide +kernel)⟩
theorem cvX7_249 : CallV RX7 249 mX6_copyFrom 1 := ⟨⟨gw_tab 307 (by decide +kernel) (by decide +kernel), gw_tab 2 (by decide +kernel) (by decide +kernel), cdX6_copyFrom, by decide +kernel, by decide +kernel, by decide +kernel⟩, rfl, gw_tab 308 (by decide +kernel) (by decide +kernel), gw_tab 309 (by decide +kernel) (by decide +kernel)⟩
theorem cvX7_278 : CallV RX7 278 mX2_readAll 0 := ⟨⟨gw_tab 780 (by decide +kernel) (by decide +kernel), gw_tab 6 (by decide +kernel) (by decide +kernel), cdX2_readAll, by decide +kernel, by decide +kernel, by decide +kernel⟩, rfl, gw_tab 781 (by decide +kernel) (by decide +kernel), gw_tab 782 (by decide +kernel) (by decide +kernel)⟩
theorem cvX7_290 : CallV RX7 290 mX7_carryOutAll 0 := ⟨⟨gw_tab 1024 (by decide +kernel) (by decide +kernel), gw_tab 1 (by decide +kernel) (by decide +kernel), cdX7_carryOutAll, by decide +kernel, by decide +kernel, by decide +kernel⟩, rfl, gw_tab 1026 (by decide +kernel) (by decide +kernel), gw_sel (q := (yX7_carryOutAll, 10)) 23 (by decide +kernel) (by decide +kernel)⟩
theorem cvX7_293 : CallV RX7 293 mX5_rollBack 1 := ⟨⟨gw_tab 1073 (by decide +kernel) (by decide +kernel), gw_tab 5 (by decide +kernel) (by decide +kernel), cdX5_rollBack, by decide +kernel, by decide +kernel, by decide +kernel⟩, rfl, gw_tab 1074 (by decide +kernel) (by decide +kernel), gw_tab 1075 (by decide +kernel) (by decide +kernel)⟩
theorem cvX7_303 : CallV RX7 303 mX7_carryOut 1 := ⟨⟨gw_tab 1028 (by decide +kernel) (by decide +kernel), gw_tab 1 (by decide +kernel) (by decide +kernel), cdX7_carryOut, by decide +kernel, by decide +kernel, by decide +kernel⟩, rfl, gw_tab 1030 (by decide +kernel) (by decide +kernel), gw_sel (q := (yX7_carryOut, 10)) 24 (by decide +kernel) (by decide +kernel)⟩
theorem cvX7_344 : CallV RX7 344 mX6_owedTotal 0 := ⟨⟨gw_tab 1153 (by decide +kernel) (by decide +kernel), gw_tab 2 (by decide +kernel) (by decide +kernel), cdX6_owedTotal, by decide +kernel, by decide +kernel, by decide +kernel⟩, rfl, gw_tab 1154 (by decide +kernel) (by decide +kernel), gw_tab 1155 (by decide +kernel) (by decide +kernel)⟩
theorem cvX7_358 : CallV RX7 358 mX5_takeBack 1 := ⟨⟨gw_tab 1094 (by decide +kernel) (by decide +kernel), gw_tab 5 (by decide +kernel) (by decide +kernel), cdX5_takeBack, by decide +kernel, by decide +kernel, by decide +kernel⟩, rfl, gw_tab 1095 (by decide +kernel) (by decide +kernel), gw_tab 1096 (by decide +kernel) (by decide +kernel)⟩
theorem cvX7_363 : CallV RX7 363 mX5_forget 0 := ⟨⟨gw_tab 1107 (by decide +kernel) (by decide +kernel), gw_tab 5 (by decide +kernel) (by decide +kernel), cdX5_forget, by decide +kernel, by decide +kernel, by decide +kernel⟩, rfl, gw_tab 1108 (by decide +kernel) (by decide +kernel), gw_tab 1109 (by decide +kernel) (by decide +kernel)⟩
theorem flX7_12 : Cond.fieldLink RX7 12 "SilentOpera" "sheet" "LSilentOpera$Sheet;" ∈ GW := gw_tab 256 (by decide +kernel) (by decide +kernel)
theorem flX7_16 : Cond.fieldLink RX7 16 "SilentOpera" "trial" "LSilentOpera$Sheet;" ∈ GW := gw_tab 257 (by decide +kernel) (by decide +kernel)
theorem flX7_19 : Cond.fieldLink RX7 19 "SilentOpera" "snapshot" "LSilentOpera$Sheet;" ∈ GW := gw_tab 258 (by decide +kernel) (by decide +kernel)
theorem flX7_25 : Cond.fieldLink RX7 25 "SilentOpera" "history" "LSilentOpera$History;" ∈ GW := gw_tab 259 (by decide +kernel) (by decide +kernel)
theorem flX7_32 : Cond.fieldLink RX7 32 "SilentOpera" "reader" "LSilentOpera$CommandReader;" ∈ GW := gw_tab 260 (by decide +kernel) (by decide +kernel)
theorem flX7_39 : Cond.fieldLink RX7 39 "SilentOpera" "line" "Ljava/lang/StringBuilder;" ∈ GW := gw_tab 261 (by decide +kernel) (by decide +kernel)
theorem flX7_43 : Cond.fieldLink RX7 43 "SilentOpera" "hasSnapshot" "Z" ∈ GW := gw_tab 262 (by decide +kernel) (by decide +kernel)
theorem flX7_47 : Cond.fieldLink RX7 47 "SilentOpera" "lastErrorPosition" "I" ∈ GW := gw_tab 263 (by decide +kernel) (by decide +kernel)
theorem flX7_51 : Cond.fieldLink RX7 51 "SilentOpera" "lastFailedCommand" "I" ∈ GW := gw_tab 264 (by decide +kernel) (by decide +kernel)
theorem flX7_54 : Cond.fieldLink RX7 54 "SilentOpera" "lastFailedException" "I" ∈ GW := gw_tab 265 (by decide +kernel) (by decide +kernel)
theorem flX7_75 : Cond.fieldLink RX7 75 "SilentOpera$Sheet" "performers" "I" ∈ GW := gw_tab 110 (by decide +kernel) (by decide +kernel)
theorem flX7_87 : Cond.fieldLink RX7 87 "SilentOpera$Sheet" "owed" "[I" ∈ GW := gw_tab 107 (by decide +kernel) (by decide +kernel)
theorem flX7_148 : Cond.fieldLink RX7 148 "SilentOpera$Sheet" "cues" "LSilentOpera$CueTree;" ∈ GW := gw_tab 105 (by decide +kernel) (by decide +kernel)
theorem flX7_152 : Cond.fieldLink RX7 152 "SilentOpera$CueTree" "count" "I" ∈ GW := gw_tab 78 (by decide +kernel) (by decide +kernel)
theorem flX7_163 : Cond.fieldLink RX7 163 "SilentOpera$CueTree" "ids" "[I" ∈ GW := gw_tab 59 (by decide +kernel) (by decide +kernel)
theorem flX7_177 : Cond.fieldLink RX7 177 "SilentOpera$CueTree" "beats" "[I" ∈ GW := gw_tab 68 (by decide +kernel) (by decide +kernel)
theorem flX7_183 : Cond.fieldLink RX7 183 "SilentOpera$CueTree" "kinds" "[C" ∈ GW := gw_tab 61 (by decide +kernel) (by decide +kernel)
theorem flX7_187 : Cond.fieldLink RX7 187 "SilentOpera$CueTree" "sizes" "[I" ∈ GW := gw_tab 70 (by decide +kernel) (by decide +kernel)
theorem flX7_192 : Cond.fieldLink RX7 192 "SilentOpera$CueTree" "players" "[I" ∈ GW := gw_tab 64 (by decide +kernel) (by decide +kernel)
theorem flX7_230 : Cond.fieldLink RX7 230 "SilentOpera$Sheet" "beat" "I" ∈ GW := gw_tab 113 (by decide +kernel) (by decide +kernel)
theorem flX7_233 : Cond.fieldLink RX7 233 "SilentOpera$Sheet" "actNumber" "I" ∈ GW := gw_tab 115 (by decide +kernel) (by decide +kernel)
theorem flX7_252 : Cond.fieldLink RX7 252 "SilentOpera$Sheet" "happened" "I" ∈ GW := gw_tab 121 (by decide +kernel) (by decide +kernel)
theorem flX7_255 : Cond.fieldLink RX7 255 "SilentOpera$Sheet" "clashes" "I" ∈ GW := gw_tab 123 (by decide +kernel) (by decide +kernel)
theorem flX7_258 : Cond.fieldLink RX7 258 "SilentOpera$Sheet" "imposed" "I" ∈ GW := gw_tab 125 (by decide +kernel) (by decide +kernel)
theorem flX7_261 : Cond.fieldLink RX7 261 "SilentOpera$Sheet" "paid" "I" ∈ GW := gw_tab 127 (by decide +kernel) (by decide +kernel)
theorem flX7_266 : Cond.fieldLink RX7 266 "SilentOpera$CommandReader" "text" "Ljava/lang/StringBuilder;" ∈ GW := gw_tab 238 (by decide +kernel) (by decide +kernel)
theorem flX7_285 : Cond.fieldLink RX7 285 "SilentOpera$CommandReader" "position" "I" ∈ GW := gw_tab 244 (by decide +kernel) (by decide +kernel)
theorem flX7_298 : Cond.fieldLink RX7 298 "SilentOpera$CommandReader" "count" "I" ∈ GW := gw_tab 242 (by decide +kernel) (by decide +kernel)
theorem flX7_299 : Cond.fieldLink RX7 299 "SilentOpera$CommandReader" "commands" "[LSilentOpera$Command;" ∈ GW := gw_tab 240 (by decide +kernel) (by decide +kernel)
theorem flX7_307 : Cond.fieldLink RX7 307 "SilentOpera$Command" "numbers" "[I" ∈ GW := gw_tab 226 (by decide +kernel) (by decide +kernel)
theorem flX7_312 : Cond.fieldLink RX7 312 "SilentOpera$1" "$SwitchMap$SilentOpera$Form" "[I" ∈ GW := gw_tab 1032 (by decide +kernel) (by decide +kernel)
theorem flX7_317 : Cond.fieldLink RX7 317 "SilentOpera$Command" "form" "LSilentOpera$Form;" ∈ GW := gw_tab 228 (by decide +kernel) (by decide +kernel)
theorem flX7_349 : Cond.fieldLink RX7 349 "SilentOpera$Sheet" "hushedBeats" "I" ∈ GW := gw_tab 119 (by decide +kernel) (by decide +kernel)
theorem flX7_355 : Cond.fieldLink RX7 355 "SilentOpera$History" "count" "I" ∈ GW := gw_tab 169 (by decide +kernel) (by decide +kernel)
theorem flX1_9 : Cond.fieldLink RX1 9 "SilentOpera$Command" "numbers" "[I" ∈ GW := gw_tab 225 (by decide +kernel) (by decide +kernel)
theorem flX1_15 : Cond.fieldLink RX1 15 "SilentOpera$Form" "ACT" "LSilentOpera$Form;" ∈ GW := gw_tab 223 (by decide +kernel) (by decide +kernel)
theorem flX1_21 : Cond.fieldLink RX1 21 "SilentOpera$Command" "form" "LSilentOpera$Form;" ∈ GW := gw_tab 227 (by decide +kernel) (by decide +kernel)
theorem flX1_24 : Cond.fieldLink RX1 24 "SilentOpera$Command" "numberCount" "I" ∈ GW := gw_tab 229 (by decide +kernel) (by decide +kernel)
theorem flX2_12 : Cond.fieldLink RX2 12 "SilentOpera$CommandReader" "text" "Ljava/lang/StringBuilder;" ∈ GW := gw_tab 237 (by decide +kernel) (by decide +kernel)
theorem flX2_20 : Cond.fieldLink RX2 20 "SilentOpera$CommandReader" "commands" "[LSilentOpera$Command;" ∈ GW := gw_tab 239 (by decide +kernel) (by decide +kernel)
theorem flX2_24 : Cond.fieldLink RX2 24 "SilentOpera$CommandReader" "count" "I" ∈ GW := gw_tab 241 (by decide +kernel) (by decide +kernel)
theorem flX2_28 : Cond.fieldLink RX2 28 "SilentOpera$CommandReader" "position" "I" ∈ GW := gw_tab 243 (by decide +kernel) (by decide +kernel)
theorem flX2_44 : Cond.fieldLink RX2 44 "SilentOpera$CommandReader" "FORMS" "[LSilentOpera$Form;" ∈ GW := gw_tab 788 (by decide +kernel) (by decide +kernel)
theorem flX2_62 : Cond.fieldLink RX2 62 "SilentOpera$Form" "shape" "Ljava/lang/String;" ∈ GW := gw_tab 1515 (by decide +kernel) (by decide +kernel)
theorem flX3_9 : Cond.fieldLink RX3 9 "SilentOpera$CueTree" "ids" "[I" ∈ GW := gw_tab 58 (by decide +kernel) (by decide +kernel)
theorem flX3_15 : Cond.fieldLink RX3 15 "SilentOpera$CueTree" "kinds" "[C" ∈ GW := gw_tab 60 (by decide +kernel) (by decide +kernel)
theorem flX3_19 : Cond.fieldLink RX3 19 "SilentOpera$CueTree" "players" "[I" ∈ GW := gw_tab 63 (by decide +kernel) (by decide +kernel)
theorem flX3_22 : Cond.fieldLink RX3 22 "SilentOpera$CueTree" "beats" "[I" ∈ GW := gw_tab 66 (by decide +kernel) (by decide +kernel)
theorem flX3_25 : Cond.fieldLink RX3 25 "SilentOpera$CueTree" "sizes" "[I" ∈ GW := gw_tab 69 (by decide +kernel) (by decide +kernel)
theorem flX3_28 : Cond.fieldLink RX3 28 "SilentOpera$CueTree" "lower" "[I" ∈ GW := gw_tab 72 (by decide +kernel) (by decide +kernel)
theorem flX3_31 : Cond.fieldLink RX3 31 "SilentOpera$CueTree" "higher" "[I" ∈ GW := gw_tab 73 (by decide +kernel) (by decide +kernel)
theorem flX3_34 : Cond.fieldLink RX3 34 "SilentOpera$CueTree" "order" "[I" ∈ GW := gw_tab 74 (by decide +kernel) (by decide +kernel)
theorem flX3_37 : Cond.fieldLink RX3 37 "SilentOpera$CueTree" "root" "I" ∈ GW := gw_tab 76 (by decide +kernel) (by decide +kernel)
theorem flX3_41 : Cond.fieldLink RX3 41 "SilentOpera$CueTree" "count" "I" ∈ GW := gw_tab 77 (by decide +kernel) (by decide +kernel)
theorem flX5_11 : Cond.fieldLink RX5 11 "SilentOpera$History" "sheets" "[LSilentOpera$Sheet;" ∈ GW := gw_tab 166 (by decide +kernel) (by decide +kernel)
theorem flX5_17 : Cond.fieldLink RX5 17 "SilentOpera$History" "spare" "I" ∈ GW := gw_tab 167 (by decide +kernel) (by decide +kernel)
theorem flX5_21 : Cond.fieldLink RX5 21 "SilentOpera$History" "count" "I" ∈ GW := gw_tab 168 (by decide +kernel) (by decide +kernel)
theorem flX6_12 : Cond.fieldLink RX6 12 "SilentOpera$Sheet" "cues" "LSilentOpera$CueTree;" ∈ GW := gw_tab 104 (by decide +kernel) (by decide +kernel)
theorem flX6_18 : Cond.fieldLink RX6 18 "SilentOpera$Sheet" "owed" "[I" ∈ GW := gw_tab 106 (by decide +kernel) (by decide +kernel)
theorem flX6_22 : Cond.fieldLink RX6 22 "SilentOpera$Sheet" "mouthEnds" "[I" ∈ GW := gw_tab 108 (by decide +kernel) (by decide +kernel)
theorem flX6_25 : Cond.fieldLink RX6 25 "SilentOpera$Sheet" "performers" "I" ∈ GW := gw_tab 109 (by decide +kernel) (by decide +kernel)
theorem flX6_29 : Cond.fieldLink RX6 29 "SilentOpera$Sheet" "nextId" "I" ∈ GW := gw_tab 111 (by decide +kernel) (by decide +kernel)
theorem flX6_32 : Cond.fieldLink RX6 32 "SilentOpera$Sheet" "beat" "I" ∈ GW := gw_tab 112 (by decide +kernel) (by decide +kernel)
theorem flX6_35 : Cond.fieldLink RX6 35 "SilentOpera$Sheet" "actNumber" "I" ∈ GW := gw_tab 114 (by decide +kernel) (by decide +kernel)
theorem flX6_38 : Cond.fieldLink RX6 38 "SilentOpera$Sheet" "limit" "I" ∈ GW := gw_tab 116 (by decide +kernel) (by decide +kernel)
theorem flX6_41 : Cond.fieldLink RX6 41 "SilentOpera$Sheet" "hushEnd" "I" ∈ GW := gw_tab 117 (by decide +kernel) (by decide +kernel)
theorem flX6_44 : Cond.fieldLink RX6 44 "SilentOpera$Sheet" "hushedBeats" "I" ∈ GW := gw_tab 118 (by decide +kernel) (by decide +kernel)
theorem flX6_47 : Cond.fieldLink RX6 47 "SilentOpera$Sheet" "happened" "I" ∈ GW := gw_tab 120 (by decide +kernel) (by decide +kernel)
theorem flX6_50 : Cond.fieldLink RX6 50 "SilentOpera$Sheet" "clashes" "I" ∈ GW := gw_tab 122 (by decide +kernel) (by decide +kernel)
theorem flX6_53 : Cond.fieldLink RX6 53 "SilentOpera$Sheet" "imposed" "I" ∈ GW := gw_tab 124 (by decide +kernel) (by decide +kernel)
theorem flX6_56 : Cond.fieldLink RX6 56 "SilentOpera$Sheet" "paid" "I" ∈ GW := gw_tab 126 (by decide +kernel) (by decide +kernel)
theorem flX6_125 : Cond.fieldLink RX6 125 "SilentOpera$CueTree" "count" "I" ∈ GW := gw_tab 79 (by decide +kernel) (by decide +kernel)
theorem flX6_128 : Cond.fieldLink RX6 128 "SilentOpera$CueTree" "beats" "[I" ∈ GW := gw_tab 67 (by decide +kernel) (by decide +kernel)
theorem flX6_152 : Cond.fieldLink RX6 152 "SilentOpera$CueTree" "order" "[I" ∈ GW := gw_tab 75 (by decide +kernel) (by decide +kernel)
theorem flX6_168 : Cond.fieldLink RX6 168 "SilentOpera$CueTree" "players" "[I" ∈ GW := gw_tab 65 (by decide +kernel) (by decide +kernel)
theorem flX6_181 : Cond.fieldLink RX6 181 "SilentOpera$CueTree" "sizes" "[I" ∈ GW := gw_tab 71 (by decide +kernel) (by decide +kernel)
theorem flX6_187 : Cond.fieldLink RX6 187 "SilentOpera$CueTree" "kinds" "[C" ∈ GW := gw_tab 62 (by decide +kernel) (by decide +kernel)
