set_option maxRecDepth 100000 in
theorem zm_X0_init : zw_m yn_X0_init cn_X0_init 1 none 0 := ⟨zt_m 1 (by decide +kernel) (by decide +kernel), zt_m 17 rfl rfl, by decide, by decide, by decide +kernel⟩
theorem zu_X0_init : Cond.instanceMethod yn_X0_init ∈ zt_ws := zt_m 16 (by decide +kernel) (by decide +kernel)
set_option maxRecDepth 100000 in
theorem zm_X0_bar : zw_m yn_X0_bar cn_X0_bar 2 (some .int) 1 := ⟨zt_m 1 (by decide +kernel) (by decide +kernel), zt_m 330 rfl rfl, by decide, by decide, by decide +kernel⟩
theorem zv_X0_bar : zw_v yn_X0_bar := ⟨zt_m 328 (by decide +kernel) (by decide +kernel), zt_m 329 (by decide +kernel) (by decide +kernel)⟩
set_option maxRecDepth 100000 in
theorem zm_X0_repeat : zw_m yn_X0_repeat cn_X0_repeat 4 (some .int) 3 := ⟨zt_m 1 (by decide +kernel) (by decide +kernel), zt_m 411 rfl rfl, by decide, by decide, by decide +kernel⟩
theorem zv_X0_repeat : zw_v yn_X0_repeat := ⟨zt_m 409 (by decide +kernel) (by decide +kernel), zt_m 410 (by decide +kernel) (by decide +kernel)⟩
set_option maxRecDepth 100000 in
theorem zm_X0_ending : zw_m yn_X0_ending cn_X0_ending 5 (some .int) 4 := ⟨zt_m 1 (by decide +kernel) (by decide +kernel), zt_m 490 rfl rfl, by decide, by decide, by decide +kernel⟩
theorem zv_X0_ending : zw_v yn_X0_ending := ⟨zt_m 488 (by decide +kernel) (by decide +kernel), zt_m 489 (by decide +kernel) (by decide +kernel)⟩
set_option maxRecDepth 100000 in
theorem zm_X0_sign : zw_m yn_X0_sign cn_X0_sign 3 (some .int) 2 := ⟨zt_m 1 (by decide +kernel) (by decide +kernel), zt_m 520 rfl rfl, by decide, by decide, by decide +kernel⟩
theorem zv_X0_sign : zw_v yn_X0_sign := ⟨zt_m 518 (by decide +kernel) (by decide +kernel), zt_m 519 (by decide +kernel) (by decide +kernel)⟩
set_option maxRecDepth 100000 in
theorem zm_X0_jump : zw_m yn_X0_jump cn_X0_jump 5 none 4 := ⟨zt_m 1 (by decide +kernel) (by decide +kernel), zt_m 532 rfl rfl, by decide, by decide, by decide +kernel⟩
theorem zv_X0_jump : zw_v yn_X0_jump := ⟨zt_m 530 (by decide +kernel) (by decide +kernel), zt_m 531 (by decide +kernel) (by decide +kernel)⟩
set_option maxRecDepth 100000 in
theorem zm_X0_plain : zw_m yn_X0_plain cn_X0_plain 2 none 1 := ⟨zt_m 1 (by decide +kernel) (by decide +kernel), zt_m 545 rfl rfl, by decide, by decide, by decide +kernel⟩
theorem zv_X0_plain : zw_v yn_X0_plain := ⟨zt_m 543 (by decide +kernel) (by decide +kernel), zt_m 544 (by decide +kernel) (by decide +kernel)⟩
set_option maxRecDepth 100000 in
theorem zm_X0_unfold : zw_m yn_X0_unfold cn_X0_unfold 1 (some .int) 0 := ⟨zt_m 1 (by decide +kernel) (by decide +kernel), zt_m 229 rfl rfl, by decide, by decide, by decide +kernel⟩
theorem zv_X0_unfold : zw_v yn_X0_unfold := ⟨zt_m 227 (by decide +kernel) (by decide +kernel), zt_m 228 (by decide +kernel) (by decide +kernel)⟩
set_option maxRecDepth 100000 in
theorem zm_X0_fault : zw_m yn_X0_fault cn_X0_fault 1 (some .int) 0 := ⟨zt_m 1 (by decide +kernel) (by decide +kernel), zt_m 322 rfl rfl, by decide, by decide, by decide +kernel⟩
theorem zv_X0_fault : zw_v yn_X0_fault := ⟨zt_m 320 (by decide +kernel) (by decide +kernel), zt_m 321 (by decide +kernel) (by decide +kernel)⟩
set_option maxRecDepth 100000 in
theorem zm_X0_played : zw_m yn_X0_played cn_X0_played 3 (some .int) 2 := ⟨zt_m 1 (by decide +kernel) (by decide +kernel), zt_m 558 rfl rfl, by decide, by decide, by decide +kernel⟩
theorem zv_X0_played : zw_v yn_X0_played := ⟨zt_m 556 (by decide +kernel) (by decide +kernel), zt_m 557 (by decide +kernel) (by decide +kernel)⟩
set_option maxRecDepth 100000 in
theorem zm_X0_times : zw_m yn_X0_times cn_X0_times 2 (some .int) 1 := ⟨zt_m 1 (by decide +kernel) (by decide +kernel), zt_m 567 rfl rfl, by decide, by decide, by decide +kernel⟩
theorem zv_X0_times : zw_v yn_X0_times := ⟨zt_m 565 (by decide +kernel) (by decide +kernel), zt_m 566 (by decide +kernel) (by decide +kernel)⟩
set_option maxRecDepth 100000 in
theorem zm_X0_comes : zw_m yn_X0_comes cn_X0_comes 2 (some .int) 1 := ⟨zt_m 1 (by decide +kernel) (by decide +kernel), zt_m 574 rfl rfl, by decide, by decide, by decide +kernel⟩
theorem zv_X0_comes : zw_v yn_X0_comes := ⟨zt_m 572 (by decide +kernel) (by decide +kernel), zt_m 573 (by decide +kernel) (by decide +kernel)⟩
set_option maxRecDepth 100000 in
theorem zm_X0_fold : zw_m yn_X0_fold cn_X0_fold 4 (some .int) 2 := ⟨zt_m 1 (by decide +kernel) (by decide +kernel), zt_m 581 rfl rfl, by decide, by decide, by decide +kernel⟩
theorem zv_X0_fold : zw_v yn_X0_fold := ⟨zt_m 579 (by decide +kernel) (by decide +kernel), zt_m 580 (by decide +kernel) (by decide +kernel)⟩
set_option maxRecDepth 100000 in
theorem zm_X0_folded : zw_m yn_X0_folded cn_X0_folded 3 (some .int) 2 := ⟨zt_m 1 (by decide +kernel) (by decide +kernel), zt_m 629 rfl rfl, by decide, by decide, by decide +kernel⟩
theorem zv_X0_folded : zw_v yn_X0_folded := ⟨zt_m 627 (by decide +kernel) (by decide +kernel), zt_m 628 (by decide +kernel) (by decide +kernel)⟩
set_option maxRecDepth 100000 in
theorem zm_X0_told : zw_m yn_X0_told cn_X0_told 2 (some .int) 1 := ⟨zt_m 1 (by decide +kernel) (by decide +kernel), zt_m 638 rfl rfl, by decide, by decide, by decide +kernel⟩
theorem zv_X0_told : zw_v yn_X0_told := ⟨zt_m 636 (by decide +kernel) (by decide +kernel), zt_m 637 (by decide +kernel) (by decide +kernel)⟩
set_option maxRecDepth 100000 in
theorem zm_X1_init : zw_m yn_X1_init cn_X1_init 1 none 0 := ⟨zt_m 3 (by decide +kernel) (by decide +kernel), zt_m 31 rfl rfl, by decide, by decide, by decide +kernel⟩
theorem zu_X1_init : Cond.instanceMethod yn_X1_init ∈ zt_ws := zt_m 30 (by decide +kernel) (by decide +kernel)
set_option maxRecDepth 100000 in
theorem zm_X1_hasBar : zw_m yn_X1_hasBar cn_X1_hasBar 2 (some .boolean) 1 := ⟨zt_m 3 (by decide +kernel) (by decide +kernel), zt_m 415 rfl rfl, by decide, by decide, by decide +kernel⟩
theorem zv_X1_hasBar : zw_v yn_X1_hasBar := ⟨zt_m 414 (by decide +kernel) (by decide +kernel), zt_sel (n := 19) 23 (by decide +kernel) (by decide +kernel)⟩
set_option maxRecDepth 100000 in
theorem zm_X1_hasRepeat : zw_m yn_X1_hasRepeat cn_X1_hasRepeat 2 (some .boolean) 1 := ⟨zt_m 3 (by decide +kernel) (by decide +kernel), zt_m 494 rfl rfl, by decide, by decide, by decide +kernel⟩
theorem zv_X1_hasRepeat : zw_v yn_X1_hasRepeat := ⟨zt_m 493 (by decide +kernel) (by decide +kernel), zt_sel (n := 19) 32 (by decide +kernel) (by decide +kernel)⟩
set_option maxRecDepth 100000 in
theorem zm_X1_hasJump : zw_m yn_X1_hasJump cn_X1_hasJump 2 (some .boolean) 1 := ⟨zt_m 3 (by decide +kernel) (by decide +kernel), zt_m 254 rfl rfl, by decide, by decide, by decide +kernel⟩
theorem zv_X1_hasJump : zw_v yn_X1_hasJump := ⟨zt_m 253 (by decide +kernel) (by decide +kernel), zt_sel (n := 19) 5 (by decide +kernel) (by decide +kernel)⟩
set_option maxRecDepth 100000 in
theorem zm_X1_hasPasses : zw_m yn_X1_hasPasses cn_X1_hasPasses 4 (some .boolean) 2 := ⟨zt_m 3 (by decide +kernel) (by decide +kernel), zt_m 499 rfl rfl, by decide, by decide, by decide +kernel⟩
theorem zv_X1_hasPasses : zw_v yn_X1_hasPasses := ⟨zt_m 498 (by decide +kernel) (by decide +kernel), zt_sel (n := 19) 33 (by decide +kernel) (by decide +kernel)⟩
set_option maxRecDepth 100000 in
theorem zm_X1_addBar : zw_m yn_X1_addBar cn_X1_addBar 2 (some .int) 1 := ⟨zt_m 3 (by decide +kernel) (by decide +kernel), zt_m 402 rfl rfl, by decide, by decide, by decide +kernel⟩
theorem zv_X1_addBar : zw_v yn_X1_addBar := ⟨zt_m 401 (by decide +kernel) (by decide +kernel), zt_sel (n := 19) 22 (by decide +kernel) (by decide +kernel)⟩
set_option maxRecDepth 100000 in
theorem zm_X1_liesWithin : zw_m yn_X1_liesWithin cn_X1_liesWithin 4 (some .boolean) 4 := ⟨zt_m 3 (by decide +kernel) (by decide +kernel), zt_m 294 rfl rfl, by decide, by decide, by decide +kernel⟩
theorem zs_X1_liesWithin : Cond.static yn_X1_liesWithin ∈ zt_ws := zt_m 293 (by decide +kernel) (by decide +kernel)
set_option maxRecDepth 100000 in
theorem zm_X1_liesWell : zw_m yn_X1_liesWell cn_X1_liesWell 4 (some .boolean) 4 := ⟨zt_m 3 (by decide +kernel) (by decide +kernel), zt_m 458 rfl rfl, by decide, by decide, by decide +kernel⟩
theorem zs_X1_liesWell : Cond.static yn_X1_liesWell ∈ zt_ws := zt_m 457 (by decide +kernel) (by decide +kernel)
set_option maxRecDepth 100000 in
theorem zm_X1_takesRepeat : zw_m yn_X1_takesRepeat cn_X1_takesRepeat 3 (some .boolean) 2 := ⟨zt_m 3 (by decide +kernel) (by decide +kernel), zt_m 451 rfl rfl, by decide, by decide, by decide +kernel⟩
theorem zv_X1_takesRepeat : zw_v yn_X1_takesRepeat := ⟨zt_m 450 (by decide +kernel) (by decide +kernel), zt_sel (n := 19) 24 (by decide +kernel) (by decide +kernel)⟩
set_option maxRecDepth 100000 in
theorem zm_X1_takesEnding : zw_m yn_X1_takesEnding cn_X1_takesEnding 4 (some .boolean) 3 := ⟨zt_m 3 (by decide +kernel) (by decide +kernel), zt_m 504 rfl rfl, by decide, by decide, by decide +kernel⟩
theorem zv_X1_takesEnding : zw_v yn_X1_takesEnding := ⟨zt_m 503 (by decide +kernel) (by decide +kernel), zt_sel (n := 19) 34 (by decide +kernel) (by decide +kernel)⟩
set_option maxRecDepth 100000 in
theorem zm_X1_liesWellByRepeats : zw_m yn_X1_liesWellByRepeats cn_X1_liesWellByRepeats 4 (some .boolean) 2 := ⟨zt_m 3 (by decide +kernel) (by decide +kernel), zt_m 455 rfl rfl, by decide, by decide, by decide +kernel⟩
theorem zv_X1_liesWellByRepeats : zw_v yn_X1_liesWellByRepeats := ⟨zt_m 454 (by decide +kernel) (by decide +kernel), zt_sel (n := 19) 25 (by decide +kernel) (by decide +kernel)⟩
set_option maxRecDepth 100000 in
theorem zm_X1_hasSameRepeat : zw_m yn_X1_hasSameRepeat cn_X1_hasSameRepeat 4 (some .boolean) 2 := ⟨zt_m 3 (by decide +kernel) (by decide +kernel), zt_m 462 rfl rfl, by decide, by decide, by decide +kernel⟩
theorem zv_X1_hasSameRepeat : zw_v yn_X1_hasSameRepeat := ⟨zt_m 461 (by decide +kernel) (by decide +kernel), zt_sel (n := 19) 26 (by decide +kernel) (by decide +kernel)⟩
set_option maxRecDepth 100000 in
theorem zm_X1_liesWellByEndings : zw_m yn_X1_liesWellByEndings cn_X1_liesWellByEndings 4 (some .boolean) 2 := ⟨zt_m 3 (by decide +kernel) (by decide +kernel), zt_m 466 rfl rfl, by decide, by decide, by decide +kernel⟩
theorem zv_X1_liesWellByEndings : zw_v yn_X1_liesWellByEndings := ⟨zt_m 465 (by decide +kernel) (by decide +kernel), zt_sel (n := 19) 27 (by decide +kernel) (by decide +kernel)⟩
set_option maxRecDepth 100000 in
theorem zm_X1_isApartFromEndings : zw_m yn_X1_isApartFromEndings cn_X1_isApartFromEndings 4 (some .boolean) 2 := ⟨zt_m 3 (by decide +kernel) (by decide +kernel), zt_m 508 rfl rfl, by decide, by decide, by decide +kernel⟩
theorem zv_X1_isApartFromEndings : zw_v yn_X1_isApartFromEndings := ⟨zt_m 507 (by decide +kernel) (by decide +kernel), zt_sel (n := 19) 35 (by decide +kernel) (by decide +kernel)⟩
set_option maxRecDepth 100000 in
theorem zm_X1_isDepthLeft : zw_m yn_X1_isDepthLeft cn_X1_isDepthLeft 4 (some .boolean) 2 := ⟨zt_m 3 (by decide +kernel) (by decide +kernel), zt_m 470 rfl rfl, by decide, by decide, by decide +kernel⟩
theorem zv_X1_isDepthLeft : zw_v yn_X1_isDepthLeft := ⟨zt_m 469 (by decide +kernel) (by decide +kernel), zt_sel (n := 19) 28 (by decide +kernel) (by decide +kernel)⟩
set_option maxRecDepth 100000 in
theorem zm_X1_addRepeat : zw_m yn_X1_addRepeat cn_X1_addRepeat 5 (some .int) 3 := ⟨zt_m 3 (by decide +kernel) (by decide +kernel), zt_m 475 rfl rfl, by decide, by decide, by decide +kernel⟩
theorem zv_X1_addRepeat : zw_v yn_X1_addRepeat := ⟨zt_m 474 (by decide +kernel) (by decide +kernel), zt_sel (n := 19) 29 (by decide +kernel) (by decide +kernel)⟩
set_option maxRecDepth 100000 in
theorem zm_X1_putAround : zw_m yn_X1_putAround cn_X1_putAround 5 none 2 := ⟨zt_m 3 (by decide +kernel) (by decide +kernel), zt_m 479 rfl rfl, by decide, by decide, by decide +kernel⟩
theorem zv_X1_putAround : zw_v yn_X1_putAround := ⟨zt_m 478 (by decide +kernel) (by decide +kernel), zt_sel (n := 19) 30 (by decide +kernel) (by decide +kernel)⟩
set_option maxRecDepth 100000 in
theorem zm_X1_isRepeatWithin : zw_m yn_X1_isRepeatWithin cn_X1_isRepeatWithin 3 (some .boolean) 2 := ⟨zt_m 3 (by decide +kernel) (by decide +kernel), zt_m 483 rfl rfl, by decide, by decide, by decide +kernel⟩
theorem zv_X1_isRepeatWithin : zw_v yn_X1_isRepeatWithin := ⟨zt_m 482 (by decide +kernel) (by decide +kernel), zt_sel (n := 19) 31 (by decide +kernel) (by decide +kernel)⟩
set_option maxRecDepth 100000 in
theorem zm_X1_isRepeatWithinEnding : zw_m yn_X1_isRepeatWithinEnding cn_X1_isRepeatWithinEnding 3 (some .boolean) 2 := ⟨zt_m 3 (by decide +kernel) (by decide +kernel), zt_m 291 rfl rfl, by decide, by decide, by decide +kernel⟩
theorem zv_X1_isRepeatWithinEnding : zw_v yn_X1_isRepeatWithinEnding := ⟨zt_m 290 (by decide +kernel) (by decide +kernel), zt_sel (n := 19) 14 (by decide +kernel) (by decide +kernel)⟩
set_option maxRecDepth 100000 in
theorem zm_X1_repeatAround : zw_m yn_X1_repeatAround cn_X1_repeatAround 3 (some .int) 2 := ⟨zt_m 3 (by decide +kernel) (by decide +kernel), zt_m 279 rfl rfl, by decide, by decide, by decide +kernel⟩
theorem zv_X1_repeatAround : zw_v yn_X1_repeatAround := ⟨zt_m 278 (by decide +kernel) (by decide +kernel), zt_sel (n := 19) 11 (by decide +kernel) (by decide +kernel)⟩
set_option maxRecDepth 100000 in
theorem zm_X1_addEnding : zw_m yn_X1_addEnding cn_X1_addEnding 5 (some .int) 4 := ⟨zt_m 3 (by decide +kernel) (by decide +kernel), zt_m 513 rfl rfl, by decide, by decide, by decide +kernel⟩
theorem zv_X1_addEnding : zw_v yn_X1_addEnding := ⟨zt_m 512 (by decide +kernel) (by decide +kernel), zt_sel (n := 19) 36 (by decide +kernel) (by decide +kernel)⟩
set_option maxRecDepth 100000 in
theorem zm_X1_moveSign : zw_m yn_X1_moveSign cn_X1_moveSign 4 (some .int) 2 := ⟨zt_m 3 (by decide +kernel) (by decide +kernel), zt_m 525 rfl rfl, by decide, by decide, by decide +kernel⟩
theorem zv_X1_moveSign : zw_v yn_X1_moveSign := ⟨zt_m 524 (by decide +kernel) (by decide +kernel), zt_sel (n := 19) 37 (by decide +kernel) (by decide +kernel)⟩
set_option maxRecDepth 100000 in
theorem zm_X1_putJump : zw_m yn_X1_putJump cn_X1_putJump 5 none 4 := ⟨zt_m 3 (by decide +kernel) (by decide +kernel), zt_m 537 rfl rfl, by decide, by decide, by decide +kernel⟩
theorem zv_X1_putJump : zw_v yn_X1_putJump := ⟨zt_m 536 (by decide +kernel) (by decide +kernel), zt_sel (n := 19) 38 (by decide +kernel) (by decide +kernel)⟩
set_option maxRecDepth 100000 in
theorem zm_X1_takeJump : zw_m yn_X1_takeJump cn_X1_takeJump 2 none 1 := ⟨zt_m 3 (by decide +kernel) (by decide +kernel), zt_m 551 rfl rfl, by decide, by decide, by decide +kernel⟩
theorem zv_X1_takeJump : zw_v yn_X1_takeJump := ⟨zt_m 550 (by decide +kernel) (by decide +kernel), zt_sel (n := 19) 39 (by decide +kernel) (by decide +kernel)⟩
set_option maxRecDepth 100000 in
theorem zm_X1_lacksSign : zw_m yn_X1_lacksSign cn_X1_lacksSign 2 (some .boolean) 1 := ⟨zt_m 3 (by decide +kernel) (by decide +kernel), zt_m 262 rfl rfl, by decide, by decide, by decide +kernel⟩
theorem zv_X1_lacksSign : zw_v yn_X1_lacksSign := ⟨zt_m 261 (by decide +kernel) (by decide +kernel), zt_sel (n := 19) 7 (by decide +kernel) (by decide +kernel)⟩
set_option maxRecDepth 100000 in
theorem zm_X1_faultOfJump : zw_m yn_X1_faultOfJump cn_X1_faultOfJump 2 (some .int) 1 := ⟨zt_m 3 (by decide +kernel) (by decide +kernel), zt_m 258 rfl rfl, by decide, by decide, by decide +kernel⟩
theorem zv_X1_faultOfJump : zw_v yn_X1_faultOfJump := ⟨zt_m 257 (by decide +kernel) (by decide +kernel), zt_sel (n := 19) 6 (by decide +kernel) (by decide +kernel)⟩
set_option maxRecDepth 100000 in
theorem zm_X2_init : zw_m yn_X2_init cn_X2_init 1 none 0 := ⟨zt_m 2 (by decide +kernel) (by decide +kernel), zt_m 25 rfl rfl, by decide, by decide, by decide +kernel⟩
theorem zu_X2_init : Cond.instanceMethod yn_X2_init ∈ zt_ws := zt_m 24 (by decide +kernel) (by decide +kernel)
set_option maxRecDepth 100000 in
theorem zm_X2_go : zw_m yn_X2_go cn_X2_go 1 (some .int) 0 := ⟨zt_m 2 (by decide +kernel) (by decide +kernel), zt_m 233 rfl rfl, by decide, by decide, by decide +kernel⟩
theorem zv_X2_go : zw_v yn_X2_go := ⟨zt_m 232 (by decide +kernel) (by decide +kernel), zt_sel (n := 15) 0 (by decide +kernel) (by decide +kernel)⟩
set_option maxRecDepth 100000 in
theorem zm_X2_forget : zw_m yn_X2_forget cn_X2_forget 2 none 0 := ⟨zt_m 2 (by decide +kernel) (by decide +kernel), zt_m 237 rfl rfl, by decide, by decide, by decide +kernel⟩
theorem zv_X2_forget : zw_v yn_X2_forget := ⟨zt_m 236 (by decide +kernel) (by decide +kernel), zt_sel (n := 15) 1 (by decide +kernel) (by decide +kernel)⟩
set_option maxRecDepth 100000 in
theorem zm_X2_setFault : zw_m yn_X2_setFault cn_X2_setFault 3 none 2 := ⟨zt_m 2 (by decide +kernel) (by decide +kernel), zt_m 246 rfl rfl, by decide, by decide, by decide +kernel⟩
theorem zv_X2_setFault : zw_v yn_X2_setFault := ⟨zt_m 245 (by decide +kernel) (by decide +kernel), zt_sel (n := 15) 3 (by decide +kernel) (by decide +kernel)⟩
set_option maxRecDepth 100000 in
theorem zm_X2_findFaultOfJumps : zw_m yn_X2_findFaultOfJumps cn_X2_findFaultOfJumps 3 none 0 := ⟨zt_m 2 (by decide +kernel) (by decide +kernel), zt_m 250 rfl rfl, by decide, by decide, by decide +kernel⟩
theorem zv_X2_findFaultOfJumps : zw_v yn_X2_findFaultOfJumps := ⟨zt_m 249 (by decide +kernel) (by decide +kernel), zt_sel (n := 15) 4 (by decide +kernel) (by decide +kernel)⟩
set_option maxRecDepth 100000 in
theorem zm_X2_playFromFirstBar : zw_m yn_X2_playFromFirstBar cn_X2_playFromFirstBar 3 none 0 := ⟨zt_m 2 (by decide +kernel) (by decide +kernel), zt_m 266 rfl rfl, by decide, by decide, by decide +kernel⟩
theorem zv_X2_playFromFirstBar : zw_v yn_X2_playFromFirstBar := ⟨zt_m 265 (by decide +kernel) (by decide +kernel), zt_sel (n := 15) 8 (by decide +kernel) (by decide +kernel)⟩
set_option maxRecDepth 100000 in
theorem zm_X2_comeTo : zw_m yn_X2_comeTo cn_X2_comeTo 3 (some .int) 1 := ⟨zt_m 2 (by decide +kernel) (by decide +kernel), zt_m 271 rfl rfl, by decide, by decide, by decide +kernel⟩
theorem zv_X2_comeTo : zw_v yn_X2_comeTo := ⟨zt_m 270 (by decide +kernel) (by decide +kernel), zt_sel (n := 15) 9 (by decide +kernel) (by decide +kernel)⟩
set_option maxRecDepth 100000 in
theorem zm_X2_openAround : zw_m yn_X2_openAround cn_X2_openAround 5 none 1 := ⟨zt_m 2 (by decide +kernel) (by decide +kernel), zt_m 275 rfl rfl, by decide, by decide, by decide +kernel⟩
theorem zv_X2_openAround : zw_v yn_X2_openAround := ⟨zt_m 274 (by decide +kernel) (by decide +kernel), zt_sel (n := 15) 10 (by decide +kernel) (by decide +kernel)⟩
set_option maxRecDepth 100000 in
theorem zm_X2_isLeftOut : zw_m yn_X2_isLeftOut cn_X2_isLeftOut 3 (some .boolean) 1 := ⟨zt_m 2 (by decide +kernel) (by decide +kernel), zt_m 283 rfl rfl, by decide, by decide, by decide +kernel⟩
theorem zv_X2_isLeftOut : zw_v yn_X2_isLeftOut := ⟨zt_m 282 (by decide +kernel) (by decide +kernel), zt_sel (n := 15) 12 (by decide +kernel) (by decide +kernel)⟩
set_option maxRecDepth 100000 in
theorem zm_X2_leaveWithin : zw_m yn_X2_leaveWithin cn_X2_leaveWithin 3 none 1 := ⟨zt_m 2 (by decide +kernel) (by decide +kernel), zt_m 287 rfl rfl, by decide, by decide, by decide +kernel⟩
theorem zv_X2_leaveWithin : zw_v yn_X2_leaveWithin := ⟨zt_m 286 (by decide +kernel) (by decide +kernel), zt_sel (n := 15) 13 (by decide +kernel) (by decide +kernel)⟩
set_option maxRecDepth 100000 in
theorem zm_X2_leaveAll : zw_m yn_X2_leaveAll cn_X2_leaveAll 1 none 0 := ⟨zt_m 2 (by decide +kernel) (by decide +kernel), zt_m 242 rfl rfl, by decide, by decide, by decide +kernel⟩
theorem zv_X2_leaveAll : zw_v yn_X2_leaveAll := ⟨zt_m 241 (by decide +kernel) (by decide +kernel), zt_sel (n := 15) 2 (by decide +kernel) (by decide +kernel)⟩
set_option maxRecDepth 100000 in
theorem zm_X2_play : zw_m yn_X2_play cn_X2_play 3 none 1 := ⟨zt_m 2 (by decide +kernel) (by decide +kernel), zt_m 302 rfl rfl, by decide, by decide, by decide +kernel⟩
theorem zv_X2_play : zw_v yn_X2_play := ⟨zt_m 301 (by decide +kernel) (by decide +kernel), zt_sel (n := 15) 16 (by decide +kernel) (by decide +kernel)⟩
set_option maxRecDepth 100000 in
theorem zm_X2_behind : zw_m yn_X2_behind cn_X2_behind 2 (some .int) 1 := ⟨zt_m 2 (by decide +kernel) (by decide +kernel), zt_m 306 rfl rfl, by decide, by decide, by decide +kernel⟩
theorem zv_X2_behind : zw_v yn_X2_behind := ⟨zt_m 305 (by decide +kernel) (by decide +kernel), zt_sel (n := 15) 17 (by decide +kernel) (by decide +kernel)⟩
set_option maxRecDepth 100000 in
theorem zm_X2_isInLastPasses : zw_m yn_X2_isInLastPasses cn_X2_isInLastPasses 4 (some .boolean) 1 := ⟨zt_m 2 (by decide +kernel) (by decide +kernel), zt_m 310 rfl rfl, by decide, by decide, by decide +kernel⟩
theorem zv_X2_isInLastPasses : zw_v yn_X2_isInLastPasses := ⟨zt_m 309 (by decide +kernel) (by decide +kernel), zt_sel (n := 15) 18 (by decide +kernel) (by decide +kernel)⟩
set_option maxRecDepth 100000 in
theorem zm_X2_isLatestJumpTill : zw_m yn_X2_isLatestJumpTill cn_X2_isLatestJumpTill 2 (some .boolean) 1 := ⟨zt_m 2 (by decide +kernel) (by decide +kernel), zt_m 314 rfl rfl, by decide, by decide, by decide +kernel⟩
theorem zv_X2_isLatestJumpTill : zw_v yn_X2_isLatestJumpTill := ⟨zt_m 313 (by decide +kernel) (by decide +kernel), zt_sel (n := 15) 19 (by decide +kernel) (by decide +kernel)⟩
set_option maxRecDepth 100000 in
theorem zm_X2_act : zw_m yn_X2_act cn_X2_act 2 (some .int) 1 := ⟨zt_m 2 (by decide +kernel) (by decide +kernel), zt_m 318 rfl rfl, by decide, by decide, by decide +kernel⟩
theorem zv_X2_act : zw_v yn_X2_act := ⟨zt_m 317 (by decide +kernel) (by decide +kernel), zt_sel (n := 15) 20 (by decide +kernel) (by decide +kernel)⟩
set_option maxRecDepth 100000 in
theorem zm_X2_endOf : zw_m yn_X2_endOf cn_X2_endOf 4 (some .int) 1 := ⟨zt_m 2 (by decide +kernel) (by decide +kernel), zt_m 298 rfl rfl, by decide, by decide, by decide +kernel⟩
theorem zv_X2_endOf : zw_v yn_X2_endOf := ⟨zt_m 297 (by decide +kernel) (by decide +kernel), zt_sel (n := 15) 15 (by decide +kernel) (by decide +kernel)⟩
set_option maxRecDepth 100000 in
theorem zm_X3_init : zw_m yn_X3_init cn_X3_init 1 none 0 := ⟨zt_m 5 (by decide +kernel) (by decide +kernel), zt_m 175 rfl rfl, by decide, by decide, by decide +kernel⟩
theorem zu_X3_init : Cond.instanceMethod yn_X3_init ∈ zt_ws := zt_m 174 (by decide +kernel) (by decide +kernel)
set_option maxRecDepth 100000 in
theorem zm_X3_cell : zw_m yn_X3_cell cn_X3_cell 2 (some .int) 2 := ⟨zt_m 5 (by decide +kernel) (by decide +kernel), zt_m 594 rfl rfl, by decide, by decide, by decide +kernel⟩
theorem zs_X3_cell : Cond.static yn_X3_cell ∈ zt_ws := zt_m 593 (by decide +kernel) (by decide +kernel)
set_option maxRecDepth 100000 in
theorem zm_X3_writeRow : zw_m yn_X3_writeRow cn_X3_writeRow 4 (some .int) 1 := ⟨zt_m 5 (by decide +kernel) (by decide +kernel), zt_m 587 rfl rfl, by decide, by decide, by decide +kernel⟩
theorem zv_X3_writeRow : zw_v yn_X3_writeRow := ⟨zt_m 586 (by decide +kernel) (by decide +kernel), zt_sel (n := 11) 40 (by decide +kernel) (by decide +kernel)⟩
set_option maxRecDepth 100000 in
theorem zm_X3_compareContents : zw_m yn_X3_compareContents cn_X3_compareContents 5 none 1 := ⟨zt_m 5 (by decide +kernel) (by decide +kernel), zt_m 591 rfl rfl, by decide, by decide, by decide +kernel⟩
theorem zv_X3_compareContents : zw_v yn_X3_compareContents := ⟨zt_m 590 (by decide +kernel) (by decide +kernel), zt_sel (n := 11) 41 (by decide +kernel) (by decide +kernel)⟩
set_option maxRecDepth 100000 in
theorem zm_X3_choose : zw_m yn_X3_choose cn_X3_choose 4 none 2 := ⟨zt_m 5 (by decide +kernel) (by decide +kernel), zt_m 598 rfl rfl, by decide, by decide, by decide +kernel⟩
theorem zv_X3_choose : zw_v yn_X3_choose := ⟨zt_m 597 (by decide +kernel) (by decide +kernel), zt_sel (n := 11) 42 (by decide +kernel) (by decide +kernel)⟩
set_option maxRecDepth 100000 in
theorem zm_X3_chooseBlock : zw_m yn_X3_chooseBlock cn_X3_chooseBlock 5 none 2 := ⟨zt_m 5 (by decide +kernel) (by decide +kernel), zt_m 602 rfl rfl, by decide, by decide, by decide +kernel⟩
theorem zv_X3_chooseBlock : zw_v yn_X3_chooseBlock := ⟨zt_m 601 (by decide +kernel) (by decide +kernel), zt_sel (n := 11) 43 (by decide +kernel) (by decide +kernel)⟩
set_option maxRecDepth 100000 in
theorem zm_X3_chooseParts : zw_m yn_X3_chooseParts cn_X3_chooseParts 7 none 2 := ⟨zt_m 5 (by decide +kernel) (by decide +kernel), zt_m 606 rfl rfl, by decide, by decide, by decide +kernel⟩
theorem zv_X3_chooseParts : zw_v yn_X3_chooseParts := ⟨zt_m 605 (by decide +kernel) (by decide +kernel), zt_sel (n := 11) 44 (by decide +kernel) (by decide +kernel)⟩
set_option maxRecDepth 100000 in
theorem zm_X3_writeItems : zw_m yn_X3_writeItems cn_X3_writeItems 3 none 1 := ⟨zt_m 5 (by decide +kernel) (by decide +kernel), zt_m 610 rfl rfl, by decide, by decide, by decide +kernel⟩
theorem zv_X3_writeItems : zw_v yn_X3_writeItems := ⟨zt_m 609 (by decide +kernel) (by decide +kernel), zt_sel (n := 11) 45 (by decide +kernel) (by decide +kernel)⟩
set_option maxRecDepth 100000 in
theorem zm_X3_writePart : zw_m yn_X3_writePart cn_X3_writePart 4 none 2 := ⟨zt_m 5 (by decide +kernel) (by decide +kernel), zt_m 618 rfl rfl, by decide, by decide, by decide +kernel⟩
theorem zv_X3_writePart : zw_v yn_X3_writePart := ⟨zt_m 617 (by decide +kernel) (by decide +kernel), zt_sel (n := 11) 47 (by decide +kernel) (by decide +kernel)⟩
set_option maxRecDepth 100000 in
theorem zm_X3_putAside : zw_m yn_X3_putAside cn_X3_putAside 3 none 2 := ⟨zt_m 5 (by decide +kernel) (by decide +kernel), zt_m 614 rfl rfl, by decide, by decide, by decide +kernel⟩
theorem zv_X3_putAside : zw_v yn_X3_putAside := ⟨zt_m 613 (by decide +kernel) (by decide +kernel), zt_sel (n := 11) 46 (by decide +kernel) (by decide +kernel)⟩
set_option maxRecDepth 100000 in
theorem zm_X3_addItem : zw_m yn_X3_addItem cn_X3_addItem 3 none 2 := ⟨zt_m 5 (by decide +kernel) (by decide +kernel), zt_m 622 rfl rfl, by decide, by decide, by decide +kernel⟩
theorem zv_X3_addItem : zw_v yn_X3_addItem := ⟨zt_m 621 (by decide +kernel) (by decide +kernel), zt_sel (n := 11) 48 (by decide +kernel) (by decide +kernel)⟩
set_option maxRecDepth 100000 in
theorem zm_X4_init : zw_m yn_X4_init cn_X4_init 2 none 0 := ⟨zt_m 6 (by decide +kernel) (by decide +kernel), zt_m 644 rfl rfl, by decide, by decide, by decide +kernel⟩
theorem zu_X4_init : Cond.instanceMethod yn_X4_init ∈ zt_ws := zt_m 643 (by decide +kernel) (by decide +kernel)
set_option maxRecDepth 100000 in
theorem zm_X4_thrown : zw_m yn_X4_thrown cn_X4_thrown 1 (some .int) 0 := ⟨zt_m 6 (by decide +kernel) (by decide +kernel), zt_m 773 rfl rfl, by decide, by decide, by decide +kernel⟩
theorem zv_X4_thrown : zw_v yn_X4_thrown := ⟨zt_m 771 (by decide +kernel) (by decide +kernel), zt_m 772 (by decide +kernel) (by decide +kernel)⟩
set_option maxRecDepth 100000 in
theorem zm_X4_refuses : zw_m yn_X4_refuses cn_X4_refuses 4 (some .boolean) 3 := ⟨zt_m 6 (by decide +kernel) (by decide +kernel), zt_m 781 rfl rfl, by decide, by decide, by decide +kernel⟩
theorem zv_X4_refuses : zw_v yn_X4_refuses := ⟨zt_m 780 (by decide +kernel) (by decide +kernel), zt_sel (n := 41) 49 (by decide +kernel) (by decide +kernel)⟩
set_option maxRecDepth 100000 in
theorem zm_X4_isBar : zw_m yn_X4_isBar cn_X4_isBar 2 (some .boolean) 1 := ⟨zt_m 6 (by decide +kernel) (by decide +kernel), zt_m 789 rfl rfl, by decide, by decide, by decide +kernel⟩
theorem zv_X4_isBar : zw_v yn_X4_isBar := ⟨zt_m 788 (by decide +kernel) (by decide +kernel), zt_sel (n := 41) 50 (by decide +kernel) (by decide +kernel)⟩
set_option maxRecDepth 100000 in
theorem zm_X4_bar : zw_m yn_X4_bar cn_X4_bar 2 (some .int) 1 := ⟨zt_m 6 (by decide +kernel) (by decide +kernel), zt_m 777 rfl rfl, by decide, by decide, by decide +kernel⟩
theorem zv_X4_bar : zw_v yn_X4_bar := ⟨zt_m 775 (by decide +kernel) (by decide +kernel), zt_m 776 (by decide +kernel) (by decide +kernel)⟩
set_option maxRecDepth 100000 in
theorem zm_X4_isApart : zw_m yn_X4_isApart cn_X4_isApart 4 (some .boolean) 4 := ⟨zt_m 6 (by decide +kernel) (by decide +kernel), zt_m 799 rfl rfl, by decide, by decide, by decide +kernel⟩
theorem zs_X4_isApart : Cond.static yn_X4_isApart ∈ zt_ws := zt_m 798 (by decide +kernel) (by decide +kernel)
set_option maxRecDepth 100000 in
theorem zm_X4_isWithin : zw_m yn_X4_isWithin cn_X4_isWithin 4 (some .boolean) 4 := ⟨zt_m 6 (by decide +kernel) (by decide +kernel), zt_m 802 rfl rfl, by decide, by decide, by decide +kernel⟩
theorem zs_X4_isWithin : Cond.static yn_X4_isWithin ∈ zt_ws := zt_m 801 (by decide +kernel) (by decide +kernel)
set_option maxRecDepth 100000 in
theorem zm_X4_liesWell : zw_m yn_X4_liesWell cn_X4_liesWell 4 (some .boolean) 4 := ⟨zt_m 6 (by decide +kernel) (by decide +kernel), zt_m 796 rfl rfl, by decide, by decide, by decide +kernel⟩
theorem zs_X4_liesWell : Cond.static yn_X4_liesWell ∈ zt_ws := zt_m 795 (by decide +kernel) (by decide +kernel)
set_option maxRecDepth 100000 in
theorem zm_X4_isAround : zw_m yn_X4_isAround cn_X4_isAround 3 (some .boolean) 2 := ⟨zt_m 6 (by decide +kernel) (by decide +kernel), zt_m 806 rfl rfl, by decide, by decide, by decide +kernel⟩
theorem zv_X4_isAround : zw_v yn_X4_isAround := ⟨zt_m 805 (by decide +kernel) (by decide +kernel), zt_sel (n := 41) 52 (by decide +kernel) (by decide +kernel)⟩
set_option maxRecDepth 100000 in
theorem zm_X4_mayRepeat : zw_m yn_X4_mayRepeat cn_X4_mayRepeat 6 (some .boolean) 2 := ⟨zt_m 6 (by decide +kernel) (by decide +kernel), zt_m 793 rfl rfl, by decide, by decide, by decide +kernel⟩
theorem zv_X4_mayRepeat : zw_v yn_X4_mayRepeat := ⟨zt_m 792 (by decide +kernel) (by decide +kernel), zt_sel (n := 41) 51 (by decide +kernel) (by decide +kernel)⟩
set_option maxRecDepth 100000 in
theorem zm_X4_repeat : zw_m yn_X4_repeat cn_X4_repeat 6 (some .int) 3 := ⟨zt_m 6 (by decide +kernel) (by decide +kernel), zt_m 785 rfl rfl, by decide, by decide, by decide +kernel⟩
theorem zv_X4_repeat : zw_v yn_X4_repeat := ⟨zt_m 783 (by decide +kernel) (by decide +kernel), zt_m 784 (by decide +kernel) (by decide +kernel)⟩
set_option maxRecDepth 100000 in
theorem zm_X4_mayEnd : zw_m yn_X4_mayEnd cn_X4_mayEnd 5 (some .boolean) 3 := ⟨zt_m 6 (by decide +kernel) (by decide +kernel), zt_m 814 rfl rfl, by decide, by decide, by decide +kernel⟩
theorem zv_X4_mayEnd : zw_v yn_X4_mayEnd := ⟨zt_m 813 (by decide +kernel) (by decide +kernel), zt_sel (n := 41) 53 (by decide +kernel) (by decide +kernel)⟩
set_option maxRecDepth 100000 in
theorem zm_X4_ending : zw_m yn_X4_ending cn_X4_ending 7 (some .int) 4 := ⟨zt_m 6 (by decide +kernel) (by decide +kernel), zt_m 810 rfl rfl, by decide, by decide, by decide +kernel⟩
theorem zv_X4_ending : zw_v yn_X4_ending := ⟨zt_m 808 (by decide +kernel) (by decide +kernel), zt_m 809 (by decide +kernel) (by decide +kernel)⟩
set_option maxRecDepth 100000 in
theorem zm_X4_sign : zw_m yn_X4_sign cn_X4_sign 4 (some .int) 2 := ⟨zt_m 6 (by decide +kernel) (by decide +kernel), zt_m 818 rfl rfl, by decide, by decide, by decide +kernel⟩
theorem zv_X4_sign : zw_v yn_X4_sign := ⟨zt_m 816 (by decide +kernel) (by decide +kernel), zt_m 817 (by decide +kernel) (by decide +kernel)⟩
set_option maxRecDepth 100000 in
theorem zm_X4_jump : zw_m yn_X4_jump cn_X4_jump 5 none 4 := ⟨zt_m 6 (by decide +kernel) (by decide +kernel), zt_m 822 rfl rfl, by decide, by decide, by decide +kernel⟩
theorem zv_X4_jump : zw_v yn_X4_jump := ⟨zt_m 820 (by decide +kernel) (by decide +kernel), zt_m 821 (by decide +kernel) (by decide +kernel)⟩
set_option maxRecDepth 100000 in
theorem zm_X4_plain : zw_m yn_X4_plain cn_X4_plain 2 none 1 := ⟨zt_m 6 (by decide +kernel) (by decide +kernel), zt_m 826 rfl rfl, by decide, by decide, by decide +kernel⟩
theorem zv_X4_plain : zw_v yn_X4_plain := ⟨zt_m 824 (by decide +kernel) (by decide +kernel), zt_m 825 (by decide +kernel) (by decide +kernel)⟩
set_option maxRecDepth 100000 in
theorem zm_X4_missing : zw_m yn_X4_missing cn_X4_missing 2 (some .int) 1 := ⟨zt_m 6 (by decide +kernel) (by decide +kernel), zt_m 842 rfl rfl, by decide, by decide, by decide +kernel⟩
theorem zv_X4_missing : zw_v yn_X4_missing := ⟨zt_m 841 (by decide +kernel) (by decide +kernel), zt_sel (n := 41) 56 (by decide +kernel) (by decide +kernel)⟩
set_option maxRecDepth 100000 in
theorem zm_X4_forget : zw_m yn_X4_forget cn_X4_forget 2 none 0 := ⟨zt_m 6 (by decide +kernel) (by decide +kernel), zt_m 834 rfl rfl, by decide, by decide, by decide +kernel⟩
theorem zv_X4_forget : zw_v yn_X4_forget := ⟨zt_m 833 (by decide +kernel) (by decide +kernel), zt_sel (n := 41) 54 (by decide +kernel) (by decide +kernel)⟩
set_option maxRecDepth 100000 in
theorem zm_X4_leaveAll : zw_m yn_X4_leaveAll cn_X4_leaveAll 2 none 0 := ⟨zt_m 6 (by decide +kernel) (by decide +kernel), zt_m 838 rfl rfl, by decide, by decide, by decide +kernel⟩
theorem zv_X4_leaveAll : zw_v yn_X4_leaveAll := ⟨zt_m 837 (by decide +kernel) (by decide +kernel), zt_sel (n := 41) 55 (by decide +kernel) (by decide +kernel)⟩
set_option maxRecDepth 100000 in
theorem zm_X4_unfold : zw_m yn_X4_unfold cn_X4_unfold 2 (some .int) 0 := ⟨zt_m 6 (by decide +kernel) (by decide +kernel), zt_m 830 rfl rfl, by decide, by decide, by decide +kernel⟩
theorem zv_X4_unfold : zw_v yn_X4_unfold := ⟨zt_m 828 (by decide +kernel) (by decide +kernel), zt_m 829 (by decide +kernel) (by decide +kernel)⟩
set_option maxRecDepth 100000 in
theorem zm_X4_comeTo : zw_m yn_X4_comeTo cn_X4_comeTo 4 none 1 := ⟨zt_m 6 (by decide +kernel) (by decide +kernel), zt_m 846 rfl rfl, by decide, by decide, by decide +kernel⟩
theorem zv_X4_comeTo : zw_v yn_X4_comeTo := ⟨zt_m 845 (by decide +kernel) (by decide +kernel), zt_sel (n := 41) 57 (by decide +kernel) (by decide +kernel)⟩
set_option maxRecDepth 100000 in
theorem zm_X4_leaveWithin : zw_m yn_X4_leaveWithin cn_X4_leaveWithin 5 none 3 := ⟨zt_m 6 (by decide +kernel) (by decide +kernel), zt_m 850 rfl rfl, by decide, by decide, by decide +kernel⟩
theorem zv_X4_leaveWithin : zw_v yn_X4_leaveWithin := ⟨zt_m 849 (by decide +kernel) (by decide +kernel), zt_sel (n := 41) 58 (by decide +kernel) (by decide +kernel)⟩
set_option maxRecDepth 100000 in
theorem zm_X4_aroundIt : zw_m yn_X4_aroundIt cn_X4_aroundIt 6 (some .int) 2 := ⟨zt_m 6 (by decide +kernel) (by decide +kernel), zt_m 862 rfl rfl, by decide, by decide, by decide +kernel⟩
theorem zv_X4_aroundIt : zw_v yn_X4_aroundIt := ⟨zt_m 861 (by decide +kernel) (by decide +kernel), zt_sel (n := 41) 61 (by decide +kernel) (by decide +kernel)⟩
set_option maxRecDepth 100000 in
theorem zm_X4_play : zw_m yn_X4_play cn_X4_play 6 none 1 := ⟨zt_m 6 (by decide +kernel) (by decide +kernel), zt_m 858 rfl rfl, by decide, by decide, by decide +kernel⟩
theorem zv_X4_play : zw_v yn_X4_play := ⟨zt_m 857 (by decide +kernel) (by decide +kernel), zt_sel (n := 41) 60 (by decide +kernel) (by decide +kernel)⟩
set_option maxRecDepth 100000 in
theorem zm_X4_theEnd : zw_m yn_X4_theEnd cn_X4_theEnd 4 none 1 := ⟨zt_m 6 (by decide +kernel) (by decide +kernel), zt_m 854 rfl rfl, by decide, by decide, by decide +kernel⟩
theorem zv_X4_theEnd : zw_v yn_X4_theEnd := ⟨zt_m 853 (by decide +kernel) (by decide +kernel), zt_sel (n := 41) 59 (by decide +kernel) (by decide +kernel)⟩
set_option maxRecDepth 100000 in
theorem zm_X4_fault : zw_m yn_X4_fault cn_X4_fault 1 (some .int) 0 := ⟨zt_m 6 (by decide +kernel) (by decide +kernel), zt_m 866 rfl rfl, by decide, by decide, by decide +kernel⟩
theorem zv_X4_fault : zw_v yn_X4_fault := ⟨zt_m 864 (by decide +kernel) (by decide +kernel), zt_m 865 (by decide +kernel) (by decide +kernel)⟩
set_option maxRecDepth 100000 in
theorem zm_X4_played : zw_m yn_X4_played cn_X4_played 3 (some .int) 2 := ⟨zt_m 6 (by decide +kernel) (by decide +kernel), zt_m 870 rfl rfl, by decide, by decide, by decide +kernel⟩
theorem zv_X4_played : zw_v yn_X4_played := ⟨zt_m 868 (by decide +kernel) (by decide +kernel), zt_m 869 (by decide +kernel) (by decide +kernel)⟩
set_option maxRecDepth 100000 in
theorem zm_X4_times : zw_m yn_X4_times cn_X4_times 4 (some .int) 1 := ⟨zt_m 6 (by decide +kernel) (by decide +kernel), zt_m 874 rfl rfl, by decide, by decide, by decide +kernel⟩
theorem zv_X4_times : zw_v yn_X4_times := ⟨zt_m 872 (by decide +kernel) (by decide +kernel), zt_m 873 (by decide +kernel) (by decide +kernel)⟩
set_option maxRecDepth 100000 in
theorem zm_X4_comes : zw_m yn_X4_comes cn_X4_comes 2 (some .int) 1 := ⟨zt_m 6 (by decide +kernel) (by decide +kernel), zt_m 878 rfl rfl, by decide, by decide, by decide +kernel⟩
theorem zv_X4_comes : zw_v yn_X4_comes := ⟨zt_m 876 (by decide +kernel) (by decide +kernel), zt_m 877 (by decide +kernel) (by decide +kernel)⟩
set_option maxRecDepth 100000 in
theorem zm_X4_fold : zw_m yn_X4_fold cn_X4_fold 6 (some .int) 2 := ⟨zt_m 6 (by decide +kernel) (by decide +kernel), zt_m 882 rfl rfl, by decide, by decide, by decide +kernel⟩
theorem zv_X4_fold : zw_v yn_X4_fold := ⟨zt_m 880 (by decide +kernel) (by decide +kernel), zt_m 881 (by decide +kernel) (by decide +kernel)⟩
set_option maxRecDepth 100000 in
theorem zm_X4_isAgain : zw_m yn_X4_isAgain cn_X4_isAgain 6 (some .boolean) 3 := ⟨zt_m 6 (by decide +kernel) (by decide +kernel), zt_m 890 rfl rfl, by decide, by decide, by decide +kernel⟩
theorem zv_X4_isAgain : zw_v yn_X4_isAgain := ⟨zt_m 889 (by decide +kernel) (by decide +kernel), zt_sel (n := 41) 63 (by decide +kernel) (by decide +kernel)⟩
set_option maxRecDepth 100000 in
theorem zm_X4_findWay : zw_m yn_X4_findWay cn_X4_findWay 6 none 2 := ⟨zt_m 6 (by decide +kernel) (by decide +kernel), zt_m 886 rfl rfl, by decide, by decide, by decide +kernel⟩
theorem zv_X4_findWay : zw_v yn_X4_findWay := ⟨zt_m 885 (by decide +kernel) (by decide +kernel), zt_sel (n := 41) 62 (by decide +kernel) (by decide +kernel)⟩
set_option maxRecDepth 100000 in
theorem zm_X4_item : zw_m yn_X4_item cn_X4_item 3 none 2 := ⟨zt_m 6 (by decide +kernel) (by decide +kernel), zt_m 898 rfl rfl, by decide, by decide, by decide +kernel⟩
theorem zv_X4_item : zw_v yn_X4_item := ⟨zt_m 897 (by decide +kernel) (by decide +kernel), zt_sel (n := 41) 65 (by decide +kernel) (by decide +kernel)⟩
set_option maxRecDepth 100000 in
theorem zm_X4_write : zw_m yn_X4_write cn_X4_write 6 none 1 := ⟨zt_m 6 (by decide +kernel) (by decide +kernel), zt_m 894 rfl rfl, by decide, by decide, by decide +kernel⟩
theorem zv_X4_write : zw_v yn_X4_write := ⟨zt_m 893 (by decide +kernel) (by decide +kernel), zt_sel (n := 41) 64 (by decide +kernel) (by decide +kernel)⟩
set_option maxRecDepth 100000 in
theorem zm_X4_folded : zw_m yn_X4_folded cn_X4_folded 3 (some .int) 2 := ⟨zt_m 6 (by decide +kernel) (by decide +kernel), zt_m 902 rfl rfl, by decide, by decide, by decide +kernel⟩
theorem zv_X4_folded : zw_v yn_X4_folded := ⟨zt_m 900 (by decide +kernel) (by decide +kernel), zt_m 901 (by decide +kernel) (by decide +kernel)⟩
set_option maxRecDepth 100000 in
theorem zm_X4_told : zw_m yn_X4_told cn_X4_told 4 (some .int) 1 := ⟨zt_m 6 (by decide +kernel) (by decide +kernel), zt_m 906 rfl rfl, by decide, by decide, by decide +kernel⟩
theorem zv_X4_told : zw_v yn_X4_told := ⟨zt_m 904 (by decide +kernel) (by decide +kernel), zt_m 905 (by decide +kernel) (by decide +kernel)⟩
set_option maxRecDepth 100000 in
theorem zm_XA_fill : zw_m yn_XA_fill cn_XA_fill 4 none 2 := ⟨zt_m 4 (by decide +kernel) (by decide +kernel), zt_m 35 rfl rfl, by decide, by decide, by decide +kernel⟩
theorem zs_XA_fill : Cond.static yn_XA_fill ∈ zt_ws := zt_m 34 (by decide +kernel) (by decide +kernel)
