set_option maxRecDepth 20000 in
theorem inG0 : ∀ w ∈ wsX00, w ∈ zgw := by decide +kernel
set_option maxRecDepth 20000 in
theorem inG1 : ∀ w ∈ wsX10, w ∈ zgw := by decide +kernel
set_option maxRecDepth 20000 in
theorem inG2 : ∀ w ∈ wsX20, w ∈ zgw := by decide +kernel
set_option maxRecDepth 20000 in
theorem inG3 : ∀ w ∈ wsX30, w ∈ zgw := by decide +kernel
set_option maxRecDepth 20000 in
theorem inG4 : ∀ w ∈ wsX40, w ∈ zgw := by decide +kernel
set_option maxRecDepth 20000 in
theorem cd_X3_init : Cond.code yX3_init cX3_init 3 none ∈ zgw := (zg 44 rfl rfl)
set_option maxRecDepth 20000 in
theorem cd_J9_min_7cf53 : Cond.code yJ9_min_7cf53 cJ9_min_7cf53 2 (some .int) ∈ zgw := (zg 50 rfl rfl)
set_option maxRecDepth 20000 in
theorem cd_J9_max_7cf53 : Cond.code yJ9_max_7cf53 cJ9_max_7cf53 2 (some .int) ∈ zgw := (zg 53 rfl rfl)
set_option maxRecDepth 20000 in
theorem cd_X3_newWorkers : Cond.code yX3_newWorkers cX3_newWorkers 3 (some (.array (.object "QuietWatch$Worker"))) ∈ zgw := (zg 56 rfl rfl)
set_option maxRecDepth 20000 in
theorem cd_X2_init : Cond.code yX2_init cX2_init 2 none ∈ zgw := (zg 62 rfl rfl)
set_option maxRecDepth 20000 in
theorem cd_X3_newRows : Cond.code yX3_newRows cX3_newRows 4 (some (.array (.object "QuietWatch$Row"))) ∈ zgw := (zg 107 rfl rfl)
set_option maxRecDepth 20000 in
theorem cd_X0_init : Cond.code yX0_init cX0_init 1 none ∈ zgw := (zg 113 rfl rfl)
set_option maxRecDepth 20000 in
theorem cd_X1_init : Cond.code yX1_init cX1_init 1 none ∈ zgw := (zg 134 rfl rfl)
set_option maxRecDepth 20000 in
theorem cd_X3_start : Cond.code yX3_start cX3_start 1 (some .boolean) ∈ zgw := (zg 190 rfl rfl)
set_option maxRecDepth 20000 in
theorem cd_X3_send : Cond.code yX3_send cX3_send 5 (some .boolean) ∈ zgw := (zg 194 rfl rfl)
set_option maxRecDepth 20000 in
theorem cd_X3_workerAt : Cond.code yX3_workerAt cX3_workerAt 2 (some (.object "QuietWatch$Worker")) ∈ zgw := (zg 198 rfl rfl)
set_option maxRecDepth 20000 in
theorem cd_X3_isProcess : Cond.code yX3_isProcess cX3_isProcess 2 (some .boolean) ∈ zgw := (zg 202 rfl rfl)
set_option maxRecDepth 20000 in
theorem cd_X3_rowBetween : Cond.code yX3_rowBetween cX3_rowBetween 3 (some (.object "QuietWatch$Row")) ∈ zgw := (zg 206 rfl rfl)
set_option maxRecDepth 20000 in
theorem cd_X2_isFree : Cond.code yX2_isFree cX2_isFree 1 (some .boolean) ∈ zgw := (zg 210 rfl rfl)
set_option maxRecDepth 20000 in
theorem cd_X2_isBlocked : Cond.code yX2_isBlocked cX2_isBlocked 1 (some .boolean) ∈ zgw := (zg 214 rfl rfl)
set_option maxRecDepth 20000 in
theorem cd_X0_append : Cond.code yX0_append cX0_append 2 none ∈ zgw := (zg 218 rfl rfl)
set_option maxRecDepth 20000 in
theorem cd_X0_grow : Cond.code yX0_grow cX0_grow 3 none ∈ zgw := (zg 222 rfl rfl)
set_option maxRecDepth 20000 in
theorem cd_X0_placeOf : Cond.code yX0_placeOf cX0_placeOf 3 (some .int) ∈ zgw := (zg 226 rfl rfl)
set_option maxRecDepth 20000 in
theorem cd_X3_kindOf : Cond.code yX3_kindOf cX3_kindOf 1 (some .int) ∈ zgw := (zg 229 rfl rfl)
set_option maxRecDepth 20000 in
theorem cd_X3_oneIf : Cond.code yX3_oneIf cX3_oneIf 1 (some .int) ∈ zgw := (zg 232 rfl rfl)
set_option maxRecDepth 20000 in
theorem cd_X3_rest : Cond.code yX3_rest cX3_rest 3 (some .boolean) ∈ zgw := (zg 236 rfl rfl)
set_option maxRecDepth 20000 in
theorem cd_X3_leaveTreeIfDone : Cond.code yX3_leaveTreeIfDone cX3_leaveTreeIfDone 3 none ∈ zgw := (zg 240 rfl rfl)
set_option maxRecDepth 20000 in
theorem cd_X3_isInTree : Cond.code yX3_isInTree cX3_isInTree 3 (some .boolean) ∈ zgw := (zg 244 rfl rfl)
set_option maxRecDepth 20000 in
theorem cd_X3_judgeEnd : Cond.code yX3_judgeEnd cX3_judgeEnd 1 none ∈ zgw := (zg 248 rfl rfl)
set_option maxRecDepth 20000 in
theorem cd_X3_quiet : Cond.code yX3_quiet cX3_quiet 2 (some .boolean) ∈ zgw := (zg 252 rfl rfl)
set_option maxRecDepth 20000 in
theorem cd_X3_worksUnderWay : Cond.code yX3_worksUnderWay cX3_worksUnderWay 6 (some .int) ∈ zgw := (zg 256 rfl rfl)
set_option maxRecDepth 20000 in
theorem cd_X3_put : Cond.code yX3_put cX3_put 5 none ∈ zgw := (zg 260 rfl rfl)
set_option maxRecDepth 20000 in
theorem cd_X3_ask : Cond.code yX3_ask cX3_ask 5 (some .int) ∈ zgw := (zg 264 rfl rfl)
set_option maxRecDepth 20000 in
theorem cd_X3_allOf : Cond.code yX3_allOf cX3_allOf 1 (some .int) ∈ zgw := (zg 267 rfl rfl)
set_option maxRecDepth 20000 in
theorem cd_X3_bitOf : Cond.code yX3_bitOf cX3_bitOf 1 (some .int) ∈ zgw := (zg 270 rfl rfl)
set_option maxRecDepth 20000 in
theorem cd_X3_putToEach : Cond.code yX3_putToEach cX3_putToEach 6 none ∈ zgw := (zg 274 rfl rfl)
set_option maxRecDepth 20000 in
theorem cd_X3_holds : Cond.code yX3_holds cX3_holds 2 (some .boolean) ∈ zgw := (zg 277 rfl rfl)
set_option maxRecDepth 20000 in
theorem cd_J6_bitCount_0f7a4 : Cond.code yJ6_bitCount_0f7a4 cJ6_bitCount_0f7a4 1 (some .int) ∈ zgw := (zg 280 rfl rfl)
set_option maxRecDepth 20000 in
theorem cd_X3_answer : Cond.code yX3_answer cX3_answer 5 (some .boolean) ∈ zgw := (zg 287 rfl rfl)
set_option maxRecDepth 20000 in
theorem cd_X3_probe : Cond.code yX3_probe cX3_probe 3 (some .int) ∈ zgw := (zg 292 rfl rfl)
set_option maxRecDepth 20000 in
theorem cd_X3_probeOf : Cond.code yX3_probeOf cX3_probeOf 2 (some .int) ∈ zgw := (zg 295 rfl rfl)
set_option maxRecDepth 20000 in
theorem cd_X3_pass : Cond.code yX3_pass cX3_pass 3 (some .int) ∈ zgw := (zg 299 rfl rfl)
set_option maxRecDepth 20000 in
theorem cd_X1_collect : Cond.code yX1_collect cX1_collect 2 none ∈ zgw := (zg 303 rfl rfl)
set_option maxRecDepth 20000 in
theorem cd_X3_giveToken : Cond.code yX3_giveToken cX3_giveToken 3 none ∈ zgw := (zg 307 rfl rfl)
set_option maxRecDepth 20000 in
theorem cd_X1_showsEndTo : Cond.code yX1_showsEndTo cX1_showsEndTo 2 (some .boolean) ∈ zgw := (zg 311 rfl rfl)
set_option maxRecDepth 20000 in
theorem cd_X1_beginRound : Cond.code yX1_beginRound cX1_beginRound 1 none ∈ zgw := (zg 315 rfl rfl)
set_option maxRecDepth 20000 in
theorem cd_X3_receive : Cond.code yX3_receive cX3_receive 6 (some .int) ∈ zgw := (zg 319 rfl rfl)
set_option maxRecDepth 20000 in
theorem cd_X0_takeFirst : Cond.code yX0_takeFirst cX0_takeFirst 2 (some .int) ∈ zgw := (zg 323 rfl rfl)
set_option maxRecDepth 20000 in
theorem cd_X3_takeWork : Cond.code yX3_takeWork cX3_takeWork 4 none ∈ zgw := (zg 328 rfl rfl)
set_option maxRecDepth 20000 in
theorem cd_X3_takeProbe : Cond.code yX3_takeProbe cX3_takeProbe 6 none ∈ zgw := (zg 332 rfl rfl)
set_option maxRecDepth 20000 in
theorem cd_X3_beginnerOf : Cond.code yX3_beginnerOf cX3_beginnerOf 1 (some .int) ∈ zgw := (zg 335 rfl rfl)
set_option maxRecDepth 20000 in
theorem cd_X3_tellDead : Cond.code yX3_tellDead cX3_tellDead 3 none ∈ zgw := (zg 339 rfl rfl)
set_option maxRecDepth 20000 in
theorem cd_X3_isInRing : Cond.code yX3_isInRing cX3_isInRing 5 (some .boolean) ∈ zgw := (zg 343 rfl rfl)
set_option maxRecDepth 20000 in
theorem cd_X2_hangsOn : Cond.code yX2_hangsOn cX2_hangsOn 1 (some .int) ∈ zgw := (zg 347 rfl rfl)
set_option maxRecDepth 20000 in
theorem cd_X3_numberOf : Cond.code yX3_numberOf cX3_numberOf 1 (some .int) ∈ zgw := (zg 350 rfl rfl)
set_option maxRecDepth 20000 in
theorem cd_X2_noteIfNewer : Cond.code yX2_noteIfNewer cX2_noteIfNewer 3 (some .boolean) ∈ zgw := (zg 354 rfl rfl)
set_option maxRecDepth 20000 in
theorem cd_X3_run : Cond.code yX3_run cX3_run 10 (some .int) ∈ zgw := (zg 358 rfl rfl)
set_option maxRecDepth 20000 in
theorem cd_X3_told : Cond.code yX3_told cX3_told 4 (some .int) ∈ zgw := (zg 365 rfl rfl)
set_option maxRecDepth 20000 in
theorem cd_X3_waits : Cond.code yX3_waits cX3_waits 4 (some .boolean) ∈ zgw := (zg 370 rfl rfl)
set_option maxRecDepth 20000 in
theorem cd_X3_message : Cond.code yX3_message cX3_message 7 (some .int) ∈ zgw := (zg 374 rfl rfl)
set_option maxRecDepth 20000 in
theorem cd_X0_at : Cond.code yX0_at cX0_at 2 (some .int) ∈ zgw := (zg 378 rfl rfl)
set_option maxRecDepth 20000 in
theorem cd_X3_wrong : Cond.code yX3_wrong cX3_wrong 1 (some .int) ∈ zgw := (zg 383 rfl rfl)
set_option maxRecDepth 20000 in
theorem cd_X3_falsely : Cond.code yX3_falsely cX3_falsely 1 (some .int) ∈ zgw := (zg 387 rfl rfl)
set_option maxRecDepth 20000 in
theorem cd_X3_count : Cond.code yX3_count cX3_count 2 (some .int) ∈ zgw := (zg 391 rfl rfl)
set_option maxRecDepth 20000 in
theorem cd_X3_messagesUnderWay : Cond.code yX3_messagesUnderWay cX3_messagesUnderWay 6 (some .int) ∈ zgw := (zg 395 rfl rfl)
set_option maxRecDepth 20000 in
theorem cd_L_cell : Cond.code yL_cell cL_cell 2 (some .int) ∈ zgw := (zg 398 rfl rfl)
set_option maxRecDepth 20000 in
theorem cd_X4_init : Cond.code yX4_init cX4_init 3 none ∈ zgw := (zg 403 rfl rfl)
set_option maxRecDepth 20000 in
theorem cd_X4_quiet : Cond.code yX4_quiet cX4_quiet 3 (some .boolean) ∈ zgw := (zg 492 rfl rfl)
set_option maxRecDepth 20000 in
theorem cd_X4_row : Cond.code yX4_row cX4_row 2 (some .int) ∈ zgw := (zg 495 rfl rfl)
set_option maxRecDepth 20000 in
theorem cd_X4_counted : Cond.code yX4_counted cX4_counted 5 (some .int) ∈ zgw := (zg 499 rfl rfl)
set_option maxRecDepth 20000 in
theorem cd_X4_start : Cond.code yX4_start cX4_start 1 (some .boolean) ∈ zgw := (zg 503 rfl rfl)
set_option maxRecDepth 20000 in
theorem cd_X4_send : Cond.code yX4_send cX4_send 3 (some .boolean) ∈ zgw := (zg 507 rfl rfl)
set_option maxRecDepth 20000 in
theorem cd_X4_isRow : Cond.code yX4_isRow cX4_isRow 3 (some .boolean) ∈ zgw := (zg 511 rfl rfl)
set_option maxRecDepth 20000 in
theorem cd_X4_isOne : Cond.code yX4_isOne cX4_isOne 2 (some .boolean) ∈ zgw := (zg 515 rfl rfl)
set_option maxRecDepth 20000 in
theorem cd_X4_isFree : Cond.code yX4_isFree cX4_isFree 2 (some .boolean) ∈ zgw := (zg 519 rfl rfl)
set_option maxRecDepth 20000 in
theorem cd_X4_isBlocked : Cond.code yX4_isBlocked cX4_isBlocked 2 (some .boolean) ∈ zgw := (zg 523 rfl rfl)
set_option maxRecDepth 20000 in
theorem cd_X4_waitsFor : Cond.code yX4_waitsFor cX4_waitsFor 4 (some .int) ∈ zgw := (zg 527 rfl rfl)
set_option maxRecDepth 20000 in
theorem cd_X4_sends : Cond.code yX4_sends cX4_sends 8 none ∈ zgw := (zg 531 rfl rfl)
set_option maxRecDepth 20000 in
theorem cd_X4_rest : Cond.code yX4_rest cX4_rest 2 (some .boolean) ∈ zgw := (zg 535 rfl rfl)
set_option maxRecDepth 20000 in
theorem cd_X4_settles : Cond.code yX4_settles cX4_settles 3 none ∈ zgw := (zg 539 rfl rfl)
set_option maxRecDepth 20000 in
theorem cd_X4_isInTree : Cond.code yX4_isInTree cX4_isInTree 2 (some .boolean) ∈ zgw := (zg 543 rfl rfl)
set_option maxRecDepth 20000 in
theorem cd_X4_ask : Cond.code yX4_ask cX4_ask 5 (some .int) ∈ zgw := (zg 548 rfl rfl)
set_option maxRecDepth 20000 in
theorem cd_X4_answer : Cond.code yX4_answer cX4_answer 3 (some .boolean) ∈ zgw := (zg 552 rfl rfl)
set_option maxRecDepth 20000 in
theorem cd_X4_probe : Cond.code yX4_probe cX4_probe 2 (some .int) ∈ zgw := (zg 556 rfl rfl)
set_option maxRecDepth 20000 in
theorem cd_X4_probes : Cond.code yX4_probes cX4_probes 5 none ∈ zgw := (zg 560 rfl rfl)
set_option maxRecDepth 20000 in
theorem cd_X4_pass : Cond.code yX4_pass cX4_pass 2 (some .int) ∈ zgw := (zg 564 rfl rfl)
set_option maxRecDepth 20000 in
theorem cd_X4_receive : Cond.code yX4_receive cX4_receive 9 (some .int) ∈ zgw := (zg 568 rfl rfl)
set_option maxRecDepth 20000 in
theorem cd_X4_work : Cond.code yX4_work cX4_work 3 none ∈ zgw := (zg 572 rfl rfl)
set_option maxRecDepth 20000 in
theorem cd_X4_probed : Cond.code yX4_probed cX4_probed 5 none ∈ zgw := (zg 576 rfl rfl)
set_option maxRecDepth 20000 in
theorem cd_X4_isInRing : Cond.code yX4_isInRing cX4_isInRing 5 (some .boolean) ∈ zgw := (zg 580 rfl rfl)
set_option maxRecDepth 20000 in
theorem cd_X4_hangs : Cond.code yX4_hangs cX4_hangs 3 (some .boolean) ∈ zgw := (zg 584 rfl rfl)
set_option maxRecDepth 20000 in
theorem cd_X4_run : Cond.code yX4_run cX4_run 10 (some .int) ∈ zgw := (zg 588 rfl rfl)
set_option maxRecDepth 20000 in
theorem cd_X4_told : Cond.code yX4_told cX4_told 3 (some .int) ∈ zgw := (zg 595 rfl rfl)
set_option maxRecDepth 20000 in
theorem cd_X4_toInt : Cond.code yX4_toInt cX4_toInt 1 (some .int) ∈ zgw := (zg 598 rfl rfl)
set_option maxRecDepth 20000 in
theorem cd_X4_pendingAt : Cond.code yX4_pendingAt cX4_pendingAt 4 (some .int) ∈ zgw := (zg 602 rfl rfl)
set_option maxRecDepth 20000 in
theorem cd_X4_waits : Cond.code yX4_waits cX4_waits 3 (some .boolean) ∈ zgw := (zg 606 rfl rfl)
set_option maxRecDepth 20000 in
theorem cd_X4_message : Cond.code yX4_message cX4_message 6 (some .int) ∈ zgw := (zg 610 rfl rfl)
set_option maxRecDepth 20000 in
theorem cd_X4_wrong : Cond.code yX4_wrong cX4_wrong 1 (some .int) ∈ zgw := (zg 614 rfl rfl)
set_option maxRecDepth 20000 in
theorem cd_X4_falsely : Cond.code yX4_falsely cX4_falsely 1 (some .int) ∈ zgw := (zg 618 rfl rfl)
set_option maxRecDepth 20000 in
theorem cd_X4_count : Cond.code yX4_count cX4_count 4 (some .int) ∈ zgw := (zg 622 rfl rfl)
set_option maxRecDepth 20000 in
theorem cw_X3_9 : zCS RX3 9 yJ9_min_7cf53 cJ9_min_7cf53 2 (some .int) 2 := zCS.of cd_J9_min_7cf53 (zg 48 rfl rfl) (zg 49 rfl rfl) (zg 34 rfl rfl) (by decide +kernel)
set_option maxRecDepth 20000 in
theorem cw_X3_15 : zCS RX3 15 yJ9_max_7cf53 cJ9_max_7cf53 2 (some .int) 2 := zCS.of cd_J9_max_7cf53 (zg 51 rfl rfl) (zg 52 rfl rfl) (zg 34 rfl rfl) (by decide +kernel)
set_option maxRecDepth 20000 in
theorem cw_X3_22 : zCS RX3 22 yX3_newWorkers cX3_newWorkers 3 (some (.array (.object "QuietWatch$Worker"))) 1 := zCS.of cd_X3_newWorkers (zg 54 rfl rfl) (zg 55 rfl rfl) (zg 33 rfl rfl) (by decide +kernel)
set_option maxRecDepth 20000 in
theorem gf_X2_15 : zGet RX2 15 2 0 := zGet.of (ref := "QuietWatch$Worker") (T := TX2) (N := 11) rfl (by decide) inG2 (zg 64 rfl rfl) rfl
set_option maxRecDepth 20000 in
theorem gf_X3_49 : zGet RX3 49 2 1 := zGet.ofN (ref := "QuietWatch$Worker") (host := "QuietWatch") (T := TX2) (N := 11) rfl (by decide) inG2 (zn 65 rfl rfl) rfl
set_option maxRecDepth 20000 in
theorem pf_X3_49 : zPut RX3 49 2 1 .boolean := zPut.ofN (f := 1) (ref := "QuietWatch$Worker") (host := "QuietWatch") (T := TX2) (N := 11) (tys := tyX2) rfl (by decide) inG2 tyX2_ok nmX2 (zn 65 rfl rfl) rfl rfl rfl
set_option maxRecDepth 20000 in
theorem gf_X2_22 : zGet RX2 22 2 1 := zGet.of (ref := "QuietWatch$Worker") (T := TX2) (N := 11) rfl (by decide) inG2 (zg 66 rfl rfl) rfl
set_option maxRecDepth 20000 in
theorem pf_X2_22 : zPut RX2 22 2 1 .boolean := zPut.of (f := 1) (ref := "QuietWatch$Worker") (T := TX2) (N := 11) (tys := tyX2) rfl (by decide) inG2 tyX2_ok nmX2 (zg 66 rfl rfl) rfl rfl rfl
set_option maxRecDepth 20000 in
theorem gf_X1_22 : zGet RX1 22 2 2 := zGet.ofN (ref := "QuietWatch$Worker") (host := "QuietWatch") (T := TX2) (N := 11) rfl (by decide) inG2 (zn 67 rfl rfl) rfl
set_option maxRecDepth 20000 in
theorem pf_X1_22 : zPut RX1 22 2 2 .boolean := zPut.ofN (f := 2) (ref := "QuietWatch$Worker") (host := "QuietWatch") (T := TX2) (N := 11) (tys := tyX2) rfl (by decide) inG2 tyX2_ok nmX2 (zn 67 rfl rfl) rfl rfl rfl
set_option maxRecDepth 20000 in
theorem gf_X3_150 : zGet RX3 150 2 2 := zGet.ofN (ref := "QuietWatch$Worker") (host := "QuietWatch") (T := TX2) (N := 11) rfl (by decide) inG2 (zn 68 rfl rfl) rfl
set_option maxRecDepth 20000 in
theorem pf_X3_150 : zPut RX3 150 2 2 .boolean := zPut.ofN (f := 2) (ref := "QuietWatch$Worker") (host := "QuietWatch") (T := TX2) (N := 11) (tys := tyX2) rfl (by decide) inG2 tyX2_ok nmX2 (zn 68 rfl rfl) rfl rfl rfl
set_option maxRecDepth 20000 in
theorem gf_X2_9 : zGet RX2 9 2 3 := zGet.of (ref := "QuietWatch$Worker") (T := TX2) (N := 11) rfl (by decide) inG2 (zg 69 rfl rfl) rfl
set_option maxRecDepth 20000 in
theorem pf_X2_9 : zPut RX2 9 2 3 .int := zPut.of (f := 3) (ref := "QuietWatch$Worker") (T := TX2) (N := 11) (tys := tyX2) rfl (by decide) inG2 tyX2_ok nmX2 (zg 69 rfl rfl) rfl rfl rfl
set_option maxRecDepth 20000 in
theorem gf_X3_189 : zGet RX3 189 2 3 := zGet.ofN (ref := "QuietWatch$Worker") (host := "QuietWatch") (T := TX2) (N := 11) rfl (by decide) inG2 (zn 70 rfl rfl) rfl
set_option maxRecDepth 20000 in
theorem pf_X3_189 : zPut RX3 189 2 3 .int := zPut.ofN (f := 3) (ref := "QuietWatch$Worker") (host := "QuietWatch") (T := TX2) (N := 11) (tys := tyX2) rfl (by decide) inG2 tyX2_ok nmX2 (zn 70 rfl rfl) rfl rfl rfl
set_option maxRecDepth 20000 in
theorem gf_X3_71 : zGet RX3 71 2 4 := zGet.ofN (ref := "QuietWatch$Worker") (host := "QuietWatch") (T := TX2) (N := 11) rfl (by decide) inG2 (zn 71 rfl rfl) rfl
set_option maxRecDepth 20000 in
theorem pf_X3_71 : zPut RX3 71 2 4 .int := zPut.ofN (f := 4) (ref := "QuietWatch$Worker") (host := "QuietWatch") (T := TX2) (N := 11) (tys := tyX2) rfl (by decide) inG2 tyX2_ok nmX2 (zn 71 rfl rfl) rfl rfl rfl
set_option maxRecDepth 20000 in
theorem gf_X1_28 : zGet RX1 28 2 5 := zGet.ofN (ref := "QuietWatch$Worker") (host := "QuietWatch") (T := TX2) (N := 11) rfl (by decide) inG2 (zn 72 rfl rfl) rfl
set_option maxRecDepth 20000 in
theorem pf_X1_28 : zPut RX1 28 2 5 .int := zPut.ofN (f := 5) (ref := "QuietWatch$Worker") (host := "QuietWatch") (T := TX2) (N := 11) (tys := tyX2) rfl (by decide) inG2 tyX2_ok nmX2 (zn 72 rfl rfl) rfl rfl rfl
set_option maxRecDepth 20000 in
theorem gf_X3_78 : zGet RX3 78 2 5 := zGet.ofN (ref := "QuietWatch$Worker") (host := "QuietWatch") (T := TX2) (N := 11) rfl (by decide) inG2 (zn 73 rfl rfl) rfl
set_option maxRecDepth 20000 in
theorem pf_X3_78 : zPut RX3 78 2 5 .int := zPut.ofN (f := 5) (ref := "QuietWatch$Worker") (host := "QuietWatch") (T := TX2) (N := 11) (tys := tyX2) rfl (by decide) inG2 tyX2_ok nmX2 (zn 73 rfl rfl) rfl rfl rfl
set_option maxRecDepth 20000 in
theorem gf_X2_19 : zGet RX2 19 2 6 := zGet.of (ref := "QuietWatch$Worker") (T := TX2) (N := 11) rfl (by decide) inG2 (zg 74 rfl rfl) rfl
set_option maxRecDepth 20000 in
theorem pf_X2_19 : zPut RX2 19 2 6 .int := zPut.of (f := 6) (ref := "QuietWatch$Worker") (T := TX2) (N := 11) (tys := tyX2) rfl (by decide) inG2 tyX2_ok nmX2 (zg 74 rfl rfl) rfl rfl rfl
set_option maxRecDepth 20000 in
theorem gf_X3_92 : zGet RX3 92 2 6 := zGet.ofN (ref := "QuietWatch$Worker") (host := "QuietWatch") (T := TX2) (N := 11) rfl (by decide) inG2 (zn 75 rfl rfl) rfl
set_option maxRecDepth 20000 in
theorem pf_X3_92 : zPut RX3 92 2 6 .int := zPut.ofN (f := 6) (ref := "QuietWatch$Worker") (host := "QuietWatch") (T := TX2) (N := 11) (tys := tyX2) rfl (by decide) inG2 tyX2_ok nmX2 (zn 75 rfl rfl) rfl rfl rfl
set_option maxRecDepth 20000 in
theorem gf_X2_30 : zGet RX2 30 2 7 := zGet.of (ref := "QuietWatch$Worker") (T := TX2) (N := 11) rfl (by decide) inG2 (zg 76 rfl rfl) rfl
set_option maxRecDepth 20000 in
theorem pf_X2_30 : zPut RX2 30 2 7 .int := zPut.of (f := 7) (ref := "QuietWatch$Worker") (T := TX2) (N := 11) (tys := tyX2) rfl (by decide) inG2 tyX2_ok nmX2 (zg 76 rfl rfl) rfl rfl rfl
set_option maxRecDepth 20000 in
theorem gf_X3_114 : zGet RX3 114 2 7 := zGet.ofN (ref := "QuietWatch$Worker") (host := "QuietWatch") (T := TX2) (N := 11) rfl (by decide) inG2 (zn 77 rfl rfl) rfl
set_option maxRecDepth 20000 in
theorem pf_X3_114 : zPut RX3 114 2 7 .int := zPut.ofN (f := 7) (ref := "QuietWatch$Worker") (host := "QuietWatch") (T := TX2) (N := 11) (tys := tyX2) rfl (by decide) inG2 tyX2_ok nmX2 (zn 77 rfl rfl) rfl rfl rfl
set_option maxRecDepth 20000 in
theorem gf_X3_107 : zGet RX3 107 2 8 := zGet.ofN (ref := "QuietWatch$Worker") (host := "QuietWatch") (T := TX2) (N := 11) rfl (by decide) inG2 (zn 78 rfl rfl) rfl
set_option maxRecDepth 20000 in
theorem pf_X3_107 : zPut RX3 107 2 8 .int := zPut.ofN (f := 8) (ref := "QuietWatch$Worker") (host := "QuietWatch") (T := TX2) (N := 11) (tys := tyX2) rfl (by decide) inG2 tyX2_ok nmX2 (zn 78 rfl rfl) rfl rfl rfl
set_option maxRecDepth 20000 in
theorem gf_X3_192 : zGet RX3 192 2 9 := zGet.ofN (ref := "QuietWatch$Worker") (host := "QuietWatch") (T := TX2) (N := 11) rfl (by decide) inG2 (zn 79 rfl rfl) rfl
set_option maxRecDepth 20000 in
theorem pf_X3_192 : zPut RX3 192 2 9 .int := zPut.ofN (f := 9) (ref := "QuietWatch$Worker") (host := "QuietWatch") (T := TX2) (N := 11) (tys := tyX2) rfl (by decide) inG2 tyX2_ok nmX2 (zn 79 rfl rfl) rfl rfl rfl
set_option maxRecDepth 20000 in
theorem gf_X3_120 : zGet RX3 120 2 10 := zGet.ofN (ref := "QuietWatch$Worker") (host := "QuietWatch") (T := TX2) (N := 11) rfl (by decide) inG2 (zn 80 rfl rfl) rfl
set_option maxRecDepth 20000 in
theorem pf_X3_120 : zPut RX3 120 2 10 .int := zPut.ofN (f := 10) (ref := "QuietWatch$Worker") (host := "QuietWatch") (T := TX2) (N := 11) (tys := tyX2) rfl (by decide) inG2 tyX2_ok nmX2 (zn 80 rfl rfl) rfl rfl rfl
set_option maxRecDepth 20000 in
theorem cw_X3_30 : zCS RX3 30 yX3_newRows cX3_newRows 4 (some (.array (.object "QuietWatch$Row"))) 1 := zCS.of cd_X3_newRows (zg 105 rfl rfl) (zg 106 rfl rfl) (zg 33 rfl rfl) (by decide +kernel)
set_option maxRecDepth 20000 in
theorem gf_X0_11 : zGet RX0 11 0 0 := zGet.of (ref := "QuietWatch$Row") (T := TX0) (N := 4) rfl (by decide) inG0 (zg 115 rfl rfl) rfl
set_option maxRecDepth 20000 in
theorem gf_X0_36 : zGet RX0 36 0 1 := zGet.of (ref := "QuietWatch$Row") (T := TX0) (N := 4) rfl (by decide) inG0 (zg 116 rfl rfl) rfl
set_option maxRecDepth 20000 in
theorem pf_X0_36 : zPut RX0 36 0 1 .int := zPut.of (f := 1) (ref := "QuietWatch$Row") (T := TX0) (N := 4) (tys := tyX0) rfl (by decide) inG0 tyX0_ok nmX0 (zg 116 rfl rfl) rfl rfl rfl
set_option maxRecDepth 20000 in
theorem gf_X0_19 : zGet RX0 19 0 2 := zGet.of (ref := "QuietWatch$Row") (T := TX0) (N := 4) rfl (by decide) inG0 (zg 117 rfl rfl) rfl
set_option maxRecDepth 20000 in
theorem pf_X0_19 : zPut RX0 19 0 2 .int := zPut.of (f := 2) (ref := "QuietWatch$Row") (T := TX0) (N := 4) (tys := tyX0) rfl (by decide) inG0 tyX0_ok nmX0 (zg 117 rfl rfl) rfl rfl rfl
set_option maxRecDepth 20000 in
theorem gf_X3_153 : zGet RX3 153 0 2 := zGet.ofN (ref := "QuietWatch$Row") (host := "QuietWatch") (T := TX0) (N := 4) rfl (by decide) inG0 (zn 118 rfl rfl) rfl
set_option maxRecDepth 20000 in
theorem pf_X3_153 : zPut RX3 153 0 2 .int := zPut.ofN (f := 2) (ref := "QuietWatch$Row") (host := "QuietWatch") (T := TX0) (N := 4) (tys := tyX0) rfl (by decide) inG0 tyX0_ok nmX0 (zn 118 rfl rfl) rfl rfl rfl
set_option maxRecDepth 20000 in
theorem gf_X3_66 : zGet RX3 66 0 3 := zGet.ofN (ref := "QuietWatch$Row") (host := "QuietWatch") (T := TX0) (N := 4) rfl (by decide) inG0 (zn 119 rfl rfl) rfl
set_option maxRecDepth 20000 in
theorem pf_X3_66 : zPut RX3 66 0 3 .int := zPut.ofN (f := 3) (ref := "QuietWatch$Row") (host := "QuietWatch") (T := TX0) (N := 4) (tys := tyX0) rfl (by decide) inG0 tyX0_ok nmX0 (zn 119 rfl rfl) rfl rfl rfl
set_option maxRecDepth 20000 in
theorem gf_X0_26 : zGet RX0 26 0 3 := zGet.of (ref := "QuietWatch$Row") (T := TX0) (N := 4) rfl (by decide) inG0 (zg 120 rfl rfl) rfl
set_option maxRecDepth 20000 in
theorem pf_X0_26 : zPut RX0 26 0 3 .int := zPut.of (f := 3) (ref := "QuietWatch$Row") (T := TX0) (N := 4) (tys := tyX0) rfl (by decide) inG0 tyX0_ok nmX0 (zg 120 rfl rfl) rfl rfl rfl
set_option maxRecDepth 20000 in
theorem gf_X1_9 : zGet RX1 9 1 0 := zGet.of (ref := "QuietWatch$Token") (T := TX1) (N := 4) rfl (by decide) inG1 (zg 136 rfl rfl) rfl
set_option maxRecDepth 20000 in
theorem pf_X1_9 : zPut RX1 9 1 0 .int := zPut.of (f := 0) (ref := "QuietWatch$Token") (T := TX1) (N := 4) (tys := tyX1) rfl (by decide) inG1 tyX1_ok nmX1 (zg 136 rfl rfl) rfl rfl rfl
set_option maxRecDepth 20000 in
theorem gf_X3_126 : zGet RX3 126 1 0 := zGet.ofN (ref := "QuietWatch$Token") (host := "QuietWatch") (T := TX1) (N := 4) rfl (by decide) inG1 (zn 137 rfl rfl) rfl
set_option maxRecDepth 20000 in
theorem pf_X3_126 : zPut RX3 126 1 0 .int := zPut.ofN (f := 0) (ref := "QuietWatch$Token") (host := "QuietWatch") (T := TX1) (N := 4) (tys := tyX1) rfl (by decide) inG1 tyX1_ok nmX1 (zn 137 rfl rfl) rfl rfl rfl
set_option maxRecDepth 20000 in
theorem gf_X1_25 : zGet RX1 25 1 1 := zGet.of (ref := "QuietWatch$Token") (T := TX1) (N := 4) rfl (by decide) inG1 (zg 138 rfl rfl) rfl
set_option maxRecDepth 20000 in
theorem pf_X1_25 : zPut RX1 25 1 1 .int := zPut.of (f := 1) (ref := "QuietWatch$Token") (T := TX1) (N := 4) (tys := tyX1) rfl (by decide) inG1 tyX1_ok nmX1 (zg 138 rfl rfl) rfl rfl rfl
set_option maxRecDepth 20000 in
theorem gf_X3_219 : zGet RX3 219 1 1 := zGet.ofN (ref := "QuietWatch$Token") (host := "QuietWatch") (T := TX1) (N := 4) rfl (by decide) inG1 (zn 139 rfl rfl) rfl
set_option maxRecDepth 20000 in
theorem pf_X3_219 : zPut RX3 219 1 1 .int := zPut.ofN (f := 1) (ref := "QuietWatch$Token") (host := "QuietWatch") (T := TX1) (N := 4) (tys := tyX1) rfl (by decide) inG1 tyX1_ok nmX1 (zn 139 rfl rfl) rfl rfl rfl
set_option maxRecDepth 20000 in
theorem gf_X1_18 : zGet RX1 18 1 2 := zGet.of (ref := "QuietWatch$Token") (T := TX1) (N := 4) rfl (by decide) inG1 (zg 140 rfl rfl) rfl
set_option maxRecDepth 20000 in
theorem pf_X1_18 : zPut RX1 18 1 2 .boolean := zPut.of (f := 2) (ref := "QuietWatch$Token") (T := TX1) (N := 4) (tys := tyX1) rfl (by decide) inG1 tyX1_ok nmX1 (zg 140 rfl rfl) rfl rfl rfl
set_option maxRecDepth 20000 in
theorem gf_X3_222 : zGet RX3 222 1 2 := zGet.ofN (ref := "QuietWatch$Token") (host := "QuietWatch") (T := TX1) (N := 4) rfl (by decide) inG1 (zn 141 rfl rfl) rfl
set_option maxRecDepth 20000 in
theorem pf_X3_222 : zPut RX3 222 1 2 .boolean := zPut.ofN (f := 2) (ref := "QuietWatch$Token") (host := "QuietWatch") (T := TX1) (N := 4) (tys := tyX1) rfl (by decide) inG1 tyX1_ok nmX1 (zn 141 rfl rfl) rfl rfl rfl
set_option maxRecDepth 20000 in
theorem gf_X1_15 : zGet RX1 15 1 3 := zGet.of (ref := "QuietWatch$Token") (T := TX1) (N := 4) rfl (by decide) inG1 (zg 142 rfl rfl) rfl
set_option maxRecDepth 20000 in
theorem pf_X1_15 : zPut RX1 15 1 3 .int := zPut.of (f := 3) (ref := "QuietWatch$Token") (T := TX1) (N := 4) (tys := tyX1) rfl (by decide) inG1 tyX1_ok nmX1 (zg 142 rfl rfl) rfl rfl rfl
set_option maxRecDepth 20000 in
theorem gf_X3_216 : zGet RX3 216 1 3 := zGet.ofN (ref := "QuietWatch$Token") (host := "QuietWatch") (T := TX1) (N := 4) rfl (by decide) inG1 (zn 143 rfl rfl) rfl
set_option maxRecDepth 20000 in
theorem pf_X3_216 : zPut RX3 216 1 3 .int := zPut.ofN (f := 3) (ref := "QuietWatch$Token") (host := "QuietWatch") (T := TX1) (N := 4) (tys := tyX1) rfl (by decide) inG1 tyX1_ok nmX1 (zn 143 rfl rfl) rfl rfl rfl
set_option maxRecDepth 20000 in
theorem gf_X3_18 : zGet RX3 18 3 0 := zGet.of (ref := "QuietWatch") (T := TX3) (N := 11) rfl (by decide) inG3 (zg 153 rfl rfl) rfl
set_option maxRecDepth 20000 in
theorem gf_X3_26 : zGet RX3 26 3 1 := zGet.of (ref := "QuietWatch") (T := TX3) (N := 11) rfl (by decide) inG3 (zg 154 rfl rfl) rfl
set_option maxRecDepth 20000 in
theorem gf_X3_34 : zGet RX3 34 3 2 := zGet.of (ref := "QuietWatch") (T := TX3) (N := 11) rfl (by decide) inG3 (zg 155 rfl rfl) rfl
set_option maxRecDepth 20000 in
theorem gf_X3_41 : zGet RX3 41 3 3 := zGet.of (ref := "QuietWatch") (T := TX3) (N := 11) rfl (by decide) inG3 (zg 156 rfl rfl) rfl
set_option maxRecDepth 20000 in
theorem gf_X3_45 : zGet RX3 45 3 4 := zGet.of (ref := "QuietWatch") (T := TX3) (N := 11) rfl (by decide) inG3 (zg 157 rfl rfl) rfl
set_option maxRecDepth 20000 in
theorem pf_X3_45 : zPut RX3 45 3 4 .boolean := zPut.of (f := 4) (ref := "QuietWatch") (T := TX3) (N := 11) (tys := tyX3) rfl (by decide) inG3 tyX3_ok nmX3 (zg 157 rfl rfl) rfl rfl rfl
set_option maxRecDepth 20000 in
theorem gf_X3_213 : zGet RX3 213 3 5 := zGet.of (ref := "QuietWatch") (T := TX3) (N := 11) rfl (by decide) inG3 (zg 158 rfl rfl) rfl
set_option maxRecDepth 20000 in
theorem pf_X3_213 : zPut RX3 213 3 5 .boolean := zPut.of (f := 5) (ref := "QuietWatch") (T := TX3) (N := 11) (tys := tyX3) rfl (by decide) inG3 tyX3_ok nmX3 (zg 158 rfl rfl) rfl rfl rfl
set_option maxRecDepth 20000 in
theorem gf_X3_129 : zGet RX3 129 3 6 := zGet.of (ref := "QuietWatch") (T := TX3) (N := 11) rfl (by decide) inG3 (zg 159 rfl rfl) rfl
set_option maxRecDepth 20000 in
theorem pf_X3_129 : zPut RX3 129 3 6 .boolean := zPut.of (f := 6) (ref := "QuietWatch") (T := TX3) (N := 11) (tys := tyX3) rfl (by decide) inG3 tyX3_ok nmX3 (zg 159 rfl rfl) rfl rfl rfl
set_option maxRecDepth 20000 in
theorem gf_X3_207 : zGet RX3 207 3 7 := zGet.of (ref := "QuietWatch") (T := TX3) (N := 11) rfl (by decide) inG3 (zg 160 rfl rfl) rfl
set_option maxRecDepth 20000 in
theorem pf_X3_207 : zPut RX3 207 3 7 .int := zPut.of (f := 7) (ref := "QuietWatch") (T := TX3) (N := 11) (tys := tyX3) rfl (by decide) inG3 tyX3_ok nmX3 (zg 160 rfl rfl) rfl rfl rfl
set_option maxRecDepth 20000 in
theorem gf_X3_210 : zGet RX3 210 3 8 := zGet.of (ref := "QuietWatch") (T := TX3) (N := 11) rfl (by decide) inG3 (zg 161 rfl rfl) rfl
set_option maxRecDepth 20000 in
theorem pf_X3_210 : zPut RX3 210 3 8 .int := zPut.of (f := 8) (ref := "QuietWatch") (T := TX3) (N := 11) (tys := tyX3) rfl (by decide) inG3 tyX3_ok nmX3 (zg 161 rfl rfl) rfl rfl rfl
set_option maxRecDepth 20000 in
theorem gf_X3_226 : zGet RX3 226 3 9 := zGet.of (ref := "QuietWatch") (T := TX3) (N := 11) rfl (by decide) inG3 (zg 162 rfl rfl) rfl
set_option maxRecDepth 20000 in
theorem pf_X3_226 : zPut RX3 226 3 9 .int := zPut.of (f := 9) (ref := "QuietWatch") (T := TX3) (N := 11) (tys := tyX3) rfl (by decide) inG3 tyX3_ok nmX3 (zg 162 rfl rfl) rfl rfl rfl
set_option maxRecDepth 20000 in
theorem gf_X3_160 : zGet RX3 160 3 10 := zGet.of (ref := "QuietWatch") (T := TX3) (N := 11) rfl (by decide) inG3 (zg 163 rfl rfl) rfl
set_option maxRecDepth 20000 in
theorem pf_X3_160 : zPut RX3 160 3 10 .int := zPut.of (f := 10) (ref := "QuietWatch") (T := TX3) (N := 11) (tys := tyX3) rfl (by decide) inG3 tyX3_ok nmX3 (zg 163 rfl rfl) rfl rfl rfl
set_option maxRecDepth 20000 in
theorem cw_L_21 : zCV RL 21 RX3 yX3_start cX3_start 1 (some .boolean) 0 := zCV.of cd_X3_start (zg 187 rfl rfl) (zg 188 rfl rfl) (zg 189 rfl rfl) (zg 33 rfl rfl) (by decide +kernel)
set_option maxRecDepth 20000 in
theorem cw_L_26 : zCV RL 26 RX3 yX3_send cX3_send 5 (some .boolean) 2 := zCV.of cd_X3_send (zg 191 rfl rfl) (zg 192 rfl rfl) (zg 193 rfl rfl) (zg 33 rfl rfl) (by decide +kernel)
set_option maxRecDepth 20000 in
theorem cw_X3_54 : zCV RX3 54 RX3 yX3_workerAt cX3_workerAt 2 (some (.object "QuietWatch$Worker")) 1 := zCV.of cd_X3_workerAt (zg 195 rfl rfl) (zg 197 rfl rfl) (zg 0 rfl rfl) (zg 33 rfl rfl) (by decide +kernel)
set_option maxRecDepth 20000 in
theorem cw_X3_230 : zCV RX3 230 RX3 yX3_isProcess cX3_isProcess 2 (some .boolean) 1 := zCV.of cd_X3_isProcess (zg 199 rfl rfl) (zg 201 rfl rfl) (zg 1 rfl rfl) (zg 33 rfl rfl) (by decide +kernel)
set_option maxRecDepth 20000 in
theorem cw_X3_58 : zCV RX3 58 RX3 yX3_rowBetween cX3_rowBetween 3 (some (.object "QuietWatch$Row")) 2 := zCV.of cd_X3_rowBetween (zg 203 rfl rfl) (zg 205 rfl rfl) (zg 2 rfl rfl) (zg 33 rfl rfl) (by decide +kernel)
set_option maxRecDepth 20000 in
theorem cw_X3_62 : zCV RX3 62 RX2 yX2_isFree cX2_isFree 1 (some .boolean) 0 := zCV.of cd_X2_isFree (zg 207 rfl rfl) (zg 208 rfl rfl) (zg 209 rfl rfl) (zg 35 rfl rfl) (by decide +kernel)
set_option maxRecDepth 20000 in
theorem cw_X2_26 : zCV RX2 26 RX2 yX2_isBlocked cX2_isBlocked 1 (some .boolean) 0 := zCV.of cd_X2_isBlocked (zg 211 rfl rfl) (zg 212 rfl rfl) (zg 213 rfl rfl) (zg 35 rfl rfl) (by decide +kernel)
set_option maxRecDepth 20000 in
theorem cw_X3_74 : zCV RX3 74 RX0 yX0_append cX0_append 2 none 1 := zCV.of cd_X0_append (zg 215 rfl rfl) (zg 216 rfl rfl) (zg 217 rfl rfl) (zg 36 rfl rfl) (by decide +kernel)
set_option maxRecDepth 20000 in
theorem cw_X0_23 : zCV RX0 23 RX0 yX0_grow cX0_grow 3 none 0 := zCV.of cd_X0_grow (zg 219 rfl rfl) (zg 221 rfl rfl) (zg 3 rfl rfl) (zg 36 rfl rfl) (by decide +kernel)
set_option maxRecDepth 20000 in
theorem cw_X0_15 : zCV RX0 15 RX0 yX0_placeOf cX0_placeOf 3 (some .int) 1 := zCV.of cd_X0_placeOf (zg 223 rfl rfl) (zg 225 rfl rfl) (zg 4 rfl rfl) (zg 36 rfl rfl) (by decide +kernel)
set_option maxRecDepth 20000 in
theorem cw_X0_29 : zCS RX0 29 yX3_kindOf cX3_kindOf 1 (some .int) 1 := zCS.ofN (host := "QuietWatch") cd_X3_kindOf (zn 227 rfl rfl) (zg 228 rfl rfl) (zg 33 rfl rfl) (by decide +kernel)
set_option maxRecDepth 20000 in
theorem cw_X0_32 : zCS RX0 32 yX3_oneIf cX3_oneIf 1 (some .int) 1 := zCS.ofN (host := "QuietWatch") cd_X3_oneIf (zn 230 rfl rfl) (zg 231 rfl rfl) (zg 33 rfl rfl) (by decide +kernel)
set_option maxRecDepth 20000 in
theorem cw_L_31 : zCV RL 31 RX3 yX3_rest cX3_rest 3 (some .boolean) 1 := zCV.of cd_X3_rest (zg 233 rfl rfl) (zg 234 rfl rfl) (zg 235 rfl rfl) (zg 33 rfl rfl) (by decide +kernel)
set_option maxRecDepth 20000 in
theorem cw_X3_81 : zCV RX3 81 RX3 yX3_leaveTreeIfDone cX3_leaveTreeIfDone 3 none 2 := zCV.of cd_X3_leaveTreeIfDone (zg 237 rfl rfl) (zg 239 rfl rfl) (zg 5 rfl rfl) (zg 33 rfl rfl) (by decide +kernel)
set_option maxRecDepth 20000 in
theorem cw_X3_185 : zCV RX3 185 RX3 yX3_isInTree cX3_isInTree 3 (some .boolean) 2 := zCV.of cd_X3_isInTree (zg 241 rfl rfl) (zg 243 rfl rfl) (zg 6 rfl rfl) (zg 33 rfl rfl) (by decide +kernel)
set_option maxRecDepth 20000 in
theorem cw_X3_144 : zCV RX3 144 RX3 yX3_judgeEnd cX3_judgeEnd 1 none 0 := zCV.of cd_X3_judgeEnd (zg 245 rfl rfl) (zg 247 rfl rfl) (zg 7 rfl rfl) (zg 33 rfl rfl) (by decide +kernel)
set_option maxRecDepth 20000 in
theorem cw_X3_234 : zCV RX3 234 RX3 yX3_quiet cX3_quiet 2 (some .boolean) 0 := zCV.of cd_X3_quiet (zg 249 rfl rfl) (zg 250 rfl rfl) (zg 251 rfl rfl) (zg 33 rfl rfl) (by decide +kernel)
set_option maxRecDepth 20000 in
theorem cw_X3_204 : zCV RX3 204 RX3 yX3_worksUnderWay cX3_worksUnderWay 6 (some .int) 0 := zCV.of cd_X3_worksUnderWay (zg 253 rfl rfl) (zg 255 rfl rfl) (zg 8 rfl rfl) (zg 33 rfl rfl) (by decide +kernel)
set_option maxRecDepth 20000 in
theorem cw_X3_117 : zCV RX3 117 RX3 yX3_put cX3_put 5 none 3 := zCV.of cd_X3_put (zg 257 rfl rfl) (zg 259 rfl rfl) (zg 9 rfl rfl) (zg 33 rfl rfl) (by decide +kernel)
set_option maxRecDepth 20000 in
theorem cw_L_36 : zCV RL 36 RX3 yX3_ask cX3_ask 5 (some .int) 2 := zCV.of cd_X3_ask (zg 261 rfl rfl) (zg 262 rfl rfl) (zg 263 rfl rfl) (zg 33 rfl rfl) (by decide +kernel)
set_option maxRecDepth 20000 in
theorem cw_X3_85 : zCS RX3 85 yX3_allOf cX3_allOf 1 (some .int) 1 := zCS.of cd_X3_allOf (zg 265 rfl rfl) (zg 266 rfl rfl) (zg 33 rfl rfl) (by decide +kernel)
set_option maxRecDepth 20000 in
theorem cw_X3_89 : zCS RX3 89 yX3_bitOf cX3_bitOf 1 (some .int) 1 := zCS.of cd_X3_bitOf (zg 268 rfl rfl) (zg 269 rfl rfl) (zg 33 rfl rfl) (by decide +kernel)
set_option maxRecDepth 20000 in
theorem cw_X3_95 : zCV RX3 95 RX3 yX3_putToEach cX3_putToEach 6 none 3 := zCV.of cd_X3_putToEach (zg 271 rfl rfl) (zg 273 rfl rfl) (zg 10 rfl rfl) (zg 33 rfl rfl) (by decide +kernel)
set_option maxRecDepth 20000 in
theorem cw_X3_110 : zCS RX3 110 yX3_holds cX3_holds 2 (some .boolean) 2 := zCS.of cd_X3_holds (zg 275 rfl rfl) (zg 276 rfl rfl) (zg 33 rfl rfl) (by decide +kernel)
set_option maxRecDepth 20000 in
theorem cw_X3_99 : zCS RX3 99 yJ6_bitCount_0f7a4 cJ6_bitCount_0f7a4 1 (some .int) 1 := zCS.of cd_J6_bitCount_0f7a4 (zg 278 rfl rfl) (zg 279 rfl rfl) (zg 39 rfl rfl) (by decide +kernel)
set_option maxRecDepth 20000 in
theorem cw_L_41 : zCV RL 41 RX3 yX3_answer cX3_answer 5 (some .boolean) 2 := zCV.of cd_X3_answer (zg 284 rfl rfl) (zg 285 rfl rfl) (zg 286 rfl rfl) (zg 33 rfl rfl) (by decide +kernel)
set_option maxRecDepth 20000 in
theorem cw_X3_104 : zCV RX3 104 RX2 yX2_isBlocked cX2_isBlocked 1 (some .boolean) 0 := zCV.of cd_X2_isBlocked (zg 288 rfl rfl) (zg 212 rfl rfl) (zg 213 rfl rfl) (zg 35 rfl rfl) (by decide +kernel)
set_option maxRecDepth 20000 in
theorem cw_L_45 : zCV RL 45 RX3 yX3_probe cX3_probe 3 (some .int) 1 := zCV.of cd_X3_probe (zg 289 rfl rfl) (zg 290 rfl rfl) (zg 291 rfl rfl) (zg 33 rfl rfl) (by decide +kernel)
set_option maxRecDepth 20000 in
theorem cw_X3_123 : zCS RX3 123 yX3_probeOf cX3_probeOf 2 (some .int) 2 := zCS.of cd_X3_probeOf (zg 293 rfl rfl) (zg 294 rfl rfl) (zg 33 rfl rfl) (by decide +kernel)
set_option maxRecDepth 20000 in
theorem cw_L_50 : zCV RL 50 RX3 yX3_pass cX3_pass 3 (some .int) 1 := zCV.of cd_X3_pass (zg 296 rfl rfl) (zg 297 rfl rfl) (zg 298 rfl rfl) (zg 33 rfl rfl) (by decide +kernel)
set_option maxRecDepth 20000 in
theorem cw_X3_132 : zCV RX3 132 RX1 yX1_collect cX1_collect 2 none 1 := zCV.of cd_X1_collect (zg 300 rfl rfl) (zg 301 rfl rfl) (zg 302 rfl rfl) (zg 37 rfl rfl) (by decide +kernel)
set_option maxRecDepth 20000 in
theorem cw_X3_136 : zCV RX3 136 RX3 yX3_giveToken cX3_giveToken 3 none 2 := zCV.of cd_X3_giveToken (zg 304 rfl rfl) (zg 306 rfl rfl) (zg 11 rfl rfl) (zg 33 rfl rfl) (by decide +kernel)
set_option maxRecDepth 20000 in
theorem cw_X3_140 : zCV RX3 140 RX1 yX1_showsEndTo cX1_showsEndTo 2 (some .boolean) 1 := zCV.of cd_X1_showsEndTo (zg 308 rfl rfl) (zg 309 rfl rfl) (zg 310 rfl rfl) (zg 37 rfl rfl) (by decide +kernel)
set_option maxRecDepth 20000 in
theorem cw_X3_147 : zCV RX3 147 RX1 yX1_beginRound cX1_beginRound 1 none 0 := zCV.of cd_X1_beginRound (zg 312 rfl rfl) (zg 313 rfl rfl) (zg 314 rfl rfl) (zg 37 rfl rfl) (by decide +kernel)
set_option maxRecDepth 20000 in
theorem cw_L_54 : zCV RL 54 RX3 yX3_receive cX3_receive 6 (some .int) 2 := zCV.of cd_X3_receive (zg 316 rfl rfl) (zg 317 rfl rfl) (zg 318 rfl rfl) (zg 33 rfl rfl) (by decide +kernel)
set_option maxRecDepth 20000 in
theorem cw_X3_156 : zCV RX3 156 RX0 yX0_takeFirst cX0_takeFirst 2 (some .int) 0 := zCV.of cd_X0_takeFirst (zg 320 rfl rfl) (zg 321 rfl rfl) (zg 322 rfl rfl) (zg 36 rfl rfl) (by decide +kernel)
set_option maxRecDepth 20000 in
theorem cw_X3_163 : zCS RX3 163 yX3_kindOf cX3_kindOf 1 (some .int) 1 := zCS.of cd_X3_kindOf (zg 324 rfl rfl) (zg 228 rfl rfl) (zg 33 rfl rfl) (by decide +kernel)
set_option maxRecDepth 20000 in
theorem cw_X3_166 : zCV RX3 166 RX3 yX3_takeWork cX3_takeWork 4 none 3 := zCV.of cd_X3_takeWork (zg 325 rfl rfl) (zg 327 rfl rfl) (zg 12 rfl rfl) (zg 33 rfl rfl) (by decide +kernel)
set_option maxRecDepth 20000 in
theorem cw_X3_170 : zCV RX3 170 RX3 yX3_takeProbe cX3_takeProbe 6 none 4 := zCV.of cd_X3_takeProbe (zg 329 rfl rfl) (zg 331 rfl rfl) (zg 13 rfl rfl) (zg 33 rfl rfl) (by decide +kernel)
set_option maxRecDepth 20000 in
theorem cw_X3_198 : zCS RX3 198 yX3_beginnerOf cX3_beginnerOf 1 (some .int) 1 := zCS.of cd_X3_beginnerOf (zg 333 rfl rfl) (zg 334 rfl rfl) (zg 33 rfl rfl) (by decide +kernel)
set_option maxRecDepth 20000 in
theorem cw_X3_237 : zCV RX3 237 RX3 yX3_tellDead cX3_tellDead 3 none 2 := zCV.of cd_X3_tellDead (zg 336 rfl rfl) (zg 338 rfl rfl) (zg 14 rfl rfl) (zg 33 rfl rfl) (by decide +kernel)
set_option maxRecDepth 20000 in
theorem cw_X3_243 : zCV RX3 243 RX3 yX3_isInRing cX3_isInRing 5 (some .boolean) 1 := zCV.of cd_X3_isInRing (zg 340 rfl rfl) (zg 342 rfl rfl) (zg 15 rfl rfl) (zg 33 rfl rfl) (by decide +kernel)
set_option maxRecDepth 20000 in
theorem cw_X3_246 : zCV RX3 246 RX2 yX2_hangsOn cX2_hangsOn 1 (some .int) 0 := zCV.of cd_X2_hangsOn (zg 344 rfl rfl) (zg 345 rfl rfl) (zg 346 rfl rfl) (zg 35 rfl rfl) (by decide +kernel)
set_option maxRecDepth 20000 in
theorem cw_X3_201 : zCS RX3 201 yX3_numberOf cX3_numberOf 1 (some .int) 1 := zCS.of cd_X3_numberOf (zg 348 rfl rfl) (zg 349 rfl rfl) (zg 33 rfl rfl) (by decide +kernel)
set_option maxRecDepth 20000 in
theorem cw_X3_240 : zCV RX3 240 RX2 yX2_noteIfNewer cX2_noteIfNewer 3 (some .boolean) 2 := zCV.of cd_X2_noteIfNewer (zg 351 rfl rfl) (zg 352 rfl rfl) (zg 353 rfl rfl) (zg 35 rfl rfl) (by decide +kernel)
set_option maxRecDepth 20000 in
theorem cw_L_58 : zCV RL 58 RX3 yX3_run cX3_run 10 (some .int) 2 := zCV.of cd_X3_run (zg 355 rfl rfl) (zg 356 rfl rfl) (zg 357 rfl rfl) (zg 33 rfl rfl) (by decide +kernel)
set_option maxRecDepth 20000 in
theorem cw_X3_175 : zCV RX3 175 RX3 yX3_pass cX3_pass 3 (some .int) 1 := zCV.of cd_X3_pass (zg 360 rfl rfl) (zg 297 rfl rfl) (zg 298 rfl rfl) (zg 33 rfl rfl) (by decide +kernel)
set_option maxRecDepth 20000 in
theorem cw_X3_178 : zCV RX3 178 RX3 yX3_receive cX3_receive 6 (some .int) 2 := zCV.of cd_X3_receive (zg 361 rfl rfl) (zg 317 rfl rfl) (zg 318 rfl rfl) (zg 33 rfl rfl) (by decide +kernel)
set_option maxRecDepth 20000 in
theorem cw_L_62 : zCV RL 62 RX3 yX3_told cX3_told 4 (some .int) 2 := zCV.of cd_X3_told (zg 362 rfl rfl) (zg 363 rfl rfl) (zg 364 rfl rfl) (zg 33 rfl rfl) (by decide +kernel)
set_option maxRecDepth 20000 in
theorem cw_X3_181 : zCS RX3 181 yX3_oneIf cX3_oneIf 1 (some .int) 1 := zCS.of cd_X3_oneIf (zg 366 rfl rfl) (zg 231 rfl rfl) (zg 33 rfl rfl) (by decide +kernel)
set_option maxRecDepth 20000 in
theorem cw_L_66 : zCV RL 66 RX3 yX3_waits cX3_waits 4 (some .boolean) 2 := zCV.of cd_X3_waits (zg 367 rfl rfl) (zg 368 rfl rfl) (zg 369 rfl rfl) (zg 33 rfl rfl) (by decide +kernel)
set_option maxRecDepth 20000 in
theorem cw_L_70 : zCV RL 70 RX3 yX3_message cX3_message 7 (some .int) 4 := zCV.of cd_X3_message (zg 371 rfl rfl) (zg 372 rfl rfl) (zg 373 rfl rfl) (zg 33 rfl rfl) (by decide +kernel)
set_option maxRecDepth 20000 in
theorem cw_X3_195 : zCV RX3 195 RX0 yX0_at cX0_at 2 (some .int) 1 := zCV.of cd_X0_at (zg 375 rfl rfl) (zg 376 rfl rfl) (zg 377 rfl rfl) (zg 36 rfl rfl) (by decide +kernel)
set_option maxRecDepth 20000 in
theorem cw_L_75 : zCV RL 75 RX3 yX3_quiet cX3_quiet 2 (some .boolean) 0 := zCV.of cd_X3_quiet (zg 379 rfl rfl) (zg 250 rfl rfl) (zg 251 rfl rfl) (zg 33 rfl rfl) (by decide +kernel)
set_option maxRecDepth 20000 in
theorem cw_L_79 : zCV RL 79 RX3 yX3_wrong cX3_wrong 1 (some .int) 0 := zCV.of cd_X3_wrong (zg 380 rfl rfl) (zg 381 rfl rfl) (zg 382 rfl rfl) (zg 33 rfl rfl) (by decide +kernel)
set_option maxRecDepth 20000 in
theorem cw_L_84 : zCV RL 84 RX3 yX3_falsely cX3_falsely 1 (some .int) 0 := zCV.of cd_X3_falsely (zg 384 rfl rfl) (zg 385 rfl rfl) (zg 386 rfl rfl) (zg 33 rfl rfl) (by decide +kernel)
set_option maxRecDepth 20000 in
theorem cw_L_88 : zCV RL 88 RX3 yX3_count cX3_count 2 (some .int) 1 := zCV.of cd_X3_count (zg 388 rfl rfl) (zg 389 rfl rfl) (zg 390 rfl rfl) (zg 33 rfl rfl) (by decide +kernel)
set_option maxRecDepth 20000 in
theorem cw_X3_223 : zCV RX3 223 RX3 yX3_messagesUnderWay cX3_messagesUnderWay 6 (some .int) 0 := zCV.of cd_X3_messagesUnderWay (zg 392 rfl rfl) (zg 394 rfl rfl) (zg 16 rfl rfl) (zg 33 rfl rfl) (by decide +kernel)
set_option maxRecDepth 20000 in
theorem cw_L_9 : zCS RL 9 yL_cell cL_cell 2 (some .int) 2 := zCS.of cd_L_cell (zg 396 rfl rfl) (zg 397 rfl rfl) (zg 32 rfl rfl) (by decide +kernel)
set_option maxRecDepth 20000 in
theorem gf_X4_60 : zGet RX4 60 4 0 := zGet.of (ref := "QuietWatchModel") (T := TX4) (N := 27) rfl (by decide) inG4 (zg 406 rfl rfl) rfl
set_option maxRecDepth 20000 in
theorem gf_X4_79 : zGet RX4 79 4 1 := zGet.of (ref := "QuietWatchModel") (T := TX4) (N := 27) rfl (by decide) inG4 (zg 407 rfl rfl) rfl
set_option maxRecDepth 20000 in
theorem pf_X4_79 : zPut RX4 79 4 1 .boolean := zPut.of (f := 1) (ref := "QuietWatchModel") (T := TX4) (N := 27) (tys := tyX4) rfl (by decide) inG4 tyX4_ok nmX4 (zg 407 rfl rfl) rfl rfl rfl
set_option maxRecDepth 20000 in
theorem gf_X4_83 : zGet RX4 83 4 2 := zGet.of (ref := "QuietWatchModel") (T := TX4) (N := 27) rfl (by decide) inG4 (zg 408 rfl rfl) rfl
set_option maxRecDepth 20000 in
theorem pf_X4_83 : zPut RX4 83 4 2 .boolean := zPut.of (f := 2) (ref := "QuietWatchModel") (T := TX4) (N := 27) (tys := tyX4) rfl (by decide) inG4 tyX4_ok nmX4 (zg 408 rfl rfl) rfl rfl rfl
set_option maxRecDepth 20000 in
theorem gf_X4_117 : zGet RX4 117 4 3 := zGet.of (ref := "QuietWatchModel") (T := TX4) (N := 27) rfl (by decide) inG4 (zg 409 rfl rfl) rfl
set_option maxRecDepth 20000 in
theorem pf_X4_117 : zPut RX4 117 4 3 .boolean := zPut.of (f := 3) (ref := "QuietWatchModel") (T := TX4) (N := 27) (tys := tyX4) rfl (by decide) inG4 tyX4_ok nmX4 (zg 409 rfl rfl) rfl rfl rfl
set_option maxRecDepth 20000 in
theorem gf_X4_100 : zGet RX4 100 4 4 := zGet.of (ref := "QuietWatchModel") (T := TX4) (N := 27) rfl (by decide) inG4 (zg 410 rfl rfl) rfl
set_option maxRecDepth 20000 in
theorem pf_X4_100 : zPut RX4 100 4 4 .int := zPut.of (f := 4) (ref := "QuietWatchModel") (T := TX4) (N := 27) (tys := tyX4) rfl (by decide) inG4 tyX4_ok nmX4 (zg 410 rfl rfl) rfl rfl rfl
set_option maxRecDepth 20000 in
theorem gf_X4_138 : zGet RX4 138 4 5 := zGet.of (ref := "QuietWatchModel") (T := TX4) (N := 27) rfl (by decide) inG4 (zg 411 rfl rfl) rfl
set_option maxRecDepth 20000 in
theorem pf_X4_138 : zPut RX4 138 4 5 .int := zPut.of (f := 5) (ref := "QuietWatchModel") (T := TX4) (N := 27) (tys := tyX4) rfl (by decide) inG4 tyX4_ok nmX4 (zg 411 rfl rfl) rfl rfl rfl
set_option maxRecDepth 20000 in
theorem gf_X4_141 : zGet RX4 141 4 6 := zGet.of (ref := "QuietWatchModel") (T := TX4) (N := 27) rfl (by decide) inG4 (zg 412 rfl rfl) rfl
set_option maxRecDepth 20000 in
theorem pf_X4_141 : zPut RX4 141 4 6 .int := zPut.of (f := 6) (ref := "QuietWatchModel") (T := TX4) (N := 27) (tys := tyX4) rfl (by decide) inG4 tyX4_ok nmX4 (zg 412 rfl rfl) rfl rfl rfl
set_option maxRecDepth 20000 in
theorem gf_X4_132 : zGet RX4 132 4 7 := zGet.of (ref := "QuietWatchModel") (T := TX4) (N := 27) rfl (by decide) inG4 (zg 413 rfl rfl) rfl
set_option maxRecDepth 20000 in
theorem pf_X4_132 : zPut RX4 132 4 7 .int := zPut.of (f := 7) (ref := "QuietWatchModel") (T := TX4) (N := 27) (tys := tyX4) rfl (by decide) inG4 tyX4_ok nmX4 (zg 413 rfl rfl) rfl rfl rfl
set_option maxRecDepth 20000 in
theorem gf_X4_9 : zGet RX4 9 4 8 := zGet.of (ref := "QuietWatchModel") (T := TX4) (N := 27) rfl (by decide) inG4 (zg 414 rfl rfl) rfl
set_option maxRecDepth 20000 in
theorem gf_X4_13 : zGet RX4 13 4 9 := zGet.of (ref := "QuietWatchModel") (T := TX4) (N := 27) rfl (by decide) inG4 (zg 415 rfl rfl) rfl
set_option maxRecDepth 20000 in
theorem gf_X4_17 : zGet RX4 17 4 10 := zGet.of (ref := "QuietWatchModel") (T := TX4) (N := 27) rfl (by decide) inG4 (zg 416 rfl rfl) rfl
set_option maxRecDepth 20000 in
theorem gf_X4_20 : zGet RX4 20 4 11 := zGet.of (ref := "QuietWatchModel") (T := TX4) (N := 27) rfl (by decide) inG4 (zg 417 rfl rfl) rfl
set_option maxRecDepth 20000 in
theorem gf_X4_23 : zGet RX4 23 4 12 := zGet.of (ref := "QuietWatchModel") (T := TX4) (N := 27) rfl (by decide) inG4 (zg 418 rfl rfl) rfl
set_option maxRecDepth 20000 in
theorem gf_X4_26 : zGet RX4 26 4 13 := zGet.of (ref := "QuietWatchModel") (T := TX4) (N := 27) rfl (by decide) inG4 (zg 419 rfl rfl) rfl
set_option maxRecDepth 20000 in
theorem gf_X4_29 : zGet RX4 29 4 14 := zGet.of (ref := "QuietWatchModel") (T := TX4) (N := 27) rfl (by decide) inG4 (zg 420 rfl rfl) rfl
set_option maxRecDepth 20000 in
theorem gf_X4_32 : zGet RX4 32 4 15 := zGet.of (ref := "QuietWatchModel") (T := TX4) (N := 27) rfl (by decide) inG4 (zg 421 rfl rfl) rfl
set_option maxRecDepth 20000 in
theorem gf_X4_35 : zGet RX4 35 4 16 := zGet.of (ref := "QuietWatchModel") (T := TX4) (N := 27) rfl (by decide) inG4 (zg 422 rfl rfl) rfl
set_option maxRecDepth 20000 in
theorem gf_X4_38 : zGet RX4 38 4 17 := zGet.of (ref := "QuietWatchModel") (T := TX4) (N := 27) rfl (by decide) inG4 (zg 423 rfl rfl) rfl
set_option maxRecDepth 20000 in
theorem gf_X4_41 : zGet RX4 41 4 18 := zGet.of (ref := "QuietWatchModel") (T := TX4) (N := 27) rfl (by decide) inG4 (zg 424 rfl rfl) rfl
set_option maxRecDepth 20000 in
theorem gf_X4_126 : zGet RX4 126 4 19 := zGet.of (ref := "QuietWatchModel") (T := TX4) (N := 27) rfl (by decide) inG4 (zg 425 rfl rfl) rfl
set_option maxRecDepth 20000 in
theorem pf_X4_126 : zPut RX4 126 4 19 .int := zPut.of (f := 19) (ref := "QuietWatchModel") (T := TX4) (N := 27) (tys := tyX4) rfl (by decide) inG4 tyX4_ok nmX4 (zg 425 rfl rfl) rfl rfl rfl
set_option maxRecDepth 20000 in
theorem gf_X4_120 : zGet RX4 120 4 20 := zGet.of (ref := "QuietWatchModel") (T := TX4) (N := 27) rfl (by decide) inG4 (zg 426 rfl rfl) rfl
set_option maxRecDepth 20000 in
theorem pf_X4_120 : zPut RX4 120 4 20 .int := zPut.of (f := 20) (ref := "QuietWatchModel") (T := TX4) (N := 27) (tys := tyX4) rfl (by decide) inG4 tyX4_ok nmX4 (zg 426 rfl rfl) rfl rfl rfl
set_option maxRecDepth 20000 in
theorem gf_X4_123 : zGet RX4 123 4 21 := zGet.of (ref := "QuietWatchModel") (T := TX4) (N := 27) rfl (by decide) inG4 (zg 427 rfl rfl) rfl
set_option maxRecDepth 20000 in
theorem pf_X4_123 : zPut RX4 123 4 21 .boolean := zPut.of (f := 21) (ref := "QuietWatchModel") (T := TX4) (N := 27) (tys := tyX4) rfl (by decide) inG4 tyX4_ok nmX4 (zg 427 rfl rfl) rfl rfl rfl
set_option maxRecDepth 20000 in
theorem gf_X4_44 : zGet RX4 44 4 22 := zGet.of (ref := "QuietWatchModel") (T := TX4) (N := 27) rfl (by decide) inG4 (zg 428 rfl rfl) rfl
set_option maxRecDepth 20000 in
theorem gf_X4_48 : zGet RX4 48 4 23 := zGet.of (ref := "QuietWatchModel") (T := TX4) (N := 27) rfl (by decide) inG4 (zg 429 rfl rfl) rfl
set_option maxRecDepth 20000 in
theorem gf_X4_51 : zGet RX4 51 4 24 := zGet.of (ref := "QuietWatchModel") (T := TX4) (N := 27) rfl (by decide) inG4 (zg 430 rfl rfl) rfl
set_option maxRecDepth 20000 in
theorem gf_X4_54 : zGet RX4 54 4 25 := zGet.of (ref := "QuietWatchModel") (T := TX4) (N := 27) rfl (by decide) inG4 (zg 431 rfl rfl) rfl
set_option maxRecDepth 20000 in
theorem gf_X4_57 : zGet RX4 57 4 26 := zGet.of (ref := "QuietWatchModel") (T := TX4) (N := 27) rfl (by decide) inG4 (zg 432 rfl rfl) rfl
set_option maxRecDepth 20000 in
theorem cw_L_78 : zCV RL 78 RX4 yX4_quiet cX4_quiet 3 (some .boolean) 0 := zCV.of cd_X4_quiet (zg 489 rfl rfl) (zg 490 rfl rfl) (zg 491 rfl rfl) (zg 38 rfl rfl) (by decide +kernel)
set_option maxRecDepth 20000 in
theorem cw_X4_68 : zCS RX4 68 yX4_row cX4_row 2 (some .int) 2 := zCS.of cd_X4_row (zg 493 rfl rfl) (zg 494 rfl rfl) (zg 38 rfl rfl) (by decide +kernel)
set_option maxRecDepth 20000 in
theorem cw_X4_86 : zCV RX4 86 RX4 yX4_counted cX4_counted 5 (some .int) 2 := zCV.of cd_X4_counted (zg 496 rfl rfl) (zg 498 rfl rfl) (zg 17 rfl rfl) (zg 38 rfl rfl) (by decide +kernel)
set_option maxRecDepth 20000 in
theorem cw_L_25 : zCV RL 25 RX4 yX4_start cX4_start 1 (some .boolean) 0 := zCV.of cd_X4_start (zg 500 rfl rfl) (zg 501 rfl rfl) (zg 502 rfl rfl) (zg 38 rfl rfl) (by decide +kernel)
set_option maxRecDepth 20000 in
theorem cw_L_30 : zCV RL 30 RX4 yX4_send cX4_send 3 (some .boolean) 2 := zCV.of cd_X4_send (zg 504 rfl rfl) (zg 505 rfl rfl) (zg 506 rfl rfl) (zg 38 rfl rfl) (by decide +kernel)
set_option maxRecDepth 20000 in
theorem cw_X4_103 : zCV RX4 103 RX4 yX4_isRow cX4_isRow 3 (some .boolean) 2 := zCV.of cd_X4_isRow (zg 508 rfl rfl) (zg 510 rfl rfl) (zg 18 rfl rfl) (zg 38 rfl rfl) (by decide +kernel)
set_option maxRecDepth 20000 in
theorem cw_X4_64 : zCV RX4 64 RX4 yX4_isOne cX4_isOne 2 (some .boolean) 1 := zCV.of cd_X4_isOne (zg 512 rfl rfl) (zg 514 rfl rfl) (zg 19 rfl rfl) (zg 38 rfl rfl) (by decide +kernel)
set_option maxRecDepth 20000 in
theorem cw_X4_107 : zCV RX4 107 RX4 yX4_isFree cX4_isFree 2 (some .boolean) 1 := zCV.of cd_X4_isFree (zg 516 rfl rfl) (zg 518 rfl rfl) (zg 20 rfl rfl) (zg 38 rfl rfl) (by decide +kernel)
set_option maxRecDepth 20000 in
theorem cw_X4_76 : zCV RX4 76 RX4 yX4_isBlocked cX4_isBlocked 2 (some .boolean) 1 := zCV.of cd_X4_isBlocked (zg 520 rfl rfl) (zg 522 rfl rfl) (zg 21 rfl rfl) (zg 38 rfl rfl) (by decide +kernel)
set_option maxRecDepth 20000 in
theorem cw_X4_72 : zCV RX4 72 RX4 yX4_waitsFor cX4_waitsFor 4 (some .int) 1 := zCV.of cd_X4_waitsFor (zg 524 rfl rfl) (zg 526 rfl rfl) (zg 22 rfl rfl) (zg 38 rfl rfl) (by decide +kernel)
set_option maxRecDepth 20000 in
theorem cw_X4_92 : zCV RX4 92 RX4 yX4_sends cX4_sends 8 none 5 := zCV.of cd_X4_sends (zg 528 rfl rfl) (zg 530 rfl rfl) (zg 23 rfl rfl) (zg 38 rfl rfl) (by decide +kernel)
set_option maxRecDepth 20000 in
theorem cw_L_35 : zCV RL 35 RX4 yX4_rest cX4_rest 2 (some .boolean) 1 := zCV.of cd_X4_rest (zg 532 rfl rfl) (zg 533 rfl rfl) (zg 534 rfl rfl) (zg 38 rfl rfl) (by decide +kernel)
set_option maxRecDepth 20000 in
theorem cw_X4_110 : zCV RX4 110 RX4 yX4_settles cX4_settles 3 none 0 := zCV.of cd_X4_settles (zg 536 rfl rfl) (zg 538 rfl rfl) (zg 24 rfl rfl) (zg 38 rfl rfl) (by decide +kernel)
set_option maxRecDepth 20000 in
theorem cw_X4_89 : zCV RX4 89 RX4 yX4_isInTree cX4_isInTree 2 (some .boolean) 1 := zCV.of cd_X4_isInTree (zg 540 rfl rfl) (zg 542 rfl rfl) (zg 25 rfl rfl) (zg 38 rfl rfl) (by decide +kernel)
set_option maxRecDepth 20000 in
theorem cw_X4_96 : zCV RX4 96 RX4 yX4_quiet cX4_quiet 3 (some .boolean) 0 := zCV.of cd_X4_quiet (zg 544 rfl rfl) (zg 490 rfl rfl) (zg 491 rfl rfl) (zg 38 rfl rfl) (by decide +kernel)
set_option maxRecDepth 20000 in
theorem cw_L_40 : zCV RL 40 RX4 yX4_ask cX4_ask 5 (some .int) 2 := zCV.of cd_X4_ask (zg 545 rfl rfl) (zg 546 rfl rfl) (zg 547 rfl rfl) (zg 38 rfl rfl) (by decide +kernel)
set_option maxRecDepth 20000 in
theorem cw_L_44 : zCV RL 44 RX4 yX4_answer cX4_answer 3 (some .boolean) 2 := zCV.of cd_X4_answer (zg 549 rfl rfl) (zg 550 rfl rfl) (zg 551 rfl rfl) (zg 38 rfl rfl) (by decide +kernel)
set_option maxRecDepth 20000 in
theorem cw_L_49 : zCV RL 49 RX4 yX4_probe cX4_probe 2 (some .int) 1 := zCV.of cd_X4_probe (zg 553 rfl rfl) (zg 554 rfl rfl) (zg 555 rfl rfl) (zg 38 rfl rfl) (by decide +kernel)
set_option maxRecDepth 20000 in
theorem cw_X4_113 : zCV RX4 113 RX4 yX4_probes cX4_probes 5 none 3 := zCV.of cd_X4_probes (zg 557 rfl rfl) (zg 559 rfl rfl) (zg 26 rfl rfl) (zg 38 rfl rfl) (by decide +kernel)
set_option maxRecDepth 20000 in
theorem cw_L_53 : zCV RL 53 RX4 yX4_pass cX4_pass 2 (some .int) 1 := zCV.of cd_X4_pass (zg 561 rfl rfl) (zg 562 rfl rfl) (zg 563 rfl rfl) (zg 38 rfl rfl) (by decide +kernel)
set_option maxRecDepth 20000 in
theorem cw_L_57 : zCV RL 57 RX4 yX4_receive cX4_receive 9 (some .int) 2 := zCV.of cd_X4_receive (zg 565 rfl rfl) (zg 566 rfl rfl) (zg 567 rfl rfl) (zg 38 rfl rfl) (by decide +kernel)
set_option maxRecDepth 20000 in
theorem cw_X4_144 : zCV RX4 144 RX4 yX4_work cX4_work 3 none 2 := zCV.of cd_X4_work (zg 569 rfl rfl) (zg 571 rfl rfl) (zg 27 rfl rfl) (zg 38 rfl rfl) (by decide +kernel)
set_option maxRecDepth 20000 in
theorem cw_X4_148 : zCV RX4 148 RX4 yX4_probed cX4_probed 5 none 4 := zCV.of cd_X4_probed (zg 573 rfl rfl) (zg 575 rfl rfl) (zg 28 rfl rfl) (zg 38 rfl rfl) (by decide +kernel)
set_option maxRecDepth 20000 in
theorem cw_X4_135 : zCV RX4 135 RX4 yX4_isInRing cX4_isInRing 5 (some .boolean) 1 := zCV.of cd_X4_isInRing (zg 577 rfl rfl) (zg 579 rfl rfl) (zg 29 rfl rfl) (zg 38 rfl rfl) (by decide +kernel)
set_option maxRecDepth 20000 in
theorem cw_X4_129 : zCV RX4 129 RX4 yX4_hangs cX4_hangs 3 (some .boolean) 2 := zCV.of cd_X4_hangs (zg 581 rfl rfl) (zg 583 rfl rfl) (zg 30 rfl rfl) (zg 38 rfl rfl) (by decide +kernel)
set_option maxRecDepth 20000 in
theorem cw_L_61 : zCV RL 61 RX4 yX4_run cX4_run 10 (some .int) 2 := zCV.of cd_X4_run (zg 585 rfl rfl) (zg 586 rfl rfl) (zg 587 rfl rfl) (zg 38 rfl rfl) (by decide +kernel)
set_option maxRecDepth 20000 in
theorem cw_X4_153 : zCV RX4 153 RX4 yX4_pass cX4_pass 2 (some .int) 1 := zCV.of cd_X4_pass (zg 590 rfl rfl) (zg 562 rfl rfl) (zg 563 rfl rfl) (zg 38 rfl rfl) (by decide +kernel)
set_option maxRecDepth 20000 in
theorem cw_X4_156 : zCV RX4 156 RX4 yX4_receive cX4_receive 9 (some .int) 2 := zCV.of cd_X4_receive (zg 591 rfl rfl) (zg 566 rfl rfl) (zg 567 rfl rfl) (zg 38 rfl rfl) (by decide +kernel)
set_option maxRecDepth 20000 in
theorem cw_L_65 : zCV RL 65 RX4 yX4_told cX4_told 3 (some .int) 2 := zCV.of cd_X4_told (zg 592 rfl rfl) (zg 593 rfl rfl) (zg 594 rfl rfl) (zg 38 rfl rfl) (by decide +kernel)
set_option maxRecDepth 20000 in
theorem cw_X4_159 : zCS RX4 159 yX4_toInt cX4_toInt 1 (some .int) 1 := zCS.of cd_X4_toInt (zg 596 rfl rfl) (zg 597 rfl rfl) (zg 38 rfl rfl) (by decide +kernel)
set_option maxRecDepth 20000 in
theorem cw_X4_163 : zCV RX4 163 RX4 yX4_pendingAt cX4_pendingAt 4 (some .int) 1 := zCV.of cd_X4_pendingAt (zg 599 rfl rfl) (zg 601 rfl rfl) (zg 31 rfl rfl) (zg 38 rfl rfl) (by decide +kernel)
set_option maxRecDepth 20000 in
theorem cw_L_69 : zCV RL 69 RX4 yX4_waits cX4_waits 3 (some .boolean) 2 := zCV.of cd_X4_waits (zg 603 rfl rfl) (zg 604 rfl rfl) (zg 605 rfl rfl) (zg 38 rfl rfl) (by decide +kernel)
set_option maxRecDepth 20000 in
theorem cw_L_74 : zCV RL 74 RX4 yX4_message cX4_message 6 (some .int) 4 := zCV.of cd_X4_message (zg 607 rfl rfl) (zg 608 rfl rfl) (zg 609 rfl rfl) (zg 38 rfl rfl) (by decide +kernel)
set_option maxRecDepth 20000 in
theorem cw_L_83 : zCV RL 83 RX4 yX4_wrong cX4_wrong 1 (some .int) 0 := zCV.of cd_X4_wrong (zg 611 rfl rfl) (zg 612 rfl rfl) (zg 613 rfl rfl) (zg 38 rfl rfl) (by decide +kernel)
set_option maxRecDepth 20000 in
theorem cw_L_87 : zCV RL 87 RX4 yX4_falsely cX4_falsely 1 (some .int) 0 := zCV.of cd_X4_falsely (zg 615 rfl rfl) (zg 616 rfl rfl) (zg 617 rfl rfl) (zg 38 rfl rfl) (by decide +kernel)
set_option maxRecDepth 20000 in
theorem cw_L_91 : zCV RL 91 RX4 yX4_count cX4_count 4 (some .int) 1 := zCV.of cd_X4_count (zg 619 rfl rfl) (zg 620 rfl rfl) (zg 621 rfl rfl) (zg 38 rfl rfl) (by decide +kernel)
set_option maxRecDepth 20000 in
theorem ct_J6_265 : Cond.constant RJ6 265 (1431655765) ∈ zgw := (zg 281 rfl rfl)
set_option maxRecDepth 20000 in
theorem ct_J6_266 : Cond.constant RJ6 266 (858993459) ∈ zgw := (zg 282 rfl rfl)
set_option maxRecDepth 20000 in
theorem ct_J6_267 : Cond.constant RJ6 267 (252645135) ∈ zgw := (zg 283 rfl rfl)
set_option maxRecDepth 20000 in
theorem ct_X3_174 : Cond.constant RX3 174 (1103515245) ∈ zgw := (zg 359 rfl rfl)
set_option maxRecDepth 20000 in
theorem ct_X4_47 : Cond.constant RX4 47 (64000) ∈ zgw := (zg 405 rfl rfl)
set_option maxRecDepth 20000 in
theorem ct_X4_152 : Cond.constant RX4 152 (1103515245) ∈ zgw := (zg 589 rfl rfl)
