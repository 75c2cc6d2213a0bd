theorem w_28 : Cond.code yX11_init cX11_init 2 (none) ∈ xtb := in_xtb (i := 28) (by decide +kernel) rfl
theorem cb_X11_init : xCb yX11_init cX11_init 2 (none) 0 := ⟨w_1, w_28, by decide, by decide, by decide +kernel⟩
theorem w_26 : Cond.methodLink RL 9 yX11_init ∈ xtb := in_xtb (i := 26) (by decide +kernel) rfl
theorem w_24 : Cond.classLink RL 7 RX11 ∈ xtb := in_xtb (i := 24) (by decide +kernel) rfl
theorem w_27 : Cond.instanceMethod yX11_init ∈ xtb := in_xtb (i := 27) (by decide +kernel) rfl
theorem w_1113 : Cond.code yX12_init cX12_init 2 (none) ∈ xtb := in_xtb (i := 1113) (by decide +kernel) rfl
theorem cb_X12_init : xCb yX12_init cX12_init 2 (none) 0 := ⟨w_9, w_1113, by decide, by decide, by decide +kernel⟩
theorem w_1111 : Cond.methodLink RL 12 yX12_init ∈ xtb := in_xtb (i := 1111) (by decide +kernel) rfl
theorem w_1109 : Cond.classLink RL 10 RX12 ∈ xtb := in_xtb (i := 1109) (by decide +kernel) rfl
theorem w_1112 : Cond.instanceMethod yX12_init ∈ xtb := in_xtb (i := 1112) (by decide +kernel) rfl
theorem w_230 : Cond.code yX11_row cX11_row 4 (some .int) ∈ xtb := in_xtb (i := 230) (by decide +kernel) rfl
theorem cb_X11_row : xCb yX11_row cX11_row 4 (some .int) 2 := ⟨w_1, w_230, by decide, by decide, by decide +kernel⟩
theorem w_227 : Cond.methodLink RL 13 yX11_row ∈ xtb := in_xtb (i := 227) (by decide +kernel) rfl
theorem w_228 : Cond.instanceMethod yX11_row ∈ xtb := in_xtb (i := 228) (by decide +kernel) rfl
theorem w_229 : Cond.selects yX11_row.cls yX11_row yX11_row ∈ xtb := in_xtb (i := 229) (by decide +kernel) rfl
theorem w_1355 : Cond.code yX12_row cX12_row 4 (some .int) ∈ xtb := in_xtb (i := 1355) (by decide +kernel) rfl
theorem cb_X12_row : xCb yX12_row cX12_row 4 (some .int) 2 := ⟨w_9, w_1355, by decide, by decide, by decide +kernel⟩
theorem w_1352 : Cond.methodLink RL 17 yX12_row ∈ xtb := in_xtb (i := 1352) (by decide +kernel) rfl
theorem w_1353 : Cond.instanceMethod yX12_row ∈ xtb := in_xtb (i := 1353) (by decide +kernel) rfl
theorem w_1354 : Cond.selects yX12_row.cls yX12_row yX12_row ∈ xtb := in_xtb (i := 1354) (by decide +kernel) rfl
theorem w_246 : Cond.code yX11_lay cX11_lay 5 (some .int) ∈ xtb := in_xtb (i := 246) (by decide +kernel) rfl
theorem cb_X11_lay : xCb yX11_lay cX11_lay 5 (some .int) 3 := ⟨w_1, w_246, by decide, by decide, by decide +kernel⟩
theorem w_243 : Cond.methodLink RL 18 yX11_lay ∈ xtb := in_xtb (i := 243) (by decide +kernel) rfl
theorem w_244 : Cond.instanceMethod yX11_lay ∈ xtb := in_xtb (i := 244) (by decide +kernel) rfl
theorem w_245 : Cond.selects yX11_lay.cls yX11_lay yX11_lay ∈ xtb := in_xtb (i := 245) (by decide +kernel) rfl
theorem w_1366 : Cond.code yX12_lay cX12_lay 5 (some .int) ∈ xtb := in_xtb (i := 1366) (by decide +kernel) rfl
theorem cb_X12_lay : xCb yX12_lay cX12_lay 5 (some .int) 3 := ⟨w_9, w_1366, by decide, by decide, by decide +kernel⟩
theorem w_1363 : Cond.methodLink RL 22 yX12_lay ∈ xtb := in_xtb (i := 1363) (by decide +kernel) rfl
theorem w_1364 : Cond.instanceMethod yX12_lay ∈ xtb := in_xtb (i := 1364) (by decide +kernel) rfl
theorem w_1365 : Cond.selects yX12_lay.cls yX12_lay yX12_lay ∈ xtb := in_xtb (i := 1365) (by decide +kernel) rfl
theorem w_258 : Cond.code yX11_tear cX11_tear 3 (some .int) ∈ xtb := in_xtb (i := 258) (by decide +kernel) rfl
theorem cb_X11_tear : xCb yX11_tear cX11_tear 3 (some .int) 1 := ⟨w_1, w_258, by decide, by decide, by decide +kernel⟩
theorem w_255 : Cond.methodLink RL 23 yX11_tear ∈ xtb := in_xtb (i := 255) (by decide +kernel) rfl
theorem w_256 : Cond.instanceMethod yX11_tear ∈ xtb := in_xtb (i := 256) (by decide +kernel) rfl
theorem w_257 : Cond.selects yX11_tear.cls yX11_tear yX11_tear ∈ xtb := in_xtb (i := 257) (by decide +kernel) rfl
theorem w_1378 : Cond.code yX12_tear cX12_tear 2 (some .int) ∈ xtb := in_xtb (i := 1378) (by decide +kernel) rfl
theorem cb_X12_tear : xCb yX12_tear cX12_tear 2 (some .int) 1 := ⟨w_9, w_1378, by decide, by decide, by decide +kernel⟩
theorem w_1375 : Cond.methodLink RL 27 yX12_tear ∈ xtb := in_xtb (i := 1375) (by decide +kernel) rfl
theorem w_1376 : Cond.instanceMethod yX12_tear ∈ xtb := in_xtb (i := 1376) (by decide +kernel) rfl
theorem w_1377 : Cond.selects yX12_tear.cls yX12_tear yX12_tear ∈ xtb := in_xtb (i := 1377) (by decide +kernel) rfl
theorem w_262 : Cond.code yX11_copy cX11_copy 8 (some .int) ∈ xtb := in_xtb (i := 262) (by decide +kernel) rfl
theorem cb_X11_copy : xCb yX11_copy cX11_copy 8 (some .int) 5 := ⟨w_1, w_262, by decide, by decide, by decide +kernel⟩
theorem w_259 : Cond.methodLink RL 28 yX11_copy ∈ xtb := in_xtb (i := 259) (by decide +kernel) rfl
theorem w_260 : Cond.instanceMethod yX11_copy ∈ xtb := in_xtb (i := 260) (by decide +kernel) rfl
theorem w_261 : Cond.selects yX11_copy.cls yX11_copy yX11_copy ∈ xtb := in_xtb (i := 261) (by decide +kernel) rfl
theorem w_1382 : Cond.code yX12_copy cX12_copy 7 (some .int) ∈ xtb := in_xtb (i := 1382) (by decide +kernel) rfl
theorem cb_X12_copy : xCb yX12_copy cX12_copy 7 (some .int) 5 := ⟨w_9, w_1382, by decide, by decide, by decide +kernel⟩
theorem w_1379 : Cond.methodLink RL 32 yX12_copy ∈ xtb := in_xtb (i := 1379) (by decide +kernel) rfl
theorem w_1380 : Cond.instanceMethod yX12_copy ∈ xtb := in_xtb (i := 1380) (by decide +kernel) rfl
theorem w_1381 : Cond.selects yX12_copy.cls yX12_copy yX12_copy ∈ xtb := in_xtb (i := 1381) (by decide +kernel) rfl
theorem w_273 : Cond.code yX11_mean cX11_mean 3 (some .int) ∈ xtb := in_xtb (i := 273) (by decide +kernel) rfl
theorem cb_X11_mean : xCb yX11_mean cX11_mean 3 (some .int) 1 := ⟨w_1, w_273, by decide, by decide, by decide +kernel⟩
theorem w_270 : Cond.methodLink RL 33 yX11_mean ∈ xtb := in_xtb (i := 270) (by decide +kernel) rfl
theorem w_271 : Cond.instanceMethod yX11_mean ∈ xtb := in_xtb (i := 271) (by decide +kernel) rfl
theorem w_272 : Cond.selects yX11_mean.cls yX11_mean yX11_mean ∈ xtb := in_xtb (i := 272) (by decide +kernel) rfl
theorem w_1386 : Cond.code yX12_mean cX12_mean 5 (some .int) ∈ xtb := in_xtb (i := 1386) (by decide +kernel) rfl
theorem cb_X12_mean : xCb yX12_mean cX12_mean 5 (some .int) 1 := ⟨w_9, w_1386, by decide, by decide, by decide +kernel⟩
theorem w_1383 : Cond.methodLink RL 36 yX12_mean ∈ xtb := in_xtb (i := 1383) (by decide +kernel) rfl
theorem w_1384 : Cond.instanceMethod yX12_mean ∈ xtb := in_xtb (i := 1384) (by decide +kernel) rfl
theorem w_1385 : Cond.selects yX12_mean.cls yX12_mean yX12_mean ∈ xtb := in_xtb (i := 1385) (by decide +kernel) rfl
theorem w_281 : Cond.code yX11_text cX11_text 4 (some .int) ∈ xtb := in_xtb (i := 281) (by decide +kernel) rfl
theorem cb_X11_text : xCb yX11_text cX11_text 4 (some .int) 2 := ⟨w_1, w_281, by decide, by decide, by decide +kernel⟩
theorem w_278 : Cond.methodLink RL 37 yX11_text ∈ xtb := in_xtb (i := 278) (by decide +kernel) rfl
theorem w_279 : Cond.instanceMethod yX11_text ∈ xtb := in_xtb (i := 279) (by decide +kernel) rfl
theorem w_280 : Cond.selects yX11_text.cls yX11_text yX11_text ∈ xtb := in_xtb (i := 280) (by decide +kernel) rfl
theorem w_1390 : Cond.code yX12_text cX12_text 4 (some .int) ∈ xtb := in_xtb (i := 1390) (by decide +kernel) rfl
theorem cb_X12_text : xCb yX12_text cX12_text 4 (some .int) 2 := ⟨w_9, w_1390, by decide, by decide, by decide +kernel⟩
theorem w_1387 : Cond.methodLink RL 40 yX12_text ∈ xtb := in_xtb (i := 1387) (by decide +kernel) rfl
theorem w_1388 : Cond.instanceMethod yX12_text ∈ xtb := in_xtb (i := 1388) (by decide +kernel) rfl
theorem w_1389 : Cond.selects yX12_text.cls yX12_text yX12_text ∈ xtb := in_xtb (i := 1389) (by decide +kernel) rfl
theorem w_289 : Cond.code yX11_put cX11_put 6 (some .int) ∈ xtb := in_xtb (i := 289) (by decide +kernel) rfl
theorem cb_X11_put : xCb yX11_put cX11_put 6 (some .int) 3 := ⟨w_1, w_289, by decide, by decide, by decide +kernel⟩
theorem w_286 : Cond.methodLink RL 41 yX11_put ∈ xtb := in_xtb (i := 286) (by decide +kernel) rfl
theorem w_287 : Cond.instanceMethod yX11_put ∈ xtb := in_xtb (i := 287) (by decide +kernel) rfl
theorem w_288 : Cond.selects yX11_put.cls yX11_put yX11_put ∈ xtb := in_xtb (i := 288) (by decide +kernel) rfl
theorem w_1397 : Cond.code yX12_put cX12_put 5 (some .int) ∈ xtb := in_xtb (i := 1397) (by decide +kernel) rfl
theorem cb_X12_put : xCb yX12_put cX12_put 5 (some .int) 3 := ⟨w_9, w_1397, by decide, by decide, by decide +kernel⟩
theorem w_1394 : Cond.methodLink RL 44 yX12_put ∈ xtb := in_xtb (i := 1394) (by decide +kernel) rfl
theorem w_1395 : Cond.instanceMethod yX12_put ∈ xtb := in_xtb (i := 1395) (by decide +kernel) rfl
theorem w_1396 : Cond.selects yX12_put.cls yX12_put yX12_put ∈ xtb := in_xtb (i := 1396) (by decide +kernel) rfl
theorem w_293 : Cond.code yX11_later cX11_later 3 (some .int) ∈ xtb := in_xtb (i := 293) (by decide +kernel) rfl
theorem cb_X11_later : xCb yX11_later cX11_later 3 (some .int) 1 := ⟨w_1, w_293, by decide, by decide, by decide +kernel⟩
theorem w_290 : Cond.methodLink RL 45 yX11_later ∈ xtb := in_xtb (i := 290) (by decide +kernel) rfl
theorem w_291 : Cond.instanceMethod yX11_later ∈ xtb := in_xtb (i := 291) (by decide +kernel) rfl
theorem w_292 : Cond.selects yX11_later.cls yX11_later yX11_later ∈ xtb := in_xtb (i := 292) (by decide +kernel) rfl
theorem w_1401 : Cond.code yX12_later cX12_later 3 (some .int) ∈ xtb := in_xtb (i := 1401) (by decide +kernel) rfl
theorem cb_X12_later : xCb yX12_later cX12_later 3 (some .int) 1 := ⟨w_9, w_1401, by decide, by decide, by decide +kernel⟩
theorem w_1398 : Cond.methodLink RL 48 yX12_later ∈ xtb := in_xtb (i := 1398) (by decide +kernel) rfl
theorem w_1399 : Cond.instanceMethod yX12_later ∈ xtb := in_xtb (i := 1399) (by decide +kernel) rfl
theorem w_1400 : Cond.selects yX12_later.cls yX12_later yX12_later ∈ xtb := in_xtb (i := 1400) (by decide +kernel) rfl
theorem w_430 : Cond.code yX11_book cX11_book 5 (some .int) ∈ xtb := in_xtb (i := 430) (by decide +kernel) rfl
theorem cb_X11_book : xCb yX11_book cX11_book 5 (some .int) 3 := ⟨w_1, w_430, by decide, by decide, by decide +kernel⟩
theorem w_427 : Cond.methodLink RL 49 yX11_book ∈ xtb := in_xtb (i := 427) (by decide +kernel) rfl
theorem w_428 : Cond.instanceMethod yX11_book ∈ xtb := in_xtb (i := 428) (by decide +kernel) rfl
theorem w_429 : Cond.selects yX11_book.cls yX11_book yX11_book ∈ xtb := in_xtb (i := 429) (by decide +kernel) rfl
theorem w_1422 : Cond.code yX12_book cX12_book 4 (some .int) ∈ xtb := in_xtb (i := 1422) (by decide +kernel) rfl
theorem cb_X12_book : xCb yX12_book cX12_book 4 (some .int) 3 := ⟨w_9, w_1422, by decide, by decide, by decide +kernel⟩
theorem w_1419 : Cond.methodLink RL 53 yX12_book ∈ xtb := in_xtb (i := 1419) (by decide +kernel) rfl
theorem w_1420 : Cond.instanceMethod yX12_book ∈ xtb := in_xtb (i := 1420) (by decide +kernel) rfl
theorem w_1421 : Cond.selects yX12_book.cls yX12_book yX12_book ∈ xtb := in_xtb (i := 1421) (by decide +kernel) rfl
theorem w_494 : Cond.code yX11_told cX11_told 4 (some .int) ∈ xtb := in_xtb (i := 494) (by decide +kernel) rfl
theorem cb_X11_told : xCb yX11_told cX11_told 4 (some .int) 2 := ⟨w_1, w_494, by decide, by decide, by decide +kernel⟩
theorem w_491 : Cond.methodLink RL 54 yX11_told ∈ xtb := in_xtb (i := 491) (by decide +kernel) rfl
theorem w_492 : Cond.instanceMethod yX11_told ∈ xtb := in_xtb (i := 492) (by decide +kernel) rfl
theorem w_493 : Cond.selects yX11_told.cls yX11_told yX11_told ∈ xtb := in_xtb (i := 493) (by decide +kernel) rfl
theorem w_1433 : Cond.code yX12_told cX12_told 3 (some .int) ∈ xtb := in_xtb (i := 1433) (by decide +kernel) rfl
theorem cb_X12_told : xCb yX12_told cX12_told 3 (some .int) 2 := ⟨w_9, w_1433, by decide, by decide, by decide +kernel⟩
theorem w_1430 : Cond.methodLink RL 57 yX12_told ∈ xtb := in_xtb (i := 1430) (by decide +kernel) rfl
theorem w_1431 : Cond.instanceMethod yX12_told ∈ xtb := in_xtb (i := 1431) (by decide +kernel) rfl
theorem w_1432 : Cond.selects yX12_told.cls yX12_told yX12_told ∈ xtb := in_xtb (i := 1432) (by decide +kernel) rfl
theorem w_506 : Cond.code yX11_mark cX11_mark 4 (some .int) ∈ xtb := in_xtb (i := 506) (by decide +kernel) rfl
theorem cb_X11_mark : xCb yX11_mark cX11_mark 4 (some .int) 2 := ⟨w_1, w_506, by decide, by decide, by decide +kernel⟩
theorem w_503 : Cond.methodLink RL 58 yX11_mark ∈ xtb := in_xtb (i := 503) (by decide +kernel) rfl
theorem w_504 : Cond.instanceMethod yX11_mark ∈ xtb := in_xtb (i := 504) (by decide +kernel) rfl
theorem w_505 : Cond.selects yX11_mark.cls yX11_mark yX11_mark ∈ xtb := in_xtb (i := 505) (by decide +kernel) rfl
theorem w_1445 : Cond.code yX12_mark cX12_mark 3 (some .int) ∈ xtb := in_xtb (i := 1445) (by decide +kernel) rfl
theorem cb_X12_mark : xCb yX12_mark cX12_mark 3 (some .int) 2 := ⟨w_9, w_1445, by decide, by decide, by decide +kernel⟩
theorem w_1442 : Cond.methodLink RL 61 yX12_mark ∈ xtb := in_xtb (i := 1442) (by decide +kernel) rfl
theorem w_1443 : Cond.instanceMethod yX12_mark ∈ xtb := in_xtb (i := 1443) (by decide +kernel) rfl
theorem w_1444 : Cond.selects yX12_mark.cls yX12_mark yX12_mark ∈ xtb := in_xtb (i := 1444) (by decide +kernel) rfl
theorem w_514 : Cond.code yX11_has cX11_has 2 (some .int) ∈ xtb := in_xtb (i := 514) (by decide +kernel) rfl
theorem cb_X11_has : xCb yX11_has cX11_has 2 (some .int) 1 := ⟨w_1, w_514, by decide, by decide, by decide +kernel⟩
theorem w_511 : Cond.methodLink RL 62 yX11_has ∈ xtb := in_xtb (i := 511) (by decide +kernel) rfl
theorem w_512 : Cond.instanceMethod yX11_has ∈ xtb := in_xtb (i := 512) (by decide +kernel) rfl
theorem w_513 : Cond.selects yX11_has.cls yX11_has yX11_has ∈ xtb := in_xtb (i := 513) (by decide +kernel) rfl
theorem w_1453 : Cond.code yX12_has cX12_has 2 (some .int) ∈ xtb := in_xtb (i := 1453) (by decide +kernel) rfl
theorem cb_X12_has : xCb yX12_has cX12_has 2 (some .int) 1 := ⟨w_9, w_1453, by decide, by decide, by decide +kernel⟩
theorem w_1450 : Cond.methodLink RL 65 yX12_has ∈ xtb := in_xtb (i := 1450) (by decide +kernel) rfl
theorem w_1451 : Cond.instanceMethod yX12_has ∈ xtb := in_xtb (i := 1451) (by decide +kernel) rfl
theorem w_1452 : Cond.selects yX12_has.cls yX12_has yX12_has ∈ xtb := in_xtb (i := 1452) (by decide +kernel) rfl
theorem w_525 : Cond.code yX11_keep cX11_keep 3 (some .int) ∈ xtb := in_xtb (i := 525) (by decide +kernel) rfl
theorem cb_X11_keep : xCb yX11_keep cX11_keep 3 (some .int) 1 := ⟨w_1, w_525, by decide, by decide, by decide +kernel⟩
theorem w_522 : Cond.methodLink RL 66 yX11_keep ∈ xtb := in_xtb (i := 522) (by decide +kernel) rfl
theorem w_523 : Cond.instanceMethod yX11_keep ∈ xtb := in_xtb (i := 523) (by decide +kernel) rfl
theorem w_524 : Cond.selects yX11_keep.cls yX11_keep yX11_keep ∈ xtb := in_xtb (i := 524) (by decide +kernel) rfl
theorem w_1468 : Cond.code yX12_keep cX12_keep 2 (some .int) ∈ xtb := in_xtb (i := 1468) (by decide +kernel) rfl
theorem cb_X12_keep : xCb yX12_keep cX12_keep 2 (some .int) 1 := ⟨w_9, w_1468, by decide, by decide, by decide +kernel⟩
theorem w_1465 : Cond.methodLink RL 69 yX12_keep ∈ xtb := in_xtb (i := 1465) (by decide +kernel) rfl
theorem w_1466 : Cond.instanceMethod yX12_keep ∈ xtb := in_xtb (i := 1466) (by decide +kernel) rfl
theorem w_1467 : Cond.selects yX12_keep.cls yX12_keep yX12_keep ∈ xtb := in_xtb (i := 1467) (by decide +kernel) rfl
theorem w_549 : Cond.code yX11_back cX11_back 4 (some .int) ∈ xtb := in_xtb (i := 549) (by decide +kernel) rfl
theorem cb_X11_back : xCb yX11_back cX11_back 4 (some .int) 2 := ⟨w_1, w_549, by decide, by decide, by decide +kernel⟩
theorem w_546 : Cond.methodLink RL 70 yX11_back ∈ xtb := in_xtb (i := 546) (by decide +kernel) rfl
theorem w_547 : Cond.instanceMethod yX11_back ∈ xtb := in_xtb (i := 547) (by decide +kernel) rfl
theorem w_548 : Cond.selects yX11_back.cls yX11_back yX11_back ∈ xtb := in_xtb (i := 548) (by decide +kernel) rfl
theorem w_1488 : Cond.code yX12_back cX12_back 3 (some .int) ∈ xtb := in_xtb (i := 1488) (by decide +kernel) rfl
theorem cb_X12_back : xCb yX12_back cX12_back 3 (some .int) 2 := ⟨w_9, w_1488, by decide, by decide, by decide +kernel⟩
theorem w_1485 : Cond.methodLink RL 73 yX12_back ∈ xtb := in_xtb (i := 1485) (by decide +kernel) rfl
theorem w_1486 : Cond.instanceMethod yX12_back ∈ xtb := in_xtb (i := 1486) (by decide +kernel) rfl
theorem w_1487 : Cond.selects yX12_back.cls yX12_back yX12_back ∈ xtb := in_xtb (i := 1487) (by decide +kernel) rfl
theorem w_553 : Cond.code yX11_bind cX11_bind 4 (some .int) ∈ xtb := in_xtb (i := 553) (by decide +kernel) rfl
theorem cb_X11_bind : xCb yX11_bind cX11_bind 4 (some .int) 2 := ⟨w_1, w_553, by decide, by decide, by decide +kernel⟩
theorem w_550 : Cond.methodLink RL 74 yX11_bind ∈ xtb := in_xtb (i := 550) (by decide +kernel) rfl
theorem w_551 : Cond.instanceMethod yX11_bind ∈ xtb := in_xtb (i := 551) (by decide +kernel) rfl
theorem w_552 : Cond.selects yX11_bind.cls yX11_bind yX11_bind ∈ xtb := in_xtb (i := 552) (by decide +kernel) rfl
theorem w_1492 : Cond.code yX12_bind cX12_bind 3 (some .int) ∈ xtb := in_xtb (i := 1492) (by decide +kernel) rfl
theorem cb_X12_bind : xCb yX12_bind cX12_bind 3 (some .int) 2 := ⟨w_9, w_1492, by decide, by decide, by decide +kernel⟩
theorem w_1489 : Cond.methodLink RL 77 yX12_bind ∈ xtb := in_xtb (i := 1489) (by decide +kernel) rfl
theorem w_1490 : Cond.instanceMethod yX12_bind ∈ xtb := in_xtb (i := 1490) (by decide +kernel) rfl
theorem w_1491 : Cond.selects yX12_bind.cls yX12_bind yX12_bind ∈ xtb := in_xtb (i := 1491) (by decide +kernel) rfl
theorem w_557 : Cond.code yX11_lose cX11_lose 3 (some .int) ∈ xtb := in_xtb (i := 557) (by decide +kernel) rfl
theorem cb_X11_lose : xCb yX11_lose cX11_lose 3 (some .int) 1 := ⟨w_1, w_557, by decide, by decide, by decide +kernel⟩
theorem w_554 : Cond.methodLink RL 78 yX11_lose ∈ xtb := in_xtb (i := 554) (by decide +kernel) rfl
theorem w_555 : Cond.instanceMethod yX11_lose ∈ xtb := in_xtb (i := 555) (by decide +kernel) rfl
theorem w_556 : Cond.selects yX11_lose.cls yX11_lose yX11_lose ∈ xtb := in_xtb (i := 556) (by decide +kernel) rfl
theorem w_1496 : Cond.code yX12_lose cX12_lose 2 (some .int) ∈ xtb := in_xtb (i := 1496) (by decide +kernel) rfl
theorem cb_X12_lose : xCb yX12_lose cX12_lose 2 (some .int) 1 := ⟨w_9, w_1496, by decide, by decide, by decide +kernel⟩
theorem w_1493 : Cond.methodLink RL 81 yX12_lose ∈ xtb := in_xtb (i := 1493) (by decide +kernel) rfl
theorem w_1494 : Cond.instanceMethod yX12_lose ∈ xtb := in_xtb (i := 1494) (by decide +kernel) rfl
theorem w_1495 : Cond.selects yX12_lose.cls yX12_lose yX12_lose ∈ xtb := in_xtb (i := 1495) (by decide +kernel) rfl
theorem w_561 : Cond.code yX11_find cX11_find 4 (some .int) ∈ xtb := in_xtb (i := 561) (by decide +kernel) rfl
theorem cb_X11_find : xCb yX11_find cX11_find 4 (some .int) 1 := ⟨w_1, w_561, by decide, by decide, by decide +kernel⟩
theorem w_558 : Cond.methodLink RL 82 yX11_find ∈ xtb := in_xtb (i := 558) (by decide +kernel) rfl
theorem w_559 : Cond.instanceMethod yX11_find ∈ xtb := in_xtb (i := 559) (by decide +kernel) rfl
theorem w_560 : Cond.selects yX11_find.cls yX11_find yX11_find ∈ xtb := in_xtb (i := 560) (by decide +kernel) rfl
theorem w_1500 : Cond.code yX12_find cX12_find 2 (some .int) ∈ xtb := in_xtb (i := 1500) (by decide +kernel) rfl
theorem cb_X12_find : xCb yX12_find cX12_find 2 (some .int) 1 := ⟨w_9, w_1500, by decide, by decide, by decide +kernel⟩
theorem w_1497 : Cond.methodLink RL 85 yX12_find ∈ xtb := in_xtb (i := 1497) (by decide +kernel) rfl
theorem w_1498 : Cond.instanceMethod yX12_find ∈ xtb := in_xtb (i := 1498) (by decide +kernel) rfl
theorem w_1499 : Cond.selects yX12_find.cls yX12_find yX12_find ∈ xtb := in_xtb (i := 1499) (by decide +kernel) rfl
theorem w_565 : Cond.code yX11_fault cX11_fault 3 (some .int) ∈ xtb := in_xtb (i := 565) (by decide +kernel) rfl
theorem cb_X11_fault : xCb yX11_fault cX11_fault 3 (some .int) 1 := ⟨w_1, w_565, by decide, by decide, by decide +kernel⟩
theorem w_562 : Cond.methodLink RL 86 yX11_fault ∈ xtb := in_xtb (i := 562) (by decide +kernel) rfl
theorem w_563 : Cond.instanceMethod yX11_fault ∈ xtb := in_xtb (i := 563) (by decide +kernel) rfl
theorem w_564 : Cond.selects yX11_fault.cls yX11_fault yX11_fault ∈ xtb := in_xtb (i := 564) (by decide +kernel) rfl
theorem w_1504 : Cond.code yX12_fault cX12_fault 2 (some .int) ∈ xtb := in_xtb (i := 1504) (by decide +kernel) rfl
theorem cb_X12_fault : xCb yX12_fault cX12_fault 2 (some .int) 1 := ⟨w_9, w_1504, by decide, by decide, by decide +kernel⟩
theorem w_1501 : Cond.methodLink RL 89 yX12_fault ∈ xtb := in_xtb (i := 1501) (by decide +kernel) rfl
theorem w_1502 : Cond.instanceMethod yX12_fault ∈ xtb := in_xtb (i := 1502) (by decide +kernel) rfl
theorem w_1503 : Cond.selects yX12_fault.cls yX12_fault yX12_fault ∈ xtb := in_xtb (i := 1503) (by decide +kernel) rfl
theorem w_581 : Cond.code yX11_rule cX11_rule 5 (some .int) ∈ xtb := in_xtb (i := 581) (by decide +kernel) rfl
theorem cb_X11_rule : xCb yX11_rule cX11_rule 5 (some .int) 2 := ⟨w_1, w_581, by decide, by decide, by decide +kernel⟩
theorem w_578 : Cond.methodLink RL 90 yX11_rule ∈ xtb := in_xtb (i := 578) (by decide +kernel) rfl
theorem w_579 : Cond.instanceMethod yX11_rule ∈ xtb := in_xtb (i := 579) (by decide +kernel) rfl
theorem w_580 : Cond.selects yX11_rule.cls yX11_rule yX11_rule ∈ xtb := in_xtb (i := 580) (by decide +kernel) rfl
theorem w_1523 : Cond.code yX12_rule cX12_rule 4 (some .int) ∈ xtb := in_xtb (i := 1523) (by decide +kernel) rfl
theorem cb_X12_rule : xCb yX12_rule cX12_rule 4 (some .int) 2 := ⟨w_9, w_1523, by decide, by decide, by decide +kernel⟩
theorem w_1520 : Cond.methodLink RL 93 yX12_rule ∈ xtb := in_xtb (i := 1520) (by decide +kernel) rfl
theorem w_1521 : Cond.instanceMethod yX12_rule ∈ xtb := in_xtb (i := 1521) (by decide +kernel) rfl
theorem w_1522 : Cond.selects yX12_rule.cls yX12_rule yX12_rule ∈ xtb := in_xtb (i := 1522) (by decide +kernel) rfl
theorem w_606 : Cond.code yX11_force cX11_force 4 (some .int) ∈ xtb := in_xtb (i := 606) (by decide +kernel) rfl
theorem cb_X11_force : xCb yX11_force cX11_force 4 (some .int) 3 := ⟨w_1, w_606, by decide, by decide, by decide +kernel⟩
theorem w_603 : Cond.methodLink RL 94 yX11_force ∈ xtb := in_xtb (i := 603) (by decide +kernel) rfl
theorem w_604 : Cond.instanceMethod yX11_force ∈ xtb := in_xtb (i := 604) (by decide +kernel) rfl
theorem w_605 : Cond.selects yX11_force.cls yX11_force yX11_force ∈ xtb := in_xtb (i := 605) (by decide +kernel) rfl
theorem w_1530 : Cond.code yX12_force cX12_force 4 (some .int) ∈ xtb := in_xtb (i := 1530) (by decide +kernel) rfl
theorem cb_X12_force : xCb yX12_force cX12_force 4 (some .int) 3 := ⟨w_9, w_1530, by decide, by decide, by decide +kernel⟩
theorem w_1527 : Cond.methodLink RL 97 yX12_force ∈ xtb := in_xtb (i := 1527) (by decide +kernel) rfl
theorem w_1528 : Cond.instanceMethod yX12_force ∈ xtb := in_xtb (i := 1528) (by decide +kernel) rfl
theorem w_1529 : Cond.selects yX12_force.cls yX12_force yX12_force ∈ xtb := in_xtb (i := 1529) (by decide +kernel) rfl
theorem w_613 : Cond.code yX11_why cX11_why 4 (some .int) ∈ xtb := in_xtb (i := 613) (by decide +kernel) rfl
theorem cb_X11_why : xCb yX11_why cX11_why 4 (some .int) 3 := ⟨w_1, w_613, by decide, by decide, by decide +kernel⟩
theorem w_610 : Cond.methodLink RL 98 yX11_why ∈ xtb := in_xtb (i := 610) (by decide +kernel) rfl
theorem w_611 : Cond.instanceMethod yX11_why ∈ xtb := in_xtb (i := 611) (by decide +kernel) rfl
theorem w_612 : Cond.selects yX11_why.cls yX11_why yX11_why ∈ xtb := in_xtb (i := 612) (by decide +kernel) rfl
theorem w_1537 : Cond.code yX12_why cX12_why 4 (some .int) ∈ xtb := in_xtb (i := 1537) (by decide +kernel) rfl
theorem cb_X12_why : xCb yX12_why cX12_why 4 (some .int) 3 := ⟨w_9, w_1537, by decide, by decide, by decide +kernel⟩
theorem w_1534 : Cond.methodLink RL 101 yX12_why ∈ xtb := in_xtb (i := 1534) (by decide +kernel) rfl
theorem w_1535 : Cond.instanceMethod yX12_why ∈ xtb := in_xtb (i := 1535) (by decide +kernel) rfl
theorem w_1536 : Cond.selects yX12_why.cls yX12_why yX12_why ∈ xtb := in_xtb (i := 1536) (by decide +kernel) rfl
theorem w_617 : Cond.code yX11_quarrel cX11_quarrel 8 (some .int) ∈ xtb := in_xtb (i := 617) (by decide +kernel) rfl
theorem cb_X11_quarrel : xCb yX11_quarrel cX11_quarrel 8 (some .int) 3 := ⟨w_1, w_617, by decide, by decide, by decide +kernel⟩
theorem w_614 : Cond.methodLink RL 102 yX11_quarrel ∈ xtb := in_xtb (i := 614) (by decide +kernel) rfl
theorem w_615 : Cond.instanceMethod yX11_quarrel ∈ xtb := in_xtb (i := 615) (by decide +kernel) rfl
theorem w_616 : Cond.selects yX11_quarrel.cls yX11_quarrel yX11_quarrel ∈ xtb := in_xtb (i := 616) (by decide +kernel) rfl
theorem w_1541 : Cond.code yX12_quarrel cX12_quarrel 8 (some .int) ∈ xtb := in_xtb (i := 1541) (by decide +kernel) rfl
theorem cb_X12_quarrel : xCb yX12_quarrel cX12_quarrel 8 (some .int) 3 := ⟨w_9, w_1541, by decide, by decide, by decide +kernel⟩
theorem w_1538 : Cond.methodLink RL 105 yX12_quarrel ∈ xtb := in_xtb (i := 1538) (by decide +kernel) rfl
theorem w_1539 : Cond.instanceMethod yX12_quarrel ∈ xtb := in_xtb (i := 1539) (by decide +kernel) rfl
theorem w_1540 : Cond.selects yX12_quarrel.cls yX12_quarrel yX12_quarrel ∈ xtb := in_xtb (i := 1540) (by decide +kernel) rfl
theorem w_625 : Cond.code yX11_slip cX11_slip 9 (some .int) ∈ xtb := in_xtb (i := 625) (by decide +kernel) rfl
theorem cb_X11_slip : xCb yX11_slip cX11_slip 9 (some .int) 3 := ⟨w_1, w_625, by decide, by decide, by decide +kernel⟩
theorem w_622 : Cond.methodLink RL 106 yX11_slip ∈ xtb := in_xtb (i := 622) (by decide +kernel) rfl
theorem w_623 : Cond.instanceMethod yX11_slip ∈ xtb := in_xtb (i := 623) (by decide +kernel) rfl
theorem w_624 : Cond.selects yX11_slip.cls yX11_slip yX11_slip ∈ xtb := in_xtb (i := 624) (by decide +kernel) rfl
theorem w_1545 : Cond.code yX12_slip cX12_slip 6 (some .int) ∈ xtb := in_xtb (i := 1545) (by decide +kernel) rfl
theorem cb_X12_slip : xCb yX12_slip cX12_slip 6 (some .int) 3 := ⟨w_9, w_1545, by decide, by decide, by decide +kernel⟩
theorem w_1542 : Cond.methodLink RL 109 yX12_slip ∈ xtb := in_xtb (i := 1542) (by decide +kernel) rfl
theorem w_1543 : Cond.instanceMethod yX12_slip ∈ xtb := in_xtb (i := 1543) (by decide +kernel) rfl
theorem w_1544 : Cond.selects yX12_slip.cls yX12_slip yX12_slip ∈ xtb := in_xtb (i := 1544) (by decide +kernel) rfl
theorem w_675 : Cond.code yX11_slipTold cX11_slipTold 4 (some .int) ∈ xtb := in_xtb (i := 675) (by decide +kernel) rfl
theorem cb_X11_slipTold : xCb yX11_slipTold cX11_slipTold 4 (some .int) 2 := ⟨w_1, w_675, by decide, by decide, by decide +kernel⟩
theorem w_672 : Cond.methodLink RL 110 yX11_slipTold ∈ xtb := in_xtb (i := 672) (by decide +kernel) rfl
theorem w_673 : Cond.instanceMethod yX11_slipTold ∈ xtb := in_xtb (i := 673) (by decide +kernel) rfl
theorem w_674 : Cond.selects yX11_slipTold.cls yX11_slipTold yX11_slipTold ∈ xtb := in_xtb (i := 674) (by decide +kernel) rfl
theorem w_1557 : Cond.code yX12_slipTold cX12_slipTold 3 (some .int) ∈ xtb := in_xtb (i := 1557) (by decide +kernel) rfl
theorem cb_X12_slipTold : xCb yX12_slipTold cX12_slipTold 3 (some .int) 2 := ⟨w_9, w_1557, by decide, by decide, by decide +kernel⟩
theorem w_1554 : Cond.methodLink RL 113 yX12_slipTold ∈ xtb := in_xtb (i := 1554) (by decide +kernel) rfl
theorem w_1555 : Cond.instanceMethod yX12_slipTold ∈ xtb := in_xtb (i := 1555) (by decide +kernel) rfl
theorem w_1556 : Cond.selects yX12_slipTold.cls yX12_slipTold yX12_slipTold ∈ xtb := in_xtb (i := 1556) (by decide +kernel) rfl
theorem w_687 : Cond.code yX11_pace cX11_pace 4 (some .int) ∈ xtb := in_xtb (i := 687) (by decide +kernel) rfl
theorem cb_X11_pace : xCb yX11_pace cX11_pace 4 (some .int) 2 := ⟨w_1, w_687, by decide, by decide, by decide +kernel⟩
theorem w_684 : Cond.methodLink RL 114 yX11_pace ∈ xtb := in_xtb (i := 684) (by decide +kernel) rfl
theorem w_685 : Cond.instanceMethod yX11_pace ∈ xtb := in_xtb (i := 685) (by decide +kernel) rfl
theorem w_686 : Cond.selects yX11_pace.cls yX11_pace yX11_pace ∈ xtb := in_xtb (i := 686) (by decide +kernel) rfl
theorem w_1569 : Cond.code yX12_pace cX12_pace 4 (some .int) ∈ xtb := in_xtb (i := 1569) (by decide +kernel) rfl
theorem cb_X12_pace : xCb yX12_pace cX12_pace 4 (some .int) 2 := ⟨w_9, w_1569, by decide, by decide, by decide +kernel⟩
theorem w_1566 : Cond.methodLink RL 117 yX12_pace ∈ xtb := in_xtb (i := 1566) (by decide +kernel) rfl
theorem w_1567 : Cond.instanceMethod yX12_pace ∈ xtb := in_xtb (i := 1567) (by decide +kernel) rfl
theorem w_1568 : Cond.selects yX12_pace.cls yX12_pace yX12_pace ∈ xtb := in_xtb (i := 1568) (by decide +kernel) rfl
theorem w_694 : Cond.code yX11_free cX11_free 2 (some .int) ∈ xtb := in_xtb (i := 694) (by decide +kernel) rfl
theorem cb_X11_free : xCb yX11_free cX11_free 2 (some .int) 1 := ⟨w_1, w_694, by decide, by decide, by decide +kernel⟩
theorem w_691 : Cond.methodLink RL 118 yX11_free ∈ xtb := in_xtb (i := 691) (by decide +kernel) rfl
theorem w_692 : Cond.instanceMethod yX11_free ∈ xtb := in_xtb (i := 692) (by decide +kernel) rfl
theorem w_693 : Cond.selects yX11_free.cls yX11_free yX11_free ∈ xtb := in_xtb (i := 693) (by decide +kernel) rfl
theorem w_1576 : Cond.code yX12_free cX12_free 2 (some .int) ∈ xtb := in_xtb (i := 1576) (by decide +kernel) rfl
theorem cb_X12_free : xCb yX12_free cX12_free 2 (some .int) 1 := ⟨w_9, w_1576, by decide, by decide, by decide +kernel⟩
theorem w_1573 : Cond.methodLink RL 121 yX12_free ∈ xtb := in_xtb (i := 1573) (by decide +kernel) rfl
theorem w_1574 : Cond.instanceMethod yX12_free ∈ xtb := in_xtb (i := 1574) (by decide +kernel) rfl
theorem w_1575 : Cond.selects yX12_free.cls yX12_free yX12_free ∈ xtb := in_xtb (i := 1575) (by decide +kernel) rfl
theorem w_698 : Cond.code yX11_takes cX11_takes 4 (some .int) ∈ xtb := in_xtb (i := 698) (by decide +kernel) rfl
theorem cb_X11_takes : xCb yX11_takes cX11_takes 4 (some .int) 2 := ⟨w_1, w_698, by decide, by decide, by decide +kernel⟩
theorem w_695 : Cond.methodLink RL 122 yX11_takes ∈ xtb := in_xtb (i := 695) (by decide +kernel) rfl
theorem w_696 : Cond.instanceMethod yX11_takes ∈ xtb := in_xtb (i := 696) (by decide +kernel) rfl
theorem w_697 : Cond.selects yX11_takes.cls yX11_takes yX11_takes ∈ xtb := in_xtb (i := 697) (by decide +kernel) rfl
theorem w_1580 : Cond.code yX12_takes cX12_takes 3 (some .int) ∈ xtb := in_xtb (i := 1580) (by decide +kernel) rfl
theorem cb_X12_takes : xCb yX12_takes cX12_takes 3 (some .int) 2 := ⟨w_9, w_1580, by decide, by decide, by decide +kernel⟩
theorem w_1577 : Cond.methodLink RL 125 yX12_takes ∈ xtb := in_xtb (i := 1577) (by decide +kernel) rfl
theorem w_1578 : Cond.instanceMethod yX12_takes ∈ xtb := in_xtb (i := 1578) (by decide +kernel) rfl
theorem w_1579 : Cond.selects yX12_takes.cls yX12_takes yX12_takes ∈ xtb := in_xtb (i := 1579) (by decide +kernel) rfl
theorem w_709 : Cond.code yX11_send cX11_send 6 (some .int) ∈ xtb := in_xtb (i := 709) (by decide +kernel) rfl
theorem cb_X11_send : xCb yX11_send cX11_send 6 (some .int) 2 := ⟨w_1, w_709, by decide, by decide, by decide +kernel⟩
theorem w_706 : Cond.methodLink RL 126 yX11_send ∈ xtb := in_xtb (i := 706) (by decide +kernel) rfl
theorem w_707 : Cond.instanceMethod yX11_send ∈ xtb := in_xtb (i := 707) (by decide +kernel) rfl
theorem w_708 : Cond.selects yX11_send.cls yX11_send yX11_send ∈ xtb := in_xtb (i := 708) (by decide +kernel) rfl
theorem w_1588 : Cond.code yX12_send cX12_send 4 (some .int) ∈ xtb := in_xtb (i := 1588) (by decide +kernel) rfl
theorem cb_X12_send : xCb yX12_send cX12_send 4 (some .int) 2 := ⟨w_9, w_1588, by decide, by decide, by decide +kernel⟩
theorem w_1585 : Cond.methodLink RL 129 yX12_send ∈ xtb := in_xtb (i := 1585) (by decide +kernel) rfl
theorem w_1586 : Cond.instanceMethod yX12_send ∈ xtb := in_xtb (i := 1586) (by decide +kernel) rfl
theorem w_1587 : Cond.selects yX12_send.cls yX12_send yX12_send ∈ xtb := in_xtb (i := 1587) (by decide +kernel) rfl
theorem w_736 : Cond.code yX11_foretell cX11_foretell 3 (some .int) ∈ xtb := in_xtb (i := 736) (by decide +kernel) rfl
theorem cb_X11_foretell : xCb yX11_foretell cX11_foretell 3 (some .int) 1 := ⟨w_1, w_736, by decide, by decide, by decide +kernel⟩
theorem w_733 : Cond.methodLink RL 130 yX11_foretell ∈ xtb := in_xtb (i := 733) (by decide +kernel) rfl
theorem w_734 : Cond.instanceMethod yX11_foretell ∈ xtb := in_xtb (i := 734) (by decide +kernel) rfl
theorem w_735 : Cond.selects yX11_foretell.cls yX11_foretell yX11_foretell ∈ xtb := in_xtb (i := 735) (by decide +kernel) rfl
theorem w_1596 : Cond.code yX12_foretell cX12_foretell 5 (some .int) ∈ xtb := in_xtb (i := 1596) (by decide +kernel) rfl
theorem cb_X12_foretell : xCb yX12_foretell cX12_foretell 5 (some .int) 1 := ⟨w_9, w_1596, by decide, by decide, by decide +kernel⟩
theorem w_1593 : Cond.methodLink RL 133 yX12_foretell ∈ xtb := in_xtb (i := 1593) (by decide +kernel) rfl
theorem w_1594 : Cond.instanceMethod yX12_foretell ∈ xtb := in_xtb (i := 1594) (by decide +kernel) rfl
theorem w_1595 : Cond.selects yX12_foretell.cls yX12_foretell yX12_foretell ∈ xtb := in_xtb (i := 1595) (by decide +kernel) rfl
theorem w_766 : Cond.code yX11_round cX11_round 1 (some .int) ∈ xtb := in_xtb (i := 766) (by decide +kernel) rfl
theorem cb_X11_round : xCb yX11_round cX11_round 1 (some .int) 0 := ⟨w_1, w_766, by decide, by decide, by decide +kernel⟩
theorem w_763 : Cond.methodLink RL 134 yX11_round ∈ xtb := in_xtb (i := 763) (by decide +kernel) rfl
theorem w_764 : Cond.instanceMethod yX11_round ∈ xtb := in_xtb (i := 764) (by decide +kernel) rfl
theorem w_765 : Cond.selects yX11_round.cls yX11_round yX11_round ∈ xtb := in_xtb (i := 765) (by decide +kernel) rfl
theorem w_1604 : Cond.code yX12_round cX12_round 1 (some .int) ∈ xtb := in_xtb (i := 1604) (by decide +kernel) rfl
theorem cb_X12_round : xCb yX12_round cX12_round 1 (some .int) 0 := ⟨w_9, w_1604, by decide, by decide, by decide +kernel⟩
theorem w_1601 : Cond.methodLink RL 138 yX12_round ∈ xtb := in_xtb (i := 1601) (by decide +kernel) rfl
theorem w_1602 : Cond.instanceMethod yX12_round ∈ xtb := in_xtb (i := 1602) (by decide +kernel) rfl
theorem w_1603 : Cond.selects yX12_round.cls yX12_round yX12_round ∈ xtb := in_xtb (i := 1603) (by decide +kernel) rfl
theorem w_788 : Cond.code yX11_roundOf cX11_roundOf 3 (some .int) ∈ xtb := in_xtb (i := 788) (by decide +kernel) rfl
theorem cb_X11_roundOf : xCb yX11_roundOf cX11_roundOf 3 (some .int) 1 := ⟨w_1, w_788, by decide, by decide, by decide +kernel⟩
theorem w_785 : Cond.methodLink RL 139 yX11_roundOf ∈ xtb := in_xtb (i := 785) (by decide +kernel) rfl
theorem w_786 : Cond.instanceMethod yX11_roundOf ∈ xtb := in_xtb (i := 786) (by decide +kernel) rfl
theorem w_787 : Cond.selects yX11_roundOf.cls yX11_roundOf yX11_roundOf ∈ xtb := in_xtb (i := 787) (by decide +kernel) rfl
theorem w_1625 : Cond.code yX12_roundOf cX12_roundOf 3 (some .int) ∈ xtb := in_xtb (i := 1625) (by decide +kernel) rfl
theorem cb_X12_roundOf : xCb yX12_roundOf cX12_roundOf 3 (some .int) 1 := ⟨w_9, w_1625, by decide, by decide, by decide +kernel⟩
theorem w_1622 : Cond.methodLink RL 142 yX12_roundOf ∈ xtb := in_xtb (i := 1622) (by decide +kernel) rfl
theorem w_1623 : Cond.instanceMethod yX12_roundOf ∈ xtb := in_xtb (i := 1623) (by decide +kernel) rfl
theorem w_1624 : Cond.selects yX12_roundOf.cls yX12_roundOf yX12_roundOf ∈ xtb := in_xtb (i := 1624) (by decide +kernel) rfl
theorem w_792 : Cond.code yX11_judge cX11_judge 3 (some .int) ∈ xtb := in_xtb (i := 792) (by decide +kernel) rfl
theorem cb_X11_judge : xCb yX11_judge cX11_judge 3 (some .int) 1 := ⟨w_1, w_792, by decide, by decide, by decide +kernel⟩
theorem w_789 : Cond.methodLink RL 143 yX11_judge ∈ xtb := in_xtb (i := 789) (by decide +kernel) rfl
theorem w_790 : Cond.instanceMethod yX11_judge ∈ xtb := in_xtb (i := 790) (by decide +kernel) rfl
theorem w_791 : Cond.selects yX11_judge.cls yX11_judge yX11_judge ∈ xtb := in_xtb (i := 791) (by decide +kernel) rfl
theorem w_1629 : Cond.code yX12_judge cX12_judge 4 (some .int) ∈ xtb := in_xtb (i := 1629) (by decide +kernel) rfl
theorem cb_X12_judge : xCb yX12_judge cX12_judge 4 (some .int) 1 := ⟨w_9, w_1629, by decide, by decide, by decide +kernel⟩
theorem w_1626 : Cond.methodLink RL 146 yX12_judge ∈ xtb := in_xtb (i := 1626) (by decide +kernel) rfl
theorem w_1627 : Cond.instanceMethod yX12_judge ∈ xtb := in_xtb (i := 1627) (by decide +kernel) rfl
theorem w_1628 : Cond.selects yX12_judge.cls yX12_judge yX12_judge ∈ xtb := in_xtb (i := 1628) (by decide +kernel) rfl
theorem w_805 : Cond.code yX11_first cX11_first 9 (some .int) ∈ xtb := in_xtb (i := 805) (by decide +kernel) rfl
theorem cb_X11_first : xCb yX11_first cX11_first 9 (some .int) 1 := ⟨w_1, w_805, by decide, by decide, by decide +kernel⟩
theorem w_802 : Cond.methodLink RL 147 yX11_first ∈ xtb := in_xtb (i := 802) (by decide +kernel) rfl
theorem w_803 : Cond.instanceMethod yX11_first ∈ xtb := in_xtb (i := 803) (by decide +kernel) rfl
theorem w_804 : Cond.selects yX11_first.cls yX11_first yX11_first ∈ xtb := in_xtb (i := 804) (by decide +kernel) rfl
theorem w_1633 : Cond.code yX12_first cX12_first 7 (some .int) ∈ xtb := in_xtb (i := 1633) (by decide +kernel) rfl
theorem cb_X12_first : xCb yX12_first cX12_first 7 (some .int) 1 := ⟨w_9, w_1633, by decide, by decide, by decide +kernel⟩
theorem w_1630 : Cond.methodLink RL 150 yX12_first ∈ xtb := in_xtb (i := 1630) (by decide +kernel) rfl
theorem w_1631 : Cond.instanceMethod yX12_first ∈ xtb := in_xtb (i := 1631) (by decide +kernel) rfl
theorem w_1632 : Cond.selects yX12_first.cls yX12_first yX12_first ∈ xtb := in_xtb (i := 1632) (by decide +kernel) rfl
theorem w_814 : Cond.code yX11_beside cX11_beside 4 (some .int) ∈ xtb := in_xtb (i := 814) (by decide +kernel) rfl
theorem cb_X11_beside : xCb yX11_beside cX11_beside 4 (some .int) 1 := ⟨w_1, w_814, by decide, by decide, by decide +kernel⟩
theorem w_811 : Cond.methodLink RL 151 yX11_beside ∈ xtb := in_xtb (i := 811) (by decide +kernel) rfl
theorem w_812 : Cond.instanceMethod yX11_beside ∈ xtb := in_xtb (i := 812) (by decide +kernel) rfl
theorem w_813 : Cond.selects yX11_beside.cls yX11_beside yX11_beside ∈ xtb := in_xtb (i := 813) (by decide +kernel) rfl
theorem w_1637 : Cond.code yX12_beside cX12_beside 4 (some .int) ∈ xtb := in_xtb (i := 1637) (by decide +kernel) rfl
theorem cb_X12_beside : xCb yX12_beside cX12_beside 4 (some .int) 1 := ⟨w_9, w_1637, by decide, by decide, by decide +kernel⟩
theorem w_1634 : Cond.methodLink RL 154 yX12_beside ∈ xtb := in_xtb (i := 1634) (by decide +kernel) rfl
theorem w_1635 : Cond.instanceMethod yX12_beside ∈ xtb := in_xtb (i := 1635) (by decide +kernel) rfl
theorem w_1636 : Cond.selects yX12_beside.cls yX12_beside yX12_beside ∈ xtb := in_xtb (i := 1636) (by decide +kernel) rfl
theorem w_818 : Cond.code yX11_crowd cX11_crowd 5 (some .int) ∈ xtb := in_xtb (i := 818) (by decide +kernel) rfl
theorem cb_X11_crowd : xCb yX11_crowd cX11_crowd 5 (some .int) 1 := ⟨w_1, w_818, by decide, by decide, by decide +kernel⟩
theorem w_815 : Cond.methodLink RL 155 yX11_crowd ∈ xtb := in_xtb (i := 815) (by decide +kernel) rfl
theorem w_816 : Cond.instanceMethod yX11_crowd ∈ xtb := in_xtb (i := 816) (by decide +kernel) rfl
theorem w_817 : Cond.selects yX11_crowd.cls yX11_crowd yX11_crowd ∈ xtb := in_xtb (i := 817) (by decide +kernel) rfl
theorem w_1641 : Cond.code yX12_crowd cX12_crowd 4 (some .int) ∈ xtb := in_xtb (i := 1641) (by decide +kernel) rfl
theorem cb_X12_crowd : xCb yX12_crowd cX12_crowd 4 (some .int) 1 := ⟨w_9, w_1641, by decide, by decide, by decide +kernel⟩
theorem w_1638 : Cond.methodLink RL 158 yX12_crowd ∈ xtb := in_xtb (i := 1638) (by decide +kernel) rfl
theorem w_1639 : Cond.instanceMethod yX12_crowd ∈ xtb := in_xtb (i := 1639) (by decide +kernel) rfl
theorem w_1640 : Cond.selects yX12_crowd.cls yX12_crowd yX12_crowd ∈ xtb := in_xtb (i := 1640) (by decide +kernel) rfl
theorem w_828 : Cond.code yX11_line cX11_line 6 (some .int) ∈ xtb := in_xtb (i := 828) (by decide +kernel) rfl
theorem cb_X11_line : xCb yX11_line cX11_line 6 (some .int) 5 := ⟨w_1, w_828, by decide, by decide, by decide +kernel⟩
theorem w_825 : Cond.methodLink RL 159 yX11_line ∈ xtb := in_xtb (i := 825) (by decide +kernel) rfl
theorem w_826 : Cond.instanceMethod yX11_line ∈ xtb := in_xtb (i := 826) (by decide +kernel) rfl
theorem w_827 : Cond.selects yX11_line.cls yX11_line yX11_line ∈ xtb := in_xtb (i := 827) (by decide +kernel) rfl
theorem w_1648 : Cond.code yX12_line cX12_line 7 (some .int) ∈ xtb := in_xtb (i := 1648) (by decide +kernel) rfl
theorem cb_X12_line : xCb yX12_line cX12_line 7 (some .int) 5 := ⟨w_9, w_1648, by decide, by decide, by decide +kernel⟩
theorem w_1645 : Cond.methodLink RL 162 yX12_line ∈ xtb := in_xtb (i := 1645) (by decide +kernel) rfl
theorem w_1646 : Cond.instanceMethod yX12_line ∈ xtb := in_xtb (i := 1646) (by decide +kernel) rfl
theorem w_1647 : Cond.selects yX12_line.cls yX12_line yX12_line ∈ xtb := in_xtb (i := 1647) (by decide +kernel) rfl
theorem w_886 : Cond.code yX11_today cX11_today 4 (some .int) ∈ xtb := in_xtb (i := 886) (by decide +kernel) rfl
theorem cb_X11_today : xCb yX11_today cX11_today 4 (some .int) 3 := ⟨w_1, w_886, by decide, by decide, by decide +kernel⟩
theorem w_883 : Cond.methodLink RL 163 yX11_today ∈ xtb := in_xtb (i := 883) (by decide +kernel) rfl
theorem w_884 : Cond.instanceMethod yX11_today ∈ xtb := in_xtb (i := 884) (by decide +kernel) rfl
theorem w_885 : Cond.selects yX11_today.cls yX11_today yX11_today ∈ xtb := in_xtb (i := 885) (by decide +kernel) rfl
theorem w_1652 : Cond.code yX12_today cX12_today 6 (some .int) ∈ xtb := in_xtb (i := 1652) (by decide +kernel) rfl
theorem cb_X12_today : xCb yX12_today cX12_today 6 (some .int) 3 := ⟨w_9, w_1652, by decide, by decide, by decide +kernel⟩
theorem w_1649 : Cond.methodLink RL 166 yX12_today ∈ xtb := in_xtb (i := 1649) (by decide +kernel) rfl
theorem w_1650 : Cond.instanceMethod yX12_today ∈ xtb := in_xtb (i := 1650) (by decide +kernel) rfl
theorem w_1651 : Cond.selects yX12_today.cls yX12_today yX12_today ∈ xtb := in_xtb (i := 1651) (by decide +kernel) rfl
theorem w_912 : Cond.code yX11_turned cX11_turned 5 (some .int) ∈ xtb := in_xtb (i := 912) (by decide +kernel) rfl
theorem cb_X11_turned : xCb yX11_turned cX11_turned 5 (some .int) 4 := ⟨w_1, w_912, by decide, by decide, by decide +kernel⟩
theorem w_909 : Cond.methodLink RL 167 yX11_turned ∈ xtb := in_xtb (i := 909) (by decide +kernel) rfl
theorem w_910 : Cond.instanceMethod yX11_turned ∈ xtb := in_xtb (i := 910) (by decide +kernel) rfl
theorem w_911 : Cond.selects yX11_turned.cls yX11_turned yX11_turned ∈ xtb := in_xtb (i := 911) (by decide +kernel) rfl
theorem w_1664 : Cond.code yX12_turned cX12_turned 7 (some .int) ∈ xtb := in_xtb (i := 1664) (by decide +kernel) rfl
theorem cb_X12_turned : xCb yX12_turned cX12_turned 7 (some .int) 4 := ⟨w_9, w_1664, by decide, by decide, by decide +kernel⟩
theorem w_1661 : Cond.methodLink RL 171 yX12_turned ∈ xtb := in_xtb (i := 1661) (by decide +kernel) rfl
theorem w_1662 : Cond.instanceMethod yX12_turned ∈ xtb := in_xtb (i := 1662) (by decide +kernel) rfl
theorem w_1663 : Cond.selects yX12_turned.cls yX12_turned yX12_turned ∈ xtb := in_xtb (i := 1663) (by decide +kernel) rfl
theorem w_916 : Cond.code yX11_along cX11_along 6 (some .int) ∈ xtb := in_xtb (i := 916) (by decide +kernel) rfl
theorem cb_X11_along : xCb yX11_along cX11_along 6 (some .int) 1 := ⟨w_1, w_916, by decide, by decide, by decide +kernel⟩
theorem w_913 : Cond.methodLink RL 172 yX11_along ∈ xtb := in_xtb (i := 913) (by decide +kernel) rfl
theorem w_914 : Cond.instanceMethod yX11_along ∈ xtb := in_xtb (i := 914) (by decide +kernel) rfl
theorem w_915 : Cond.selects yX11_along.cls yX11_along yX11_along ∈ xtb := in_xtb (i := 915) (by decide +kernel) rfl
theorem w_1668 : Cond.code yX12_along cX12_along 6 (some .int) ∈ xtb := in_xtb (i := 1668) (by decide +kernel) rfl
theorem cb_X12_along : xCb yX12_along cX12_along 6 (some .int) 1 := ⟨w_9, w_1668, by decide, by decide, by decide +kernel⟩
theorem w_1665 : Cond.methodLink RL 175 yX12_along ∈ xtb := in_xtb (i := 1665) (by decide +kernel) rfl
theorem w_1666 : Cond.instanceMethod yX12_along ∈ xtb := in_xtb (i := 1666) (by decide +kernel) rfl
theorem w_1667 : Cond.selects yX12_along.cls yX12_along yX12_along ∈ xtb := in_xtb (i := 1667) (by decide +kernel) rfl
theorem w_920 : Cond.code yX11_likely cX11_likely 4 (some .int) ∈ xtb := in_xtb (i := 920) (by decide +kernel) rfl
theorem cb_X11_likely : xCb yX11_likely cX11_likely 4 (some .int) 2 := ⟨w_1, w_920, by decide, by decide, by decide +kernel⟩
theorem w_917 : Cond.methodLink RL 176 yX11_likely ∈ xtb := in_xtb (i := 917) (by decide +kernel) rfl
theorem w_918 : Cond.instanceMethod yX11_likely ∈ xtb := in_xtb (i := 918) (by decide +kernel) rfl
theorem w_919 : Cond.selects yX11_likely.cls yX11_likely yX11_likely ∈ xtb := in_xtb (i := 919) (by decide +kernel) rfl
theorem w_1672 : Cond.code yX12_likely cX12_likely 3 (some .int) ∈ xtb := in_xtb (i := 1672) (by decide +kernel) rfl
theorem cb_X12_likely : xCb yX12_likely cX12_likely 3 (some .int) 2 := ⟨w_9, w_1672, by decide, by decide, by decide +kernel⟩
theorem w_1669 : Cond.methodLink RL 179 yX12_likely ∈ xtb := in_xtb (i := 1669) (by decide +kernel) rfl
theorem w_1670 : Cond.instanceMethod yX12_likely ∈ xtb := in_xtb (i := 1670) (by decide +kernel) rfl
theorem w_1671 : Cond.selects yX12_likely.cls yX12_likely yX12_likely ∈ xtb := in_xtb (i := 1671) (by decide +kernel) rfl
theorem w_950 : Cond.code yX11_search cX11_search 8 (some .int) ∈ xtb := in_xtb (i := 950) (by decide +kernel) rfl
theorem cb_X11_search : xCb yX11_search cX11_search 8 (some .int) 3 := ⟨w_1, w_950, by decide, by decide, by decide +kernel⟩
theorem w_947 : Cond.methodLink RL 180 yX11_search ∈ xtb := in_xtb (i := 947) (by decide +kernel) rfl
theorem w_948 : Cond.instanceMethod yX11_search ∈ xtb := in_xtb (i := 948) (by decide +kernel) rfl
theorem w_949 : Cond.selects yX11_search.cls yX11_search yX11_search ∈ xtb := in_xtb (i := 949) (by decide +kernel) rfl
theorem w_1695 : Cond.code yX12_search cX12_search 13 (some .int) ∈ xtb := in_xtb (i := 1695) (by decide +kernel) rfl
theorem cb_X12_search : xCb yX12_search cX12_search 13 (some .int) 3 := ⟨w_9, w_1695, by decide, by decide, by decide +kernel⟩
theorem w_1692 : Cond.methodLink RL 183 yX12_search ∈ xtb := in_xtb (i := 1692) (by decide +kernel) rfl
theorem w_1693 : Cond.instanceMethod yX12_search ∈ xtb := in_xtb (i := 1693) (by decide +kernel) rfl
theorem w_1694 : Cond.selects yX12_search.cls yX12_search yX12_search ∈ xtb := in_xtb (i := 1694) (by decide +kernel) rfl
theorem w_963 : Cond.code yX11_wrong cX11_wrong 1 (some .int) ∈ xtb := in_xtb (i := 963) (by decide +kernel) rfl
theorem cb_X11_wrong : xCb yX11_wrong cX11_wrong 1 (some .int) 0 := ⟨w_1, w_963, by decide, by decide, by decide +kernel⟩
theorem w_960 : Cond.methodLink RL 184 yX11_wrong ∈ xtb := in_xtb (i := 960) (by decide +kernel) rfl
theorem w_961 : Cond.instanceMethod yX11_wrong ∈ xtb := in_xtb (i := 961) (by decide +kernel) rfl
theorem w_962 : Cond.selects yX11_wrong.cls yX11_wrong yX11_wrong ∈ xtb := in_xtb (i := 962) (by decide +kernel) rfl
theorem w_1699 : Cond.code yX12_wrong cX12_wrong 5 (some .int) ∈ xtb := in_xtb (i := 1699) (by decide +kernel) rfl
theorem cb_X12_wrong : xCb yX12_wrong cX12_wrong 5 (some .int) 0 := ⟨w_9, w_1699, by decide, by decide, by decide +kernel⟩
theorem w_1696 : Cond.methodLink RL 187 yX12_wrong ∈ xtb := in_xtb (i := 1696) (by decide +kernel) rfl
theorem w_1697 : Cond.instanceMethod yX12_wrong ∈ xtb := in_xtb (i := 1697) (by decide +kernel) rfl
theorem w_1698 : Cond.selects yX12_wrong.cls yX12_wrong yX12_wrong ∈ xtb := in_xtb (i := 1698) (by decide +kernel) rfl
theorem w_974 : Cond.code yX11_look cX11_look 8 (some .int) ∈ xtb := in_xtb (i := 974) (by decide +kernel) rfl
theorem cb_X11_look : xCb yX11_look cX11_look 8 (some .int) 3 := ⟨w_1, w_974, by decide, by decide, by decide +kernel⟩
theorem w_971 : Cond.methodLink RL 188 yX11_look ∈ xtb := in_xtb (i := 971) (by decide +kernel) rfl
theorem w_972 : Cond.instanceMethod yX11_look ∈ xtb := in_xtb (i := 972) (by decide +kernel) rfl
theorem w_973 : Cond.selects yX11_look.cls yX11_look yX11_look ∈ xtb := in_xtb (i := 973) (by decide +kernel) rfl
theorem w_1703 : Cond.code yX12_look cX12_look 5 (some .int) ∈ xtb := in_xtb (i := 1703) (by decide +kernel) rfl
theorem cb_X12_look : xCb yX12_look cX12_look 5 (some .int) 3 := ⟨w_9, w_1703, by decide, by decide, by decide +kernel⟩
theorem w_1700 : Cond.methodLink RL 191 yX12_look ∈ xtb := in_xtb (i := 1700) (by decide +kernel) rfl
theorem w_1701 : Cond.instanceMethod yX12_look ∈ xtb := in_xtb (i := 1701) (by decide +kernel) rfl
theorem w_1702 : Cond.selects yX12_look.cls yX12_look yX12_look ∈ xtb := in_xtb (i := 1702) (by decide +kernel) rfl
theorem w_978 : Cond.code yX11_move cX11_move 7 (some .int) ∈ xtb := in_xtb (i := 978) (by decide +kernel) rfl
theorem cb_X11_move : xCb yX11_move cX11_move 7 (some .int) 3 := ⟨w_1, w_978, by decide, by decide, by decide +kernel⟩
theorem w_975 : Cond.methodLink RL 192 yX11_move ∈ xtb := in_xtb (i := 975) (by decide +kernel) rfl
theorem w_976 : Cond.instanceMethod yX11_move ∈ xtb := in_xtb (i := 976) (by decide +kernel) rfl
theorem w_977 : Cond.selects yX11_move.cls yX11_move yX11_move ∈ xtb := in_xtb (i := 977) (by decide +kernel) rfl
theorem w_1711 : Cond.code yX12_move cX12_move 9 (some .int) ∈ xtb := in_xtb (i := 1711) (by decide +kernel) rfl
theorem cb_X12_move : xCb yX12_move cX12_move 9 (some .int) 3 := ⟨w_9, w_1711, by decide, by decide, by decide +kernel⟩
theorem w_1708 : Cond.methodLink RL 195 yX12_move ∈ xtb := in_xtb (i := 1708) (by decide +kernel) rfl
theorem w_1709 : Cond.instanceMethod yX12_move ∈ xtb := in_xtb (i := 1709) (by decide +kernel) rfl
theorem w_1710 : Cond.selects yX12_move.cls yX12_move yX12_move ∈ xtb := in_xtb (i := 1710) (by decide +kernel) rfl
theorem w_995 : Cond.code yX11_moved cX11_moved 2 (some .int) ∈ xtb := in_xtb (i := 995) (by decide +kernel) rfl
theorem cb_X11_moved : xCb yX11_moved cX11_moved 2 (some .int) 1 := ⟨w_1, w_995, by decide, by decide, by decide +kernel⟩
theorem w_992 : Cond.methodLink RL 196 yX11_moved ∈ xtb := in_xtb (i := 992) (by decide +kernel) rfl
theorem w_993 : Cond.instanceMethod yX11_moved ∈ xtb := in_xtb (i := 993) (by decide +kernel) rfl
theorem w_994 : Cond.selects yX11_moved.cls yX11_moved yX11_moved ∈ xtb := in_xtb (i := 994) (by decide +kernel) rfl
theorem w_1728 : Cond.code yX12_moved cX12_moved 2 (some .int) ∈ xtb := in_xtb (i := 1728) (by decide +kernel) rfl
theorem cb_X12_moved : xCb yX12_moved cX12_moved 2 (some .int) 1 := ⟨w_9, w_1728, by decide, by decide, by decide +kernel⟩
theorem w_1725 : Cond.methodLink RL 199 yX12_moved ∈ xtb := in_xtb (i := 1725) (by decide +kernel) rfl
theorem w_1726 : Cond.instanceMethod yX12_moved ∈ xtb := in_xtb (i := 1726) (by decide +kernel) rfl
theorem w_1727 : Cond.selects yX12_moved.cls yX12_moved yX12_moved ∈ xtb := in_xtb (i := 1727) (by decide +kernel) rfl
theorem w_999 : Cond.code yX11_eye cX11_eye 3 (some .int) ∈ xtb := in_xtb (i := 999) (by decide +kernel) rfl
theorem cb_X11_eye : xCb yX11_eye cX11_eye 3 (some .int) 2 := ⟨w_1, w_999, by decide, by decide, by decide +kernel⟩
theorem w_996 : Cond.methodLink RL 200 yX11_eye ∈ xtb := in_xtb (i := 996) (by decide +kernel) rfl
theorem w_997 : Cond.instanceMethod yX11_eye ∈ xtb := in_xtb (i := 997) (by decide +kernel) rfl
theorem w_998 : Cond.selects yX11_eye.cls yX11_eye yX11_eye ∈ xtb := in_xtb (i := 998) (by decide +kernel) rfl
theorem w_1732 : Cond.code yX12_eye cX12_eye 3 (some .int) ∈ xtb := in_xtb (i := 1732) (by decide +kernel) rfl
theorem cb_X12_eye : xCb yX12_eye cX12_eye 3 (some .int) 2 := ⟨w_9, w_1732, by decide, by decide, by decide +kernel⟩
theorem w_1729 : Cond.methodLink RL 203 yX12_eye ∈ xtb := in_xtb (i := 1729) (by decide +kernel) rfl
theorem w_1730 : Cond.instanceMethod yX12_eye ∈ xtb := in_xtb (i := 1730) (by decide +kernel) rfl
theorem w_1731 : Cond.selects yX12_eye.cls yX12_eye yX12_eye ∈ xtb := in_xtb (i := 1731) (by decide +kernel) rfl
theorem w_1020 : Cond.code yX11_eyes cX11_eyes 2 (some .int) ∈ xtb := in_xtb (i := 1020) (by decide +kernel) rfl
theorem cb_X11_eyes : xCb yX11_eyes cX11_eyes 2 (some .int) 1 := ⟨w_1, w_1020, by decide, by decide, by decide +kernel⟩
theorem w_1017 : Cond.methodLink RL 204 yX11_eyes ∈ xtb := in_xtb (i := 1017) (by decide +kernel) rfl
theorem w_1018 : Cond.instanceMethod yX11_eyes ∈ xtb := in_xtb (i := 1018) (by decide +kernel) rfl
theorem w_1019 : Cond.selects yX11_eyes.cls yX11_eyes yX11_eyes ∈ xtb := in_xtb (i := 1019) (by decide +kernel) rfl
theorem w_1739 : Cond.code yX12_eyes cX12_eyes 2 (some .int) ∈ xtb := in_xtb (i := 1739) (by decide +kernel) rfl
theorem cb_X12_eyes : xCb yX12_eyes cX12_eyes 2 (some .int) 1 := ⟨w_9, w_1739, by decide, by decide, by decide +kernel⟩
theorem w_1736 : Cond.methodLink RL 207 yX12_eyes ∈ xtb := in_xtb (i := 1736) (by decide +kernel) rfl
theorem w_1737 : Cond.instanceMethod yX12_eyes ∈ xtb := in_xtb (i := 1737) (by decide +kernel) rfl
theorem w_1738 : Cond.selects yX12_eyes.cls yX12_eyes yX12_eyes ∈ xtb := in_xtb (i := 1738) (by decide +kernel) rfl
theorem w_1024 : Cond.code yX11_gone cX11_gone 5 (some .int) ∈ xtb := in_xtb (i := 1024) (by decide +kernel) rfl
theorem cb_X11_gone : xCb yX11_gone cX11_gone 5 (some .int) 1 := ⟨w_1, w_1024, by decide, by decide, by decide +kernel⟩
theorem w_1021 : Cond.methodLink RL 208 yX11_gone ∈ xtb := in_xtb (i := 1021) (by decide +kernel) rfl
theorem w_1022 : Cond.instanceMethod yX11_gone ∈ xtb := in_xtb (i := 1022) (by decide +kernel) rfl
theorem w_1023 : Cond.selects yX11_gone.cls yX11_gone yX11_gone ∈ xtb := in_xtb (i := 1023) (by decide +kernel) rfl
theorem w_1743 : Cond.code yX12_gone cX12_gone 2 (some .int) ∈ xtb := in_xtb (i := 1743) (by decide +kernel) rfl
theorem cb_X12_gone : xCb yX12_gone cX12_gone 2 (some .int) 1 := ⟨w_9, w_1743, by decide, by decide, by decide +kernel⟩
theorem w_1740 : Cond.methodLink RL 211 yX12_gone ∈ xtb := in_xtb (i := 1740) (by decide +kernel) rfl
theorem w_1741 : Cond.instanceMethod yX12_gone ∈ xtb := in_xtb (i := 1741) (by decide +kernel) rfl
theorem w_1742 : Cond.selects yX12_gone.cls yX12_gone yX12_gone ∈ xtb := in_xtb (i := 1742) (by decide +kernel) rfl
theorem w_1040 : Cond.code yX11_hands cX11_hands 5 (some .int) ∈ xtb := in_xtb (i := 1040) (by decide +kernel) rfl
theorem cb_X11_hands : xCb yX11_hands cX11_hands 5 (some .int) 1 := ⟨w_1, w_1040, by decide, by decide, by decide +kernel⟩
theorem w_1037 : Cond.methodLink RL 212 yX11_hands ∈ xtb := in_xtb (i := 1037) (by decide +kernel) rfl
theorem w_1038 : Cond.instanceMethod yX11_hands ∈ xtb := in_xtb (i := 1038) (by decide +kernel) rfl
theorem w_1039 : Cond.selects yX11_hands.cls yX11_hands yX11_hands ∈ xtb := in_xtb (i := 1039) (by decide +kernel) rfl
theorem w_1751 : Cond.code yX12_hands cX12_hands 5 (some .int) ∈ xtb := in_xtb (i := 1751) (by decide +kernel) rfl
theorem cb_X12_hands : xCb yX12_hands cX12_hands 5 (some .int) 1 := ⟨w_9, w_1751, by decide, by decide, by decide +kernel⟩
theorem w_1748 : Cond.methodLink RL 215 yX12_hands ∈ xtb := in_xtb (i := 1748) (by decide +kernel) rfl
theorem w_1749 : Cond.instanceMethod yX12_hands ∈ xtb := in_xtb (i := 1749) (by decide +kernel) rfl
theorem w_1750 : Cond.selects yX12_hands.cls yX12_hands yX12_hands ∈ xtb := in_xtb (i := 1750) (by decide +kernel) rfl
theorem w_1052 : Cond.code yX11_asked cX11_asked 1 (some .int) ∈ xtb := in_xtb (i := 1052) (by decide +kernel) rfl
theorem cb_X11_asked : xCb yX11_asked cX11_asked 1 (some .int) 0 := ⟨w_1, w_1052, by decide, by decide, by decide +kernel⟩
theorem w_1049 : Cond.methodLink RL 216 yX11_asked ∈ xtb := in_xtb (i := 1049) (by decide +kernel) rfl
theorem w_1050 : Cond.instanceMethod yX11_asked ∈ xtb := in_xtb (i := 1050) (by decide +kernel) rfl
theorem w_1051 : Cond.selects yX11_asked.cls yX11_asked yX11_asked ∈ xtb := in_xtb (i := 1051) (by decide +kernel) rfl
theorem w_1343 : Cond.code yX12_asked cX12_asked 1 (some .int) ∈ xtb := in_xtb (i := 1343) (by decide +kernel) rfl
theorem cb_X12_asked : xCb yX12_asked cX12_asked 1 (some .int) 0 := ⟨w_9, w_1343, by decide, by decide, by decide +kernel⟩
theorem w_1340 : Cond.methodLink RL 219 yX12_asked ∈ xtb := in_xtb (i := 1340) (by decide +kernel) rfl
theorem w_1341 : Cond.instanceMethod yX12_asked ∈ xtb := in_xtb (i := 1341) (by decide +kernel) rfl
theorem w_1342 : Cond.selects yX12_asked.cls yX12_asked yX12_asked ∈ xtb := in_xtb (i := 1342) (by decide +kernel) rfl
theorem w_1056 : Cond.code yX11_upper cX11_upper 1 (some .long) ∈ xtb := in_xtb (i := 1056) (by decide +kernel) rfl
theorem cb_X11_upper : xCb yX11_upper cX11_upper 1 (some .long) 0 := ⟨w_1, w_1056, by decide, by decide, by decide +kernel⟩
theorem w_1053 : Cond.methodLink RL 220 yX11_upper ∈ xtb := in_xtb (i := 1053) (by decide +kernel) rfl
theorem w_1054 : Cond.instanceMethod yX11_upper ∈ xtb := in_xtb (i := 1054) (by decide +kernel) rfl
theorem w_1055 : Cond.selects yX11_upper.cls yX11_upper yX11_upper ∈ xtb := in_xtb (i := 1055) (by decide +kernel) rfl
theorem w_1347 : Cond.code yX12_upper cX12_upper 1 (some .long) ∈ xtb := in_xtb (i := 1347) (by decide +kernel) rfl
theorem cb_X12_upper : xCb yX12_upper cX12_upper 1 (some .long) 0 := ⟨w_9, w_1347, by decide, by decide, by decide +kernel⟩
theorem w_1344 : Cond.methodLink RL 224 yX12_upper ∈ xtb := in_xtb (i := 1344) (by decide +kernel) rfl
theorem w_1345 : Cond.instanceMethod yX12_upper ∈ xtb := in_xtb (i := 1345) (by decide +kernel) rfl
theorem w_1346 : Cond.selects yX12_upper.cls yX12_upper yX12_upper ∈ xtb := in_xtb (i := 1346) (by decide +kernel) rfl
theorem w_1060 : Cond.code yX11_lower cX11_lower 1 (some .long) ∈ xtb := in_xtb (i := 1060) (by decide +kernel) rfl
theorem cb_X11_lower : xCb yX11_lower cX11_lower 1 (some .long) 0 := ⟨w_1, w_1060, by decide, by decide, by decide +kernel⟩
theorem w_1057 : Cond.methodLink RL 225 yX11_lower ∈ xtb := in_xtb (i := 1057) (by decide +kernel) rfl
theorem w_1058 : Cond.instanceMethod yX11_lower ∈ xtb := in_xtb (i := 1058) (by decide +kernel) rfl
theorem w_1059 : Cond.selects yX11_lower.cls yX11_lower yX11_lower ∈ xtb := in_xtb (i := 1059) (by decide +kernel) rfl
theorem w_1351 : Cond.code yX12_lower cX12_lower 1 (some .long) ∈ xtb := in_xtb (i := 1351) (by decide +kernel) rfl
theorem cb_X12_lower : xCb yX12_lower cX12_lower 1 (some .long) 0 := ⟨w_9, w_1351, by decide, by decide, by decide +kernel⟩
theorem w_1348 : Cond.methodLink RL 228 yX12_lower ∈ xtb := in_xtb (i := 1348) (by decide +kernel) rfl
theorem w_1349 : Cond.instanceMethod yX12_lower ∈ xtb := in_xtb (i := 1349) (by decide +kernel) rfl
theorem w_1350 : Cond.selects yX12_lower.cls yX12_lower yX12_lower ∈ xtb := in_xtb (i := 1350) (by decide +kernel) rfl
theorem w_1061 : Cond.methodLink RL 229 yX11_count ∈ xtb := in_xtb (i := 1061) (by decide +kernel) rfl
theorem w_1755 : Cond.code yX12_count cX12_count 2 (some .int) ∈ xtb := in_xtb (i := 1755) (by decide +kernel) rfl
theorem cb_X12_count : xCb yX12_count cX12_count 2 (some .int) 1 := ⟨w_9, w_1755, by decide, by decide, by decide +kernel⟩
theorem w_1752 : Cond.methodLink RL 232 yX12_count ∈ xtb := in_xtb (i := 1752) (by decide +kernel) rfl
theorem w_1753 : Cond.instanceMethod yX12_count ∈ xtb := in_xtb (i := 1753) (by decide +kernel) rfl
theorem w_1754 : Cond.selects yX12_count.cls yX12_count yX12_count ∈ xtb := in_xtb (i := 1754) (by decide +kernel) rfl
theorem w_1071 : Cond.code yX11_finding cX11_finding 1 (some .int) ∈ xtb := in_xtb (i := 1071) (by decide +kernel) rfl
theorem cb_X11_finding : xCb yX11_finding cX11_finding 1 (some .int) 0 := ⟨w_1, w_1071, by decide, by decide, by decide +kernel⟩
theorem w_1068 : Cond.methodLink RL 233 yX11_finding ∈ xtb := in_xtb (i := 1068) (by decide +kernel) rfl
theorem w_1069 : Cond.instanceMethod yX11_finding ∈ xtb := in_xtb (i := 1069) (by decide +kernel) rfl
theorem w_1070 : Cond.selects yX11_finding.cls yX11_finding yX11_finding ∈ xtb := in_xtb (i := 1070) (by decide +kernel) rfl
theorem w_1332 : Cond.code yX12_finding cX12_finding 1 (some .int) ∈ xtb := in_xtb (i := 1332) (by decide +kernel) rfl
theorem cb_X12_finding : xCb yX12_finding cX12_finding 1 (some .int) 0 := ⟨w_9, w_1332, by decide, by decide, by decide +kernel⟩
theorem w_1329 : Cond.methodLink RL 236 yX12_finding ∈ xtb := in_xtb (i := 1329) (by decide +kernel) rfl
theorem w_1330 : Cond.instanceMethod yX12_finding ∈ xtb := in_xtb (i := 1330) (by decide +kernel) rfl
theorem w_1331 : Cond.selects yX12_finding.cls yX12_finding yX12_finding ∈ xtb := in_xtb (i := 1331) (by decide +kernel) rfl
theorem w_1075 : Cond.code yX11_findings cX11_findings 2 (some .int) ∈ xtb := in_xtb (i := 1075) (by decide +kernel) rfl
theorem cb_X11_findings : xCb yX11_findings cX11_findings 2 (some .int) 1 := ⟨w_1, w_1075, by decide, by decide, by decide +kernel⟩
theorem w_1072 : Cond.methodLink RL 237 yX11_findings ∈ xtb := in_xtb (i := 1072) (by decide +kernel) rfl
theorem w_1073 : Cond.instanceMethod yX11_findings ∈ xtb := in_xtb (i := 1073) (by decide +kernel) rfl
theorem w_1074 : Cond.selects yX11_findings.cls yX11_findings yX11_findings ∈ xtb := in_xtb (i := 1074) (by decide +kernel) rfl
theorem w_1336 : Cond.code yX12_findings cX12_findings 2 (some .int) ∈ xtb := in_xtb (i := 1336) (by decide +kernel) rfl
theorem cb_X12_findings : xCb yX12_findings cX12_findings 2 (some .int) 1 := ⟨w_9, w_1336, by decide, by decide, by decide +kernel⟩
theorem w_1333 : Cond.methodLink RL 240 yX12_findings ∈ xtb := in_xtb (i := 1333) (by decide +kernel) rfl
theorem w_1334 : Cond.instanceMethod yX12_findings ∈ xtb := in_xtb (i := 1334) (by decide +kernel) rfl
theorem w_1335 : Cond.selects yX12_findings.cls yX12_findings yX12_findings ∈ xtb := in_xtb (i := 1335) (by decide +kernel) rfl
theorem w_1079 : Cond.code yX11_digest cX11_digest 4 (some .long) ∈ xtb := in_xtb (i := 1079) (by decide +kernel) rfl
theorem cb_X11_digest : xCb yX11_digest cX11_digest 4 (some .long) 0 := ⟨w_1, w_1079, by decide, by decide, by decide +kernel⟩
theorem w_1076 : Cond.methodLink RL 241 yX11_digest ∈ xtb := in_xtb (i := 1076) (by decide +kernel) rfl
theorem w_1077 : Cond.instanceMethod yX11_digest ∈ xtb := in_xtb (i := 1077) (by decide +kernel) rfl
theorem w_1078 : Cond.selects yX11_digest.cls yX11_digest yX11_digest ∈ xtb := in_xtb (i := 1078) (by decide +kernel) rfl
theorem w_1763 : Cond.code yX12_digest cX12_digest 3 (some .long) ∈ xtb := in_xtb (i := 1763) (by decide +kernel) rfl
theorem cb_X12_digest : xCb yX12_digest cX12_digest 3 (some .long) 0 := ⟨w_9, w_1763, by decide, by decide, by decide +kernel⟩
theorem w_1760 : Cond.methodLink RL 244 yX12_digest ∈ xtb := in_xtb (i := 1760) (by decide +kernel) rfl
theorem w_1761 : Cond.instanceMethod yX12_digest ∈ xtb := in_xtb (i := 1761) (by decide +kernel) rfl
theorem w_1762 : Cond.selects yX12_digest.cls yX12_digest yX12_digest ∈ xtb := in_xtb (i := 1762) (by decide +kernel) rfl
