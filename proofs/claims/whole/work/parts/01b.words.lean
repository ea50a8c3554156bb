theorem w_in_0 : Cond.initialized (xON 0) ∈ xgw := xin (List.mem_of_getElem? (i := 37) (by decide +kernel)) rfl
theorem w_in_1 : Cond.initialized (xON 1) ∈ xgw := xin (List.mem_of_getElem? (i := 39) (by decide +kernel)) rfl
theorem w_in_2 : Cond.initialized (xON 2) ∈ xgw := xin (List.mem_of_getElem? (i := 40) (by decide +kernel)) rfl
theorem w_in_3 : Cond.initialized (xON 3) ∈ xgw := xin (List.mem_of_getElem? (i := 41) (by decide +kernel)) rfl
theorem w_in_4 : Cond.initialized (xON 4) ∈ xgw := xin (List.mem_of_getElem? (i := 42) (by decide +kernel)) rfl
theorem w_in_5 : Cond.initialized (xON 5) ∈ xgw := xin (List.mem_of_getElem? (i := 38) (by decide +kernel)) rfl
theorem w_in_6 : Cond.initialized (xON 6) ∈ xgw := xin (List.mem_of_getElem? (i := 43) (by decide +kernel)) rfl
theorem w_in_7 : Cond.initialized (xON 7) ∈ xgw := xin (List.mem_of_getElem? (i := 36) (by decide +kernel)) rfl
theorem w_in_8 : Cond.initialized (xON 8) ∈ xgw := xin (List.mem_of_getElem? (i := 44) (by decide +kernel)) rfl
theorem w_in_9 : Cond.initialized (xON 9) ∈ xgw := xin (List.mem_of_getElem? (i := 46) (by decide +kernel)) rfl
theorem w_in_10 : Cond.initialized (xON 10) ∈ xgw := xin (List.mem_of_getElem? (i := 47) (by decide +kernel)) rfl
set_option maxRecDepth 20000 in
theorem w_co_1 : Cond.code (xY 1) (xB 1) (xnL 1) (xRt 1) ∈ xgw := xin (List.mem_of_getElem? (i := 52) rfl) rfl
theorem w_im_1 : Cond.instanceMethod (xY 1) ∈ xgw := xin (List.mem_of_getElem? (i := 51) (by decide +kernel)) rfl
set_option maxRecDepth 20000 in
theorem w_co_2 : Cond.code (xY 2) (xB 2) (xnL 2) (xRt 2) ∈ xgw := xin (List.mem_of_getElem? (i := 60) rfl) rfl
theorem w_im_2 : Cond.instanceMethod (xY 2) ∈ xgw := xin (List.mem_of_getElem? (i := 59) (by decide +kernel)) rfl
set_option maxRecDepth 20000 in
theorem w_co_3 : Cond.code (xY 3) (xB 3) (xnL 3) (xRt 3) ∈ xgw := xin (List.mem_of_getElem? (i := 77) rfl) rfl
theorem w_im_3 : Cond.instanceMethod (xY 3) ∈ xgw := xin (List.mem_of_getElem? (i := 76) (by decide +kernel)) rfl
set_option maxRecDepth 20000 in
theorem w_co_4 : Cond.code (xY 4) (xB 4) (xnL 4) (xRt 4) ∈ xgw := xin (List.mem_of_getElem? (i := 83) rfl) rfl
theorem w_im_4 : Cond.instanceMethod (xY 4) ∈ xgw := xin (List.mem_of_getElem? (i := 82) (by decide +kernel)) rfl
set_option maxRecDepth 20000 in
theorem w_co_5 : Cond.code (xY 5) (xB 5) (xnL 5) (xRt 5) ∈ xgw := xin (List.mem_of_getElem? (i := 101) rfl) rfl
theorem w_im_5 : Cond.instanceMethod (xY 5) ∈ xgw := xin (List.mem_of_getElem? (i := 100) (by decide +kernel)) rfl
set_option maxRecDepth 20000 in
theorem w_co_6 : Cond.code (xY 6) (xB 6) (xnL 6) (xRt 6) ∈ xgw := xin (List.mem_of_getElem? (i := 151) rfl) rfl
theorem w_im_6 : Cond.instanceMethod (xY 6) ∈ xgw := xin (List.mem_of_getElem? (i := 150) (by decide +kernel)) rfl
set_option maxRecDepth 20000 in
theorem w_co_7 : Cond.code (xY 7) (xB 7) (xnL 7) (xRt 7) ∈ xgw := xin (List.mem_of_getElem? (i := 228) rfl) rfl
theorem w_im_7 : Cond.instanceMethod (xY 7) ∈ xgw := xin (List.mem_of_getElem? (i := 226) (by decide +kernel)) rfl
theorem w_se_7 : Cond.selects (xCN 0) (xY 7) (xY 7) ∈ xgw := xin (List.mem_of_getElem? (i := 227) (by decide +kernel)) rfl
set_option maxRecDepth 20000 in
theorem w_co_8 : Cond.code (xY 8) (xB 8) (xnL 8) (xRt 8) ∈ xgw := xin (List.mem_of_getElem? (i := 232) rfl) rfl
theorem w_im_8 : Cond.instanceMethod (xY 8) ∈ xgw := xin (List.mem_of_getElem? (i := 230) (by decide +kernel)) rfl
theorem w_se_8 : Cond.selects (xCN 5) (xY 8) (xY 8) ∈ xgw := xin (List.mem_of_getElem? (i := 231) (by decide +kernel)) rfl
set_option maxRecDepth 20000 in
theorem w_co_9 : Cond.code (xY 9) (xB 9) (xnL 9) (xRt 9) ∈ xgw := xin (List.mem_of_getElem? (i := 235) rfl) rfl
theorem w_st_9 : Cond.static (xY 9) ∈ xgw := xin (List.mem_of_getElem? (i := 234) (by decide +kernel)) rfl
set_option maxRecDepth 20000 in
theorem w_co_10 : Cond.code (xY 10) (xB 10) (xnL 10) (xRt 10) ∈ xgw := xin (List.mem_of_getElem? (i := 239) rfl) rfl
theorem w_im_10 : Cond.instanceMethod (xY 10) ∈ xgw := xin (List.mem_of_getElem? (i := 237) (by decide +kernel)) rfl
theorem w_se_10 : Cond.selects (xCN 0) (xY 10) (xY 10) ∈ xgw := xin (List.mem_of_getElem? (i := 238) (by decide +kernel)) rfl
set_option maxRecDepth 20000 in
theorem w_co_11 : Cond.code (xY 11) (xB 11) (xnL 11) (xRt 11) ∈ xgw := xin (List.mem_of_getElem? (i := 243) rfl) rfl
theorem w_im_11 : Cond.instanceMethod (xY 11) ∈ xgw := xin (List.mem_of_getElem? (i := 241) (by decide +kernel)) rfl
theorem w_se_11 : Cond.selects (xCN 0) (xY 11) (xY 11) ∈ xgw := xin (List.mem_of_getElem? (i := 242) (by decide +kernel)) rfl
set_option maxRecDepth 20000 in
theorem w_co_12 : Cond.code (xY 12) (xB 12) (xnL 12) (xRt 12) ∈ xgw := xin (List.mem_of_getElem? (i := 247) rfl) rfl
theorem w_im_12 : Cond.instanceMethod (xY 12) ∈ xgw := xin (List.mem_of_getElem? (i := 245) (by decide +kernel)) rfl
theorem w_se_12 : Cond.selects (xCN 0) (xY 12) (xY 12) ∈ xgw := xin (List.mem_of_getElem? (i := 246) (by decide +kernel)) rfl
set_option maxRecDepth 20000 in
theorem w_co_13 : Cond.code (xY 13) (xB 13) (xnL 13) (xRt 13) ∈ xgw := xin (List.mem_of_getElem? (i := 251) rfl) rfl
theorem w_im_13 : Cond.instanceMethod (xY 13) ∈ xgw := xin (List.mem_of_getElem? (i := 249) (by decide +kernel)) rfl
theorem w_se_13 : Cond.selects (xCN 1) (xY 13) (xY 13) ∈ xgw := xin (List.mem_of_getElem? (i := 250) (by decide +kernel)) rfl
set_option maxRecDepth 20000 in
theorem w_co_14 : Cond.code (xY 14) (xB 14) (xnL 14) (xRt 14) ∈ xgw := xin (List.mem_of_getElem? (i := 255) rfl) rfl
theorem w_im_14 : Cond.instanceMethod (xY 14) ∈ xgw := xin (List.mem_of_getElem? (i := 253) (by decide +kernel)) rfl
theorem w_se_14 : Cond.selects (xCN 2) (xY 14) (xY 14) ∈ xgw := xin (List.mem_of_getElem? (i := 254) (by decide +kernel)) rfl
set_option maxRecDepth 20000 in
theorem w_co_15 : Cond.code (xY 15) (xB 15) (xnL 15) (xRt 15) ∈ xgw := xin (List.mem_of_getElem? (i := 258) rfl) rfl
theorem w_st_15 : Cond.static (xY 15) ∈ xgw := xin (List.mem_of_getElem? (i := 257) (by decide +kernel)) rfl
set_option maxRecDepth 20000 in
theorem w_co_16 : Cond.code (xY 16) (xB 16) (xnL 16) (xRt 16) ∈ xgw := xin (List.mem_of_getElem? (i := 262) rfl) rfl
theorem w_im_16 : Cond.instanceMethod (xY 16) ∈ xgw := xin (List.mem_of_getElem? (i := 260) (by decide +kernel)) rfl
theorem w_se_16 : Cond.selects (xCN 3) (xY 16) (xY 16) ∈ xgw := xin (List.mem_of_getElem? (i := 261) (by decide +kernel)) rfl
set_option maxRecDepth 20000 in
theorem w_co_17 : Cond.code (xY 17) (xB 17) (xnL 17) (xRt 17) ∈ xgw := xin (List.mem_of_getElem? (i := 266) rfl) rfl
theorem w_im_17 : Cond.instanceMethod (xY 17) ∈ xgw := xin (List.mem_of_getElem? (i := 264) (by decide +kernel)) rfl
theorem w_se_17 : Cond.selects (xCN 1) (xY 17) (xY 17) ∈ xgw := xin (List.mem_of_getElem? (i := 265) (by decide +kernel)) rfl
set_option maxRecDepth 20000 in
theorem w_co_18 : Cond.code (xY 18) (xB 18) (xnL 18) (xRt 18) ∈ xgw := xin (List.mem_of_getElem? (i := 270) rfl) rfl
theorem w_im_18 : Cond.instanceMethod (xY 18) ∈ xgw := xin (List.mem_of_getElem? (i := 268) (by decide +kernel)) rfl
theorem w_se_18 : Cond.selects (xCN 4) (xY 18) (xY 18) ∈ xgw := xin (List.mem_of_getElem? (i := 269) (by decide +kernel)) rfl
set_option maxRecDepth 20000 in
theorem w_co_19 : Cond.code (xY 19) (xB 19) (xnL 19) (xRt 19) ∈ xgw := xin (List.mem_of_getElem? (i := 275) rfl) rfl
theorem w_im_19 : Cond.instanceMethod (xY 19) ∈ xgw := xin (List.mem_of_getElem? (i := 273) (by decide +kernel)) rfl
theorem w_se_19 : Cond.selects (xCN 1) (xY 19) (xY 19) ∈ xgw := xin (List.mem_of_getElem? (i := 274) (by decide +kernel)) rfl
set_option maxRecDepth 20000 in
theorem w_co_20 : Cond.code (xY 20) (xB 20) (xnL 20) (xRt 20) ∈ xgw := xin (List.mem_of_getElem? (i := 279) rfl) rfl
theorem w_im_20 : Cond.instanceMethod (xY 20) ∈ xgw := xin (List.mem_of_getElem? (i := 277) (by decide +kernel)) rfl
theorem w_se_20 : Cond.selects (xCN 5) (xY 20) (xY 20) ∈ xgw := xin (List.mem_of_getElem? (i := 278) (by decide +kernel)) rfl
set_option maxRecDepth 20000 in
theorem w_co_21 : Cond.code (xY 21) (xB 21) (xnL 21) (xRt 21) ∈ xgw := xin (List.mem_of_getElem? (i := 282) rfl) rfl
theorem w_st_21 : Cond.static (xY 21) ∈ xgw := xin (List.mem_of_getElem? (i := 281) (by decide +kernel)) rfl
set_option maxRecDepth 20000 in
theorem w_co_22 : Cond.code (xY 22) (xB 22) (xnL 22) (xRt 22) ∈ xgw := xin (List.mem_of_getElem? (i := 285) rfl) rfl
theorem w_st_22 : Cond.static (xY 22) ∈ xgw := xin (List.mem_of_getElem? (i := 284) (by decide +kernel)) rfl
set_option maxRecDepth 20000 in
theorem w_co_23 : Cond.code (xY 23) (xB 23) (xnL 23) (xRt 23) ∈ xgw := xin (List.mem_of_getElem? (i := 288) rfl) rfl
theorem w_st_23 : Cond.static (xY 23) ∈ xgw := xin (List.mem_of_getElem? (i := 287) (by decide +kernel)) rfl
set_option maxRecDepth 20000 in
theorem w_co_24 : Cond.code (xY 24) (xB 24) (xnL 24) (xRt 24) ∈ xgw := xin (List.mem_of_getElem? (i := 293) rfl) rfl
theorem w_im_24 : Cond.instanceMethod (xY 24) ∈ xgw := xin (List.mem_of_getElem? (i := 292) (by decide +kernel)) rfl
theorem w_se_24 : Cond.selects (xCN 1) (xY 24) (xY 24) ∈ xgw := xin (List.mem_of_getElem? (i := 0) (by decide +kernel)) rfl
set_option maxRecDepth 20000 in
theorem w_co_25 : Cond.code (xY 25) (xB 25) (xnL 25) (xRt 25) ∈ xgw := xin (List.mem_of_getElem? (i := 296) rfl) rfl
theorem w_st_25 : Cond.static (xY 25) ∈ xgw := xin (List.mem_of_getElem? (i := 295) (by decide +kernel)) rfl
set_option maxRecDepth 20000 in
theorem w_co_26 : Cond.code (xY 26) (xB 26) (xnL 26) (xRt 26) ∈ xgw := xin (List.mem_of_getElem? (i := 299) rfl) rfl
theorem w_st_26 : Cond.static (xY 26) ∈ xgw := xin (List.mem_of_getElem? (i := 298) (by decide +kernel)) rfl
set_option maxRecDepth 20000 in
theorem w_co_27 : Cond.code (xY 27) (xB 27) (xnL 27) (xRt 27) ∈ xgw := xin (List.mem_of_getElem? (i := 302) rfl) rfl
theorem w_st_27 : Cond.static (xY 27) ∈ xgw := xin (List.mem_of_getElem? (i := 301) (by decide +kernel)) rfl
set_option maxRecDepth 20000 in
theorem w_co_28 : Cond.code (xY 28) (xB 28) (xnL 28) (xRt 28) ∈ xgw := xin (List.mem_of_getElem? (i := 306) rfl) rfl
theorem w_im_28 : Cond.instanceMethod (xY 28) ∈ xgw := xin (List.mem_of_getElem? (i := 305) (by decide +kernel)) rfl
theorem w_se_28 : Cond.selects (xCN 1) (xY 28) (xY 28) ∈ xgw := xin (List.mem_of_getElem? (i := 1) (by decide +kernel)) rfl
set_option maxRecDepth 20000 in
theorem w_co_29 : Cond.code (xY 29) (xB 29) (xnL 29) (xRt 29) ∈ xgw := xin (List.mem_of_getElem? (i := 310) rfl) rfl
theorem w_im_29 : Cond.instanceMethod (xY 29) ∈ xgw := xin (List.mem_of_getElem? (i := 308) (by decide +kernel)) rfl
theorem w_se_29 : Cond.selects (xCN 5) (xY 29) (xY 29) ∈ xgw := xin (List.mem_of_getElem? (i := 309) (by decide +kernel)) rfl
set_option maxRecDepth 20000 in
theorem w_co_30 : Cond.code (xY 30) (xB 30) (xnL 30) (xRt 30) ∈ xgw := xin (List.mem_of_getElem? (i := 314) rfl) rfl
theorem w_im_30 : Cond.instanceMethod (xY 30) ∈ xgw := xin (List.mem_of_getElem? (i := 312) (by decide +kernel)) rfl
theorem w_se_30 : Cond.selects (xCN 5) (xY 30) (xY 30) ∈ xgw := xin (List.mem_of_getElem? (i := 313) (by decide +kernel)) rfl
set_option maxRecDepth 20000 in
theorem w_co_31 : Cond.code (xY 31) (xB 31) (xnL 31) (xRt 31) ∈ xgw := xin (List.mem_of_getElem? (i := 319) rfl) rfl
theorem w_im_31 : Cond.instanceMethod (xY 31) ∈ xgw := xin (List.mem_of_getElem? (i := 317) (by decide +kernel)) rfl
theorem w_se_31 : Cond.selects (xCN 5) (xY 31) (xY 31) ∈ xgw := xin (List.mem_of_getElem? (i := 318) (by decide +kernel)) rfl
set_option maxRecDepth 20000 in
theorem w_co_32 : Cond.code (xY 32) (xB 32) (xnL 32) (xRt 32) ∈ xgw := xin (List.mem_of_getElem? (i := 323) rfl) rfl
theorem w_im_32 : Cond.instanceMethod (xY 32) ∈ xgw := xin (List.mem_of_getElem? (i := 322) (by decide +kernel)) rfl
theorem w_se_32 : Cond.selects (xCN 1) (xY 32) (xY 32) ∈ xgw := xin (List.mem_of_getElem? (i := 2) (by decide +kernel)) rfl
set_option maxRecDepth 20000 in
theorem w_co_33 : Cond.code (xY 33) (xB 33) (xnL 33) (xRt 33) ∈ xgw := xin (List.mem_of_getElem? (i := 327) rfl) rfl
theorem w_im_33 : Cond.instanceMethod (xY 33) ∈ xgw := xin (List.mem_of_getElem? (i := 326) (by decide +kernel)) rfl
theorem w_se_33 : Cond.selects (xCN 1) (xY 33) (xY 33) ∈ xgw := xin (List.mem_of_getElem? (i := 3) (by decide +kernel)) rfl
set_option maxRecDepth 20000 in
theorem w_co_34 : Cond.code (xY 34) (xB 34) (xnL 34) (xRt 34) ∈ xgw := xin (List.mem_of_getElem? (i := 330) rfl) rfl
theorem w_st_34 : Cond.static (xY 34) ∈ xgw := xin (List.mem_of_getElem? (i := 329) (by decide +kernel)) rfl
set_option maxRecDepth 20000 in
theorem w_co_35 : Cond.code (xY 35) (xB 35) (xnL 35) (xRt 35) ∈ xgw := xin (List.mem_of_getElem? (i := 334) rfl) rfl
theorem w_im_35 : Cond.instanceMethod (xY 35) ∈ xgw := xin (List.mem_of_getElem? (i := 333) (by decide +kernel)) rfl
theorem w_se_35 : Cond.selects (xCN 1) (xY 35) (xY 35) ∈ xgw := xin (List.mem_of_getElem? (i := 4) (by decide +kernel)) rfl
set_option maxRecDepth 20000 in
theorem w_co_36 : Cond.code (xY 36) (xB 36) (xnL 36) (xRt 36) ∈ xgw := xin (List.mem_of_getElem? (i := 337) rfl) rfl
theorem w_st_36 : Cond.static (xY 36) ∈ xgw := xin (List.mem_of_getElem? (i := 336) (by decide +kernel)) rfl
set_option maxRecDepth 20000 in
theorem w_co_37 : Cond.code (xY 37) (xB 37) (xnL 37) (xRt 37) ∈ xgw := xin (List.mem_of_getElem? (i := 341) rfl) rfl
theorem w_im_37 : Cond.instanceMethod (xY 37) ∈ xgw := xin (List.mem_of_getElem? (i := 340) (by decide +kernel)) rfl
theorem w_se_37 : Cond.selects (xCN 1) (xY 37) (xY 37) ∈ xgw := xin (List.mem_of_getElem? (i := 5) (by decide +kernel)) rfl
set_option maxRecDepth 20000 in
theorem w_co_38 : Cond.code (xY 38) (xB 38) (xnL 38) (xRt 38) ∈ xgw := xin (List.mem_of_getElem? (i := 345) rfl) rfl
theorem w_im_38 : Cond.instanceMethod (xY 38) ∈ xgw := xin (List.mem_of_getElem? (i := 344) (by decide +kernel)) rfl
theorem w_se_38 : Cond.selects (xCN 1) (xY 38) (xY 38) ∈ xgw := xin (List.mem_of_getElem? (i := 6) (by decide +kernel)) rfl
set_option maxRecDepth 20000 in
theorem w_co_39 : Cond.code (xY 39) (xB 39) (xnL 39) (xRt 39) ∈ xgw := xin (List.mem_of_getElem? (i := 349) rfl) rfl
theorem w_im_39 : Cond.instanceMethod (xY 39) ∈ xgw := xin (List.mem_of_getElem? (i := 347) (by decide +kernel)) rfl
theorem w_se_39 : Cond.selects (xCN 4) (xY 39) (xY 39) ∈ xgw := xin (List.mem_of_getElem? (i := 348) (by decide +kernel)) rfl
set_option maxRecDepth 20000 in
theorem w_co_40 : Cond.code (xY 40) (xB 40) (xnL 40) (xRt 40) ∈ xgw := xin (List.mem_of_getElem? (i := 353) rfl) rfl
theorem w_im_40 : Cond.instanceMethod (xY 40) ∈ xgw := xin (List.mem_of_getElem? (i := 351) (by decide +kernel)) rfl
theorem w_se_40 : Cond.selects (xCN 4) (xY 40) (xY 40) ∈ xgw := xin (List.mem_of_getElem? (i := 352) (by decide +kernel)) rfl
set_option maxRecDepth 20000 in
theorem w_co_41 : Cond.code (xY 41) (xB 41) (xnL 41) (xRt 41) ∈ xgw := xin (List.mem_of_getElem? (i := 357) rfl) rfl
theorem w_st_41 : Cond.static (xY 41) ∈ xgw := xin (List.mem_of_getElem? (i := 356) (by decide +kernel)) rfl
set_option maxRecDepth 20000 in
theorem w_co_42 : Cond.code (xY 42) (xB 42) (xnL 42) (xRt 42) ∈ xgw := xin (List.mem_of_getElem? (i := 361) rfl) rfl
theorem w_im_42 : Cond.instanceMethod (xY 42) ∈ xgw := xin (List.mem_of_getElem? (i := 360) (by decide +kernel)) rfl
theorem w_se_42 : Cond.selects (xCN 1) (xY 42) (xY 42) ∈ xgw := xin (List.mem_of_getElem? (i := 7) (by decide +kernel)) rfl
set_option maxRecDepth 20000 in
theorem w_co_43 : Cond.code (xY 43) (xB 43) (xnL 43) (xRt 43) ∈ xgw := xin (List.mem_of_getElem? (i := 364) rfl) rfl
theorem w_st_43 : Cond.static (xY 43) ∈ xgw := xin (List.mem_of_getElem? (i := 363) (by decide +kernel)) rfl
set_option maxRecDepth 20000 in
theorem w_co_44 : Cond.code (xY 44) (xB 44) (xnL 44) (xRt 44) ∈ xgw := xin (List.mem_of_getElem? (i := 368) rfl) rfl
theorem w_im_44 : Cond.instanceMethod (xY 44) ∈ xgw := xin (List.mem_of_getElem? (i := 367) (by decide +kernel)) rfl
theorem w_se_44 : Cond.selects (xCN 1) (xY 44) (xY 44) ∈ xgw := xin (List.mem_of_getElem? (i := 8) (by decide +kernel)) rfl
set_option maxRecDepth 20000 in
theorem w_co_45 : Cond.code (xY 45) (xB 45) (xnL 45) (xRt 45) ∈ xgw := xin (List.mem_of_getElem? (i := 372) rfl) rfl
theorem w_im_45 : Cond.instanceMethod (xY 45) ∈ xgw := xin (List.mem_of_getElem? (i := 370) (by decide +kernel)) rfl
theorem w_se_45 : Cond.selects (xCN 4) (xY 45) (xY 45) ∈ xgw := xin (List.mem_of_getElem? (i := 371) (by decide +kernel)) rfl
set_option maxRecDepth 20000 in
theorem w_co_46 : Cond.code (xY 46) (xB 46) (xnL 46) (xRt 46) ∈ xgw := xin (List.mem_of_getElem? (i := 378) rfl) rfl
theorem w_st_46 : Cond.static (xY 46) ∈ xgw := xin (List.mem_of_getElem? (i := 377) (by decide +kernel)) rfl
set_option maxRecDepth 20000 in
theorem w_co_47 : Cond.code (xY 47) (xB 47) (xnL 47) (xRt 47) ∈ xgw := xin (List.mem_of_getElem? (i := 383) rfl) rfl
theorem w_im_47 : Cond.instanceMethod (xY 47) ∈ xgw := xin (List.mem_of_getElem? (i := 382) (by decide +kernel)) rfl
theorem w_se_47 : Cond.selects (xCN 1) (xY 47) (xY 47) ∈ xgw := xin (List.mem_of_getElem? (i := 9) (by decide +kernel)) rfl
set_option maxRecDepth 20000 in
theorem w_co_48 : Cond.code (xY 48) (xB 48) (xnL 48) (xRt 48) ∈ xgw := xin (List.mem_of_getElem? (i := 387) rfl) rfl
theorem w_im_48 : Cond.instanceMethod (xY 48) ∈ xgw := xin (List.mem_of_getElem? (i := 385) (by decide +kernel)) rfl
theorem w_se_48 : Cond.selects (xCN 3) (xY 48) (xY 48) ∈ xgw := xin (List.mem_of_getElem? (i := 386) (by decide +kernel)) rfl
set_option maxRecDepth 20000 in
theorem w_co_49 : Cond.code (xY 49) (xB 49) (xnL 49) (xRt 49) ∈ xgw := xin (List.mem_of_getElem? (i := 391) rfl) rfl
theorem w_im_49 : Cond.instanceMethod (xY 49) ∈ xgw := xin (List.mem_of_getElem? (i := 389) (by decide +kernel)) rfl
theorem w_se_49 : Cond.selects (xCN 3) (xY 49) (xY 49) ∈ xgw := xin (List.mem_of_getElem? (i := 390) (by decide +kernel)) rfl
set_option maxRecDepth 20000 in
theorem w_co_50 : Cond.code (xY 50) (xB 50) (xnL 50) (xRt 50) ∈ xgw := xin (List.mem_of_getElem? (i := 395) rfl) rfl
theorem w_im_50 : Cond.instanceMethod (xY 50) ∈ xgw := xin (List.mem_of_getElem? (i := 394) (by decide +kernel)) rfl
theorem w_se_50 : Cond.selects (xCN 3) (xY 50) (xY 50) ∈ xgw := xin (List.mem_of_getElem? (i := 10) (by decide +kernel)) rfl
set_option maxRecDepth 20000 in
theorem w_co_51 : Cond.code (xY 51) (xB 51) (xnL 51) (xRt 51) ∈ xgw := xin (List.mem_of_getElem? (i := 399) rfl) rfl
theorem w_im_51 : Cond.instanceMethod (xY 51) ∈ xgw := xin (List.mem_of_getElem? (i := 397) (by decide +kernel)) rfl
theorem w_se_51 : Cond.selects (xCN 3) (xY 51) (xY 51) ∈ xgw := xin (List.mem_of_getElem? (i := 398) (by decide +kernel)) rfl
set_option maxRecDepth 20000 in
theorem w_co_52 : Cond.code (xY 52) (xB 52) (xnL 52) (xRt 52) ∈ xgw := xin (List.mem_of_getElem? (i := 403) rfl) rfl
theorem w_im_52 : Cond.instanceMethod (xY 52) ∈ xgw := xin (List.mem_of_getElem? (i := 402) (by decide +kernel)) rfl
theorem w_se_52 : Cond.selects (xCN 1) (xY 52) (xY 52) ∈ xgw := xin (List.mem_of_getElem? (i := 11) (by decide +kernel)) rfl
set_option maxRecDepth 20000 in
theorem w_co_53 : Cond.code (xY 53) (xB 53) (xnL 53) (xRt 53) ∈ xgw := xin (List.mem_of_getElem? (i := 406) rfl) rfl
theorem w_st_53 : Cond.static (xY 53) ∈ xgw := xin (List.mem_of_getElem? (i := 405) (by decide +kernel)) rfl
set_option maxRecDepth 20000 in
theorem w_co_54 : Cond.code (xY 54) (xB 54) (xnL 54) (xRt 54) ∈ xgw := xin (List.mem_of_getElem? (i := 409) rfl) rfl
theorem w_st_54 : Cond.static (xY 54) ∈ xgw := xin (List.mem_of_getElem? (i := 408) (by decide +kernel)) rfl
set_option maxRecDepth 20000 in
theorem w_co_55 : Cond.code (xY 55) (xB 55) (xnL 55) (xRt 55) ∈ xgw := xin (List.mem_of_getElem? (i := 413) rfl) rfl
theorem w_im_55 : Cond.instanceMethod (xY 55) ∈ xgw := xin (List.mem_of_getElem? (i := 412) (by decide +kernel)) rfl
theorem w_se_55 : Cond.selects (xCN 1) (xY 55) (xY 55) ∈ xgw := xin (List.mem_of_getElem? (i := 12) (by decide +kernel)) rfl
set_option maxRecDepth 20000 in
theorem w_co_56 : Cond.code (xY 56) (xB 56) (xnL 56) (xRt 56) ∈ xgw := xin (List.mem_of_getElem? (i := 417) rfl) rfl
theorem w_im_56 : Cond.instanceMethod (xY 56) ∈ xgw := xin (List.mem_of_getElem? (i := 416) (by decide +kernel)) rfl
theorem w_se_56 : Cond.selects (xCN 1) (xY 56) (xY 56) ∈ xgw := xin (List.mem_of_getElem? (i := 13) (by decide +kernel)) rfl
set_option maxRecDepth 20000 in
theorem w_co_57 : Cond.code (xY 57) (xB 57) (xnL 57) (xRt 57) ∈ xgw := xin (List.mem_of_getElem? (i := 422) rfl) rfl
theorem w_im_57 : Cond.instanceMethod (xY 57) ∈ xgw := xin (List.mem_of_getElem? (i := 420) (by decide +kernel)) rfl
theorem w_se_57 : Cond.selects (xCN 3) (xY 57) (xY 57) ∈ xgw := xin (List.mem_of_getElem? (i := 421) (by decide +kernel)) rfl
set_option maxRecDepth 20000 in
theorem w_co_58 : Cond.code (xY 58) (xB 58) (xnL 58) (xRt 58) ∈ xgw := xin (List.mem_of_getElem? (i := 427) rfl) rfl
theorem w_im_58 : Cond.instanceMethod (xY 58) ∈ xgw := xin (List.mem_of_getElem? (i := 426) (by decide +kernel)) rfl
theorem w_se_58 : Cond.selects (xCN 3) (xY 58) (xY 58) ∈ xgw := xin (List.mem_of_getElem? (i := 14) (by decide +kernel)) rfl
set_option maxRecDepth 20000 in
theorem w_co_59 : Cond.code (xY 59) (xB 59) (xnL 59) (xRt 59) ∈ xgw := xin (List.mem_of_getElem? (i := 431) rfl) rfl
theorem w_im_59 : Cond.instanceMethod (xY 59) ∈ xgw := xin (List.mem_of_getElem? (i := 429) (by decide +kernel)) rfl
theorem w_se_59 : Cond.selects (xCN 2) (xY 59) (xY 59) ∈ xgw := xin (List.mem_of_getElem? (i := 430) (by decide +kernel)) rfl
set_option maxRecDepth 20000 in
theorem w_co_60 : Cond.code (xY 60) (xB 60) (xnL 60) (xRt 60) ∈ xgw := xin (List.mem_of_getElem? (i := 435) rfl) rfl
theorem w_im_60 : Cond.instanceMethod (xY 60) ∈ xgw := xin (List.mem_of_getElem? (i := 434) (by decide +kernel)) rfl
theorem w_se_60 : Cond.selects (xCN 1) (xY 60) (xY 60) ∈ xgw := xin (List.mem_of_getElem? (i := 15) (by decide +kernel)) rfl
set_option maxRecDepth 20000 in
theorem w_co_61 : Cond.code (xY 61) (xB 61) (xnL 61) (xRt 61) ∈ xgw := xin (List.mem_of_getElem? (i := 439) rfl) rfl
theorem w_im_61 : Cond.instanceMethod (xY 61) ∈ xgw := xin (List.mem_of_getElem? (i := 437) (by decide +kernel)) rfl
theorem w_se_61 : Cond.selects (xCN 0) (xY 61) (xY 61) ∈ xgw := xin (List.mem_of_getElem? (i := 438) (by decide +kernel)) rfl
set_option maxRecDepth 20000 in
theorem w_co_62 : Cond.code (xY 62) (xB 62) (xnL 62) (xRt 62) ∈ xgw := xin (List.mem_of_getElem? (i := 443) rfl) rfl
theorem w_im_62 : Cond.instanceMethod (xY 62) ∈ xgw := xin (List.mem_of_getElem? (i := 441) (by decide +kernel)) rfl
theorem w_se_62 : Cond.selects (xCN 0) (xY 62) (xY 62) ∈ xgw := xin (List.mem_of_getElem? (i := 442) (by decide +kernel)) rfl
set_option maxRecDepth 20000 in
theorem w_co_63 : Cond.code (xY 63) (xB 63) (xnL 63) (xRt 63) ∈ xgw := xin (List.mem_of_getElem? (i := 447) rfl) rfl
theorem w_im_63 : Cond.instanceMethod (xY 63) ∈ xgw := xin (List.mem_of_getElem? (i := 445) (by decide +kernel)) rfl
theorem w_se_63 : Cond.selects (xCN 0) (xY 63) (xY 63) ∈ xgw := xin (List.mem_of_getElem? (i := 446) (by decide +kernel)) rfl
set_option maxRecDepth 20000 in
theorem w_co_64 : Cond.code (xY 64) (xB 64) (xnL 64) (xRt 64) ∈ xgw := xin (List.mem_of_getElem? (i := 451) rfl) rfl
theorem w_im_64 : Cond.instanceMethod (xY 64) ∈ xgw := xin (List.mem_of_getElem? (i := 449) (by decide +kernel)) rfl
theorem w_se_64 : Cond.selects (xCN 2) (xY 64) (xY 64) ∈ xgw := xin (List.mem_of_getElem? (i := 450) (by decide +kernel)) rfl
set_option maxRecDepth 20000 in
theorem w_co_65 : Cond.code (xY 65) (xB 65) (xnL 65) (xRt 65) ∈ xgw := xin (List.mem_of_getElem? (i := 455) rfl) rfl
theorem w_im_65 : Cond.instanceMethod (xY 65) ∈ xgw := xin (List.mem_of_getElem? (i := 453) (by decide +kernel)) rfl
theorem w_se_65 : Cond.selects (xCN 0) (xY 65) (xY 65) ∈ xgw := xin (List.mem_of_getElem? (i := 454) (by decide +kernel)) rfl
set_option maxRecDepth 20000 in
theorem w_co_66 : Cond.code (xY 66) (xB 66) (xnL 66) (xRt 66) ∈ xgw := xin (List.mem_of_getElem? (i := 459) rfl) rfl
theorem w_im_66 : Cond.instanceMethod (xY 66) ∈ xgw := xin (List.mem_of_getElem? (i := 457) (by decide +kernel)) rfl
theorem w_se_66 : Cond.selects (xCN 2) (xY 66) (xY 66) ∈ xgw := xin (List.mem_of_getElem? (i := 458) (by decide +kernel)) rfl
set_option maxRecDepth 20000 in
theorem w_co_67 : Cond.code (xY 67) (xB 67) (xnL 67) (xRt 67) ∈ xgw := xin (List.mem_of_getElem? (i := 463) rfl) rfl
theorem w_im_67 : Cond.instanceMethod (xY 67) ∈ xgw := xin (List.mem_of_getElem? (i := 461) (by decide +kernel)) rfl
theorem w_se_67 : Cond.selects (xCN 0) (xY 67) (xY 67) ∈ xgw := xin (List.mem_of_getElem? (i := 462) (by decide +kernel)) rfl
set_option maxRecDepth 20000 in
theorem w_co_68 : Cond.code (xY 68) (xB 68) (xnL 68) (xRt 68) ∈ xgw := xin (List.mem_of_getElem? (i := 467) rfl) rfl
theorem w_im_68 : Cond.instanceMethod (xY 68) ∈ xgw := xin (List.mem_of_getElem? (i := 465) (by decide +kernel)) rfl
theorem w_se_68 : Cond.selects (xCN 0) (xY 68) (xY 68) ∈ xgw := xin (List.mem_of_getElem? (i := 466) (by decide +kernel)) rfl
set_option maxRecDepth 20000 in
theorem w_co_69 : Cond.code (xY 69) (xB 69) (xnL 69) (xRt 69) ∈ xgw := xin (List.mem_of_getElem? (i := 471) rfl) rfl
theorem w_im_69 : Cond.instanceMethod (xY 69) ∈ xgw := xin (List.mem_of_getElem? (i := 469) (by decide +kernel)) rfl
theorem w_se_69 : Cond.selects (xCN 0) (xY 69) (xY 69) ∈ xgw := xin (List.mem_of_getElem? (i := 470) (by decide +kernel)) rfl
set_option maxRecDepth 20000 in
theorem w_co_70 : Cond.code (xY 70) (xB 70) (xnL 70) (xRt 70) ∈ xgw := xin (List.mem_of_getElem? (i := 475) rfl) rfl
theorem w_im_70 : Cond.instanceMethod (xY 70) ∈ xgw := xin (List.mem_of_getElem? (i := 473) (by decide +kernel)) rfl
theorem w_se_70 : Cond.selects (xCN 0) (xY 70) (xY 70) ∈ xgw := xin (List.mem_of_getElem? (i := 474) (by decide +kernel)) rfl
set_option maxRecDepth 20000 in
theorem w_co_71 : Cond.code (xY 71) (xB 71) (xnL 71) (xRt 71) ∈ xgw := xin (List.mem_of_getElem? (i := 480) rfl) rfl
theorem w_im_71 : Cond.instanceMethod (xY 71) ∈ xgw := xin (List.mem_of_getElem? (i := 478) (by decide +kernel)) rfl
theorem w_se_71 : Cond.selects (xCN 4) (xY 71) (xY 71) ∈ xgw := xin (List.mem_of_getElem? (i := 479) (by decide +kernel)) rfl
set_option maxRecDepth 20000 in
theorem w_co_72 : Cond.code (xY 72) (xB 72) (xnL 72) (xRt 72) ∈ xgw := xin (List.mem_of_getElem? (i := 483) rfl) rfl
theorem w_st_72 : Cond.static (xY 72) ∈ xgw := xin (List.mem_of_getElem? (i := 482) (by decide +kernel)) rfl
set_option maxRecDepth 20000 in
theorem w_co_73 : Cond.code (xY 73) (xB 73) (xnL 73) (xRt 73) ∈ xgw := xin (List.mem_of_getElem? (i := 491) rfl) rfl
theorem w_im_73 : Cond.instanceMethod (xY 73) ∈ xgw := xin (List.mem_of_getElem? (i := 490) (by decide +kernel)) rfl
set_option maxRecDepth 20000 in
theorem w_co_74 : Cond.code (xY 74) (xB 74) (xnL 74) (xRt 74) ∈ xgw := xin (List.mem_of_getElem? (i := 601) rfl) rfl
theorem w_im_74 : Cond.instanceMethod (xY 74) ∈ xgw := xin (List.mem_of_getElem? (i := 599) (by decide +kernel)) rfl
theorem w_se_74 : Cond.selects (xCN 6) (xY 74) (xY 74) ∈ xgw := xin (List.mem_of_getElem? (i := 600) (by decide +kernel)) rfl
set_option maxRecDepth 20000 in
theorem w_co_75 : Cond.code (xY 75) (xB 75) (xnL 75) (xRt 75) ∈ xgw := xin (List.mem_of_getElem? (i := 605) rfl) rfl
theorem w_im_75 : Cond.instanceMethod (xY 75) ∈ xgw := xin (List.mem_of_getElem? (i := 603) (by decide +kernel)) rfl
theorem w_se_75 : Cond.selects (xCN 6) (xY 75) (xY 75) ∈ xgw := xin (List.mem_of_getElem? (i := 604) (by decide +kernel)) rfl
set_option maxRecDepth 20000 in
theorem w_co_76 : Cond.code (xY 76) (xB 76) (xnL 76) (xRt 76) ∈ xgw := xin (List.mem_of_getElem? (i := 609) rfl) rfl
theorem w_im_76 : Cond.instanceMethod (xY 76) ∈ xgw := xin (List.mem_of_getElem? (i := 607) (by decide +kernel)) rfl
theorem w_se_76 : Cond.selects (xCN 6) (xY 76) (xY 76) ∈ xgw := xin (List.mem_of_getElem? (i := 608) (by decide +kernel)) rfl
set_option maxRecDepth 20000 in
theorem w_co_77 : Cond.code (xY 77) (xB 77) (xnL 77) (xRt 77) ∈ xgw := xin (List.mem_of_getElem? (i := 613) rfl) rfl
theorem w_im_77 : Cond.instanceMethod (xY 77) ∈ xgw := xin (List.mem_of_getElem? (i := 611) (by decide +kernel)) rfl
theorem w_se_77 : Cond.selects (xCN 6) (xY 77) (xY 77) ∈ xgw := xin (List.mem_of_getElem? (i := 612) (by decide +kernel)) rfl
set_option maxRecDepth 20000 in
theorem w_co_78 : Cond.code (xY 78) (xB 78) (xnL 78) (xRt 78) ∈ xgw := xin (List.mem_of_getElem? (i := 617) rfl) rfl
theorem w_im_78 : Cond.instanceMethod (xY 78) ∈ xgw := xin (List.mem_of_getElem? (i := 616) (by decide +kernel)) rfl
theorem w_se_78 : Cond.selects (xCN 6) (xY 78) (xY 78) ∈ xgw := xin (List.mem_of_getElem? (i := 16) (by decide +kernel)) rfl
set_option maxRecDepth 20000 in
theorem w_co_79 : Cond.code (xY 79) (xB 79) (xnL 79) (xRt 79) ∈ xgw := xin (List.mem_of_getElem? (i := 620) rfl) rfl
theorem w_st_79 : Cond.static (xY 79) ∈ xgw := xin (List.mem_of_getElem? (i := 619) (by decide +kernel)) rfl
set_option maxRecDepth 20000 in
theorem w_co_80 : Cond.code (xY 80) (xB 80) (xnL 80) (xRt 80) ∈ xgw := xin (List.mem_of_getElem? (i := 624) rfl) rfl
theorem w_im_80 : Cond.instanceMethod (xY 80) ∈ xgw := xin (List.mem_of_getElem? (i := 623) (by decide +kernel)) rfl
theorem w_se_80 : Cond.selects (xCN 6) (xY 80) (xY 80) ∈ xgw := xin (List.mem_of_getElem? (i := 17) (by decide +kernel)) rfl
set_option maxRecDepth 20000 in
theorem w_co_81 : Cond.code (xY 81) (xB 81) (xnL 81) (xRt 81) ∈ xgw := xin (List.mem_of_getElem? (i := 627) rfl) rfl
theorem w_st_81 : Cond.static (xY 81) ∈ xgw := xin (List.mem_of_getElem? (i := 626) (by decide +kernel)) rfl
set_option maxRecDepth 20000 in
theorem w_co_82 : Cond.code (xY 82) (xB 82) (xnL 82) (xRt 82) ∈ xgw := xin (List.mem_of_getElem? (i := 631) rfl) rfl
theorem w_im_82 : Cond.instanceMethod (xY 82) ∈ xgw := xin (List.mem_of_getElem? (i := 630) (by decide +kernel)) rfl
theorem w_se_82 : Cond.selects (xCN 6) (xY 82) (xY 82) ∈ xgw := xin (List.mem_of_getElem? (i := 18) (by decide +kernel)) rfl
set_option maxRecDepth 20000 in
theorem w_co_83 : Cond.code (xY 83) (xB 83) (xnL 83) (xRt 83) ∈ xgw := xin (List.mem_of_getElem? (i := 635) rfl) rfl
theorem w_im_83 : Cond.instanceMethod (xY 83) ∈ xgw := xin (List.mem_of_getElem? (i := 634) (by decide +kernel)) rfl
theorem w_se_83 : Cond.selects (xCN 6) (xY 83) (xY 83) ∈ xgw := xin (List.mem_of_getElem? (i := 19) (by decide +kernel)) rfl
set_option maxRecDepth 20000 in
theorem w_co_84 : Cond.code (xY 84) (xB 84) (xnL 84) (xRt 84) ∈ xgw := xin (List.mem_of_getElem? (i := 638) rfl) rfl
theorem w_st_84 : Cond.static (xY 84) ∈ xgw := xin (List.mem_of_getElem? (i := 637) (by decide +kernel)) rfl
set_option maxRecDepth 20000 in
theorem w_co_85 : Cond.code (xY 85) (xB 85) (xnL 85) (xRt 85) ∈ xgw := xin (List.mem_of_getElem? (i := 642) rfl) rfl
theorem w_im_85 : Cond.instanceMethod (xY 85) ∈ xgw := xin (List.mem_of_getElem? (i := 641) (by decide +kernel)) rfl
theorem w_se_85 : Cond.selects (xCN 6) (xY 85) (xY 85) ∈ xgw := xin (List.mem_of_getElem? (i := 20) (by decide +kernel)) rfl
set_option maxRecDepth 20000 in
theorem w_co_86 : Cond.code (xY 86) (xB 86) (xnL 86) (xRt 86) ∈ xgw := xin (List.mem_of_getElem? (i := 646) rfl) rfl
theorem w_im_86 : Cond.instanceMethod (xY 86) ∈ xgw := xin (List.mem_of_getElem? (i := 645) (by decide +kernel)) rfl
theorem w_se_86 : Cond.selects (xCN 6) (xY 86) (xY 86) ∈ xgw := xin (List.mem_of_getElem? (i := 21) (by decide +kernel)) rfl
set_option maxRecDepth 20000 in
theorem w_co_87 : Cond.code (xY 87) (xB 87) (xnL 87) (xRt 87) ∈ xgw := xin (List.mem_of_getElem? (i := 650) rfl) rfl
theorem w_im_87 : Cond.instanceMethod (xY 87) ∈ xgw := xin (List.mem_of_getElem? (i := 649) (by decide +kernel)) rfl
theorem w_se_87 : Cond.selects (xCN 6) (xY 87) (xY 87) ∈ xgw := xin (List.mem_of_getElem? (i := 22) (by decide +kernel)) rfl
set_option maxRecDepth 20000 in
theorem w_co_88 : Cond.code (xY 88) (xB 88) (xnL 88) (xRt 88) ∈ xgw := xin (List.mem_of_getElem? (i := 653) rfl) rfl
theorem w_st_88 : Cond.static (xY 88) ∈ xgw := xin (List.mem_of_getElem? (i := 652) (by decide +kernel)) rfl
set_option maxRecDepth 20000 in
theorem w_co_89 : Cond.code (xY 89) (xB 89) (xnL 89) (xRt 89) ∈ xgw := xin (List.mem_of_getElem? (i := 657) rfl) rfl
theorem w_im_89 : Cond.instanceMethod (xY 89) ∈ xgw := xin (List.mem_of_getElem? (i := 656) (by decide +kernel)) rfl
theorem w_se_89 : Cond.selects (xCN 6) (xY 89) (xY 89) ∈ xgw := xin (List.mem_of_getElem? (i := 23) (by decide +kernel)) rfl
set_option maxRecDepth 20000 in
theorem w_co_90 : Cond.code (xY 90) (xB 90) (xnL 90) (xRt 90) ∈ xgw := xin (List.mem_of_getElem? (i := 661) rfl) rfl
theorem w_im_90 : Cond.instanceMethod (xY 90) ∈ xgw := xin (List.mem_of_getElem? (i := 660) (by decide +kernel)) rfl
theorem w_se_90 : Cond.selects (xCN 6) (xY 90) (xY 90) ∈ xgw := xin (List.mem_of_getElem? (i := 24) (by decide +kernel)) rfl
set_option maxRecDepth 20000 in
theorem w_co_91 : Cond.code (xY 91) (xB 91) (xnL 91) (xRt 91) ∈ xgw := xin (List.mem_of_getElem? (i := 667) rfl) rfl
theorem w_im_91 : Cond.instanceMethod (xY 91) ∈ xgw := xin (List.mem_of_getElem? (i := 666) (by decide +kernel)) rfl
theorem w_se_91 : Cond.selects (xCN 6) (xY 91) (xY 91) ∈ xgw := xin (List.mem_of_getElem? (i := 25) (by decide +kernel)) rfl
set_option maxRecDepth 20000 in
theorem w_co_92 : Cond.code (xY 92) (xB 92) (xnL 92) (xRt 92) ∈ xgw := xin (List.mem_of_getElem? (i := 673) rfl) rfl
theorem w_im_92 : Cond.instanceMethod (xY 92) ∈ xgw := xin (List.mem_of_getElem? (i := 672) (by decide +kernel)) rfl
theorem w_se_92 : Cond.selects (xCN 6) (xY 92) (xY 92) ∈ xgw := xin (List.mem_of_getElem? (i := 26) (by decide +kernel)) rfl
set_option maxRecDepth 20000 in
theorem w_co_93 : Cond.code (xY 93) (xB 93) (xnL 93) (xRt 93) ∈ xgw := xin (List.mem_of_getElem? (i := 677) rfl) rfl
theorem w_im_93 : Cond.instanceMethod (xY 93) ∈ xgw := xin (List.mem_of_getElem? (i := 676) (by decide +kernel)) rfl
theorem w_se_93 : Cond.selects (xCN 6) (xY 93) (xY 93) ∈ xgw := xin (List.mem_of_getElem? (i := 27) (by decide +kernel)) rfl
set_option maxRecDepth 20000 in
theorem w_co_94 : Cond.code (xY 94) (xB 94) (xnL 94) (xRt 94) ∈ xgw := xin (List.mem_of_getElem? (i := 681) rfl) rfl
theorem w_im_94 : Cond.instanceMethod (xY 94) ∈ xgw := xin (List.mem_of_getElem? (i := 680) (by decide +kernel)) rfl
theorem w_se_94 : Cond.selects (xCN 6) (xY 94) (xY 94) ∈ xgw := xin (List.mem_of_getElem? (i := 28) (by decide +kernel)) rfl
set_option maxRecDepth 20000 in
theorem w_co_95 : Cond.code (xY 95) (xB 95) (xnL 95) (xRt 95) ∈ xgw := xin (List.mem_of_getElem? (i := 685) rfl) rfl
theorem w_im_95 : Cond.instanceMethod (xY 95) ∈ xgw := xin (List.mem_of_getElem? (i := 684) (by decide +kernel)) rfl
theorem w_se_95 : Cond.selects (xCN 6) (xY 95) (xY 95) ∈ xgw := xin (List.mem_of_getElem? (i := 29) (by decide +kernel)) rfl
set_option maxRecDepth 20000 in
theorem w_co_96 : Cond.code (xY 96) (xB 96) (xnL 96) (xRt 96) ∈ xgw := xin (List.mem_of_getElem? (i := 689) rfl) rfl
theorem w_im_96 : Cond.instanceMethod (xY 96) ∈ xgw := xin (List.mem_of_getElem? (i := 688) (by decide +kernel)) rfl
theorem w_se_96 : Cond.selects (xCN 6) (xY 96) (xY 96) ∈ xgw := xin (List.mem_of_getElem? (i := 30) (by decide +kernel)) rfl
set_option maxRecDepth 20000 in
theorem w_co_97 : Cond.code (xY 97) (xB 97) (xnL 97) (xRt 97) ∈ xgw := xin (List.mem_of_getElem? (i := 693) rfl) rfl
theorem w_im_97 : Cond.instanceMethod (xY 97) ∈ xgw := xin (List.mem_of_getElem? (i := 692) (by decide +kernel)) rfl
theorem w_se_97 : Cond.selects (xCN 6) (xY 97) (xY 97) ∈ xgw := xin (List.mem_of_getElem? (i := 31) (by decide +kernel)) rfl
set_option maxRecDepth 20000 in
theorem w_co_98 : Cond.code (xY 98) (xB 98) (xnL 98) (xRt 98) ∈ xgw := xin (List.mem_of_getElem? (i := 697) rfl) rfl
theorem w_im_98 : Cond.instanceMethod (xY 98) ∈ xgw := xin (List.mem_of_getElem? (i := 696) (by decide +kernel)) rfl
theorem w_se_98 : Cond.selects (xCN 6) (xY 98) (xY 98) ∈ xgw := xin (List.mem_of_getElem? (i := 32) (by decide +kernel)) rfl
set_option maxRecDepth 20000 in
theorem w_co_99 : Cond.code (xY 99) (xB 99) (xnL 99) (xRt 99) ∈ xgw := xin (List.mem_of_getElem? (i := 701) rfl) rfl
theorem w_im_99 : Cond.instanceMethod (xY 99) ∈ xgw := xin (List.mem_of_getElem? (i := 700) (by decide +kernel)) rfl
theorem w_se_99 : Cond.selects (xCN 6) (xY 99) (xY 99) ∈ xgw := xin (List.mem_of_getElem? (i := 33) (by decide +kernel)) rfl
set_option maxRecDepth 20000 in
theorem w_co_100 : Cond.code (xY 100) (xB 100) (xnL 100) (xRt 100) ∈ xgw := xin (List.mem_of_getElem? (i := 704) rfl) rfl
theorem w_st_100 : Cond.static (xY 100) ∈ xgw := xin (List.mem_of_getElem? (i := 703) (by decide +kernel)) rfl
set_option maxRecDepth 20000 in
theorem w_co_101 : Cond.code (xY 101) (xB 101) (xnL 101) (xRt 101) ∈ xgw := xin (List.mem_of_getElem? (i := 711) rfl) rfl
theorem w_im_101 : Cond.instanceMethod (xY 101) ∈ xgw := xin (List.mem_of_getElem? (i := 710) (by decide +kernel)) rfl
theorem w_se_101 : Cond.selects (xCN 6) (xY 101) (xY 101) ∈ xgw := xin (List.mem_of_getElem? (i := 34) (by decide +kernel)) rfl
set_option maxRecDepth 20000 in
theorem w_co_102 : Cond.code (xY 102) (xB 102) (xnL 102) (xRt 102) ∈ xgw := xin (List.mem_of_getElem? (i := 715) rfl) rfl
theorem w_im_102 : Cond.instanceMethod (xY 102) ∈ xgw := xin (List.mem_of_getElem? (i := 714) (by decide +kernel)) rfl
theorem w_se_102 : Cond.selects (xCN 6) (xY 102) (xY 102) ∈ xgw := xin (List.mem_of_getElem? (i := 35) (by decide +kernel)) rfl
set_option maxRecDepth 20000 in
theorem w_co_103 : Cond.code (xY 103) (xB 103) (xnL 103) (xRt 103) ∈ xgw := xin (List.mem_of_getElem? (i := 720) rfl) rfl
theorem w_im_103 : Cond.instanceMethod (xY 103) ∈ xgw := xin (List.mem_of_getElem? (i := 718) (by decide +kernel)) rfl
theorem w_se_103 : Cond.selects (xCN 6) (xY 103) (xY 103) ∈ xgw := xin (List.mem_of_getElem? (i := 719) (by decide +kernel)) rfl
set_option maxRecDepth 20000 in
theorem w_co_104 : Cond.code (xY 104) (xB 104) (xnL 104) (xRt 104) ∈ xgw := xin (List.mem_of_getElem? (i := 724) rfl) rfl
theorem w_im_104 : Cond.instanceMethod (xY 104) ∈ xgw := xin (List.mem_of_getElem? (i := 722) (by decide +kernel)) rfl
theorem w_se_104 : Cond.selects (xCN 6) (xY 104) (xY 104) ∈ xgw := xin (List.mem_of_getElem? (i := 723) (by decide +kernel)) rfl
set_option maxRecDepth 20000 in
theorem w_co_105 : Cond.code (xY 105) (xB 105) (xnL 105) (xRt 105) ∈ xgw := xin (List.mem_of_getElem? (i := 728) rfl) rfl
theorem w_im_105 : Cond.instanceMethod (xY 105) ∈ xgw := xin (List.mem_of_getElem? (i := 726) (by decide +kernel)) rfl
theorem w_se_105 : Cond.selects (xCN 6) (xY 105) (xY 105) ∈ xgw := xin (List.mem_of_getElem? (i := 727) (by decide +kernel)) rfl
set_option maxRecDepth 20000 in
theorem w_co_106 : Cond.code (xY 106) (xB 106) (xnL 106) (xRt 106) ∈ xgw := xin (List.mem_of_getElem? (i := 732) rfl) rfl
theorem w_im_106 : Cond.instanceMethod (xY 106) ∈ xgw := xin (List.mem_of_getElem? (i := 730) (by decide +kernel)) rfl
theorem w_se_106 : Cond.selects (xCN 6) (xY 106) (xY 106) ∈ xgw := xin (List.mem_of_getElem? (i := 731) (by decide +kernel)) rfl
set_option maxRecDepth 20000 in
theorem w_co_107 : Cond.code (xY 107) (xB 107) (xnL 107) (xRt 107) ∈ xgw := xin (List.mem_of_getElem? (i := 736) rfl) rfl
theorem w_im_107 : Cond.instanceMethod (xY 107) ∈ xgw := xin (List.mem_of_getElem? (i := 734) (by decide +kernel)) rfl
theorem w_se_107 : Cond.selects (xCN 6) (xY 107) (xY 107) ∈ xgw := xin (List.mem_of_getElem? (i := 735) (by decide +kernel)) rfl
set_option maxRecDepth 20000 in
theorem w_co_108 : Cond.code (xY 108) (xB 108) (xnL 108) (xRt 108) ∈ xgw := xin (List.mem_of_getElem? (i := 740) rfl) rfl
theorem w_im_108 : Cond.instanceMethod (xY 108) ∈ xgw := xin (List.mem_of_getElem? (i := 738) (by decide +kernel)) rfl
theorem w_se_108 : Cond.selects (xCN 6) (xY 108) (xY 108) ∈ xgw := xin (List.mem_of_getElem? (i := 739) (by decide +kernel)) rfl
set_option maxRecDepth 20000 in
theorem w_co_109 : Cond.code (xY 109) (xB 109) (xnL 109) (xRt 109) ∈ xgw := xin (List.mem_of_getElem? (i := 744) rfl) rfl
theorem w_im_109 : Cond.instanceMethod (xY 109) ∈ xgw := xin (List.mem_of_getElem? (i := 742) (by decide +kernel)) rfl
theorem w_se_109 : Cond.selects (xCN 6) (xY 109) (xY 109) ∈ xgw := xin (List.mem_of_getElem? (i := 743) (by decide +kernel)) rfl
set_option maxRecDepth 20000 in
theorem w_co_110 : Cond.code (xY 110) (xB 110) (xnL 110) (xRt 110) ∈ xgw := xin (List.mem_of_getElem? (i := 748) rfl) rfl
theorem w_im_110 : Cond.instanceMethod (xY 110) ∈ xgw := xin (List.mem_of_getElem? (i := 746) (by decide +kernel)) rfl
theorem w_se_110 : Cond.selects (xCN 6) (xY 110) (xY 110) ∈ xgw := xin (List.mem_of_getElem? (i := 747) (by decide +kernel)) rfl
theorem w_oi : Cond.instanceMethod Lib.objectInit ∈ xgw := xin (List.mem_of_getElem? (i := 54) (by decide +kernel)) rfl
theorem w_oc : Cond.code Lib.objectInit ⟨#[0xb1]⟩ 1 none ∈ xgw := xin (List.mem_of_getElem? (i := 55) rfl) rfl
theorem w_an : Cond.native arraycopyName ∈ xgw := xin (List.mem_of_getElem? (i := 375) (by decide +kernel)) rfl
theorem w_as : Cond.static arraycopyName ∈ xgw := xin (List.mem_of_getElem? (i := 374) (by decide +kernel)) rfl
theorem w_ai : Cond.initialized "java/lang/System" ∈ xgw := xin (List.mem_of_getElem? (i := 45) (by decide +kernel)) rfl
theorem f_a0 : Cond.arrayClass .int ∈ xgw := xin (List.mem_of_getElem? (i := 72) (by decide +kernel)) rfl
theorem f_a1 : Cond.arrayClass .boolean ∈ xgw := xin (List.mem_of_getElem? (i := 596) (by decide +kernel)) rfl
theorem f_a2 : Cond.arrayClass .long ∈ xgw := xin (List.mem_of_getElem? (i := 597) (by decide +kernel)) rfl
theorem w_ml_0_1 : Cond.methodLink (xON 0) 1 Lib.objectInit ∈ xgw := xin (List.mem_of_getElem? (i := 53) (by decide +kernel)) rfl
theorem w_ml_0_18 : Cond.methodLink (xON 0) 18 (xY 3) ∈ xgw := xin (List.mem_of_getElem? (i := 75) (by decide +kernel)) rfl
theorem w_ml_0_23 : Cond.methodLink (xON 0) 23 (xY 8) ∈ xgw := xin (List.mem_of_getElem? (i := 229) (by decide +kernel)) rfl
theorem w_ml_0_31 : Cond.methodLink (xON 0) 31 (xY 13) ∈ xgw := xin (List.mem_of_getElem? (i := 248) (by decide +kernel)) rfl
theorem w_ml_0_35 : Cond.methodLink (xON 0) 35 (xY 19) ∈ xgw := xin (List.mem_of_getElem? (i := 272) (by decide +kernel)) rfl
theorem w_ml_0_49 : Cond.methodLink (xON 0) 49 (xY 64) ∈ xgw := xin (List.mem_of_getElem? (i := 448) (by decide +kernel)) rfl
theorem w_ml_0_55 : Cond.methodLink (xON 0) 55 (xY 66) ∈ xgw := xin (List.mem_of_getElem? (i := 456) (by decide +kernel)) rfl
theorem w_ml_0_67 : Cond.methodLink (xON 0) 67 (xY 17) ∈ xgw := xin (List.mem_of_getElem? (i := 476) (by decide +kernel)) rfl
theorem w_ml_0_71 : Cond.methodLink (xON 0) 71 (xY 71) ∈ xgw := xin (List.mem_of_getElem? (i := 477) (by decide +kernel)) rfl
theorem w_ml_1_3 : Cond.methodLink (xON 1) 3 Lib.objectInit ∈ xgw := xin (List.mem_of_getElem? (i := 78) (by decide +kernel)) rfl
theorem w_ml_1_52 : Cond.methodLink (xON 1) 52 (xY 14) ∈ xgw := xin (List.mem_of_getElem? (i := 252) (by decide +kernel)) rfl
theorem w_ml_1_56 : Cond.methodLink (xON 1) 56 (xY 16) ∈ xgw := xin (List.mem_of_getElem? (i := 259) (by decide +kernel)) rfl
theorem w_ml_1_77 : Cond.methodLink (xON 1) 77 (xY 17) ∈ xgw := xin (List.mem_of_getElem? (i := 263) (by decide +kernel)) rfl
theorem w_ml_1_81 : Cond.methodLink (xON 1) 81 (xY 18) ∈ xgw := xin (List.mem_of_getElem? (i := 267) (by decide +kernel)) rfl
theorem w_ml_1_90 : Cond.methodLink (xON 1) 90 (xY 20) ∈ xgw := xin (List.mem_of_getElem? (i := 276) (by decide +kernel)) rfl
theorem w_ml_1_94 : Cond.methodLink (xON 1) 94 (xY 23) ∈ xgw := xin (List.mem_of_getElem? (i := 289) (by decide +kernel)) rfl
theorem w_ml_1_98 : Cond.methodLink (xON 1) 98 (xY 24) ∈ xgw := xin (List.mem_of_getElem? (i := 290) (by decide +kernel)) rfl
theorem w_ml_1_101 : Cond.methodLink (xON 1) 101 (xY 25) ∈ xgw := xin (List.mem_of_getElem? (i := 294) (by decide +kernel)) rfl
theorem w_ml_1_104 : Cond.methodLink (xON 1) 104 (xY 28) ∈ xgw := xin (List.mem_of_getElem? (i := 303) (by decide +kernel)) rfl
theorem w_ml_1_131 : Cond.methodLink (xON 1) 131 (xY 29) ∈ xgw := xin (List.mem_of_getElem? (i := 307) (by decide +kernel)) rfl
theorem w_ml_1_135 : Cond.methodLink (xON 1) 135 (xY 30) ∈ xgw := xin (List.mem_of_getElem? (i := 311) (by decide +kernel)) rfl
theorem w_ml_1_108 : Cond.methodLink (xON 1) 108 (xY 21) ∈ xgw := xin (List.mem_of_getElem? (i := 315) (by decide +kernel)) rfl
theorem w_ml_1_111 : Cond.methodLink (xON 1) 111 (xY 31) ∈ xgw := xin (List.mem_of_getElem? (i := 316) (by decide +kernel)) rfl
theorem w_ml_1_115 : Cond.methodLink (xON 1) 115 (xY 32) ∈ xgw := xin (List.mem_of_getElem? (i := 320) (by decide +kernel)) rfl
theorem w_ml_1_138 : Cond.methodLink (xON 1) 138 (xY 33) ∈ xgw := xin (List.mem_of_getElem? (i := 324) (by decide +kernel)) rfl
theorem w_ml_1_151 : Cond.methodLink (xON 1) 151 (xY 34) ∈ xgw := xin (List.mem_of_getElem? (i := 328) (by decide +kernel)) rfl
theorem w_ml_1_154 : Cond.methodLink (xON 1) 154 (xY 35) ∈ xgw := xin (List.mem_of_getElem? (i := 331) (by decide +kernel)) rfl
theorem w_ml_1_157 : Cond.methodLink (xON 1) 157 (xY 36) ∈ xgw := xin (List.mem_of_getElem? (i := 335) (by decide +kernel)) rfl
theorem w_ml_1_160 : Cond.methodLink (xON 1) 160 (xY 37) ∈ xgw := xin (List.mem_of_getElem? (i := 338) (by decide +kernel)) rfl
theorem w_ml_1_169 : Cond.methodLink (xON 1) 169 (xY 38) ∈ xgw := xin (List.mem_of_getElem? (i := 342) (by decide +kernel)) rfl
theorem w_ml_1_177 : Cond.methodLink (xON 1) 177 (xY 39) ∈ xgw := xin (List.mem_of_getElem? (i := 346) (by decide +kernel)) rfl
theorem w_ml_1_181 : Cond.methodLink (xON 1) 181 (xY 40) ∈ xgw := xin (List.mem_of_getElem? (i := 350) (by decide +kernel)) rfl
theorem w_ml_1_184 : Cond.methodLink (xON 1) 184 (xY 41) ∈ xgw := xin (List.mem_of_getElem? (i := 355) (by decide +kernel)) rfl
theorem w_ml_1_173 : Cond.methodLink (xON 1) 173 (xY 42) ∈ xgw := xin (List.mem_of_getElem? (i := 358) (by decide +kernel)) rfl
theorem w_ml_1_166 : Cond.methodLink (xON 1) 166 (xY 43) ∈ xgw := xin (List.mem_of_getElem? (i := 362) (by decide +kernel)) rfl
theorem w_ml_1_141 : Cond.methodLink (xON 1) 141 (xY 44) ∈ xgw := xin (List.mem_of_getElem? (i := 365) (by decide +kernel)) rfl
theorem w_ml_1_192 : Cond.methodLink (xON 1) 192 (xY 45) ∈ xgw := xin (List.mem_of_getElem? (i := 369) (by decide +kernel)) rfl
theorem w_ml_1_118 : Cond.methodLink (xON 1) 118 (xY 46) ∈ xgw := xin (List.mem_of_getElem? (i := 376) (by decide +kernel)) rfl
theorem w_ml_1_196 : Cond.methodLink (xON 1) 196 arraycopyName ∈ xgw := xin (List.mem_of_getElem? (i := 379) (by decide +kernel)) rfl
theorem w_ml_1_145 : Cond.methodLink (xON 1) 145 (xY 47) ∈ xgw := xin (List.mem_of_getElem? (i := 380) (by decide +kernel)) rfl
theorem w_ml_1_205 : Cond.methodLink (xON 1) 205 (xY 48) ∈ xgw := xin (List.mem_of_getElem? (i := 384) (by decide +kernel)) rfl
theorem w_ml_1_208 : Cond.methodLink (xON 1) 208 (xY 51) ∈ xgw := xin (List.mem_of_getElem? (i := 396) (by decide +kernel)) rfl
theorem w_ml_1_223 : Cond.methodLink (xON 1) 223 (xY 52) ∈ xgw := xin (List.mem_of_getElem? (i := 400) (by decide +kernel)) rfl
theorem w_ml_1_229 : Cond.methodLink (xON 1) 229 (xY 53) ∈ xgw := xin (List.mem_of_getElem? (i := 404) (by decide +kernel)) rfl
theorem w_ml_1_233 : Cond.methodLink (xON 1) 233 (xY 54) ∈ xgw := xin (List.mem_of_getElem? (i := 407) (by decide +kernel)) rfl
theorem w_ml_1_148 : Cond.methodLink (xON 1) 148 (xY 55) ∈ xgw := xin (List.mem_of_getElem? (i := 410) (by decide +kernel)) rfl
theorem w_ml_1_226 : Cond.methodLink (xON 1) 226 (xY 56) ∈ xgw := xin (List.mem_of_getElem? (i := 414) (by decide +kernel)) rfl
theorem w_ml_1_236 : Cond.methodLink (xON 1) 236 (xY 49) ∈ xgw := xin (List.mem_of_getElem? (i := 418) (by decide +kernel)) rfl
theorem w_ml_1_245 : Cond.methodLink (xON 1) 245 (xY 57) ∈ xgw := xin (List.mem_of_getElem? (i := 419) (by decide +kernel)) rfl
theorem w_ml_1_252 : Cond.methodLink (xON 1) 252 (xY 59) ∈ xgw := xin (List.mem_of_getElem? (i := 428) (by decide +kernel)) rfl
theorem w_ml_1_123 : Cond.methodLink (xON 1) 123 (xY 60) ∈ xgw := xin (List.mem_of_getElem? (i := 432) (by decide +kernel)) rfl
theorem w_ml_2_3 : Cond.methodLink (xON 2) 3 Lib.objectInit ∈ xgw := xin (List.mem_of_getElem? (i := 84) (by decide +kernel)) rfl
theorem w_ml_2_22 : Cond.methodLink (xON 2) 22 (xY 15) ∈ xgw := xin (List.mem_of_getElem? (i := 256) (by decide +kernel)) rfl
theorem w_ml_3_3 : Cond.methodLink (xON 3) 3 Lib.objectInit ∈ xgw := xin (List.mem_of_getElem? (i := 102) (by decide +kernel)) rfl
theorem w_ml_3_50 : Cond.methodLink (xON 3) 50 (xY 49) ∈ xgw := xin (List.mem_of_getElem? (i := 388) (by decide +kernel)) rfl
theorem w_ml_3_53 : Cond.methodLink (xON 3) 53 (xY 50) ∈ xgw := xin (List.mem_of_getElem? (i := 392) (by decide +kernel)) rfl
theorem w_ml_3_57 : Cond.methodLink (xON 3) 57 (xY 15) ∈ xgw := xin (List.mem_of_getElem? (i := 423) (by decide +kernel)) rfl
theorem w_ml_3_63 : Cond.methodLink (xON 3) 63 (xY 58) ∈ xgw := xin (List.mem_of_getElem? (i := 424) (by decide +kernel)) rfl
theorem w_ml_4_3 : Cond.methodLink (xON 4) 3 Lib.objectInit ∈ xgw := xin (List.mem_of_getElem? (i := 152) (by decide +kernel)) rfl
theorem w_ml_4_18 : Cond.methodLink (xON 4) 18 (xY 15) ∈ xgw := xin (List.mem_of_getElem? (i := 271) (by decide +kernel)) rfl
theorem w_ml_4_28 : Cond.methodLink (xON 4) 28 arraycopyName ∈ xgw := xin (List.mem_of_getElem? (i := 373) (by decide +kernel)) rfl
theorem w_ml_4_34 : Cond.methodLink (xON 4) 34 (xY 72) ∈ xgw := xin (List.mem_of_getElem? (i := 481) (by decide +kernel)) rfl
theorem w_ml_5_3 : Cond.methodLink (xON 5) 3 Lib.objectInit ∈ xgw := xin (List.mem_of_getElem? (i := 61) (by decide +kernel)) rfl
theorem w_ml_5_15 : Cond.methodLink (xON 5) 15 (xY 9) ∈ xgw := xin (List.mem_of_getElem? (i := 233) (by decide +kernel)) rfl
theorem w_ml_5_23 : Cond.methodLink (xON 5) 23 (xY 21) ∈ xgw := xin (List.mem_of_getElem? (i := 280) (by decide +kernel)) rfl
theorem w_ml_5_27 : Cond.methodLink (xON 5) 27 (xY 22) ∈ xgw := xin (List.mem_of_getElem? (i := 283) (by decide +kernel)) rfl
theorem w_ml_5_30 : Cond.methodLink (xON 5) 30 (xY 23) ∈ xgw := xin (List.mem_of_getElem? (i := 286) (by decide +kernel)) rfl
theorem w_ml_5_33 : Cond.methodLink (xON 5) 33 (xY 26) ∈ xgw := xin (List.mem_of_getElem? (i := 297) (by decide +kernel)) rfl
theorem w_ml_5_36 : Cond.methodLink (xON 5) 36 (xY 27) ∈ xgw := xin (List.mem_of_getElem? (i := 300) (by decide +kernel)) rfl
theorem w_ml_6_1 : Cond.methodLink (xON 6) 1 Lib.objectInit ∈ xgw := xin (List.mem_of_getElem? (i := 492) (by decide +kernel)) rfl
theorem w_ml_6_102 : Cond.methodLink (xON 6) 102 (xY 78) ∈ xgw := xin (List.mem_of_getElem? (i := 614) (by decide +kernel)) rfl
theorem w_ml_6_55 : Cond.methodLink (xON 6) 55 (xY 79) ∈ xgw := xin (List.mem_of_getElem? (i := 618) (by decide +kernel)) rfl
theorem w_ml_6_110 : Cond.methodLink (xON 6) 110 (xY 80) ∈ xgw := xin (List.mem_of_getElem? (i := 621) (by decide +kernel)) rfl
theorem w_ml_6_59 : Cond.methodLink (xON 6) 59 (xY 81) ∈ xgw := xin (List.mem_of_getElem? (i := 625) (by decide +kernel)) rfl
theorem w_ml_6_106 : Cond.methodLink (xON 6) 106 (xY 82) ∈ xgw := xin (List.mem_of_getElem? (i := 628) (by decide +kernel)) rfl
theorem w_ml_6_113 : Cond.methodLink (xON 6) 113 (xY 83) ∈ xgw := xin (List.mem_of_getElem? (i := 632) (by decide +kernel)) rfl
theorem w_ml_6_62 : Cond.methodLink (xON 6) 62 (xY 84) ∈ xgw := xin (List.mem_of_getElem? (i := 636) (by decide +kernel)) rfl
theorem w_ml_6_116 : Cond.methodLink (xON 6) 116 (xY 85) ∈ xgw := xin (List.mem_of_getElem? (i := 639) (by decide +kernel)) rfl
theorem w_ml_6_120 : Cond.methodLink (xON 6) 120 (xY 86) ∈ xgw := xin (List.mem_of_getElem? (i := 643) (by decide +kernel)) rfl
theorem w_ml_6_123 : Cond.methodLink (xON 6) 123 (xY 87) ∈ xgw := xin (List.mem_of_getElem? (i := 647) (by decide +kernel)) rfl
theorem w_ml_6_141 : Cond.methodLink (xON 6) 141 (xY 88) ∈ xgw := xin (List.mem_of_getElem? (i := 651) (by decide +kernel)) rfl
theorem w_ml_6_144 : Cond.methodLink (xON 6) 144 (xY 89) ∈ xgw := xin (List.mem_of_getElem? (i := 654) (by decide +kernel)) rfl
theorem w_ml_6_150 : Cond.methodLink (xON 6) 150 (xY 90) ∈ xgw := xin (List.mem_of_getElem? (i := 658) (by decide +kernel)) rfl
theorem w_ml_6_154 : Cond.methodLink (xON 6) 154 (xY 91) ∈ xgw := xin (List.mem_of_getElem? (i := 664) (by decide +kernel)) rfl
theorem w_ml_6_126 : Cond.methodLink (xON 6) 126 (xY 92) ∈ xgw := xin (List.mem_of_getElem? (i := 670) (by decide +kernel)) rfl
theorem w_ml_6_200 : Cond.methodLink (xON 6) 200 (xY 93) ∈ xgw := xin (List.mem_of_getElem? (i := 674) (by decide +kernel)) rfl
theorem w_ml_6_203 : Cond.methodLink (xON 6) 203 (xY 94) ∈ xgw := xin (List.mem_of_getElem? (i := 678) (by decide +kernel)) rfl
theorem w_ml_6_206 : Cond.methodLink (xON 6) 206 (xY 95) ∈ xgw := xin (List.mem_of_getElem? (i := 682) (by decide +kernel)) rfl
theorem w_ml_6_181 : Cond.methodLink (xON 6) 181 (xY 96) ∈ xgw := xin (List.mem_of_getElem? (i := 686) (by decide +kernel)) rfl
theorem w_ml_6_177 : Cond.methodLink (xON 6) 177 (xY 97) ∈ xgw := xin (List.mem_of_getElem? (i := 690) (by decide +kernel)) rfl
theorem w_ml_6_209 : Cond.methodLink (xON 6) 209 (xY 98) ∈ xgw := xin (List.mem_of_getElem? (i := 694) (by decide +kernel)) rfl
theorem w_ml_6_212 : Cond.methodLink (xON 6) 212 (xY 99) ∈ xgw := xin (List.mem_of_getElem? (i := 698) (by decide +kernel)) rfl
theorem w_ml_6_190 : Cond.methodLink (xON 6) 190 (xY 100) ∈ xgw := xin (List.mem_of_getElem? (i := 702) (by decide +kernel)) rfl
theorem w_ml_6_215 : Cond.methodLink (xON 6) 215 (xY 101) ∈ xgw := xin (List.mem_of_getElem? (i := 708) (by decide +kernel)) rfl
theorem w_ml_6_196 : Cond.methodLink (xON 6) 196 (xY 102) ∈ xgw := xin (List.mem_of_getElem? (i := 712) (by decide +kernel)) rfl
theorem w_ml_7_9 : Cond.methodLink (xON 7) 9 (xY 1) ∈ xgw := xin (List.mem_of_getElem? (i := 50) (by decide +kernel)) rfl
theorem w_ml_7_13 : Cond.methodLink (xON 7) 13 (xY 7) ∈ xgw := xin (List.mem_of_getElem? (i := 225) (by decide +kernel)) rfl
theorem w_ml_7_18 : Cond.methodLink (xON 7) 18 (xY 10) ∈ xgw := xin (List.mem_of_getElem? (i := 236) (by decide +kernel)) rfl
theorem w_ml_7_23 : Cond.methodLink (xON 7) 23 (xY 11) ∈ xgw := xin (List.mem_of_getElem? (i := 240) (by decide +kernel)) rfl
theorem w_ml_7_27 : Cond.methodLink (xON 7) 27 (xY 12) ∈ xgw := xin (List.mem_of_getElem? (i := 244) (by decide +kernel)) rfl
theorem w_ml_7_32 : Cond.methodLink (xON 7) 32 (xY 61) ∈ xgw := xin (List.mem_of_getElem? (i := 436) (by decide +kernel)) rfl
theorem w_ml_7_36 : Cond.methodLink (xON 7) 36 (xY 62) ∈ xgw := xin (List.mem_of_getElem? (i := 440) (by decide +kernel)) rfl
theorem w_ml_7_40 : Cond.methodLink (xON 7) 40 (xY 63) ∈ xgw := xin (List.mem_of_getElem? (i := 444) (by decide +kernel)) rfl
theorem w_ml_7_44 : Cond.methodLink (xON 7) 44 (xY 65) ∈ xgw := xin (List.mem_of_getElem? (i := 452) (by decide +kernel)) rfl
theorem w_ml_7_48 : Cond.methodLink (xON 7) 48 (xY 67) ∈ xgw := xin (List.mem_of_getElem? (i := 460) (by decide +kernel)) rfl
theorem w_ml_7_52 : Cond.methodLink (xON 7) 52 (xY 68) ∈ xgw := xin (List.mem_of_getElem? (i := 464) (by decide +kernel)) rfl
theorem w_ml_7_56 : Cond.methodLink (xON 7) 56 (xY 69) ∈ xgw := xin (List.mem_of_getElem? (i := 468) (by decide +kernel)) rfl
theorem w_ml_7_60 : Cond.methodLink (xON 7) 60 (xY 70) ∈ xgw := xin (List.mem_of_getElem? (i := 472) (by decide +kernel)) rfl
theorem w_ml_7_12 : Cond.methodLink (xON 7) 12 (xY 73) ∈ xgw := xin (List.mem_of_getElem? (i := 489) (by decide +kernel)) rfl
theorem w_ml_7_17 : Cond.methodLink (xON 7) 17 (xY 74) ∈ xgw := xin (List.mem_of_getElem? (i := 598) (by decide +kernel)) rfl
theorem w_ml_7_22 : Cond.methodLink (xON 7) 22 (xY 75) ∈ xgw := xin (List.mem_of_getElem? (i := 602) (by decide +kernel)) rfl
theorem w_ml_7_26 : Cond.methodLink (xON 7) 26 (xY 76) ∈ xgw := xin (List.mem_of_getElem? (i := 606) (by decide +kernel)) rfl
theorem w_ml_7_31 : Cond.methodLink (xON 7) 31 (xY 77) ∈ xgw := xin (List.mem_of_getElem? (i := 610) (by decide +kernel)) rfl
theorem w_ml_7_35 : Cond.methodLink (xON 7) 35 (xY 103) ∈ xgw := xin (List.mem_of_getElem? (i := 717) (by decide +kernel)) rfl
theorem w_ml_7_39 : Cond.methodLink (xON 7) 39 (xY 104) ∈ xgw := xin (List.mem_of_getElem? (i := 721) (by decide +kernel)) rfl
theorem w_ml_7_43 : Cond.methodLink (xON 7) 43 (xY 105) ∈ xgw := xin (List.mem_of_getElem? (i := 725) (by decide +kernel)) rfl
theorem w_ml_7_47 : Cond.methodLink (xON 7) 47 (xY 106) ∈ xgw := xin (List.mem_of_getElem? (i := 729) (by decide +kernel)) rfl
theorem w_ml_7_51 : Cond.methodLink (xON 7) 51 (xY 107) ∈ xgw := xin (List.mem_of_getElem? (i := 733) (by decide +kernel)) rfl
theorem w_ml_7_55 : Cond.methodLink (xON 7) 55 (xY 108) ∈ xgw := xin (List.mem_of_getElem? (i := 737) (by decide +kernel)) rfl
theorem w_ml_7_59 : Cond.methodLink (xON 7) 59 (xY 109) ∈ xgw := xin (List.mem_of_getElem? (i := 741) (by decide +kernel)) rfl
theorem w_ml_7_63 : Cond.methodLink (xON 7) 63 (xY 110) ∈ xgw := xin (List.mem_of_getElem? (i := 745) (by decide +kernel)) rfl
theorem w_fl_0_27 : Cond.fieldLink (xON 0) 27 (xCN 5) (xFd 5 1).1 (xFd 5 1).2.1 ∈ xgw := xin (List.mem_of_getElem? (i := 65) (by decide +kernel)) rfl
theorem w_fl_0_45 : Cond.fieldLink (xON 0) 45 (xCN 1) (xFd 1 0).1 (xFd 1 0).2.1 ∈ xgw := xin (List.mem_of_getElem? (i := 167) (by decide +kernel)) rfl
theorem w_fl_0_39 : Cond.fieldLink (xON 0) 39 (xCN 1) (xFd 1 10).1 (xFd 1 10).2.1 ∈ xgw := xin (List.mem_of_getElem? (i := 178) (by decide +kernel)) rfl
theorem w_fl_0_42 : Cond.fieldLink (xON 0) 42 (xCN 1) (xFd 1 11).1 (xFd 1 11).2.1 ∈ xgw := xin (List.mem_of_getElem? (i := 180) (by decide +kernel)) rfl
theorem w_fl_0_58 : Cond.fieldLink (xON 0) 58 (xCN 1) (xFd 1 12).1 (xFd 1 12).2.1 ∈ xgw := xin (List.mem_of_getElem? (i := 182) (by decide +kernel)) rfl
theorem w_fl_0_61 : Cond.fieldLink (xON 0) 61 (xCN 1) (xFd 1 13).1 (xFd 1 13).2.1 ∈ xgw := xin (List.mem_of_getElem? (i := 184) (by decide +kernel)) rfl
theorem w_fl_0_64 : Cond.fieldLink (xON 0) 64 (xCN 1) (xFd 1 14).1 (xFd 1 14).2.1 ∈ xgw := xin (List.mem_of_getElem? (i := 186) (by decide +kernel)) rfl
theorem w_fl_0_10 : Cond.fieldLink (xON 0) 10 (xCN 0) (xFd 0 0).1 (xFd 0 0).2.1 ∈ xgw := xin (List.mem_of_getElem? (i := 218) (by decide +kernel)) rfl
theorem w_fl_0_19 : Cond.fieldLink (xON 0) 19 (xCN 0) (xFd 0 1).1 (xFd 0 1).2.1 ∈ xgw := xin (List.mem_of_getElem? (i := 219) (by decide +kernel)) rfl
theorem w_fl_1_87 : Cond.fieldLink (xON 1) 87 (xCN 5) (xFd 5 0).1 (xFd 5 0).2.1 ∈ xgw := xin (List.mem_of_getElem? (i := 63) (by decide +kernel)) rfl
theorem w_fl_1_82 : Cond.fieldLink (xON 1) 82 (xCN 5) (xFd 5 1).1 (xFd 5 1).2.1 ∈ xgw := xin (List.mem_of_getElem? (i := 66) (by decide +kernel)) rfl
theorem w_fl_1_242 : Cond.fieldLink (xON 1) 242 (xCN 2) (xFd 2 1).1 (xFd 2 1).2.1 ∈ xgw := xin (List.mem_of_getElem? (i := 87) (by decide +kernel)) rfl
theorem w_fl_1_239 : Cond.fieldLink (xON 1) 239 (xCN 2) (xFd 2 2).1 (xFd 2 2).2.1 ∈ xgw := xin (List.mem_of_getElem? (i := 89) (by decide +kernel)) rfl
theorem w_fl_1_163 : Cond.fieldLink (xON 1) 163 (xCN 3) (xFd 3 6).1 (xFd 3 6).2.1 ∈ xgw := xin (List.mem_of_getElem? (i := 110) (by decide +kernel)) rfl
theorem w_fl_1_127 : Cond.fieldLink (xON 1) 127 (xCN 3) (xFd 3 7).1 (xFd 3 7).2.1 ∈ xgw := xin (List.mem_of_getElem? (i := 112) (by decide +kernel)) rfl
theorem w_fl_1_211 : Cond.fieldLink (xON 1) 211 (xCN 3) (xFd 3 8).1 (xFd 3 8).2.1 ∈ xgw := xin (List.mem_of_getElem? (i := 114) (by decide +kernel)) rfl
theorem w_fl_1_214 : Cond.fieldLink (xON 1) 214 (xCN 3) (xFd 3 9).1 (xFd 3 9).2.1 ∈ xgw := xin (List.mem_of_getElem? (i := 116) (by decide +kernel)) rfl
theorem w_fl_1_217 : Cond.fieldLink (xON 1) 217 (xCN 3) (xFd 3 10).1 (xFd 3 10).2.1 ∈ xgw := xin (List.mem_of_getElem? (i := 118) (by decide +kernel)) rfl
theorem w_fl_1_220 : Cond.fieldLink (xON 1) 220 (xCN 3) (xFd 3 11).1 (xFd 3 11).2.1 ∈ xgw := xin (List.mem_of_getElem? (i := 120) (by decide +kernel)) rfl
theorem w_fl_1_188 : Cond.fieldLink (xON 1) 188 (xCN 4) (xFd 4 0).1 (xFd 4 0).2.1 ∈ xgw := xin (List.mem_of_getElem? (i := 154) (by decide +kernel)) rfl
theorem w_fl_1_249 : Cond.fieldLink (xON 1) 249 (xCN 4) (xFd 4 1).1 (xFd 4 1).2.1 ∈ xgw := xin (List.mem_of_getElem? (i := 156) (by decide +kernel)) rfl
theorem w_fl_1_202 : Cond.fieldLink (xON 1) 202 (xCN 4) (xFd 4 2).1 (xFd 4 2).2.1 ∈ xgw := xin (List.mem_of_getElem? (i := 158) (by decide +kernel)) rfl
theorem w_fl_1_12 : Cond.fieldLink (xON 1) 12 (xCN 1) (xFd 1 0).1 (xFd 1 0).2.1 ∈ xgw := xin (List.mem_of_getElem? (i := 166) (by decide +kernel)) rfl
theorem w_fl_1_21 : Cond.fieldLink (xON 1) 21 (xCN 1) (xFd 1 1).1 (xFd 1 1).2.1 ∈ xgw := xin (List.mem_of_getElem? (i := 168) (by decide +kernel)) rfl
theorem w_fl_1_27 : Cond.fieldLink (xON 1) 27 (xCN 1) (xFd 1 2).1 (xFd 1 2).2.1 ∈ xgw := xin (List.mem_of_getElem? (i := 169) (by decide +kernel)) rfl
theorem w_fl_1_31 : Cond.fieldLink (xON 1) 31 (xCN 1) (xFd 1 3).1 (xFd 1 3).2.1 ∈ xgw := xin (List.mem_of_getElem? (i := 170) (by decide +kernel)) rfl
theorem w_fl_1_35 : Cond.fieldLink (xON 1) 35 (xCN 1) (xFd 1 4).1 (xFd 1 4).2.1 ∈ xgw := xin (List.mem_of_getElem? (i := 171) (by decide +kernel)) rfl
theorem w_fl_1_38 : Cond.fieldLink (xON 1) 38 (xCN 1) (xFd 1 5).1 (xFd 1 5).2.1 ∈ xgw := xin (List.mem_of_getElem? (i := 172) (by decide +kernel)) rfl
theorem w_fl_1_41 : Cond.fieldLink (xON 1) 41 (xCN 1) (xFd 1 6).1 (xFd 1 6).2.1 ∈ xgw := xin (List.mem_of_getElem? (i := 173) (by decide +kernel)) rfl
theorem w_fl_1_59 : Cond.fieldLink (xON 1) 59 (xCN 1) (xFd 1 7).1 (xFd 1 7).2.1 ∈ xgw := xin (List.mem_of_getElem? (i := 174) (by decide +kernel)) rfl
theorem w_fl_1_49 : Cond.fieldLink (xON 1) 49 (xCN 1) (xFd 1 8).1 (xFd 1 8).2.1 ∈ xgw := xin (List.mem_of_getElem? (i := 175) (by decide +kernel)) rfl
theorem w_fl_1_62 : Cond.fieldLink (xON 1) 62 (xCN 1) (xFd 1 9).1 (xFd 1 9).2.1 ∈ xgw := xin (List.mem_of_getElem? (i := 176) (by decide +kernel)) rfl
theorem w_fl_1_65 : Cond.fieldLink (xON 1) 65 (xCN 1) (xFd 1 10).1 (xFd 1 10).2.1 ∈ xgw := xin (List.mem_of_getElem? (i := 177) (by decide +kernel)) rfl
theorem w_fl_1_45 : Cond.fieldLink (xON 1) 45 (xCN 1) (xFd 1 11).1 (xFd 1 11).2.1 ∈ xgw := xin (List.mem_of_getElem? (i := 179) (by decide +kernel)) rfl
theorem w_fl_1_68 : Cond.fieldLink (xON 1) 68 (xCN 1) (xFd 1 12).1 (xFd 1 12).2.1 ∈ xgw := xin (List.mem_of_getElem? (i := 181) (by decide +kernel)) rfl
theorem w_fl_1_71 : Cond.fieldLink (xON 1) 71 (xCN 1) (xFd 1 13).1 (xFd 1 13).2.1 ∈ xgw := xin (List.mem_of_getElem? (i := 183) (by decide +kernel)) rfl
theorem w_fl_1_74 : Cond.fieldLink (xON 1) 74 (xCN 1) (xFd 1 14).1 (xFd 1 14).2.1 ∈ xgw := xin (List.mem_of_getElem? (i := 185) (by decide +kernel)) rfl
theorem w_fl_2_9 : Cond.fieldLink (xON 2) 9 (xCN 2) (xFd 2 0).1 (xFd 2 0).2.1 ∈ xgw := xin (List.mem_of_getElem? (i := 85) (by decide +kernel)) rfl
theorem w_fl_2_15 : Cond.fieldLink (xON 2) 15 (xCN 2) (xFd 2 1).1 (xFd 2 1).2.1 ∈ xgw := xin (List.mem_of_getElem? (i := 86) (by decide +kernel)) rfl
theorem w_fl_2_19 : Cond.fieldLink (xON 2) 19 (xCN 2) (xFd 2 2).1 (xFd 2 2).2.1 ∈ xgw := xin (List.mem_of_getElem? (i := 88) (by decide +kernel)) rfl
theorem w_fl_3_9 : Cond.fieldLink (xON 3) 9 (xCN 3) (xFd 3 0).1 (xFd 3 0).2.1 ∈ xgw := xin (List.mem_of_getElem? (i := 103) (by decide +kernel)) rfl
theorem w_fl_3_15 : Cond.fieldLink (xON 3) 15 (xCN 3) (xFd 3 1).1 (xFd 3 1).2.1 ∈ xgw := xin (List.mem_of_getElem? (i := 104) (by decide +kernel)) rfl
theorem w_fl_3_18 : Cond.fieldLink (xON 3) 18 (xCN 3) (xFd 3 2).1 (xFd 3 2).2.1 ∈ xgw := xin (List.mem_of_getElem? (i := 105) (by decide +kernel)) rfl
theorem w_fl_3_21 : Cond.fieldLink (xON 3) 21 (xCN 3) (xFd 3 3).1 (xFd 3 3).2.1 ∈ xgw := xin (List.mem_of_getElem? (i := 106) (by decide +kernel)) rfl
theorem w_fl_3_24 : Cond.fieldLink (xON 3) 24 (xCN 3) (xFd 3 4).1 (xFd 3 4).2.1 ∈ xgw := xin (List.mem_of_getElem? (i := 107) (by decide +kernel)) rfl
theorem w_fl_3_27 : Cond.fieldLink (xON 3) 27 (xCN 3) (xFd 3 5).1 (xFd 3 5).2.1 ∈ xgw := xin (List.mem_of_getElem? (i := 108) (by decide +kernel)) rfl
theorem w_fl_3_31 : Cond.fieldLink (xON 3) 31 (xCN 3) (xFd 3 6).1 (xFd 3 6).2.1 ∈ xgw := xin (List.mem_of_getElem? (i := 109) (by decide +kernel)) rfl
theorem w_fl_3_34 : Cond.fieldLink (xON 3) 34 (xCN 3) (xFd 3 7).1 (xFd 3 7).2.1 ∈ xgw := xin (List.mem_of_getElem? (i := 111) (by decide +kernel)) rfl
theorem w_fl_3_38 : Cond.fieldLink (xON 3) 38 (xCN 3) (xFd 3 8).1 (xFd 3 8).2.1 ∈ xgw := xin (List.mem_of_getElem? (i := 113) (by decide +kernel)) rfl
theorem w_fl_3_44 : Cond.fieldLink (xON 3) 44 (xCN 3) (xFd 3 9).1 (xFd 3 9).2.1 ∈ xgw := xin (List.mem_of_getElem? (i := 115) (by decide +kernel)) rfl
theorem w_fl_3_41 : Cond.fieldLink (xON 3) 41 (xCN 3) (xFd 3 10).1 (xFd 3 10).2.1 ∈ xgw := xin (List.mem_of_getElem? (i := 117) (by decide +kernel)) rfl
theorem w_fl_3_47 : Cond.fieldLink (xON 3) 47 (xCN 3) (xFd 3 11).1 (xFd 3 11).2.1 ∈ xgw := xin (List.mem_of_getElem? (i := 119) (by decide +kernel)) rfl
theorem w_fl_4_9 : Cond.fieldLink (xON 4) 9 (xCN 4) (xFd 4 0).1 (xFd 4 0).2.1 ∈ xgw := xin (List.mem_of_getElem? (i := 153) (by decide +kernel)) rfl
theorem w_fl_4_15 : Cond.fieldLink (xON 4) 15 (xCN 4) (xFd 4 1).1 (xFd 4 1).2.1 ∈ xgw := xin (List.mem_of_getElem? (i := 155) (by decide +kernel)) rfl
theorem w_fl_4_24 : Cond.fieldLink (xON 4) 24 (xCN 4) (xFd 4 2).1 (xFd 4 2).2.1 ∈ xgw := xin (List.mem_of_getElem? (i := 157) (by decide +kernel)) rfl
theorem w_fl_5_9 : Cond.fieldLink (xON 5) 9 (xCN 5) (xFd 5 0).1 (xFd 5 0).2.1 ∈ xgw := xin (List.mem_of_getElem? (i := 62) (by decide +kernel)) rfl
theorem w_fl_5_19 : Cond.fieldLink (xON 5) 19 (xCN 5) (xFd 5 1).1 (xFd 5 1).2.1 ∈ xgw := xin (List.mem_of_getElem? (i := 64) (by decide +kernel)) rfl
theorem w_fl_6_7 : Cond.fieldLink (xON 6) 7 (xCN 6) (xFd 6 0).1 (xFd 6 0).2.1 ∈ xgw := xin (List.mem_of_getElem? (i := 493) (by decide +kernel)) rfl
theorem w_fl_6_52 : Cond.fieldLink (xON 6) 52 (xCN 6) (xFd 6 1).1 (xFd 6 1).2.1 ∈ xgw := xin (List.mem_of_getElem? (i := 494) (by decide +kernel)) rfl
theorem w_fl_6_65 : Cond.fieldLink (xON 6) 65 (xCN 6) (xFd 6 2).1 (xFd 6 2).2.1 ∈ xgw := xin (List.mem_of_getElem? (i := 495) (by decide +kernel)) rfl
theorem w_fl_6_68 : Cond.fieldLink (xON 6) 68 (xCN 6) (xFd 6 3).1 (xFd 6 3).2.1 ∈ xgw := xin (List.mem_of_getElem? (i := 496) (by decide +kernel)) rfl
theorem w_fl_6_13 : Cond.fieldLink (xON 6) 13 (xCN 6) (xFd 6 4).1 (xFd 6 4).2.1 ∈ xgw := xin (List.mem_of_getElem? (i := 497) (by decide +kernel)) rfl
theorem w_fl_6_16 : Cond.fieldLink (xON 6) 16 (xCN 6) (xFd 6 5).1 (xFd 6 5).2.1 ∈ xgw := xin (List.mem_of_getElem? (i := 498) (by decide +kernel)) rfl
theorem w_fl_6_20 : Cond.fieldLink (xON 6) 20 (xCN 6) (xFd 6 6).1 (xFd 6 6).2.1 ∈ xgw := xin (List.mem_of_getElem? (i := 499) (by decide +kernel)) rfl
theorem w_fl_6_71 : Cond.fieldLink (xON 6) 71 (xCN 6) (xFd 6 7).1 (xFd 6 7).2.1 ∈ xgw := xin (List.mem_of_getElem? (i := 500) (by decide +kernel)) rfl
theorem w_fl_6_24 : Cond.fieldLink (xON 6) 24 (xCN 6) (xFd 6 8).1 (xFd 6 8).2.1 ∈ xgw := xin (List.mem_of_getElem? (i := 501) (by decide +kernel)) rfl
theorem w_fl_6_27 : Cond.fieldLink (xON 6) 27 (xCN 6) (xFd 6 9).1 (xFd 6 9).2.1 ∈ xgw := xin (List.mem_of_getElem? (i := 502) (by decide +kernel)) rfl
theorem w_fl_6_30 : Cond.fieldLink (xON 6) 30 (xCN 6) (xFd 6 10).1 (xFd 6 10).2.1 ∈ xgw := xin (List.mem_of_getElem? (i := 503) (by decide +kernel)) rfl
theorem w_fl_6_74 : Cond.fieldLink (xON 6) 74 (xCN 6) (xFd 6 11).1 (xFd 6 11).2.1 ∈ xgw := xin (List.mem_of_getElem? (i := 504) (by decide +kernel)) rfl
theorem w_fl_6_33 : Cond.fieldLink (xON 6) 33 (xCN 6) (xFd 6 12).1 (xFd 6 12).2.1 ∈ xgw := xin (List.mem_of_getElem? (i := 505) (by decide +kernel)) rfl
theorem w_fl_6_36 : Cond.fieldLink (xON 6) 36 (xCN 6) (xFd 6 13).1 (xFd 6 13).2.1 ∈ xgw := xin (List.mem_of_getElem? (i := 506) (by decide +kernel)) rfl
theorem w_fl_6_39 : Cond.fieldLink (xON 6) 39 (xCN 6) (xFd 6 14).1 (xFd 6 14).2.1 ∈ xgw := xin (List.mem_of_getElem? (i := 507) (by decide +kernel)) rfl
theorem w_fl_6_42 : Cond.fieldLink (xON 6) 42 (xCN 6) (xFd 6 15).1 (xFd 6 15).2.1 ∈ xgw := xin (List.mem_of_getElem? (i := 508) (by decide +kernel)) rfl
theorem w_fl_6_162 : Cond.fieldLink (xON 6) 162 (xCN 6) (xFd 6 16).1 (xFd 6 16).2.1 ∈ xgw := xin (List.mem_of_getElem? (i := 509) (by decide +kernel)) rfl
theorem w_fl_6_147 : Cond.fieldLink (xON 6) 147 (xCN 6) (xFd 6 17).1 (xFd 6 17).2.1 ∈ xgw := xin (List.mem_of_getElem? (i := 510) (by decide +kernel)) rfl
theorem w_fl_6_77 : Cond.fieldLink (xON 6) 77 (xCN 6) (xFd 6 18).1 (xFd 6 18).2.1 ∈ xgw := xin (List.mem_of_getElem? (i := 511) (by decide +kernel)) rfl
theorem w_fl_6_81 : Cond.fieldLink (xON 6) 81 (xCN 6) (xFd 6 19).1 (xFd 6 19).2.1 ∈ xgw := xin (List.mem_of_getElem? (i := 512) (by decide +kernel)) rfl
theorem w_fl_6_171 : Cond.fieldLink (xON 6) 171 (xCN 6) (xFd 6 20).1 (xFd 6 20).2.1 ∈ xgw := xin (List.mem_of_getElem? (i := 513) (by decide +kernel)) rfl
theorem w_fl_6_174 : Cond.fieldLink (xON 6) 174 (xCN 6) (xFd 6 21).1 (xFd 6 21).2.1 ∈ xgw := xin (List.mem_of_getElem? (i := 514) (by decide +kernel)) rfl
theorem w_fl_6_165 : Cond.fieldLink (xON 6) 165 (xCN 6) (xFd 6 22).1 (xFd 6 22).2.1 ∈ xgw := xin (List.mem_of_getElem? (i := 515) (by decide +kernel)) rfl
theorem w_fl_6_168 : Cond.fieldLink (xON 6) 168 (xCN 6) (xFd 6 23).1 (xFd 6 23).2.1 ∈ xgw := xin (List.mem_of_getElem? (i := 516) (by decide +kernel)) rfl
theorem w_fl_6_45 : Cond.fieldLink (xON 6) 45 (xCN 6) (xFd 6 24).1 (xFd 6 24).2.1 ∈ xgw := xin (List.mem_of_getElem? (i := 517) (by decide +kernel)) rfl
theorem w_fl_6_84 : Cond.fieldLink (xON 6) 84 (xCN 6) (xFd 6 25).1 (xFd 6 25).2.1 ∈ xgw := xin (List.mem_of_getElem? (i := 518) (by decide +kernel)) rfl
theorem w_fl_6_99 : Cond.fieldLink (xON 6) 99 (xCN 6) (xFd 6 26).1 (xFd 6 26).2.1 ∈ xgw := xin (List.mem_of_getElem? (i := 519) (by decide +kernel)) rfl
theorem w_fl_6_48 : Cond.fieldLink (xON 6) 48 (xCN 6) (xFd 6 27).1 (xFd 6 27).2.1 ∈ xgw := xin (List.mem_of_getElem? (i := 520) (by decide +kernel)) rfl
theorem w_fl_6_87 : Cond.fieldLink (xON 6) 87 (xCN 6) (xFd 6 28).1 (xFd 6 28).2.1 ∈ xgw := xin (List.mem_of_getElem? (i := 521) (by decide +kernel)) rfl
theorem w_fl_6_90 : Cond.fieldLink (xON 6) 90 (xCN 6) (xFd 6 29).1 (xFd 6 29).2.1 ∈ xgw := xin (List.mem_of_getElem? (i := 522) (by decide +kernel)) rfl
theorem w_fl_6_93 : Cond.fieldLink (xON 6) 93 (xCN 6) (xFd 6 30).1 (xFd 6 30).2.1 ∈ xgw := xin (List.mem_of_getElem? (i := 523) (by decide +kernel)) rfl
theorem w_fl_6_96 : Cond.fieldLink (xON 6) 96 (xCN 6) (xFd 6 31).1 (xFd 6 31).2.1 ∈ xgw := xin (List.mem_of_getElem? (i := 524) (by decide +kernel)) rfl
theorem w_fl_6_130 : Cond.fieldLink (xON 6) 130 (xCN 6) (xFd 6 32).1 (xFd 6 32).2.1 ∈ xgw := xin (List.mem_of_getElem? (i := 525) (by decide +kernel)) rfl
theorem w_fl_6_134 : Cond.fieldLink (xON 6) 134 (xCN 6) (xFd 6 33).1 (xFd 6 33).2.1 ∈ xgw := xin (List.mem_of_getElem? (i := 526) (by decide +kernel)) rfl
theorem w_ib_0 : Cond.instantiable (xCN 0) (xNF 0) ∈ xgw := xin (List.mem_of_getElem? (i := 49) (by decide +kernel)) rfl
theorem w_ly_0_0 : u_lay (xCN 0) (xT 0) 0 ∈ xgw := xin (List.mem_of_getElem? (i := 220) (by decide +kernel)) rfl
theorem w_ly_0_1 : u_lay (xCN 0) (xT 0) 1 ∈ xgw := xin (List.mem_of_getElem? (i := 222) (by decide +kernel)) rfl
theorem w_ib_1 : Cond.instantiable (xCN 1) (xNF 1) ∈ xgw := xin (List.mem_of_getElem? (i := 74) (by decide +kernel)) rfl
theorem w_ly_1_0 : u_lay (xCN 1) (xT 1) 0 ∈ xgw := xin (List.mem_of_getElem? (i := 187) (by decide +kernel)) rfl
theorem w_ly_1_1 : u_lay (xCN 1) (xT 1) 1 ∈ xgw := xin (List.mem_of_getElem? (i := 189) (by decide +kernel)) rfl
theorem w_ly_1_2 : u_lay (xCN 1) (xT 1) 2 ∈ xgw := xin (List.mem_of_getElem? (i := 191) (by decide +kernel)) rfl
theorem w_ly_1_3 : u_lay (xCN 1) (xT 1) 3 ∈ xgw := xin (List.mem_of_getElem? (i := 193) (by decide +kernel)) rfl
theorem w_ly_1_4 : u_lay (xCN 1) (xT 1) 4 ∈ xgw := xin (List.mem_of_getElem? (i := 195) (by decide +kernel)) rfl
theorem w_ly_1_5 : u_lay (xCN 1) (xT 1) 5 ∈ xgw := xin (List.mem_of_getElem? (i := 197) (by decide +kernel)) rfl
theorem w_ly_1_6 : u_lay (xCN 1) (xT 1) 6 ∈ xgw := xin (List.mem_of_getElem? (i := 199) (by decide +kernel)) rfl
theorem w_ly_1_7 : u_lay (xCN 1) (xT 1) 7 ∈ xgw := xin (List.mem_of_getElem? (i := 201) (by decide +kernel)) rfl
theorem w_ly_1_8 : u_lay (xCN 1) (xT 1) 8 ∈ xgw := xin (List.mem_of_getElem? (i := 203) (by decide +kernel)) rfl
theorem w_ly_1_9 : u_lay (xCN 1) (xT 1) 9 ∈ xgw := xin (List.mem_of_getElem? (i := 205) (by decide +kernel)) rfl
theorem w_ly_1_10 : u_lay (xCN 1) (xT 1) 10 ∈ xgw := xin (List.mem_of_getElem? (i := 207) (by decide +kernel)) rfl
theorem w_ly_1_11 : u_lay (xCN 1) (xT 1) 11 ∈ xgw := xin (List.mem_of_getElem? (i := 209) (by decide +kernel)) rfl
theorem w_ly_1_12 : u_lay (xCN 1) (xT 1) 12 ∈ xgw := xin (List.mem_of_getElem? (i := 211) (by decide +kernel)) rfl
theorem w_ly_1_13 : u_lay (xCN 1) (xT 1) 13 ∈ xgw := xin (List.mem_of_getElem? (i := 213) (by decide +kernel)) rfl
theorem w_ly_1_14 : u_lay (xCN 1) (xT 1) 14 ∈ xgw := xin (List.mem_of_getElem? (i := 215) (by decide +kernel)) rfl
theorem w_ib_2 : Cond.instantiable (xCN 2) (xNF 2) ∈ xgw := xin (List.mem_of_getElem? (i := 80) (by decide +kernel)) rfl
theorem w_ly_2_0 : u_lay (xCN 2) (xT 2) 0 ∈ xgw := xin (List.mem_of_getElem? (i := 90) (by decide +kernel)) rfl
theorem w_ly_2_1 : u_lay (xCN 2) (xT 2) 1 ∈ xgw := xin (List.mem_of_getElem? (i := 92) (by decide +kernel)) rfl
theorem w_ly_2_2 : u_lay (xCN 2) (xT 2) 2 ∈ xgw := xin (List.mem_of_getElem? (i := 94) (by decide +kernel)) rfl
theorem w_ib_3 : Cond.instantiable (xCN 3) (xNF 3) ∈ xgw := xin (List.mem_of_getElem? (i := 98) (by decide +kernel)) rfl
theorem w_ly_3_0 : u_lay (xCN 3) (xT 3) 0 ∈ xgw := xin (List.mem_of_getElem? (i := 121) (by decide +kernel)) rfl
theorem w_ly_3_1 : u_lay (xCN 3) (xT 3) 1 ∈ xgw := xin (List.mem_of_getElem? (i := 123) (by decide +kernel)) rfl
theorem w_ly_3_2 : u_lay (xCN 3) (xT 3) 2 ∈ xgw := xin (List.mem_of_getElem? (i := 125) (by decide +kernel)) rfl
theorem w_ly_3_3 : u_lay (xCN 3) (xT 3) 3 ∈ xgw := xin (List.mem_of_getElem? (i := 127) (by decide +kernel)) rfl
theorem w_ly_3_4 : u_lay (xCN 3) (xT 3) 4 ∈ xgw := xin (List.mem_of_getElem? (i := 129) (by decide +kernel)) rfl
theorem w_ly_3_5 : u_lay (xCN 3) (xT 3) 5 ∈ xgw := xin (List.mem_of_getElem? (i := 131) (by decide +kernel)) rfl
theorem w_ly_3_6 : u_lay (xCN 3) (xT 3) 6 ∈ xgw := xin (List.mem_of_getElem? (i := 133) (by decide +kernel)) rfl
theorem w_ly_3_7 : u_lay (xCN 3) (xT 3) 7 ∈ xgw := xin (List.mem_of_getElem? (i := 135) (by decide +kernel)) rfl
theorem w_ly_3_8 : u_lay (xCN 3) (xT 3) 8 ∈ xgw := xin (List.mem_of_getElem? (i := 137) (by decide +kernel)) rfl
theorem w_ly_3_9 : u_lay (xCN 3) (xT 3) 9 ∈ xgw := xin (List.mem_of_getElem? (i := 139) (by decide +kernel)) rfl
theorem w_ly_3_10 : u_lay (xCN 3) (xT 3) 10 ∈ xgw := xin (List.mem_of_getElem? (i := 141) (by decide +kernel)) rfl
theorem w_ly_3_11 : u_lay (xCN 3) (xT 3) 11 ∈ xgw := xin (List.mem_of_getElem? (i := 143) (by decide +kernel)) rfl
theorem w_ib_4 : Cond.instantiable (xCN 4) (xNF 4) ∈ xgw := xin (List.mem_of_getElem? (i := 148) (by decide +kernel)) rfl
theorem w_ly_4_0 : u_lay (xCN 4) (xT 4) 0 ∈ xgw := xin (List.mem_of_getElem? (i := 159) (by decide +kernel)) rfl
theorem w_ly_4_1 : u_lay (xCN 4) (xT 4) 1 ∈ xgw := xin (List.mem_of_getElem? (i := 161) (by decide +kernel)) rfl
theorem w_ly_4_2 : u_lay (xCN 4) (xT 4) 2 ∈ xgw := xin (List.mem_of_getElem? (i := 163) (by decide +kernel)) rfl
theorem w_ib_5 : Cond.instantiable (xCN 5) (xNF 5) ∈ xgw := xin (List.mem_of_getElem? (i := 57) (by decide +kernel)) rfl
theorem w_ly_5_0 : u_lay (xCN 5) (xT 5) 0 ∈ xgw := xin (List.mem_of_getElem? (i := 67) (by decide +kernel)) rfl
theorem w_ly_5_1 : u_lay (xCN 5) (xT 5) 1 ∈ xgw := xin (List.mem_of_getElem? (i := 69) (by decide +kernel)) rfl
theorem w_ib_6 : Cond.instantiable (xCN 6) (xNF 6) ∈ xgw := xin (List.mem_of_getElem? (i := 488) (by decide +kernel)) rfl
theorem w_ly_6_0 : u_lay (xCN 6) (xT 6) 0 ∈ xgw := xin (List.mem_of_getElem? (i := 527) (by decide +kernel)) rfl
theorem w_ly_6_1 : u_lay (xCN 6) (xT 6) 1 ∈ xgw := xin (List.mem_of_getElem? (i := 529) (by decide +kernel)) rfl
theorem w_ly_6_2 : u_lay (xCN 6) (xT 6) 2 ∈ xgw := xin (List.mem_of_getElem? (i := 531) (by decide +kernel)) rfl
theorem w_ly_6_3 : u_lay (xCN 6) (xT 6) 3 ∈ xgw := xin (List.mem_of_getElem? (i := 533) (by decide +kernel)) rfl
theorem w_ly_6_4 : u_lay (xCN 6) (xT 6) 4 ∈ xgw := xin (List.mem_of_getElem? (i := 535) (by decide +kernel)) rfl
theorem w_ly_6_5 : u_lay (xCN 6) (xT 6) 5 ∈ xgw := xin (List.mem_of_getElem? (i := 537) (by decide +kernel)) rfl
theorem w_ly_6_6 : u_lay (xCN 6) (xT 6) 6 ∈ xgw := xin (List.mem_of_getElem? (i := 539) (by decide +kernel)) rfl
theorem w_ly_6_7 : u_lay (xCN 6) (xT 6) 7 ∈ xgw := xin (List.mem_of_getElem? (i := 541) (by decide +kernel)) rfl
theorem w_ly_6_8 : u_lay (xCN 6) (xT 6) 8 ∈ xgw := xin (List.mem_of_getElem? (i := 543) (by decide +kernel)) rfl
theorem w_ly_6_9 : u_lay (xCN 6) (xT 6) 9 ∈ xgw := xin (List.mem_of_getElem? (i := 545) (by decide +kernel)) rfl
theorem w_ly_6_10 : u_lay (xCN 6) (xT 6) 10 ∈ xgw := xin (List.mem_of_getElem? (i := 547) (by decide +kernel)) rfl
theorem w_ly_6_11 : u_lay (xCN 6) (xT 6) 11 ∈ xgw := xin (List.mem_of_getElem? (i := 549) (by decide +kernel)) rfl
theorem w_ly_6_12 : u_lay (xCN 6) (xT 6) 12 ∈ xgw := xin (List.mem_of_getElem? (i := 551) (by decide +kernel)) rfl
theorem w_ly_6_13 : u_lay (xCN 6) (xT 6) 13 ∈ xgw := xin (List.mem_of_getElem? (i := 553) (by decide +kernel)) rfl
theorem w_ly_6_14 : u_lay (xCN 6) (xT 6) 14 ∈ xgw := xin (List.mem_of_getElem? (i := 555) (by decide +kernel)) rfl
theorem w_ly_6_15 : u_lay (xCN 6) (xT 6) 15 ∈ xgw := xin (List.mem_of_getElem? (i := 557) (by decide +kernel)) rfl
theorem w_ly_6_16 : u_lay (xCN 6) (xT 6) 16 ∈ xgw := xin (List.mem_of_getElem? (i := 559) (by decide +kernel)) rfl
theorem w_ly_6_17 : u_lay (xCN 6) (xT 6) 17 ∈ xgw := xin (List.mem_of_getElem? (i := 561) (by decide +kernel)) rfl
theorem w_ly_6_18 : u_lay (xCN 6) (xT 6) 18 ∈ xgw := xin (List.mem_of_getElem? (i := 563) (by decide +kernel)) rfl
theorem w_ly_6_19 : u_lay (xCN 6) (xT 6) 19 ∈ xgw := xin (List.mem_of_getElem? (i := 565) (by decide +kernel)) rfl
theorem w_ly_6_20 : u_lay (xCN 6) (xT 6) 20 ∈ xgw := xin (List.mem_of_getElem? (i := 567) (by decide +kernel)) rfl
theorem w_ly_6_21 : u_lay (xCN 6) (xT 6) 21 ∈ xgw := xin (List.mem_of_getElem? (i := 569) (by decide +kernel)) rfl
theorem w_ly_6_22 : u_lay (xCN 6) (xT 6) 22 ∈ xgw := xin (List.mem_of_getElem? (i := 571) (by decide +kernel)) rfl
theorem w_ly_6_23 : u_lay (xCN 6) (xT 6) 23 ∈ xgw := xin (List.mem_of_getElem? (i := 573) (by decide +kernel)) rfl
theorem w_ly_6_24 : u_lay (xCN 6) (xT 6) 24 ∈ xgw := xin (List.mem_of_getElem? (i := 575) (by decide +kernel)) rfl
theorem w_ly_6_25 : u_lay (xCN 6) (xT 6) 25 ∈ xgw := xin (List.mem_of_getElem? (i := 577) (by decide +kernel)) rfl
theorem w_ly_6_26 : u_lay (xCN 6) (xT 6) 26 ∈ xgw := xin (List.mem_of_getElem? (i := 579) (by decide +kernel)) rfl
theorem w_ly_6_27 : u_lay (xCN 6) (xT 6) 27 ∈ xgw := xin (List.mem_of_getElem? (i := 581) (by decide +kernel)) rfl
theorem w_ly_6_28 : u_lay (xCN 6) (xT 6) 28 ∈ xgw := xin (List.mem_of_getElem? (i := 583) (by decide +kernel)) rfl
theorem w_ly_6_29 : u_lay (xCN 6) (xT 6) 29 ∈ xgw := xin (List.mem_of_getElem? (i := 585) (by decide +kernel)) rfl
theorem w_ly_6_30 : u_lay (xCN 6) (xT 6) 30 ∈ xgw := xin (List.mem_of_getElem? (i := 587) (by decide +kernel)) rfl
theorem w_ly_6_31 : u_lay (xCN 6) (xT 6) 31 ∈ xgw := xin (List.mem_of_getElem? (i := 589) (by decide +kernel)) rfl
theorem w_ly_6_32 : u_lay (xCN 6) (xT 6) 32 ∈ xgw := xin (List.mem_of_getElem? (i := 591) (by decide +kernel)) rfl
theorem w_ly_6_33 : u_lay (xCN 6) (xT 6) 33 ∈ xgw := xin (List.mem_of_getElem? (i := 593) (by decide +kernel)) rfl
theorem w_cl_0_7 : Cond.classLink (xON 0) 7 (xCN 5) ∈ xgw := xin (List.mem_of_getElem? (i := 56) (by decide +kernel)) rfl
theorem w_cl_0_16 : Cond.classLink (xON 0) 16 (xCN 1) ∈ xgw := xin (List.mem_of_getElem? (i := 73) (by decide +kernel)) rfl
theorem w_cl_1_9 : Cond.classLink (xON 1) 9 (xCN 2) ∈ xgw := xin (List.mem_of_getElem? (i := 79) (by decide +kernel)) rfl
theorem w_cl_1_18 : Cond.classLink (xON 1) 18 (xCN 3) ∈ xgw := xin (List.mem_of_getElem? (i := 97) (by decide +kernel)) rfl
theorem w_cl_1_25 : Cond.classLink (xON 1) 25 (xCN 4) ∈ xgw := xin (List.mem_of_getElem? (i := 146) (by decide +kernel)) rfl
theorem w_cl_7_7 : Cond.classLink (xON 7) 7 (xCN 0) ∈ xgw := xin (List.mem_of_getElem? (i := 48) (by decide +kernel)) rfl
theorem w_cl_7_10 : Cond.classLink (xON 7) 10 (xCN 6) ∈ xgw := xin (List.mem_of_getElem? (i := 487) (by decide +kernel)) rfl
theorem w_k_1_191 : Cond.constant (xON 1) 191 (1000000) ∈ xgw := xin (List.mem_of_getElem? (i := 354) (by decide +kernel)) rfl
theorem w_k_10_265 : Cond.constant (xON 10) 265 (1431655765) ∈ xgw := xin (List.mem_of_getElem? (i := 484) (by decide +kernel)) rfl
theorem w_k_10_266 : Cond.constant (xON 10) 266 (858993459) ∈ xgw := xin (List.mem_of_getElem? (i := 485) (by decide +kernel)) rfl
theorem w_k_10_267 : Cond.constant (xON 10) 267 (252645135) ∈ xgw := xin (List.mem_of_getElem? (i := 486) (by decide +kernel)) rfl
theorem w_j_6_137 : Cond.constantLong (xON 6) 137 (-32767) ∈ xgw := xin (List.mem_of_getElem? (i := 662) (by decide +kernel)) rfl
theorem w_j_6_139 : Cond.constantLong (xON 6) 139 (32767) ∈ xgw := xin (List.mem_of_getElem? (i := 663) (by decide +kernel)) rfl
theorem w_j_6_158 : Cond.constantLong (xON 6) 158 (-1000000) ∈ xgw := xin (List.mem_of_getElem? (i := 668) (by decide +kernel)) rfl
theorem w_j_6_160 : Cond.constantLong (xON 6) 160 (1000000) ∈ xgw := xin (List.mem_of_getElem? (i := 669) (by decide +kernel)) rfl
theorem w_j_6_184 : Cond.constantLong (xON 6) 184 (4) ∈ xgw := xin (List.mem_of_getElem? (i := 705) (by decide +kernel)) rfl
theorem w_j_6_186 : Cond.constantLong (xON 6) 186 (3) ∈ xgw := xin (List.mem_of_getElem? (i := 706) (by decide +kernel)) rfl
theorem w_j_6_188 : Cond.constantLong (xON 6) 188 (32) ∈ xgw := xin (List.mem_of_getElem? (i := 707) (by decide +kernel)) rfl
theorem w_j_6_194 : Cond.constantLong (xON 6) 194 (2) ∈ xgw := xin (List.mem_of_getElem? (i := 716) (by decide +kernel)) rfl
